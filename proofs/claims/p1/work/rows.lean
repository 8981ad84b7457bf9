section
-- ===== PART A: goes FIRST, ahead of the names: the tables' words, and 'selects' of the private methods out of them =====
/-- a private method of a class that the tables say can be made, by its rows of tables_1 -/
def lw_okq (q : MethodName × Nat) : Prop := (q.1.cls ≠ "java/lang/invoke/MethodHandle" ∧ q.1.cls ≠ "java/lang/invoke/VarHandle") ∧ Cond.instantiable q.1.cls q.2 ∈ tables_1 ∧ Cond.privateMethod q.1 ∈ tables_1 ∧ Cond.instanceMethod q.1 ∈ tables_1
theorem lw_p0 : lw_okq (⟨"NinePortraits$CourtReader", "clause", "()Z"⟩, 3) := ⟨⟨by decide +kernel, by decide +kernel⟩, List.mem_of_getElem? (i := 52) (by decide +kernel), List.mem_of_getElem? (i := 337) (by decide +kernel), List.mem_of_getElem? (i := 338) (by decide +kernel)⟩
theorem lw_p1 : lw_okq (⟨"NinePortraits$CourtReader", "items", "([C[I[II)Z"⟩, 3) := ⟨⟨by decide +kernel, by decide +kernel⟩, List.mem_of_getElem? (i := 52) (by decide +kernel), List.mem_of_getElem? (i := 349) (by decide +kernel), List.mem_of_getElem? (i := 350) (by decide +kernel)⟩
theorem lw_p2 : lw_okq (⟨"NinePortraits$LawReader", "clause", "()Z"⟩, 3) := ⟨⟨by decide +kernel, by decide +kernel⟩, List.mem_of_getElem? (i := 68) (by decide +kernel), List.mem_of_getElem? (i := 384) (by decide +kernel), List.mem_of_getElem? (i := 385) (by decide +kernel)⟩
theorem lw_p3 : lw_okq (⟨"NinePortraits$LawReader", "sum", "(I)Z"⟩, 3) := ⟨⟨by decide +kernel, by decide +kernel⟩, List.mem_of_getElem? (i := 68) (by decide +kernel), List.mem_of_getElem? (i := 390) (by decide +kernel), List.mem_of_getElem? (i := 391) (by decide +kernel)⟩
theorem lw_p4 : lw_okq (⟨"NinePortraits$LawReader", "atom", "(I)Z"⟩, 3) := ⟨⟨by decide +kernel, by decide +kernel⟩, List.mem_of_getElem? (i := 68) (by decide +kernel), List.mem_of_getElem? (i := 394) (by decide +kernel), List.mem_of_getElem? (i := 395) (by decide +kernel)⟩
theorem lw_p5 : lw_okq (⟨"NinePortraits$LawReader", "put", "(II)V"⟩, 3) := ⟨⟨by decide +kernel, by decide +kernel⟩, List.mem_of_getElem? (i := 68) (by decide +kernel), List.mem_of_getElem? (i := 400) (by decide +kernel), List.mem_of_getElem? (i := 401) (by decide +kernel)⟩
theorem lw_p6 : lw_okq (⟨"NinePortraits$LawReader", "condition", "(IZ)Z"⟩, 3) := ⟨⟨by decide +kernel, by decide +kernel⟩, List.mem_of_getElem? (i := 68) (by decide +kernel), List.mem_of_getElem? (i := 411) (by decide +kernel), List.mem_of_getElem? (i := 412) (by decide +kernel)⟩
theorem lw_p7 : lw_okq (⟨"NinePortraits$LawReader", "unit", "(IZ)Z"⟩, 3) := ⟨⟨by decide +kernel, by decide +kernel⟩, List.mem_of_getElem? (i := 68) (by decide +kernel), List.mem_of_getElem? (i := 415) (by decide +kernel), List.mem_of_getElem? (i := 416) (by decide +kernel)⟩
theorem lw_p8 : lw_okq (⟨"NinePortraits", "takeCourt", "()I"⟩, 17) := ⟨⟨by decide +kernel, by decide +kernel⟩, List.mem_of_getElem? (i := 22) (by decide +kernel), List.mem_of_getElem? (i := 423) (by decide +kernel), List.mem_of_getElem? (i := 424) (by decide +kernel)⟩
theorem lw_p9 : lw_okq (⟨"NinePortraits", "takeLaw", "()I"⟩, 17) := ⟨⟨by decide +kernel, by decide +kernel⟩, List.mem_of_getElem? (i := 22) (by decide +kernel), List.mem_of_getElem? (i := 452) (by decide +kernel), List.mem_of_getElem? (i := 453) (by decide +kernel)⟩
theorem lw_p10 : lw_okq (⟨"NinePortraits", "hasCourt", "()Z"⟩, 17) := ⟨⟨by decide +kernel, by decide +kernel⟩, List.mem_of_getElem? (i := 22) (by decide +kernel), List.mem_of_getElem? (i := 488) (by decide +kernel), List.mem_of_getElem? (i := 489) (by decide +kernel)⟩
theorem lw_p11 : lw_okq (⟨"NinePortraits", "isPainter", "(I)Z"⟩, 17) := ⟨⟨by decide +kernel, by decide +kernel⟩, List.mem_of_getElem? (i := 22) (by decide +kernel), List.mem_of_getElem? (i := 504) (by decide +kernel), List.mem_of_getElem? (i := 505) (by decide +kernel)⟩
theorem lw_p12 : lw_okq (⟨"NinePortraits", "isBride", "(I)Z"⟩, 17) := ⟨⟨by decide +kernel, by decide +kernel⟩, List.mem_of_getElem? (i := 22) (by decide +kernel), List.mem_of_getElem? (i := 529) (by decide +kernel), List.mem_of_getElem? (i := 530) (by decide +kernel)⟩
theorem lw_p13 : lw_okq (⟨"NinePortraits", "refuse", "(I)I"⟩, 17) := ⟨⟨by decide +kernel, by decide +kernel⟩, List.mem_of_getElem? (i := 22) (by decide +kernel), List.mem_of_getElem? (i := 588) (by decide +kernel), List.mem_of_getElem? (i := 589) (by decide +kernel)⟩
theorem lw_p14 : lw_okq (⟨"NinePortraits", "paintNow", "(II)I"⟩, 17) := ⟨⟨by decide +kernel, by decide +kernel⟩, List.mem_of_getElem? (i := 22) (by decide +kernel), List.mem_of_getElem? (i := 602) (by decide +kernel), List.mem_of_getElem? (i := 603) (by decide +kernel)⟩
theorem lw_p15 : lw_okq (⟨"NinePortraits", "paysToHear", "(III)Z"⟩, 17) := ⟨⟨by decide +kernel, by decide +kernel⟩, List.mem_of_getElem? (i := 22) (by decide +kernel), List.mem_of_getElem? (i := 629) (by decide +kernel), List.mem_of_getElem? (i := 630) (by decide +kernel)⟩
def lw_privs_1 : List (MethodName × Nat) := [(⟨"NinePortraits$CourtReader", "clause", "()Z"⟩, 3), (⟨"NinePortraits$CourtReader", "items", "([C[I[II)Z"⟩, 3), (⟨"NinePortraits$LawReader", "clause", "()Z"⟩, 3), (⟨"NinePortraits$LawReader", "sum", "(I)Z"⟩, 3), (⟨"NinePortraits$LawReader", "atom", "(I)Z"⟩, 3), (⟨"NinePortraits$LawReader", "put", "(II)V"⟩, 3), (⟨"NinePortraits$LawReader", "condition", "(IZ)Z"⟩, 3), (⟨"NinePortraits$LawReader", "unit", "(IZ)Z"⟩, 3), (⟨"NinePortraits", "takeCourt", "()I"⟩, 17), (⟨"NinePortraits", "takeLaw", "()I"⟩, 17), (⟨"NinePortraits", "hasCourt", "()Z"⟩, 17), (⟨"NinePortraits", "isPainter", "(I)Z"⟩, 17), (⟨"NinePortraits", "isBride", "(I)Z"⟩, 17), (⟨"NinePortraits", "refuse", "(I)I"⟩, 17), (⟨"NinePortraits", "paintNow", "(II)I"⟩, 17), (⟨"NinePortraits", "paysToHear", "(III)Z"⟩, 17)]
theorem lw_r1 : ∀ q ∈ lw_privs_1, lw_okq q := List.forall_mem_cons.mpr ⟨lw_p0, List.forall_mem_cons.mpr ⟨lw_p1, List.forall_mem_cons.mpr ⟨lw_p2, List.forall_mem_cons.mpr ⟨lw_p3, List.forall_mem_cons.mpr ⟨lw_p4, List.forall_mem_cons.mpr ⟨lw_p5, List.forall_mem_cons.mpr ⟨lw_p6, List.forall_mem_cons.mpr ⟨lw_p7, List.forall_mem_cons.mpr ⟨lw_p8, List.forall_mem_cons.mpr ⟨lw_p9, List.forall_mem_cons.mpr ⟨lw_p10, List.forall_mem_cons.mpr ⟨lw_p11, List.forall_mem_cons.mpr ⟨lw_p12, List.forall_mem_cons.mpr ⟨lw_p13, List.forall_mem_cons.mpr ⟨lw_p14, List.forall_mem_cons.mpr ⟨lw_p15, fun _ h => absurd h List.not_mem_nil⟩⟩⟩⟩⟩⟩⟩⟩⟩⟩⟩⟩⟩⟩⟩⟩
theorem lw_p16 : lw_okq (⟨"NinePortraits", "looked", "(I)I"⟩, 17) := ⟨⟨by decide +kernel, by decide +kernel⟩, List.mem_of_getElem? (i := 22) (by decide +kernel), List.mem_of_getElem? (i := 651) (by decide +kernel), List.mem_of_getElem? (i := 652) (by decide +kernel)⟩
theorem lw_p17 : lw_okq (⟨"NinePortraits", "paintByDraws", "()V"⟩, 17) := ⟨⟨by decide +kernel, by decide +kernel⟩, List.mem_of_getElem? (i := 22) (by decide +kernel), List.mem_of_getElem? (i := 684) (by decide +kernel), List.mem_of_getElem? (i := 685) (by decide +kernel)⟩
theorem lw_p18 : lw_okq (⟨"NinePortraits", "payByDraws", "()V"⟩, 17) := ⟨⟨by decide +kernel, by decide +kernel⟩, List.mem_of_getElem? (i := 22) (by decide +kernel), List.mem_of_getElem? (i := 694) (by decide +kernel), List.mem_of_getElem? (i := 695) (by decide +kernel)⟩
theorem lw_p19 : lw_okq (⟨"NinePortraits$Mind", "sketches", "(I)Z"⟩, 9) := ⟨⟨by decide +kernel, by decide +kernel⟩, List.mem_of_getElem? (i := 214) (by decide +kernel), List.mem_of_getElem? (i := 739) (by decide +kernel), List.mem_of_getElem? (i := 740) (by decide +kernel)⟩
theorem lw_p20 : lw_okq (⟨"NinePortraits$Mind", "weighBy", "(II)V"⟩, 9) := ⟨⟨by decide +kernel, by decide +kernel⟩, List.mem_of_getElem? (i := 214) (by decide +kernel), List.mem_of_getElem? (i := 744) (by decide +kernel), List.mem_of_getElem? (i := 745) (by decide +kernel)⟩
theorem lw_p21 : lw_okq (⟨"NinePortraits$Mind", "mostAlike", "(III)I"⟩, 9) := ⟨⟨by decide +kernel, by decide +kernel⟩, List.mem_of_getElem? (i := 214) (by decide +kernel), List.mem_of_getElem? (i := 777) (by decide +kernel), List.mem_of_getElem? (i := 778) (by decide +kernel)⟩
theorem lw_p22 : lw_okq (⟨"NinePortraits$Mind", "addTeller", "(III)I"⟩, 9) := ⟨⟨by decide +kernel, by decide +kernel⟩, List.mem_of_getElem? (i := 214) (by decide +kernel), List.mem_of_getElem? (i := 792) (by decide +kernel), List.mem_of_getElem? (i := 793) (by decide +kernel)⟩
theorem lw_p23 : lw_okq (⟨"NinePortraits$Mind", "tellsAll", "(II)Z"⟩, 9) := ⟨⟨by decide +kernel, by decide +kernel⟩, List.mem_of_getElem? (i := 214) (by decide +kernel), List.mem_of_getElem? (i := 802) (by decide +kernel), List.mem_of_getElem? (i := 803) (by decide +kernel)⟩
theorem lw_p24 : lw_okq (⟨"NinePortraits", "choice", "(I)I"⟩, 17) := ⟨⟨by decide +kernel, by decide +kernel⟩, List.mem_of_getElem? (i := 22) (by decide +kernel), List.mem_of_getElem? (i := 821) (by decide +kernel), List.mem_of_getElem? (i := 822) (by decide +kernel)⟩
theorem lw_p25 : lw_okq (⟨"NinePortraits", "canPlay", "(III)Z"⟩, 17) := ⟨⟨by decide +kernel, by decide +kernel⟩, List.mem_of_getElem? (i := 22) (by decide +kernel), List.mem_of_getElem? (i := 835) (by decide +kernel), List.mem_of_getElem? (i := 836) (by decide +kernel)⟩
theorem lw_p26 : lw_okq (⟨"NinePortraits", "rankByPay", "(I)I"⟩, 17) := ⟨⟨by decide +kernel, by decide +kernel⟩, List.mem_of_getElem? (i := 22) (by decide +kernel), List.mem_of_getElem? (i := 888) (by decide +kernel), List.mem_of_getElem? (i := 889) (by decide +kernel)⟩
theorem lw_p27 : lw_okq (⟨"NinePortraits", "plainBrides", "()I"⟩, 17) := ⟨⟨by decide +kernel, by decide +kernel⟩, List.mem_of_getElem? (i := 22) (by decide +kernel), List.mem_of_getElem? (i := 896) (by decide +kernel), List.mem_of_getElem? (i := 897) (by decide +kernel)⟩
theorem lw_p28 : lw_okq (⟨"NinePortraits", "lies", "()I"⟩, 17) := ⟨⟨by decide +kernel, by decide +kernel⟩, List.mem_of_getElem? (i := 22) (by decide +kernel), List.mem_of_getElem? (i := 908) (by decide +kernel), List.mem_of_getElem? (i := 909) (by decide +kernel)⟩
theorem lw_p29 : lw_okq (⟨"NinePortraits", "above", "(I)I"⟩, 17) := ⟨⟨by decide +kernel, by decide +kernel⟩, List.mem_of_getElem? (i := 22) (by decide +kernel), List.mem_of_getElem? (i := 912) (by decide +kernel), List.mem_of_getElem? (i := 913) (by decide +kernel)⟩
theorem lw_p30 : lw_okq (⟨"java/lang/Throwable", "fillInStackTrace", "(I)Ljava/lang/Throwable;"⟩, 6) := ⟨⟨by decide +kernel, by decide +kernel⟩, List.mem_of_getElem? (i := 999) (by decide +kernel), List.mem_of_getElem? (i := 997) (by decide +kernel), List.mem_of_getElem? (i := 998) (by decide +kernel)⟩
theorem lw_p31 : lw_okq (⟨"NinePortraitsModel", "readCourt", "()I"⟩, 41) := ⟨⟨by decide +kernel, by decide +kernel⟩, List.mem_of_getElem? (i := 1025) (by decide +kernel), List.mem_of_getElem? (i := 1174) (by decide +kernel), List.mem_of_getElem? (i := 1175) (by decide +kernel)⟩
def lw_privs_2 : List (MethodName × Nat) := [(⟨"NinePortraits", "looked", "(I)I"⟩, 17), (⟨"NinePortraits", "paintByDraws", "()V"⟩, 17), (⟨"NinePortraits", "payByDraws", "()V"⟩, 17), (⟨"NinePortraits$Mind", "sketches", "(I)Z"⟩, 9), (⟨"NinePortraits$Mind", "weighBy", "(II)V"⟩, 9), (⟨"NinePortraits$Mind", "mostAlike", "(III)I"⟩, 9), (⟨"NinePortraits$Mind", "addTeller", "(III)I"⟩, 9), (⟨"NinePortraits$Mind", "tellsAll", "(II)Z"⟩, 9), (⟨"NinePortraits", "choice", "(I)I"⟩, 17), (⟨"NinePortraits", "canPlay", "(III)Z"⟩, 17), (⟨"NinePortraits", "rankByPay", "(I)I"⟩, 17), (⟨"NinePortraits", "plainBrides", "()I"⟩, 17), (⟨"NinePortraits", "lies", "()I"⟩, 17), (⟨"NinePortraits", "above", "(I)I"⟩, 17), (⟨"java/lang/Throwable", "fillInStackTrace", "(I)Ljava/lang/Throwable;"⟩, 6), (⟨"NinePortraitsModel", "readCourt", "()I"⟩, 41)]
theorem lw_r2 : ∀ q ∈ lw_privs_2, lw_okq q := List.forall_mem_cons.mpr ⟨lw_p16, List.forall_mem_cons.mpr ⟨lw_p17, List.forall_mem_cons.mpr ⟨lw_p18, List.forall_mem_cons.mpr ⟨lw_p19, List.forall_mem_cons.mpr ⟨lw_p20, List.forall_mem_cons.mpr ⟨lw_p21, List.forall_mem_cons.mpr ⟨lw_p22, List.forall_mem_cons.mpr ⟨lw_p23, List.forall_mem_cons.mpr ⟨lw_p24, List.forall_mem_cons.mpr ⟨lw_p25, List.forall_mem_cons.mpr ⟨lw_p26, List.forall_mem_cons.mpr ⟨lw_p27, List.forall_mem_cons.mpr ⟨lw_p28, List.forall_mem_cons.mpr ⟨lw_p29, List.forall_mem_cons.mpr ⟨lw_p30, List.forall_mem_cons.mpr ⟨lw_p31, fun _ h => absurd h List.not_mem_nil⟩⟩⟩⟩⟩⟩⟩⟩⟩⟩⟩⟩⟩⟩⟩⟩
theorem lw_p32 : lw_okq (⟨"NinePortraitsModel", "look", "()I"⟩, 41) := ⟨⟨by decide +kernel, by decide +kernel⟩, List.mem_of_getElem? (i := 1025) (by decide +kernel), List.mem_of_getElem? (i := 1181) (by decide +kernel), List.mem_of_getElem? (i := 1182) (by decide +kernel)⟩
theorem lw_p33 : lw_okq (⟨"NinePortraitsModel", "here", "()I"⟩, 41) := ⟨⟨by decide +kernel, by decide +kernel⟩, List.mem_of_getElem? (i := 1025) (by decide +kernel), List.mem_of_getElem? (i := 1185) (by decide +kernel), List.mem_of_getElem? (i := 1186) (by decide +kernel)⟩
theorem lw_p34 : lw_okq (⟨"NinePortraitsModel", "items", "(I[III)V"⟩, 41) := ⟨⟨by decide +kernel, by decide +kernel⟩, List.mem_of_getElem? (i := 1025) (by decide +kernel), List.mem_of_getElem? (i := 1189) (by decide +kernel), List.mem_of_getElem? (i := 1190) (by decide +kernel)⟩
theorem lw_p35 : lw_okq (⟨"NinePortraitsModel", "number", "(II)I"⟩, 41) := ⟨⟨by decide +kernel, by decide +kernel⟩, List.mem_of_getElem? (i := 1025) (by decide +kernel), List.mem_of_getElem? (i := 1202) (by decide +kernel), List.mem_of_getElem? (i := 1203) (by decide +kernel)⟩
theorem lw_p36 : lw_okq (⟨"NinePortraitsModel", "bad", "()V"⟩, 41) := ⟨⟨by decide +kernel, by decide +kernel⟩, List.mem_of_getElem? (i := 1025) (by decide +kernel), List.mem_of_getElem? (i := 1209) (by decide +kernel), List.mem_of_getElem? (i := 1210) (by decide +kernel)⟩
theorem lw_p37 : lw_okq (⟨"NinePortraitsModel", "readLaw", "(I)I"⟩, 41) := ⟨⟨by decide +kernel, by decide +kernel⟩, List.mem_of_getElem? (i := 1025) (by decide +kernel), List.mem_of_getElem? (i := 1216) (by decide +kernel), List.mem_of_getElem? (i := 1217) (by decide +kernel)⟩
theorem lw_p38 : lw_okq (⟨"NinePortraitsModel", "open", "(I)V"⟩, 41) := ⟨⟨by decide +kernel, by decide +kernel⟩, List.mem_of_getElem? (i := 1025) (by decide +kernel), List.mem_of_getElem? (i := 1220) (by decide +kernel), List.mem_of_getElem? (i := 1221) (by decide +kernel)⟩
theorem lw_p39 : lw_okq (⟨"NinePortraitsModel", "clause", "()V"⟩, 41) := ⟨⟨by decide +kernel, by decide +kernel⟩, List.mem_of_getElem? (i := 1025) (by decide +kernel), List.mem_of_getElem? (i := 1224) (by decide +kernel), List.mem_of_getElem? (i := 1225) (by decide +kernel)⟩
theorem lw_p40 : lw_okq (⟨"NinePortraitsModel", "condition", "()V"⟩, 41) := ⟨⟨by decide +kernel, by decide +kernel⟩, List.mem_of_getElem? (i := 1025) (by decide +kernel), List.mem_of_getElem? (i := 1228) (by decide +kernel), List.mem_of_getElem? (i := 1229) (by decide +kernel)⟩
theorem lw_p41 : lw_okq (⟨"NinePortraitsModel", "unit", "()V"⟩, 41) := ⟨⟨by decide +kernel, by decide +kernel⟩, List.mem_of_getElem? (i := 1025) (by decide +kernel), List.mem_of_getElem? (i := 1232) (by decide +kernel), List.mem_of_getElem? (i := 1233) (by decide +kernel)⟩
theorem lw_p42 : lw_okq (⟨"NinePortraitsModel", "opens", "()V"⟩, 41) := ⟨⟨by decide +kernel, by decide +kernel⟩, List.mem_of_getElem? (i := 1025) (by decide +kernel), List.mem_of_getElem? (i := 1236) (by decide +kernel), List.mem_of_getElem? (i := 1237) (by decide +kernel)⟩
theorem lw_p43 : lw_okq (⟨"NinePortraitsModel", "put", "(II)V"⟩, 41) := ⟨⟨by decide +kernel, by decide +kernel⟩, List.mem_of_getElem? (i := 1025) (by decide +kernel), List.mem_of_getElem? (i := 1240) (by decide +kernel), List.mem_of_getElem? (i := 1241) (by decide +kernel)⟩
theorem lw_p44 : lw_okq (⟨"NinePortraitsModel", "closes", "(I)V"⟩, 41) := ⟨⟨by decide +kernel, by decide +kernel⟩, List.mem_of_getElem? (i := 1025) (by decide +kernel), List.mem_of_getElem? (i := 1244) (by decide +kernel), List.mem_of_getElem? (i := 1245) (by decide +kernel)⟩
theorem lw_p45 : lw_okq (⟨"NinePortraitsModel", "sum", "()V"⟩, 41) := ⟨⟨by decide +kernel, by decide +kernel⟩, List.mem_of_getElem? (i := 1025) (by decide +kernel), List.mem_of_getElem? (i := 1248) (by decide +kernel), List.mem_of_getElem? (i := 1249) (by decide +kernel)⟩
theorem lw_p46 : lw_okq (⟨"NinePortraitsModel", "term", "()V"⟩, 41) := ⟨⟨by decide +kernel, by decide +kernel⟩, List.mem_of_getElem? (i := 1025) (by decide +kernel), List.mem_of_getElem? (i := 1252) (by decide +kernel), List.mem_of_getElem? (i := 1253) (by decide +kernel)⟩
theorem lw_p47 : lw_okq (⟨"NinePortraitsModel", "atom", "()V"⟩, 41) := ⟨⟨by decide +kernel, by decide +kernel⟩, List.mem_of_getElem? (i := 1025) (by decide +kernel), List.mem_of_getElem? (i := 1256) (by decide +kernel), List.mem_of_getElem? (i := 1257) (by decide +kernel)⟩
def lw_privs_3 : List (MethodName × Nat) := [(⟨"NinePortraitsModel", "look", "()I"⟩, 41), (⟨"NinePortraitsModel", "here", "()I"⟩, 41), (⟨"NinePortraitsModel", "items", "(I[III)V"⟩, 41), (⟨"NinePortraitsModel", "number", "(II)I"⟩, 41), (⟨"NinePortraitsModel", "bad", "()V"⟩, 41), (⟨"NinePortraitsModel", "readLaw", "(I)I"⟩, 41), (⟨"NinePortraitsModel", "open", "(I)V"⟩, 41), (⟨"NinePortraitsModel", "clause", "()V"⟩, 41), (⟨"NinePortraitsModel", "condition", "()V"⟩, 41), (⟨"NinePortraitsModel", "unit", "()V"⟩, 41), (⟨"NinePortraitsModel", "opens", "()V"⟩, 41), (⟨"NinePortraitsModel", "put", "(II)V"⟩, 41), (⟨"NinePortraitsModel", "closes", "(I)V"⟩, 41), (⟨"NinePortraitsModel", "sum", "()V"⟩, 41), (⟨"NinePortraitsModel", "term", "()V"⟩, 41), (⟨"NinePortraitsModel", "atom", "()V"⟩, 41)]
theorem lw_r3 : ∀ q ∈ lw_privs_3, lw_okq q := List.forall_mem_cons.mpr ⟨lw_p32, List.forall_mem_cons.mpr ⟨lw_p33, List.forall_mem_cons.mpr ⟨lw_p34, List.forall_mem_cons.mpr ⟨lw_p35, List.forall_mem_cons.mpr ⟨lw_p36, List.forall_mem_cons.mpr ⟨lw_p37, List.forall_mem_cons.mpr ⟨lw_p38, List.forall_mem_cons.mpr ⟨lw_p39, List.forall_mem_cons.mpr ⟨lw_p40, List.forall_mem_cons.mpr ⟨lw_p41, List.forall_mem_cons.mpr ⟨lw_p42, List.forall_mem_cons.mpr ⟨lw_p43, List.forall_mem_cons.mpr ⟨lw_p44, List.forall_mem_cons.mpr ⟨lw_p45, List.forall_mem_cons.mpr ⟨lw_p46, List.forall_mem_cons.mpr ⟨lw_p47, fun _ h => absurd h List.not_mem_nil⟩⟩⟩⟩⟩⟩⟩⟩⟩⟩⟩⟩⟩⟩⟩⟩
theorem lw_p48 : lw_okq (⟨"NinePortraitsModel", "plainNumber", "()I"⟩, 41) := ⟨⟨by decide +kernel, by decide +kernel⟩, List.mem_of_getElem? (i := 1025) (by decide +kernel), List.mem_of_getElem? (i := 1260) (by decide +kernel), List.mem_of_getElem? (i := 1261) (by decide +kernel)⟩
theorem lw_p49 : lw_okq (⟨"NinePortraitsModel", "compare", "()V"⟩, 41) := ⟨⟨by decide +kernel, by decide +kernel⟩, List.mem_of_getElem? (i := 1025) (by decide +kernel), List.mem_of_getElem? (i := 1267) (by decide +kernel), List.mem_of_getElem? (i := 1268) (by decide +kernel)⟩
theorem lw_p50 : lw_okq (⟨"NinePortraitsModel", "goOnAnd", "()V"⟩, 41) := ⟨⟨by decide +kernel, by decide +kernel⟩, List.mem_of_getElem? (i := 1025) (by decide +kernel), List.mem_of_getElem? (i := 1274) (by decide +kernel), List.mem_of_getElem? (i := 1275) (by decide +kernel)⟩
theorem lw_p51 : lw_okq (⟨"NinePortraitsModel", "goOnOr", "()V"⟩, 41) := ⟨⟨by decide +kernel, by decide +kernel⟩, List.mem_of_getElem? (i := 1025) (by decide +kernel), List.mem_of_getElem? (i := 1278) (by decide +kernel), List.mem_of_getElem? (i := 1279) (by decide +kernel)⟩
theorem lw_p52 : lw_okq (⟨"NinePortraitsModel", "atEnd", "()I"⟩, 41) := ⟨⟨by decide +kernel, by decide +kernel⟩, List.mem_of_getElem? (i := 1025) (by decide +kernel), List.mem_of_getElem? (i := 1282) (by decide +kernel), List.mem_of_getElem? (i := 1283) (by decide +kernel)⟩
theorem lw_p53 : lw_okq (⟨"NinePortraitsModel", "takeCourt", "()I"⟩, 41) := ⟨⟨by decide +kernel, by decide +kernel⟩, List.mem_of_getElem? (i := 1025) (by decide +kernel), List.mem_of_getElem? (i := 1290) (by decide +kernel), List.mem_of_getElem? (i := 1291) (by decide +kernel)⟩
theorem lw_p54 : lw_okq (⟨"NinePortraitsModel", "of", "(II)I"⟩, 41) := ⟨⟨by decide +kernel, by decide +kernel⟩, List.mem_of_getElem? (i := 1025) (by decide +kernel), List.mem_of_getElem? (i := 1294) (by decide +kernel), List.mem_of_getElem? (i := 1295) (by decide +kernel)⟩
theorem lw_p55 : lw_okq (⟨"NinePortraitsModel", "by", "(II)I"⟩, 41) := ⟨⟨by decide +kernel, by decide +kernel⟩, List.mem_of_getElem? (i := 1025) (by decide +kernel), List.mem_of_getElem? (i := 1298) (by decide +kernel), List.mem_of_getElem? (i := 1299) (by decide +kernel)⟩
theorem lw_p56 : lw_okq (⟨"NinePortraitsModel", "isBride", "(I)Z"⟩, 41) := ⟨⟨by decide +kernel, by decide +kernel⟩, List.mem_of_getElem? (i := 1025) (by decide +kernel), List.mem_of_getElem? (i := 1310) (by decide +kernel), List.mem_of_getElem? (i := 1311) (by decide +kernel)⟩
theorem lw_p57 : lw_okq (⟨"NinePortraitsModel", "isPainter", "(I)Z"⟩, 41) := ⟨⟨by decide +kernel, by decide +kernel⟩, List.mem_of_getElem? (i := 1025) (by decide +kernel), List.mem_of_getElem? (i := 1318) (by decide +kernel), List.mem_of_getElem? (i := 1319) (by decide +kernel)⟩
theorem lw_p58 : lw_okq (⟨"NinePortraitsModel", "areBoth", "(II)Z"⟩, 41) := ⟨⟨by decide +kernel, by decide +kernel⟩, List.mem_of_getElem? (i := 1025) (by decide +kernel), List.mem_of_getElem? (i := 1330) (by decide +kernel), List.mem_of_getElem? (i := 1331) (by decide +kernel)⟩
theorem lw_p59 : lw_okq (⟨"NinePortraitsModel", "flatteryBy", "(II)I"⟩, 41) := ⟨⟨by decide +kernel, by decide +kernel⟩, List.mem_of_getElem? (i := 1025) (by decide +kernel), List.mem_of_getElem? (i := 1334) (by decide +kernel), List.mem_of_getElem? (i := 1335) (by decide +kernel)⟩
theorem lw_p60 : lw_okq (⟨"NinePortraitsModel", "shownOf", "(III)I"⟩, 41) := ⟨⟨by decide +kernel, by decide +kernel⟩, List.mem_of_getElem? (i := 1025) (by decide +kernel), List.mem_of_getElem? (i := 1346) (by decide +kernel), List.mem_of_getElem? (i := 1347) (by decide +kernel)⟩
theorem lw_p61 : lw_okq (⟨"NinePortraitsModel", "looksBy", "(IIII)I"⟩, 41) := ⟨⟨by decide +kernel, by decide +kernel⟩, List.mem_of_getElem? (i := 1025) (by decide +kernel), List.mem_of_getElem? (i := 1350) (by decide +kernel), List.mem_of_getElem? (i := 1351) (by decide +kernel)⟩
theorem lw_p62 : lw_okq (⟨"NinePortraitsModel", "worthOf", "(I)I"⟩, 41) := ⟨⟨by decide +kernel, by decide +kernel⟩, List.mem_of_getElem? (i := 1025) (by decide +kernel), List.mem_of_getElem? (i := 1354) (by decide +kernel), List.mem_of_getElem? (i := 1355) (by decide +kernel)⟩
theorem lw_p63 : lw_okq (⟨"NinePortraitsModel", "workOut", "(III)I"⟩, 41) := ⟨⟨by decide +kernel, by decide +kernel⟩, List.mem_of_getElem? (i := 1025) (by decide +kernel), List.mem_of_getElem? (i := 1358) (by decide +kernel), List.mem_of_getElem? (i := 1359) (by decide +kernel)⟩
def lw_privs_4 : List (MethodName × Nat) := [(⟨"NinePortraitsModel", "plainNumber", "()I"⟩, 41), (⟨"NinePortraitsModel", "compare", "()V"⟩, 41), (⟨"NinePortraitsModel", "goOnAnd", "()V"⟩, 41), (⟨"NinePortraitsModel", "goOnOr", "()V"⟩, 41), (⟨"NinePortraitsModel", "atEnd", "()I"⟩, 41), (⟨"NinePortraitsModel", "takeCourt", "()I"⟩, 41), (⟨"NinePortraitsModel", "of", "(II)I"⟩, 41), (⟨"NinePortraitsModel", "by", "(II)I"⟩, 41), (⟨"NinePortraitsModel", "isBride", "(I)Z"⟩, 41), (⟨"NinePortraitsModel", "isPainter", "(I)Z"⟩, 41), (⟨"NinePortraitsModel", "areBoth", "(II)Z"⟩, 41), (⟨"NinePortraitsModel", "flatteryBy", "(II)I"⟩, 41), (⟨"NinePortraitsModel", "shownOf", "(III)I"⟩, 41), (⟨"NinePortraitsModel", "looksBy", "(IIII)I"⟩, 41), (⟨"NinePortraitsModel", "worthOf", "(I)I"⟩, 41), (⟨"NinePortraitsModel", "workOut", "(III)I"⟩, 41)]
theorem lw_r4 : ∀ q ∈ lw_privs_4, lw_okq q := List.forall_mem_cons.mpr ⟨lw_p48, List.forall_mem_cons.mpr ⟨lw_p49, List.forall_mem_cons.mpr ⟨lw_p50, List.forall_mem_cons.mpr ⟨lw_p51, List.forall_mem_cons.mpr ⟨lw_p52, List.forall_mem_cons.mpr ⟨lw_p53, List.forall_mem_cons.mpr ⟨lw_p54, List.forall_mem_cons.mpr ⟨lw_p55, List.forall_mem_cons.mpr ⟨lw_p56, List.forall_mem_cons.mpr ⟨lw_p57, List.forall_mem_cons.mpr ⟨lw_p58, List.forall_mem_cons.mpr ⟨lw_p59, List.forall_mem_cons.mpr ⟨lw_p60, List.forall_mem_cons.mpr ⟨lw_p61, List.forall_mem_cons.mpr ⟨lw_p62, List.forall_mem_cons.mpr ⟨lw_p63, fun _ h => absurd h List.not_mem_nil⟩⟩⟩⟩⟩⟩⟩⟩⟩⟩⟩⟩⟩⟩⟩⟩
theorem lw_p64 : lw_okq (⟨"NinePortraitsModel", "latestOf", "(I)I"⟩, 41) := ⟨⟨by decide +kernel, by decide +kernel⟩, List.mem_of_getElem? (i := 1025) (by decide +kernel), List.mem_of_getElem? (i := 1377) (by decide +kernel), List.mem_of_getElem? (i := 1378) (by decide +kernel)⟩
theorem lw_p65 : lw_okq (⟨"NinePortraitsModel", "shot", "(II)I"⟩, 41) := ⟨⟨by decide +kernel, by decide +kernel⟩, List.mem_of_getElem? (i := 1025) (by decide +kernel), List.mem_of_getElem? (i := 1381) (by decide +kernel), List.mem_of_getElem? (i := 1382) (by decide +kernel)⟩
theorem lw_p66 : lw_okq (⟨"NinePortraitsModel", "isRefused", "(I)Z"⟩, 41) := ⟨⟨by decide +kernel, by decide +kernel⟩, List.mem_of_getElem? (i := 1025) (by decide +kernel), List.mem_of_getElem? (i := 1389) (by decide +kernel), List.mem_of_getElem? (i := 1390) (by decide +kernel)⟩
theorem lw_p67 : lw_okq (⟨"NinePortraitsModel", "keep", "()V"⟩, 41) := ⟨⟨by decide +kernel, by decide +kernel⟩, List.mem_of_getElem? (i := 1025) (by decide +kernel), List.mem_of_getElem? (i := 1393) (by decide +kernel), List.mem_of_getElem? (i := 1394) (by decide +kernel)⟩
theorem lw_p68 : lw_okq (⟨"NinePortraitsModel", "paintNow", "(II)I"⟩, 41) := ⟨⟨by decide +kernel, by decide +kernel⟩, List.mem_of_getElem? (i := 1025) (by decide +kernel), List.mem_of_getElem? (i := 1397) (by decide +kernel), List.mem_of_getElem? (i := 1398) (by decide +kernel)⟩
theorem lw_p69 : lw_okq (⟨"NinePortraitsModel", "isTold", "(III)Z"⟩, 41) := ⟨⟨by decide +kernel, by decide +kernel⟩, List.mem_of_getElem? (i := 1025) (by decide +kernel), List.mem_of_getElem? (i := 1413) (by decide +kernel), List.mem_of_getElem? (i := 1414) (by decide +kernel)⟩
theorem lw_p70 : lw_okq (⟨"NinePortraitsModel", "lookedOf", "(I)I"⟩, 41) := ⟨⟨by decide +kernel, by decide +kernel⟩, List.mem_of_getElem? (i := 1025) (by decide +kernel), List.mem_of_getElem? (i := 1429) (by decide +kernel), List.mem_of_getElem? (i := 1430) (by decide +kernel)⟩
theorem lw_p71 : lw_okq (⟨"NinePortraitsModel", "seenOf", "(I)I"⟩, 41) := ⟨⟨by decide +kernel, by decide +kernel⟩, List.mem_of_getElem? (i := 1025) (by decide +kernel), List.mem_of_getElem? (i := 1433) (by decide +kernel), List.mem_of_getElem? (i := 1434) (by decide +kernel)⟩
theorem lw_p72 : lw_okq (⟨"NinePortraitsModel", "areMonths", "(I)Z"⟩, 41) := ⟨⟨by decide +kernel, by decide +kernel⟩, List.mem_of_getElem? (i := 1025) (by decide +kernel), List.mem_of_getElem? (i := 1441) (by decide +kernel), List.mem_of_getElem? (i := 1442) (by decide +kernel)⟩
theorem lw_p73 : lw_okq (⟨"NinePortraitsModel", "passMonth", "()V"⟩, 41) := ⟨⟨by decide +kernel, by decide +kernel⟩, List.mem_of_getElem? (i := 1025) (by decide +kernel), List.mem_of_getElem? (i := 1445) (by decide +kernel), List.mem_of_getElem? (i := 1446) (by decide +kernel)⟩
theorem lw_p74 : lw_okq (⟨"NinePortraitsModel", "drawMonth", "()V"⟩, 41) := ⟨⟨by decide +kernel, by decide +kernel⟩, List.mem_of_getElem? (i := 1025) (by decide +kernel), List.mem_of_getElem? (i := 1457) (by decide +kernel), List.mem_of_getElem? (i := 1458) (by decide +kernel)⟩
theorem lw_p75 : lw_okq (⟨"NinePortraitsModel", "draw", "(I)I"⟩, 41) := ⟨⟨by decide +kernel, by decide +kernel⟩, List.mem_of_getElem? (i := 1025) (by decide +kernel), List.mem_of_getElem? (i := 1461) (by decide +kernel), List.mem_of_getElem? (i := 1462) (by decide +kernel)⟩
theorem lw_p76 : lw_okq (⟨"NinePortraitsModel", "fitsOf", "(I)I"⟩, 41) := ⟨⟨by decide +kernel, by decide +kernel⟩, List.mem_of_getElem? (i := 1025) (by decide +kernel), List.mem_of_getElem? (i := 1483) (by decide +kernel), List.mem_of_getElem? (i := 1484) (by decide +kernel)⟩
theorem lw_p77 : lw_okq (⟨"NinePortraitsModel", "fitsFace", "(II)Z"⟩, 41) := ⟨⟨by decide +kernel, by decide +kernel⟩, List.mem_of_getElem? (i := 1025) (by decide +kernel), List.mem_of_getElem? (i := 1487) (by decide +kernel), List.mem_of_getElem? (i := 1488) (by decide +kernel)⟩
theorem lw_p78 : lw_okq (⟨"NinePortraitsModel", "layBeliefs", "(I)V"⟩, 41) := ⟨⟨by decide +kernel, by decide +kernel⟩, List.mem_of_getElem? (i := 1025) (by decide +kernel), List.mem_of_getElem? (i := 1495) (by decide +kernel), List.mem_of_getElem? (i := 1496) (by decide +kernel)⟩
theorem lw_p79 : lw_okq (⟨"NinePortraitsModel", "weightOf", "(II)J"⟩, 41) := ⟨⟨by decide +kernel, by decide +kernel⟩, List.mem_of_getElem? (i := 1025) (by decide +kernel), List.mem_of_getElem? (i := 1499) (by decide +kernel), List.mem_of_getElem? (i := 1500) (by decide +kernel)⟩
def lw_privs_5 : List (MethodName × Nat) := [(⟨"NinePortraitsModel", "latestOf", "(I)I"⟩, 41), (⟨"NinePortraitsModel", "shot", "(II)I"⟩, 41), (⟨"NinePortraitsModel", "isRefused", "(I)Z"⟩, 41), (⟨"NinePortraitsModel", "keep", "()V"⟩, 41), (⟨"NinePortraitsModel", "paintNow", "(II)I"⟩, 41), (⟨"NinePortraitsModel", "isTold", "(III)Z"⟩, 41), (⟨"NinePortraitsModel", "lookedOf", "(I)I"⟩, 41), (⟨"NinePortraitsModel", "seenOf", "(I)I"⟩, 41), (⟨"NinePortraitsModel", "areMonths", "(I)Z"⟩, 41), (⟨"NinePortraitsModel", "passMonth", "()V"⟩, 41), (⟨"NinePortraitsModel", "drawMonth", "()V"⟩, 41), (⟨"NinePortraitsModel", "draw", "(I)I"⟩, 41), (⟨"NinePortraitsModel", "fitsOf", "(I)I"⟩, 41), (⟨"NinePortraitsModel", "fitsFace", "(II)Z"⟩, 41), (⟨"NinePortraitsModel", "layBeliefs", "(I)V"⟩, 41), (⟨"NinePortraitsModel", "weightOf", "(II)J"⟩, 41)]
theorem lw_r5 : ∀ q ∈ lw_privs_5, lw_okq q := List.forall_mem_cons.mpr ⟨lw_p64, List.forall_mem_cons.mpr ⟨lw_p65, List.forall_mem_cons.mpr ⟨lw_p66, List.forall_mem_cons.mpr ⟨lw_p67, List.forall_mem_cons.mpr ⟨lw_p68, List.forall_mem_cons.mpr ⟨lw_p69, List.forall_mem_cons.mpr ⟨lw_p70, List.forall_mem_cons.mpr ⟨lw_p71, List.forall_mem_cons.mpr ⟨lw_p72, List.forall_mem_cons.mpr ⟨lw_p73, List.forall_mem_cons.mpr ⟨lw_p74, List.forall_mem_cons.mpr ⟨lw_p75, List.forall_mem_cons.mpr ⟨lw_p76, List.forall_mem_cons.mpr ⟨lw_p77, List.forall_mem_cons.mpr ⟨lw_p78, List.forall_mem_cons.mpr ⟨lw_p79, fun _ h => absurd h List.not_mem_nil⟩⟩⟩⟩⟩⟩⟩⟩⟩⟩⟩⟩⟩⟩⟩⟩
theorem lw_p80 : lw_okq (⟨"NinePortraitsModel", "likelyOf", "(I)I"⟩, 41) := ⟨⟨by decide +kernel, by decide +kernel⟩, List.mem_of_getElem? (i := 1025) (by decide +kernel), List.mem_of_getElem? (i := 1508) (by decide +kernel), List.mem_of_getElem? (i := 1509) (by decide +kernel)⟩
theorem lw_p81 : lw_okq (⟨"NinePortraitsModel", "alike", "(II)I"⟩, 41) := ⟨⟨by decide +kernel, by decide +kernel⟩, List.mem_of_getElem? (i := 1025) (by decide +kernel), List.mem_of_getElem? (i := 1521) (by decide +kernel), List.mem_of_getElem? (i := 1522) (by decide +kernel)⟩
theorem lw_p82 : lw_okq (⟨"NinePortraitsModel", "areReal", "(I)Z"⟩, 41) := ⟨⟨by decide +kernel, by decide +kernel⟩, List.mem_of_getElem? (i := 1025) (by decide +kernel), List.mem_of_getElem? (i := 1530) (by decide +kernel), List.mem_of_getElem? (i := 1531) (by decide +kernel)⟩
theorem lw_p83 : lw_okq (⟨"NinePortraitsModel", "isApart", "(II)Z"⟩, 41) := ⟨⟨by decide +kernel, by decide +kernel⟩, List.mem_of_getElem? (i := 1025) (by decide +kernel), List.mem_of_getElem? (i := 1534) (by decide +kernel), List.mem_of_getElem? (i := 1535) (by decide +kernel)⟩
theorem lw_p84 : lw_okq (⟨"NinePortraitsModel", "areTold", "(IIII)Z"⟩, 41) := ⟨⟨by decide +kernel, by decide +kernel⟩, List.mem_of_getElem? (i := 1025) (by decide +kernel), List.mem_of_getElem? (i := 1538) (by decide +kernel), List.mem_of_getElem? (i := 1539) (by decide +kernel)⟩
theorem lw_p85 : lw_okq (⟨"NinePortraitsModel", "worthBy", "(II)I"⟩, 41) := ⟨⟨by decide +kernel, by decide +kernel⟩, List.mem_of_getElem? (i := 1025) (by decide +kernel), List.mem_of_getElem? (i := 1546) (by decide +kernel), List.mem_of_getElem? (i := 1547) (by decide +kernel)⟩
theorem lw_p86 : lw_okq (⟨"NinePortraitsModel", "chosen", "(I)I"⟩, 41) := ⟨⟨by decide +kernel, by decide +kernel⟩, List.mem_of_getElem? (i := 1025) (by decide +kernel), List.mem_of_getElem? (i := 1554) (by decide +kernel), List.mem_of_getElem? (i := 1555) (by decide +kernel)⟩
theorem lw_p87 : lw_okq (⟨"NinePortraitsModel", "worthAs", "(II)I"⟩, 41) := ⟨⟨by decide +kernel, by decide +kernel⟩, List.mem_of_getElem? (i := 1025) (by decide +kernel), List.mem_of_getElem? (i := 1558) (by decide +kernel), List.mem_of_getElem? (i := 1559) (by decide +kernel)⟩
theorem lw_p88 : lw_okq (⟨"NinePortraitsModel", "areTwo", "(III)Z"⟩, 41) := ⟨⟨by decide +kernel, by decide +kernel⟩, List.mem_of_getElem? (i := 1025) (by decide +kernel), List.mem_of_getElem? (i := 1566) (by decide +kernel), List.mem_of_getElem? (i := 1567) (by decide +kernel)⟩
theorem lw_p89 : lw_okq (⟨"NinePortraitsModel", "gameOf", "(IIIII)I"⟩, 41) := ⟨⟨by decide +kernel, by decide +kernel⟩, List.mem_of_getElem? (i := 1025) (by decide +kernel), List.mem_of_getElem? (i := 1571) (by decide +kernel), List.mem_of_getElem? (i := 1572) (by decide +kernel)⟩
theorem lw_p90 : lw_okq (⟨"NinePortraitsModel", "isRest", "(IIIII)Z"⟩, 41) := ⟨⟨by decide +kernel, by decide +kernel⟩, List.mem_of_getElem? (i := 1025) (by decide +kernel), List.mem_of_getElem? (i := 1579) (by decide +kernel), List.mem_of_getElem? (i := 1580) (by decide +kernel)⟩
theorem lw_p91 : lw_okq (⟨"NinePortraitsModel", "trySends", "(IIIII)V"⟩, 41) := ⟨⟨by decide +kernel, by decide +kernel⟩, List.mem_of_getElem? (i := 1025) (by decide +kernel), List.mem_of_getElem? (i := 1591) (by decide +kernel), List.mem_of_getElem? (i := 1592) (by decide +kernel)⟩
theorem lw_p92 : lw_okq (⟨"NinePortraitsModel", "layMatch", "()V"⟩, 41) := ⟨⟨by decide +kernel, by decide +kernel⟩, List.mem_of_getElem? (i := 1025) (by decide +kernel), List.mem_of_getElem? (i := 1613) (by decide +kernel), List.mem_of_getElem? (i := 1614) (by decide +kernel)⟩
theorem lw_p93 : lw_okq (⟨"NinePortraitsModel", "asksNext", "(I)I"⟩, 41) := ⟨⟨by decide +kernel, by decide +kernel⟩, List.mem_of_getElem? (i := 1025) (by decide +kernel), List.mem_of_getElem? (i := 1617) (by decide +kernel), List.mem_of_getElem? (i := 1618) (by decide +kernel)⟩
theorem lw_p94 : lw_okq (⟨"NinePortraitsModel", "isBetter", "(II)Z"⟩, 41) := ⟨⟨by decide +kernel, by decide +kernel⟩, List.mem_of_getElem? (i := 1025) (by decide +kernel), List.mem_of_getElem? (i := 1621) (by decide +kernel), List.mem_of_getElem? (i := 1622) (by decide +kernel)⟩
theorem lw_p95 : lw_okq (⟨"NinePortraitsModel", "mostOf", "(I)I"⟩, 41) := ⟨⟨by decide +kernel, by decide +kernel⟩, List.mem_of_getElem? (i := 1025) (by decide +kernel), List.mem_of_getElem? (i := 1629) (by decide +kernel), List.mem_of_getElem? (i := 1630) (by decide +kernel)⟩
def lw_privs_6 : List (MethodName × Nat) := [(⟨"NinePortraitsModel", "likelyOf", "(I)I"⟩, 41), (⟨"NinePortraitsModel", "alike", "(II)I"⟩, 41), (⟨"NinePortraitsModel", "areReal", "(I)Z"⟩, 41), (⟨"NinePortraitsModel", "isApart", "(II)Z"⟩, 41), (⟨"NinePortraitsModel", "areTold", "(IIII)Z"⟩, 41), (⟨"NinePortraitsModel", "worthBy", "(II)I"⟩, 41), (⟨"NinePortraitsModel", "chosen", "(I)I"⟩, 41), (⟨"NinePortraitsModel", "worthAs", "(II)I"⟩, 41), (⟨"NinePortraitsModel", "areTwo", "(III)Z"⟩, 41), (⟨"NinePortraitsModel", "gameOf", "(IIIII)I"⟩, 41), (⟨"NinePortraitsModel", "isRest", "(IIIII)Z"⟩, 41), (⟨"NinePortraitsModel", "trySends", "(IIIII)V"⟩, 41), (⟨"NinePortraitsModel", "layMatch", "()V"⟩, 41), (⟨"NinePortraitsModel", "asksNext", "(I)I"⟩, 41), (⟨"NinePortraitsModel", "isBetter", "(II)Z"⟩, 41), (⟨"NinePortraitsModel", "mostOf", "(I)I"⟩, 41)]
theorem lw_r6 : ∀ q ∈ lw_privs_6, lw_okq q := List.forall_mem_cons.mpr ⟨lw_p80, List.forall_mem_cons.mpr ⟨lw_p81, List.forall_mem_cons.mpr ⟨lw_p82, List.forall_mem_cons.mpr ⟨lw_p83, List.forall_mem_cons.mpr ⟨lw_p84, List.forall_mem_cons.mpr ⟨lw_p85, List.forall_mem_cons.mpr ⟨lw_p86, List.forall_mem_cons.mpr ⟨lw_p87, List.forall_mem_cons.mpr ⟨lw_p88, List.forall_mem_cons.mpr ⟨lw_p89, List.forall_mem_cons.mpr ⟨lw_p90, List.forall_mem_cons.mpr ⟨lw_p91, List.forall_mem_cons.mpr ⟨lw_p92, List.forall_mem_cons.mpr ⟨lw_p93, List.forall_mem_cons.mpr ⟨lw_p94, List.forall_mem_cons.mpr ⟨lw_p95, fun _ h => absurd h List.not_mem_nil⟩⟩⟩⟩⟩⟩⟩⟩⟩⟩⟩⟩⟩⟩⟩⟩
theorem lw_p96 : lw_okq (⟨"NinePortraitsModel", "lies", "()I"⟩, 41) := ⟨⟨by decide +kernel, by decide +kernel⟩, List.mem_of_getElem? (i := 1025) (by decide +kernel), List.mem_of_getElem? (i := 1633) (by decide +kernel), List.mem_of_getElem? (i := 1634) (by decide +kernel)⟩
def lw_privs_7 : List (MethodName × Nat) := [(⟨"NinePortraitsModel", "lies", "()I"⟩, 41)]
theorem lw_r7 : ∀ q ∈ lw_privs_7, lw_okq q := List.forall_mem_cons.mpr ⟨lw_p96, fun _ h => absurd h List.not_mem_nil⟩
def lw_privs : List (MethodName × Nat) := lw_privs_1 ++ (lw_privs_2 ++ (lw_privs_3 ++ (lw_privs_4 ++ (lw_privs_5 ++ (lw_privs_6 ++ (lw_privs_7))))))
def lw_tbl : List Cond := k2_sels lw_privs ++ tables_1
theorem lw_privs_ok : ∀ q ∈ lw_privs, lw_okq q := by
  show ∀ q ∈ lw_privs_1 ++ (lw_privs_2 ++ (lw_privs_3 ++ (lw_privs_4 ++ (lw_privs_5 ++ (lw_privs_6 ++ (lw_privs_7)))))), lw_okq q
  exact List.forall_mem_append.mpr ⟨lw_r1, List.forall_mem_append.mpr ⟨lw_r2, List.forall_mem_append.mpr ⟨lw_r3, List.forall_mem_append.mpr ⟨lw_r4, List.forall_mem_append.mpr ⟨lw_r5, List.forall_mem_append.mpr ⟨lw_r6, lw_r7⟩⟩⟩⟩⟩⟩
end
section
def RX0 : String := "NinePortraits$Acts"
def TX0 : u_T := fun k => match k with
  | 0 => ("NinePortraits$Acts", "rows", "[I", true)
  | 1 => ("NinePortraits$Acts", "place", "I", false)
  | _ => ("NinePortraits$Acts", "count", "I", false)
def tyX0 : Nat → FieldType := fun k => match k with
  | 0 => .array .int
  | 1 => .int
  | _ => .int
theorem nmX0 : ∀ a, a < 3 → ∀ b, b < 3 → a ≠ b → (TX0 a).2.1 ≠ (TX0 b).2.1 := by decide +kernel
theorem tyX0_ok : ∀ k, k < 3 → parseFieldDescriptor (TX0 k).2.2.1 = some (tyX0 k) := by decide +kernel
abbrev cX0_init : ByteArray := prog_2_method_1_code
def yX0_init : MethodName := ⟨RX0, "<init>", "()V"⟩
def RX1 : String := "NinePortraits$Court"
def TX1 : u_T := fun k => match k with
  | 0 => ("NinePortraits$Court", "rules", "[I", true)
  | 1 => ("NinePortraits$Court", "brideParts", "[I", true)
  | 2 => ("NinePortraits$Court", "painterParts", "[I", true)
  | 3 => ("NinePortraits$Court", "brides", "I", false)
  | _ => ("NinePortraits$Court", "painters", "I", false)
def tyX1 : Nat → FieldType := fun k => match k with
  | 0 => .array .int
  | 1 => .array .int
  | 2 => .array .int
  | 3 => .int
  | _ => .int
theorem nmX1 : ∀ a, a < 5 → ∀ b, b < 5 → a ≠ b → (TX1 a).2.1 ≠ (TX1 b).2.1 := by decide +kernel
theorem tyX1_ok : ∀ k, k < 5 → parseFieldDescriptor (TX1 k).2.2.1 = some (tyX1 k) := by decide +kernel
abbrev cX1_init : ByteArray := prog_3_method_1_code
def yX1_init : MethodName := ⟨RX1, "<init>", "()V"⟩
def RX2 : String := "NinePortraits$CourtReader"
def TX2 : u_T := fun k => match k with
  | 0 => ("NinePortraits$CourtReader", "tape", "LNinePortraits$Tape;", false)
  | 1 => ("NinePortraits$CourtReader", "court", "LNinePortraits$Court;", false)
  | _ => ("NinePortraits$CourtReader", "hasRules", "Z", false)
def tyX2 : Nat → FieldType := fun k => match k with
  | 0 => .object "NinePortraits$Tape"
  | 1 => .object "NinePortraits$Court"
  | _ => .boolean
theorem nmX2 : ∀ a, a < 3 → ∀ b, b < 3 → a ≠ b → (TX2 a).2.1 ≠ (TX2 b).2.1 := by decide +kernel
theorem tyX2_ok : ∀ k, k < 3 → parseFieldDescriptor (TX2 k).2.2.1 = some (tyX2 k) := by decide +kernel
abbrev cX2_init : ByteArray := prog_4_method_1_code
def yX2_init : MethodName := ⟨RX2, "<init>", "()V"⟩
def RX3 : String := "NinePortraits$Draws"
def TX3 : u_T := fun k => match k with
  | _ => ("NinePortraits$Draws", "x", "J", false)
def tyX3 : Nat → FieldType := fun k => match k with
  | _ => .long
theorem nmX3 : ∀ a, a < 1 → ∀ b, b < 1 → a ≠ b → (TX3 a).2.1 ≠ (TX3 b).2.1 := by decide +kernel
theorem tyX3_ok : ∀ k, k < 1 → parseFieldDescriptor (TX3 k).2.2.1 = some (tyX3 k) := by decide +kernel
abbrev cX3_init : ByteArray := prog_5_method_1_code
def yX3_init : MethodName := ⟨RX3, "<init>", "()V"⟩
def RX4 : String := "NinePortraits$Law"
def TX4 : u_T := fun k => match k with
  | _ => ("NinePortraits$Law", "steps", "[I", true)
def tyX4 : Nat → FieldType := fun k => match k with
  | _ => .array .int
theorem nmX4 : ∀ a, a < 1 → ∀ b, b < 1 → a ≠ b → (TX4 a).2.1 ≠ (TX4 b).2.1 := by decide +kernel
theorem tyX4_ok : ∀ k, k < 1 → parseFieldDescriptor (TX4 k).2.2.1 = some (tyX4 k) := by decide +kernel
def RX5 : String := "NinePortraits$LawReader"
def TX5 : u_T := fun k => match k with
  | 0 => ("NinePortraits$LawReader", "steps", "[I", true)
  | 1 => ("NinePortraits$LawReader", "size", "I", false)
  | _ => ("NinePortraits$LawReader", "tape", "LNinePortraits$Tape;", false)
def tyX5 : Nat → FieldType := fun k => match k with
  | 0 => .array .int
  | 1 => .int
  | _ => .object "NinePortraits$Tape"
theorem nmX5 : ∀ a, a < 3 → ∀ b, b < 3 → a ≠ b → (TX5 a).2.1 ≠ (TX5 b).2.1 := by decide +kernel
theorem tyX5_ok : ∀ k, k < 3 → parseFieldDescriptor (TX5 k).2.2.1 = some (tyX5 k) := by decide +kernel
abbrev cX5_init : ByteArray := prog_7_method_1_code
def yX5_init : MethodName := ⟨RX5, "<init>", "()V"⟩
def RX6 : String := "NinePortraits$Mind"
def TX6 : u_T := fun k => match k with
  | 0 => ("NinePortraits$Mind", "court", "LNinePortraits$Court;", true)
  | 1 => ("NinePortraits$Mind", "state", "LNinePortraits$State;", true)
  | 2 => ("NinePortraits$Mind", "studio", "LNinePortraits$Studio;", true)
  | 3 => ("NinePortraits$Mind", "weights", "[J", true)
  | 4 => ("NinePortraits$Mind", "total", "J", false)
  | 5 => ("NinePortraits$Mind", "likelyFace", "I", false)
  | 6 => ("NinePortraits$Mind", "views", "[I", true)
  | 7 => ("NinePortraits$Mind", "alike", "[I", true)
  | _ => ("NinePortraits$Mind", "tellers", "[I", true)
def tyX6 : Nat → FieldType := fun k => match k with
  | 0 => .object "NinePortraits$Court"
  | 1 => .object "NinePortraits$State"
  | 2 => .object "NinePortraits$Studio"
  | 3 => .array .long
  | 4 => .long
  | 5 => .int
  | 6 => .array .int
  | 7 => .array .int
  | _ => .array .int
theorem nmX6 : ∀ a, a < 9 → ∀ b, b < 9 → a ≠ b → (TX6 a).2.1 ≠ (TX6 b).2.1 := by decide +kernel
theorem tyX6_ok : ∀ k, k < 9 → parseFieldDescriptor (TX6 k).2.2.1 = some (tyX6 k) := by decide +kernel
abbrev cX6_init : ByteArray := prog_8_method_1_code
def yX6_init : MethodName := ⟨RX6, "<init>", "(LNinePortraits$Court;LNinePortraits$State;LNinePortraits$Studio;)V"⟩
def RX7 : String := "NinePortraits$State"
def TX7 : u_T := fun k => match k with
  | 0 => ("NinePortraits$State", "pays", "[I", true)
  | 1 => ("NinePortraits$State", "fears", "[I", true)
  | 2 => ("NinePortraits$State", "portraits", "[I", true)
  | 3 => ("NinePortraits$State", "painted", "I", false)
  | 4 => ("NinePortraits$State", "letters", "I", false)
  | 5 => ("NinePortraits$State", "shoes", "I", false)
  | 6 => ("NinePortraits$State", "wed", "I", false)
  | 7 => ("NinePortraits$State", "purse", "I", false)
  | _ => ("NinePortraits$State", "month", "I", false)
def tyX7 : Nat → FieldType := fun k => match k with
  | 0 => .array .int
  | 1 => .array .int
  | 2 => .array .int
  | 3 => .int
  | 4 => .int
  | 5 => .int
  | 6 => .int
  | 7 => .int
  | _ => .int
theorem nmX7 : ∀ a, a < 9 → ∀ b, b < 9 → a ≠ b → (TX7 a).2.1 ≠ (TX7 b).2.1 := by decide +kernel
theorem tyX7_ok : ∀ k, k < 9 → parseFieldDescriptor (TX7 k).2.2.1 = some (tyX7 k) := by decide +kernel
abbrev cX7_init : ByteArray := prog_9_method_1_code
def yX7_init : MethodName := ⟨RX7, "<init>", "()V"⟩
def RX8 : String := "NinePortraits$Studio"
def TX8 : u_T := fun k => match k with
  | 0 => ("NinePortraits$Studio", "oneLooks", "[I", true)
  | 1 => ("NinePortraits$Studio", "otherLooks", "[I", true)
  | 2 => ("NinePortraits$Studio", "court", "LNinePortraits$Court;", true)
  | 3 => ("NinePortraits$Studio", "state", "LNinePortraits$State;", true)
  | 4 => ("NinePortraits$Studio", "letters", "[I", true)
  | 5 => ("NinePortraits$Studio", "stack", "[I", true)
  | _ => ("NinePortraits$Studio", "law", "LNinePortraits$Law;", false)
def tyX8 : Nat → FieldType := fun k => match k with
  | 0 => .array .int
  | 1 => .array .int
  | 2 => .object "NinePortraits$Court"
  | 3 => .object "NinePortraits$State"
  | 4 => .array .int
  | 5 => .array .int
  | _ => .object "NinePortraits$Law"
theorem nmX8 : ∀ a, a < 7 → ∀ b, b < 7 → a ≠ b → (TX8 a).2.1 ≠ (TX8 b).2.1 := by decide +kernel
theorem tyX8_ok : ∀ k, k < 7 → parseFieldDescriptor (TX8 k).2.2.1 = some (tyX8 k) := by decide +kernel
abbrev cX8_init : ByteArray := prog_10_method_1_code
def yX8_init : MethodName := ⟨RX8, "<init>", "(LNinePortraits$Court;LNinePortraits$State;)V"⟩
def RX9 : String := "NinePortraits$Tape"
def TX9 : u_T := fun k => match k with
  | 0 => ("NinePortraits$Tape", "bytes", "[I", true)
  | 1 => ("NinePortraits$Tape", "length", "I", false)
  | _ => ("NinePortraits$Tape", "at", "I", false)
def tyX9 : Nat → FieldType := fun k => match k with
  | 0 => .array .int
  | 1 => .int
  | _ => .int
theorem nmX9 : ∀ a, a < 3 → ∀ b, b < 3 → a ≠ b → (TX9 a).2.1 ≠ (TX9 b).2.1 := by decide +kernel
theorem tyX9_ok : ∀ k, k < 3 → parseFieldDescriptor (TX9 k).2.2.1 = some (tyX9 k) := by decide +kernel
abbrev cX9_init : ByteArray := prog_11_method_1_code
def yX9_init : MethodName := ⟨RX9, "<init>", "()V"⟩
def RX10 : String := "NinePortraits"
def TX10 : u_T := fun k => match k with
  | 0 => ("NinePortraits", "tape", "LNinePortraits$Tape;", true)
  | 1 => ("NinePortraits", "courtReader", "LNinePortraits$CourtReader;", true)
  | 2 => ("NinePortraits", "lawReader", "LNinePortraits$LawReader;", true)
  | 3 => ("NinePortraits", "draft", "LNinePortraits$Court;", true)
  | 4 => ("NinePortraits", "court", "LNinePortraits$Court;", true)
  | 5 => ("NinePortraits", "laws", "[LNinePortraits$Law;", true)
  | 6 => ("NinePortraits", "state", "LNinePortraits$State;", true)
  | 7 => ("NinePortraits", "kept", "LNinePortraits$State;", true)
  | 8 => ("NinePortraits", "acts", "LNinePortraits$Acts;", true)
  | 9 => ("NinePortraits", "studio", "LNinePortraits$Studio;", true)
  | 10 => ("NinePortraits", "mind", "LNinePortraits$Mind;", true)
  | 11 => ("NinePortraits", "draws", "LNinePortraits$Draws;", true)
  | 12 => ("NinePortraits", "refused", "[I", true)
  | 13 => ("NinePortraits", "lawCount", "I", false)
  | 14 => ("NinePortraits", "lawThatHolds", "I", false)
  | 15 => ("NinePortraits", "bribery", "I", false)
  | _ => ("NinePortraits", "hasImage", "Z", false)
def tyX10 : Nat → FieldType := fun k => match k with
  | 0 => .object "NinePortraits$Tape"
  | 1 => .object "NinePortraits$CourtReader"
  | 2 => .object "NinePortraits$LawReader"
  | 3 => .object "NinePortraits$Court"
  | 4 => .object "NinePortraits$Court"
  | 5 => .array (.object "NinePortraits$Law")
  | 6 => .object "NinePortraits$State"
  | 7 => .object "NinePortraits$State"
  | 8 => .object "NinePortraits$Acts"
  | 9 => .object "NinePortraits$Studio"
  | 10 => .object "NinePortraits$Mind"
  | 11 => .object "NinePortraits$Draws"
  | 12 => .array .int
  | 13 => .int
  | 14 => .int
  | 15 => .int
  | _ => .boolean
theorem nmX10 : ∀ a, a < 17 → ∀ b, b < 17 → a ≠ b → (TX10 a).2.1 ≠ (TX10 b).2.1 := by decide +kernel
theorem tyX10_ok : ∀ k, k < 17 → parseFieldDescriptor (TX10 k).2.2.1 = some (tyX10 k) := by decide +kernel
abbrev cX10_init : ByteArray := prog_1_method_1_code
def yX10_init : MethodName := ⟨RX10, "<init>", "()V"⟩
def RX11 : String := "NinePortraitsModel"
def TX11 : u_T := fun k => match k with
  | 0 => ("NinePortraitsModel", "thrown", "I", false)
  | 1 => ("NinePortraitsModel", "tape", "[I", true)
  | 2 => ("NinePortraitsModel", "size", "I", false)
  | 3 => ("NinePortraitsModel", "at", "I", false)
  | 4 => ("NinePortraitsModel", "wrong", "I", false)
  | 5 => ("NinePortraitsModel", "deep", "I", false)
  | 6 => ("NinePortraitsModel", "code", "[I", true)
  | 7 => ("NinePortraitsModel", "value", "[I", true)
  | 8 => ("NinePortraitsModel", "codes", "[I", true)
  | 9 => ("NinePortraitsModel", "clauses", "[I", true)
  | 10 => ("NinePortraitsModel", "testFrom", "[I", true)
  | 11 => ("NinePortraitsModel", "sumFrom", "[I", true)
  | 12 => ("NinePortraitsModel", "sumTo", "[I", true)
  | 13 => ("NinePortraitsModel", "laws", "I", false)
  | 14 => ("NinePortraitsModel", "text", "I", false)
  | 15 => ("NinePortraitsModel", "letters", "[I", true)
  | 16 => ("NinePortraitsModel", "stack", "[I", true)
  | 17 => ("NinePortraitsModel", "readRule", "[I", true)
  | 18 => ("NinePortraitsModel", "readBride", "[I", true)
  | 19 => ("NinePortraitsModel", "readPainter", "[I", true)
  | 20 => ("NinePortraitsModel", "readBrides", "I", false)
  | 21 => ("NinePortraitsModel", "readPainters", "I", false)
  | 22 => ("NinePortraitsModel", "rule", "[I", true)
  | 23 => ("NinePortraitsModel", "bride", "[I", true)
  | 24 => ("NinePortraitsModel", "painter", "[I", true)
  | 25 => ("NinePortraitsModel", "brides", "I", false)
  | 26 => ("NinePortraitsModel", "painters", "I", false)
  | 27 => ("NinePortraitsModel", "now", "[I", true)
  | 28 => ("NinePortraitsModel", "refused", "[I", true)
  | 29 => ("NinePortraitsModel", "holding", "I", false)
  | 30 => ("NinePortraitsModel", "bribes", "I", false)
  | 31 => ("NinePortraitsModel", "kept", "[I", true)
  | 32 => ("NinePortraitsModel", "acts", "I", false)
  | 33 => ("NinePortraitsModel", "draws", "J", false)
  | 34 => ("NinePortraitsModel", "beliefs", "[I", true)
  | 35 => ("NinePortraitsModel", "sendRow", "I", false)
  | 36 => ("NinePortraitsModel", "sendFees", "I", false)
  | 37 => ("NinePortraitsModel", "askedBy", "[I", true)
  | 38 => ("NinePortraitsModel", "holdsOne", "[I", true)
  | 39 => ("NinePortraitsModel", "image", "[I", true)
  | _ => ("NinePortraitsModel", "hasImage", "Z", false)
def tyX11 : Nat → FieldType := fun k => match k with
  | 0 => .int
  | 1 => .array .int
  | 2 => .int
  | 3 => .int
  | 4 => .int
  | 5 => .int
  | 6 => .array .int
  | 7 => .array .int
  | 8 => .array .int
  | 9 => .array .int
  | 10 => .array .int
  | 11 => .array .int
  | 12 => .array .int
  | 13 => .int
  | 14 => .int
  | 15 => .array .int
  | 16 => .array .int
  | 17 => .array .int
  | 18 => .array .int
  | 19 => .array .int
  | 20 => .int
  | 21 => .int
  | 22 => .array .int
  | 23 => .array .int
  | 24 => .array .int
  | 25 => .int
  | 26 => .int
  | 27 => .array .int
  | 28 => .array .int
  | 29 => .int
  | 30 => .int
  | 31 => .array .int
  | 32 => .int
  | 33 => .long
  | 34 => .array .int
  | 35 => .int
  | 36 => .int
  | 37 => .array .int
  | 38 => .array .int
  | 39 => .array .int
  | _ => .boolean
theorem nmX11 : ∀ a, a < 41 → ∀ b, b < 41 → a ≠ b → (TX11 a).2.1 ≠ (TX11 b).2.1 := by decide +kernel
theorem tyX11_ok : ∀ k, k < 41 → parseFieldDescriptor (TX11 k).2.2.1 = some (tyX11 k) := by decide +kernel
abbrev cX11_init : ByteArray := prog_13_method_3_code
def yX11_init : MethodName := ⟨RX11, "<init>", "()V"⟩
def RL : String := "NinePortraitsLaw"
abbrev vwCl : List vw_C := [(RX0, TX0, 3), (RX1, TX1, 5), (RX2, TX2, 3), (RX3, TX3, 1), (RX4, TX4, 1), (RX5, TX5, 3), (RX6, TX6, 9), (RX7, TX7, 9), (RX8, TX8, 7), (RX9, TX9, 3), (RX10, TX10, 17), (RX11, TX11, 41)]
end
section
theorem dX0_init_0 : decode cX0_init 0 = .ok (.aload_n 0, 1) := by decide +kernel
theorem dX0_init_1 : decode cX0_init 1 = .ok (.invokespecial 3, 3) := by decide +kernel
theorem dX0_init_4 : decode cX0_init 4 = .ok (.aload_n 0, 1) := by decide +kernel
theorem dX0_init_5 : decode cX0_init 5 = .ok (.sipush 680, 3) := by decide +kernel
theorem dX0_init_8 : decode cX0_init 8 = .ok (.newarray .int, 2) := by decide +kernel
theorem dX0_init_10 : decode cX0_init 10 = .ok (.putfield 11, 3) := by decide +kernel
theorem dX0_init_13 : decode cX0_init 13 = .ok (.return_, 1) := by decide +kernel
theorem dX1_init_0 : decode cX1_init 0 = .ok (.aload_n 0, 1) := by decide +kernel
theorem dX1_init_1 : decode cX1_init 1 = .ok (.invokespecial 3, 3) := by decide +kernel
theorem dX1_init_4 : decode cX1_init 4 = .ok (.aload_n 0, 1) := by decide +kernel
theorem dX1_init_5 : decode cX1_init 5 = .ok (.iconst 3, 1) := by decide +kernel
theorem dX1_init_6 : decode cX1_init 6 = .ok (.newarray .int, 2) := by decide +kernel
theorem dX1_init_8 : decode cX1_init 8 = .ok (.putfield 9, 3) := by decide +kernel
theorem dX1_init_11 : decode cX1_init 11 = .ok (.aload_n 0, 1) := by decide +kernel
theorem dX1_init_12 : decode cX1_init 12 = .ok (.bipush 24, 2) := by decide +kernel
theorem dX1_init_14 : decode cX1_init 14 = .ok (.newarray .int, 2) := by decide +kernel
theorem dX1_init_16 : decode cX1_init 16 = .ok (.putfield 15, 3) := by decide +kernel
theorem dX1_init_19 : decode cX1_init 19 = .ok (.aload_n 0, 1) := by decide +kernel
theorem dX1_init_20 : decode cX1_init 20 = .ok (.bipush 20, 2) := by decide +kernel
theorem dX1_init_22 : decode cX1_init 22 = .ok (.newarray .int, 2) := by decide +kernel
theorem dX1_init_24 : decode cX1_init 24 = .ok (.putfield 18, 3) := by decide +kernel
theorem dX1_init_27 : decode cX1_init 27 = .ok (.return_, 1) := by decide +kernel
theorem dX2_init_0 : decode cX2_init 0 = .ok (.aload_n 0, 1) := by decide +kernel
theorem dX2_init_1 : decode cX2_init 1 = .ok (.invokespecial 3, 3) := by decide +kernel
theorem dX2_init_4 : decode cX2_init 4 = .ok (.return_, 1) := by decide +kernel
theorem dX3_init_0 : decode cX3_init 0 = .ok (.aload_n 0, 1) := by decide +kernel
theorem dX3_init_1 : decode cX3_init 1 = .ok (.invokespecial 1, 3) := by decide +kernel
theorem dX3_init_4 : decode cX3_init 4 = .ok (.return_, 1) := by decide +kernel
theorem dX5_init_0 : decode cX5_init 0 = .ok (.aload_n 0, 1) := by decide +kernel
theorem dX5_init_1 : decode cX5_init 1 = .ok (.invokespecial 3, 3) := by decide +kernel
theorem dX5_init_4 : decode cX5_init 4 = .ok (.aload_n 0, 1) := by decide +kernel
theorem dX5_init_5 : decode cX5_init 5 = .ok (.sipush 241, 3) := by decide +kernel
theorem dX5_init_8 : decode cX5_init 8 = .ok (.newarray .int, 2) := by decide +kernel
theorem dX5_init_10 : decode cX5_init 10 = .ok (.putfield 9, 3) := by decide +kernel
theorem dX5_init_13 : decode cX5_init 13 = .ok (.return_, 1) := by decide +kernel
theorem dX6_init_0 : decode cX6_init 0 = .ok (.aload_n 0, 1) := by decide +kernel
theorem dX6_init_1 : decode cX6_init 1 = .ok (.invokespecial 3, 3) := by decide +kernel
theorem dX6_init_4 : decode cX6_init 4 = .ok (.aload_n 0, 1) := by decide +kernel
theorem dX6_init_5 : decode cX6_init 5 = .ok (.bipush 10, 2) := by decide +kernel
theorem dX6_init_7 : decode cX6_init 7 = .ok (.newarray .long, 2) := by decide +kernel
theorem dX6_init_9 : decode cX6_init 9 = .ok (.putfield 9, 3) := by decide +kernel
theorem dX6_init_12 : decode cX6_init 12 = .ok (.aload_n 0, 1) := by decide +kernel
theorem dX6_init_13 : decode cX6_init 13 = .ok (.bipush 10, 2) := by decide +kernel
theorem dX6_init_15 : decode cX6_init 15 = .ok (.newarray .int, 2) := by decide +kernel
theorem dX6_init_17 : decode cX6_init 17 = .ok (.putfield 15, 3) := by decide +kernel
theorem dX6_init_20 : decode cX6_init 20 = .ok (.aload_n 0, 1) := by decide +kernel
theorem dX6_init_21 : decode cX6_init 21 = .ok (.bipush 10, 2) := by decide +kernel
theorem dX6_init_23 : decode cX6_init 23 = .ok (.newarray .int, 2) := by decide +kernel
theorem dX6_init_25 : decode cX6_init 25 = .ok (.putfield 19, 3) := by decide +kernel
theorem dX6_init_28 : decode cX6_init 28 = .ok (.aload_n 0, 1) := by decide +kernel
theorem dX6_init_29 : decode cX6_init 29 = .ok (.bipush 45, 2) := by decide +kernel
theorem dX6_init_31 : decode cX6_init 31 = .ok (.newarray .int, 2) := by decide +kernel
theorem dX6_init_33 : decode cX6_init 33 = .ok (.putfield 22, 3) := by decide +kernel
theorem dX6_init_36 : decode cX6_init 36 = .ok (.aload_n 0, 1) := by decide +kernel
theorem dX6_init_37 : decode cX6_init 37 = .ok (.aload_n 1, 1) := by decide +kernel
theorem dX6_init_38 : decode cX6_init 38 = .ok (.putfield 25, 3) := by decide +kernel
theorem dX6_init_41 : decode cX6_init 41 = .ok (.aload_n 0, 1) := by decide +kernel
theorem dX6_init_42 : decode cX6_init 42 = .ok (.aload_n 2, 1) := by decide +kernel
theorem dX6_init_43 : decode cX6_init 43 = .ok (.putfield 29, 3) := by decide +kernel
theorem dX6_init_46 : decode cX6_init 46 = .ok (.aload_n 0, 1) := by decide +kernel
theorem dX6_init_47 : decode cX6_init 47 = .ok (.aload_n 3, 1) := by decide +kernel
theorem dX6_init_48 : decode cX6_init 48 = .ok (.putfield 33, 3) := by decide +kernel
theorem dX6_init_51 : decode cX6_init 51 = .ok (.return_, 1) := by decide +kernel
theorem dX7_init_0 : decode cX7_init 0 = .ok (.aload_n 0, 1) := by decide +kernel
theorem dX7_init_1 : decode cX7_init 1 = .ok (.invokespecial 3, 3) := by decide +kernel
theorem dX7_init_4 : decode cX7_init 4 = .ok (.aload_n 0, 1) := by decide +kernel
theorem dX7_init_5 : decode cX7_init 5 = .ok (.bipush 6, 2) := by decide +kernel
theorem dX7_init_7 : decode cX7_init 7 = .ok (.newarray .int, 2) := by decide +kernel
theorem dX7_init_9 : decode cX7_init 9 = .ok (.putfield 9, 3) := by decide +kernel
theorem dX7_init_12 : decode cX7_init 12 = .ok (.aload_n 0, 1) := by decide +kernel
theorem dX7_init_13 : decode cX7_init 13 = .ok (.iconst 5, 1) := by decide +kernel
theorem dX7_init_14 : decode cX7_init 14 = .ok (.newarray .int, 2) := by decide +kernel
theorem dX7_init_16 : decode cX7_init 16 = .ok (.putfield 15, 3) := by decide +kernel
theorem dX7_init_19 : decode cX7_init 19 = .ok (.aload_n 0, 1) := by decide +kernel
theorem dX7_init_20 : decode cX7_init 20 = .ok (.bipush 80, 2) := by decide +kernel
theorem dX7_init_22 : decode cX7_init 22 = .ok (.newarray .int, 2) := by decide +kernel
theorem dX7_init_24 : decode cX7_init 24 = .ok (.putfield 18, 3) := by decide +kernel
theorem dX7_init_27 : decode cX7_init 27 = .ok (.aload_n 0, 1) := by decide +kernel
theorem dX7_init_28 : decode cX7_init 28 = .ok (.iconst (-1), 1) := by decide +kernel
theorem dX7_init_29 : decode cX7_init 29 = .ok (.putfield 21, 3) := by decide +kernel
theorem dX7_init_32 : decode cX7_init 32 = .ok (.return_, 1) := by decide +kernel
theorem dX8_init_0 : decode cX8_init 0 = .ok (.aload_n 0, 1) := by decide +kernel
theorem dX8_init_1 : decode cX8_init 1 = .ok (.invokespecial 3, 3) := by decide +kernel
theorem dX8_init_4 : decode cX8_init 4 = .ok (.aload_n 0, 1) := by decide +kernel
theorem dX8_init_5 : decode cX8_init 5 = .ok (.bipush 10, 2) := by decide +kernel
theorem dX8_init_7 : decode cX8_init 7 = .ok (.newarray .int, 2) := by decide +kernel
theorem dX8_init_9 : decode cX8_init 9 = .ok (.putfield 9, 3) := by decide +kernel
theorem dX8_init_12 : decode cX8_init 12 = .ok (.aload_n 0, 1) := by decide +kernel
theorem dX8_init_13 : decode cX8_init 13 = .ok (.bipush 10, 2) := by decide +kernel
theorem dX8_init_15 : decode cX8_init 15 = .ok (.newarray .int, 2) := by decide +kernel
theorem dX8_init_17 : decode cX8_init 17 = .ok (.putfield 15, 3) := by decide +kernel
theorem dX8_init_20 : decode cX8_init 20 = .ok (.aload_n 0, 1) := by decide +kernel
theorem dX8_init_21 : decode cX8_init 21 = .ok (.bipush 6, 2) := by decide +kernel
theorem dX8_init_23 : decode cX8_init 23 = .ok (.newarray .int, 2) := by decide +kernel
theorem dX8_init_25 : decode cX8_init 25 = .ok (.putfield 18, 3) := by decide +kernel
theorem dX8_init_28 : decode cX8_init 28 = .ok (.aload_n 0, 1) := by decide +kernel
theorem dX8_init_29 : decode cX8_init 29 = .ok (.bipush 32, 2) := by decide +kernel
theorem dX8_init_31 : decode cX8_init 31 = .ok (.newarray .int, 2) := by decide +kernel
theorem dX8_init_33 : decode cX8_init 33 = .ok (.putfield 21, 3) := by decide +kernel
theorem dX8_init_36 : decode cX8_init 36 = .ok (.aload_n 0, 1) := by decide +kernel
theorem dX8_init_37 : decode cX8_init 37 = .ok (.aload_n 1, 1) := by decide +kernel
theorem dX8_init_38 : decode cX8_init 38 = .ok (.putfield 24, 3) := by decide +kernel
theorem dX8_init_41 : decode cX8_init 41 = .ok (.aload_n 0, 1) := by decide +kernel
theorem dX8_init_42 : decode cX8_init 42 = .ok (.aload_n 2, 1) := by decide +kernel
theorem dX8_init_43 : decode cX8_init 43 = .ok (.putfield 28, 3) := by decide +kernel
theorem dX8_init_46 : decode cX8_init 46 = .ok (.return_, 1) := by decide +kernel
theorem dX9_init_0 : decode cX9_init 0 = .ok (.aload_n 0, 1) := by decide +kernel
theorem dX9_init_1 : decode cX9_init 1 = .ok (.invokespecial 3, 3) := by decide +kernel
theorem dX9_init_4 : decode cX9_init 4 = .ok (.aload_n 0, 1) := by decide +kernel
theorem dX9_init_5 : decode cX9_init 5 = .ok (.sipush 260, 3) := by decide +kernel
theorem dX9_init_8 : decode cX9_init 8 = .ok (.newarray .int, 2) := by decide +kernel
theorem dX9_init_10 : decode cX9_init 10 = .ok (.putfield 9, 3) := by decide +kernel
theorem dX9_init_13 : decode cX9_init 13 = .ok (.return_, 1) := by decide +kernel
theorem dX10_init_0 : decode cX10_init 0 = .ok (.aload_n 0, 1) := by decide +kernel
theorem dX10_init_1 : decode cX10_init 1 = .ok (.invokespecial 1, 3) := by decide +kernel
theorem dX10_init_4 : decode cX10_init 4 = .ok (.aload_n 0, 1) := by decide +kernel
theorem dX10_init_5 : decode cX10_init 5 = .ok (.new 7, 3) := by decide +kernel
theorem dX10_init_8 : decode cX10_init 8 = .ok (.dup, 1) := by decide +kernel
theorem dX10_init_9 : decode cX10_init 9 = .ok (.invokespecial 9, 3) := by decide +kernel
theorem dX10_init_12 : decode cX10_init 12 = .ok (.putfield 10, 3) := by decide +kernel
theorem dX10_init_15 : decode cX10_init 15 = .ok (.aload_n 0, 1) := by decide +kernel
theorem dX10_init_16 : decode cX10_init 16 = .ok (.new 16, 3) := by decide +kernel
theorem dX10_init_19 : decode cX10_init 19 = .ok (.dup, 1) := by decide +kernel
theorem dX10_init_20 : decode cX10_init 20 = .ok (.invokespecial 18, 3) := by decide +kernel
theorem dX10_init_23 : decode cX10_init 23 = .ok (.putfield 19, 3) := by decide +kernel
theorem dX10_init_26 : decode cX10_init 26 = .ok (.aload_n 0, 1) := by decide +kernel
theorem dX10_init_27 : decode cX10_init 27 = .ok (.new 23, 3) := by decide +kernel
theorem dX10_init_30 : decode cX10_init 30 = .ok (.dup, 1) := by decide +kernel
theorem dX10_init_31 : decode cX10_init 31 = .ok (.invokespecial 25, 3) := by decide +kernel
theorem dX10_init_34 : decode cX10_init 34 = .ok (.putfield 26, 3) := by decide +kernel
theorem dX10_init_37 : decode cX10_init 37 = .ok (.aload_n 0, 1) := by decide +kernel
theorem dX10_init_38 : decode cX10_init 38 = .ok (.new 30, 3) := by decide +kernel
theorem dX10_init_41 : decode cX10_init 41 = .ok (.dup, 1) := by decide +kernel
theorem dX10_init_42 : decode cX10_init 42 = .ok (.invokespecial 32, 3) := by decide +kernel
theorem dX10_init_45 : decode cX10_init 45 = .ok (.putfield 33, 3) := by decide +kernel
theorem dX10_init_48 : decode cX10_init 48 = .ok (.aload_n 0, 1) := by decide +kernel
theorem dX10_init_49 : decode cX10_init 49 = .ok (.new 30, 3) := by decide +kernel
theorem dX10_init_52 : decode cX10_init 52 = .ok (.dup, 1) := by decide +kernel
theorem dX10_init_53 : decode cX10_init 53 = .ok (.invokespecial 32, 3) := by decide +kernel
theorem dX10_init_56 : decode cX10_init 56 = .ok (.putfield 37, 3) := by decide +kernel
theorem dX10_init_59 : decode cX10_init 59 = .ok (.aload_n 0, 1) := by decide +kernel
theorem dX10_init_60 : decode cX10_init 60 = .ok (.iconst 4, 1) := by decide +kernel
theorem dX10_init_61 : decode cX10_init 61 = .ok (.anewarray 40, 3) := by decide +kernel
theorem dX10_init_64 : decode cX10_init 64 = .ok (.putfield 42, 3) := by decide +kernel
theorem dX10_init_67 : decode cX10_init 67 = .ok (.aload_n 0, 1) := by decide +kernel
theorem dX10_init_68 : decode cX10_init 68 = .ok (.new 46, 3) := by decide +kernel
theorem dX10_init_71 : decode cX10_init 71 = .ok (.dup, 1) := by decide +kernel
theorem dX10_init_72 : decode cX10_init 72 = .ok (.invokespecial 48, 3) := by decide +kernel
theorem dX10_init_75 : decode cX10_init 75 = .ok (.putfield 49, 3) := by decide +kernel
theorem dX10_init_78 : decode cX10_init 78 = .ok (.aload_n 0, 1) := by decide +kernel
theorem dX10_init_79 : decode cX10_init 79 = .ok (.new 46, 3) := by decide +kernel
theorem dX10_init_82 : decode cX10_init 82 = .ok (.dup, 1) := by decide +kernel
theorem dX10_init_83 : decode cX10_init 83 = .ok (.invokespecial 48, 3) := by decide +kernel
theorem dX10_init_86 : decode cX10_init 86 = .ok (.putfield 53, 3) := by decide +kernel
theorem dX10_init_89 : decode cX10_init 89 = .ok (.aload_n 0, 1) := by decide +kernel
theorem dX10_init_90 : decode cX10_init 90 = .ok (.new 56, 3) := by decide +kernel
theorem dX10_init_93 : decode cX10_init 93 = .ok (.dup, 1) := by decide +kernel
theorem dX10_init_94 : decode cX10_init 94 = .ok (.invokespecial 58, 3) := by decide +kernel
theorem dX10_init_97 : decode cX10_init 97 = .ok (.putfield 59, 3) := by decide +kernel
theorem dX10_init_100 : decode cX10_init 100 = .ok (.aload_n 0, 1) := by decide +kernel
theorem dX10_init_101 : decode cX10_init 101 = .ok (.new 63, 3) := by decide +kernel
theorem dX10_init_104 : decode cX10_init 104 = .ok (.dup, 1) := by decide +kernel
theorem dX10_init_105 : decode cX10_init 105 = .ok (.aload_n 0, 1) := by decide +kernel
theorem dX10_init_106 : decode cX10_init 106 = .ok (.getfield 37, 3) := by decide +kernel
theorem dX10_init_109 : decode cX10_init 109 = .ok (.aload_n 0, 1) := by decide +kernel
theorem dX10_init_110 : decode cX10_init 110 = .ok (.getfield 49, 3) := by decide +kernel
theorem dX10_init_113 : decode cX10_init 113 = .ok (.invokespecial 65, 3) := by decide +kernel
theorem dX10_init_116 : decode cX10_init 116 = .ok (.putfield 68, 3) := by decide +kernel
theorem dX10_init_119 : decode cX10_init 119 = .ok (.aload_n 0, 1) := by decide +kernel
theorem dX10_init_120 : decode cX10_init 120 = .ok (.new 72, 3) := by decide +kernel
theorem dX10_init_123 : decode cX10_init 123 = .ok (.dup, 1) := by decide +kernel
theorem dX10_init_124 : decode cX10_init 124 = .ok (.aload_n 0, 1) := by decide +kernel
theorem dX10_init_125 : decode cX10_init 125 = .ok (.getfield 37, 3) := by decide +kernel
theorem dX10_init_128 : decode cX10_init 128 = .ok (.aload_n 0, 1) := by decide +kernel
theorem dX10_init_129 : decode cX10_init 129 = .ok (.getfield 49, 3) := by decide +kernel
theorem dX10_init_132 : decode cX10_init 132 = .ok (.aload_n 0, 1) := by decide +kernel
theorem dX10_init_133 : decode cX10_init 133 = .ok (.getfield 68, 3) := by decide +kernel
theorem dX10_init_136 : decode cX10_init 136 = .ok (.invokespecial 74, 3) := by decide +kernel
theorem dX10_init_139 : decode cX10_init 139 = .ok (.putfield 77, 3) := by decide +kernel
theorem dX10_init_142 : decode cX10_init 142 = .ok (.aload_n 0, 1) := by decide +kernel
theorem dX10_init_143 : decode cX10_init 143 = .ok (.new 81, 3) := by decide +kernel
theorem dX10_init_146 : decode cX10_init 146 = .ok (.dup, 1) := by decide +kernel
theorem dX10_init_147 : decode cX10_init 147 = .ok (.invokespecial 83, 3) := by decide +kernel
theorem dX10_init_150 : decode cX10_init 150 = .ok (.putfield 84, 3) := by decide +kernel
theorem dX10_init_153 : decode cX10_init 153 = .ok (.aload_n 0, 1) := by decide +kernel
theorem dX10_init_154 : decode cX10_init 154 = .ok (.iconst 5, 1) := by decide +kernel
theorem dX10_init_155 : decode cX10_init 155 = .ok (.newarray .int, 2) := by decide +kernel
theorem dX10_init_157 : decode cX10_init 157 = .ok (.putfield 88, 3) := by decide +kernel
theorem dX10_init_160 : decode cX10_init 160 = .ok (.aload_n 0, 1) := by decide +kernel
theorem dX10_init_161 : decode cX10_init 161 = .ok (.iconst (-1), 1) := by decide +kernel
theorem dX10_init_162 : decode cX10_init 162 = .ok (.putfield 92, 3) := by decide +kernel
theorem dX10_init_165 : decode cX10_init 165 = .ok (.return_, 1) := by decide +kernel
theorem dX11_init_0 : decode cX11_init 0 = .ok (.aload_n 0, 1) := by decide +kernel
theorem dX11_init_1 : decode cX11_init 1 = .ok (.invokespecial 3, 3) := by decide +kernel
theorem dX11_init_4 : decode cX11_init 4 = .ok (.aload_n 0, 1) := by decide +kernel
theorem dX11_init_5 : decode cX11_init 5 = .ok (.sipush 240, 3) := by decide +kernel
theorem dX11_init_8 : decode cX11_init 8 = .ok (.newarray .int, 2) := by decide +kernel
theorem dX11_init_10 : decode cX11_init 10 = .ok (.putfield 9, 3) := by decide +kernel
theorem dX11_init_13 : decode cX11_init 13 = .ok (.aload_n 0, 1) := by decide +kernel
theorem dX11_init_14 : decode cX11_init 14 = .ok (.sipush 2600, 3) := by decide +kernel
theorem dX11_init_17 : decode cX11_init 17 = .ok (.newarray .int, 2) := by decide +kernel
theorem dX11_init_19 : decode cX11_init 19 = .ok (.putfield 13, 3) := by decide +kernel
theorem dX11_init_22 : decode cX11_init 22 = .ok (.aload_n 0, 1) := by decide +kernel
theorem dX11_init_23 : decode cX11_init 23 = .ok (.sipush 2600, 3) := by decide +kernel
theorem dX11_init_26 : decode cX11_init 26 = .ok (.newarray .int, 2) := by decide +kernel
theorem dX11_init_28 : decode cX11_init 28 = .ok (.putfield 16, 3) := by decide +kernel
theorem dX11_init_31 : decode cX11_init 31 = .ok (.aload_n 0, 1) := by decide +kernel
theorem dX11_init_32 : decode cX11_init 32 = .ok (.iconst 5, 1) := by decide +kernel
theorem dX11_init_33 : decode cX11_init 33 = .ok (.newarray .int, 2) := by decide +kernel
theorem dX11_init_35 : decode cX11_init 35 = .ok (.putfield 19, 3) := by decide +kernel
theorem dX11_init_38 : decode cX11_init 38 = .ok (.aload_n 0, 1) := by decide +kernel
theorem dX11_init_39 : decode cX11_init 39 = .ok (.iconst 5, 1) := by decide +kernel
theorem dX11_init_40 : decode cX11_init 40 = .ok (.newarray .int, 2) := by decide +kernel
theorem dX11_init_42 : decode cX11_init 42 = .ok (.putfield 22, 3) := by decide +kernel
theorem dX11_init_45 : decode cX11_init 45 = .ok (.aload_n 0, 1) := by decide +kernel
theorem dX11_init_46 : decode cX11_init 46 = .ok (.sipush 700, 3) := by decide +kernel
theorem dX11_init_49 : decode cX11_init 49 = .ok (.newarray .int, 2) := by decide +kernel
theorem dX11_init_51 : decode cX11_init 51 = .ok (.putfield 25, 3) := by decide +kernel
theorem dX11_init_54 : decode cX11_init 54 = .ok (.aload_n 0, 1) := by decide +kernel
theorem dX11_init_55 : decode cX11_init 55 = .ok (.sipush 700, 3) := by decide +kernel
theorem dX11_init_58 : decode cX11_init 58 = .ok (.newarray .int, 2) := by decide +kernel
theorem dX11_init_60 : decode cX11_init 60 = .ok (.putfield 28, 3) := by decide +kernel
theorem dX11_init_63 : decode cX11_init 63 = .ok (.aload_n 0, 1) := by decide +kernel
theorem dX11_init_64 : decode cX11_init 64 = .ok (.sipush 700, 3) := by decide +kernel
theorem dX11_init_67 : decode cX11_init 67 = .ok (.newarray .int, 2) := by decide +kernel
theorem dX11_init_69 : decode cX11_init 69 = .ok (.putfield 31, 3) := by decide +kernel
theorem dX11_init_72 : decode cX11_init 72 = .ok (.aload_n 0, 1) := by decide +kernel
theorem dX11_init_73 : decode cX11_init 73 = .ok (.bipush 6, 2) := by decide +kernel
theorem dX11_init_75 : decode cX11_init 75 = .ok (.newarray .int, 2) := by decide +kernel
theorem dX11_init_77 : decode cX11_init 77 = .ok (.putfield 34, 3) := by decide +kernel
theorem dX11_init_80 : decode cX11_init 80 = .ok (.aload_n 0, 1) := by decide +kernel
theorem dX11_init_81 : decode cX11_init 81 = .ok (.bipush 80, 2) := by decide +kernel
theorem dX11_init_83 : decode cX11_init 83 = .ok (.newarray .int, 2) := by decide +kernel
theorem dX11_init_85 : decode cX11_init 85 = .ok (.putfield 37, 3) := by decide +kernel
theorem dX11_init_88 : decode cX11_init 88 = .ok (.aload_n 0, 1) := by decide +kernel
theorem dX11_init_89 : decode cX11_init 89 = .ok (.iconst 3, 1) := by decide +kernel
theorem dX11_init_90 : decode cX11_init 90 = .ok (.newarray .int, 2) := by decide +kernel
theorem dX11_init_92 : decode cX11_init 92 = .ok (.putfield 40, 3) := by decide +kernel
theorem dX11_init_95 : decode cX11_init 95 = .ok (.aload_n 0, 1) := by decide +kernel
theorem dX11_init_96 : decode cX11_init 96 = .ok (.bipush 24, 2) := by decide +kernel
theorem dX11_init_98 : decode cX11_init 98 = .ok (.newarray .int, 2) := by decide +kernel
theorem dX11_init_100 : decode cX11_init 100 = .ok (.putfield 43, 3) := by decide +kernel
theorem dX11_init_103 : decode cX11_init 103 = .ok (.aload_n 0, 1) := by decide +kernel
theorem dX11_init_104 : decode cX11_init 104 = .ok (.bipush 20, 2) := by decide +kernel
theorem dX11_init_106 : decode cX11_init 106 = .ok (.newarray .int, 2) := by decide +kernel
theorem dX11_init_108 : decode cX11_init 108 = .ok (.putfield 46, 3) := by decide +kernel
theorem dX11_init_111 : decode cX11_init 111 = .ok (.aload_n 0, 1) := by decide +kernel
theorem dX11_init_112 : decode cX11_init 112 = .ok (.iconst 3, 1) := by decide +kernel
theorem dX11_init_113 : decode cX11_init 113 = .ok (.newarray .int, 2) := by decide +kernel
theorem dX11_init_115 : decode cX11_init 115 = .ok (.putfield 49, 3) := by decide +kernel
theorem dX11_init_118 : decode cX11_init 118 = .ok (.aload_n 0, 1) := by decide +kernel
theorem dX11_init_119 : decode cX11_init 119 = .ok (.bipush 24, 2) := by decide +kernel
theorem dX11_init_121 : decode cX11_init 121 = .ok (.newarray .int, 2) := by decide +kernel
theorem dX11_init_123 : decode cX11_init 123 = .ok (.putfield 52, 3) := by decide +kernel
theorem dX11_init_126 : decode cX11_init 126 = .ok (.aload_n 0, 1) := by decide +kernel
theorem dX11_init_127 : decode cX11_init 127 = .ok (.bipush 20, 2) := by decide +kernel
theorem dX11_init_129 : decode cX11_init 129 = .ok (.newarray .int, 2) := by decide +kernel
theorem dX11_init_131 : decode cX11_init 131 = .ok (.putfield 55, 3) := by decide +kernel
theorem dX11_init_134 : decode cX11_init 134 = .ok (.aload_n 0, 1) := by decide +kernel
theorem dX11_init_135 : decode cX11_init 135 = .ok (.bipush 97, 2) := by decide +kernel
theorem dX11_init_137 : decode cX11_init 137 = .ok (.newarray .int, 2) := by decide +kernel
theorem dX11_init_139 : decode cX11_init 139 = .ok (.putfield 58, 3) := by decide +kernel
theorem dX11_init_142 : decode cX11_init 142 = .ok (.aload_n 0, 1) := by decide +kernel
theorem dX11_init_143 : decode cX11_init 143 = .ok (.iconst 5, 1) := by decide +kernel
theorem dX11_init_144 : decode cX11_init 144 = .ok (.newarray .int, 2) := by decide +kernel
theorem dX11_init_146 : decode cX11_init 146 = .ok (.putfield 61, 3) := by decide +kernel
theorem dX11_init_149 : decode cX11_init 149 = .ok (.aload_n 0, 1) := by decide +kernel
theorem dX11_init_150 : decode cX11_init 150 = .ok (.iconst (-1), 1) := by decide +kernel
theorem dX11_init_151 : decode cX11_init 151 = .ok (.putfield 64, 3) := by decide +kernel
theorem dX11_init_154 : decode cX11_init 154 = .ok (.aload_n 0, 1) := by decide +kernel
theorem dX11_init_155 : decode cX11_init 155 = .ok (.sipush 3880, 3) := by decide +kernel
theorem dX11_init_158 : decode cX11_init 158 = .ok (.newarray .int, 2) := by decide +kernel
theorem dX11_init_160 : decode cX11_init 160 = .ok (.putfield 68, 3) := by decide +kernel
theorem dX11_init_163 : decode cX11_init 163 = .ok (.aload_n 0, 1) := by decide +kernel
theorem dX11_init_164 : decode cX11_init 164 = .ok (.bipush 10, 2) := by decide +kernel
theorem dX11_init_166 : decode cX11_init 166 = .ok (.newarray .int, 2) := by decide +kernel
theorem dX11_init_168 : decode cX11_init 168 = .ok (.putfield 71, 3) := by decide +kernel
theorem dX11_init_171 : decode cX11_init 171 = .ok (.aload_n 0, 1) := by decide +kernel
theorem dX11_init_172 : decode cX11_init 172 = .ok (.bipush 6, 2) := by decide +kernel
theorem dX11_init_174 : decode cX11_init 174 = .ok (.newarray .int, 2) := by decide +kernel
theorem dX11_init_176 : decode cX11_init 176 = .ok (.putfield 74, 3) := by decide +kernel
theorem dX11_init_179 : decode cX11_init 179 = .ok (.aload_n 0, 1) := by decide +kernel
theorem dX11_init_180 : decode cX11_init 180 = .ok (.iconst 5, 1) := by decide +kernel
theorem dX11_init_181 : decode cX11_init 181 = .ok (.newarray .int, 2) := by decide +kernel
theorem dX11_init_183 : decode cX11_init 183 = .ok (.putfield 77, 3) := by decide +kernel
theorem dX11_init_186 : decode cX11_init 186 = .ok (.aload_n 0, 1) := by decide +kernel
theorem dX11_init_187 : decode cX11_init 187 = .ok (.bipush 97, 2) := by decide +kernel
theorem dX11_init_189 : decode cX11_init 189 = .ok (.newarray .int, 2) := by decide +kernel
theorem dX11_init_191 : decode cX11_init 191 = .ok (.putfield 80, 3) := by decide +kernel
theorem dX11_init_194 : decode cX11_init 194 = .ok (.return_, 1) := by decide +kernel
end
section
def wA : List Cond := lw_tbl.filter goodWord
theorem zw (i : Nat) {w : Cond} (h : lw_tbl[i]? = some w) (hg : goodWord w = true) : w ∈ wA := List.mem_filter.mpr ⟨List.mem_of_getElem? h, hg⟩
theorem zin {ws : List Cond} (ps : List Nat) (hp : ws = ps.filterMap (fun i => lw_tbl[i]?)) (h : ws.all goodWord = true) : ∀ w ∈ ws, w ∈ wA := by
  intro w hw
  have h1 := List.all_eq_true.mp h w hw
  rw [hp] at hw
  obtain ⟨i, -, hi⟩ := List.mem_filterMap.mp hw
  exact List.mem_filter.mpr ⟨List.mem_of_getElem? hi, h1⟩
theorem zgood {w : Cond} (h : w ∈ wA) : w ∈ wA ∧ ((w.onTables && w.keeps) = true ∨ ∃ ty, w = .arrayClass ty) := ⟨h, good_of_word (List.mem_filter.mp h).2⟩
theorem zgI {w : Cond} (hc : w ∈ wA) : GoodIn wA (w :: wA) := by
  intro v hv
  rcases List.mem_cons.mp hv with rfl | h
  · exact zgood hc
  · exact zgood h
theorem zgV {own C : String} {idx : Nat} {y : MethodName} {w : Cond} (h1 : Cond.methodLink own idx y ∈ wA) (h2 : Cond.instanceMethod y ∈ wA) (h3 : Cond.selects C y y ∈ wA) (h4 : Cond.initialized C ∈ wA) (hc : w ∈ wA) : GoodIn wA (wsV own idx C y (w :: wA)) := by
  intro v hv
  unfold wsV at hv
  rcases List.mem_append.mp hv with h | h
  · simp only [List.mem_cons, List.not_mem_nil, or_false] at h
    rcases h with rfl | rfl | rfl | rfl
    · exact zgood h1
    · exact zgood h2
    · exact zgood h3
    · exact zgood h4
  · exact zgI hc v h
theorem zgS {own : String} {idx : Nat} {y : MethodName} {w : Cond} (h1 : Cond.methodLink own idx y ∈ wA) (h2 : Cond.static y ∈ wA) (h4 : Cond.initialized own ∈ wA) (hc : w ∈ wA) : GoodIn wA (wsS own idx y (w :: wA)) := by
  intro v hv
  unfold wsS at hv
  rcases List.mem_append.mp hv with h | h
  · simp only [List.mem_cons, List.not_mem_nil, or_false] at h
    rcases h with rfl | rfl | rfl
    · exact zgood h1
    · exact zgood h2
    · exact zgood h4
  · exact zgI hc v h
/-- a method's start: the arguments, the heap's size, the world, the tables, the cells apart -/
def zP (D : va_G) (ts : List (ClassId × FieldType)) (av : List Value) (sz : Nat) (ws : va_W) : Array Value → State → Prop := va_Pc av (fun U => U.heap.size = sz ∧ va_P D vwCl ws U.heap ∧ va_K D vwCl ts U ∧ va_D (fun _ => True) ws)
theorem zPb {D : va_G} {ts : List (ClassId × FieldType)} {av : List Value} {sz : Nat} {ws : va_W} : FrameBlind (zP D ts av sz ws) := fun a U g mk q => by
  obtain ⟨q0, q1, qP, qK, qD⟩ := q
  exact ⟨q0, q1, qP, va_K.moved (u := U) (U := U.calling g mk a) (Vm.Alike.refl U.vm) qK, qD⟩
theorem zPS {D : va_G} {ts : List (ClassId × FieldType)} {As : List Value} {ws : va_W} {s : State} {H : Heap} {A : Nat → Prop} (hP : va_P D vwCl ws H) (hK : va_K D vwCl ts s) (hD : va_D A ws) : PreS s H (zP D ts As H.size ws) As :=
  ⟨zPb, fun U hU hW => ⟨rfl, by rw [hU], by rw [hU]; exact hP, va_K.moved hW.alike hK, hD.weaken (fun _ _ _ _ => trivial)⟩⟩
theorem zPV {D : va_G} {ts : List (ClassId × FieldType)} {As : List Value} {ws : va_W} {s : State} {H : Heap} {A : Nat → Prop} {C : String} {b : Addr} (hP : va_P D vwCl ws H) (hK : va_K D vwCl ts s) (hD : va_D A ws) (hr : ∃ cell : Cell, H[b]? = some cell ∧ cell.vm.isStatics = false ∧ s.vm.findClass C = some cell.cls) : PreV s H C b (zP D ts (.ref b :: As) H.size ws) As :=
  ⟨zPb, hr, fun U hU hW => ⟨rfl, by rw [hU], by rw [hU]; exact hP, va_K.moved hW.alike hK, hD.weaken (fun _ _ _ _ => trivial)⟩⟩
theorem zP0 {D : va_G} {cl : List vw_C} {H : Heap} : va_P D cl [] H := fun k q h => by simp at h
theorem zD0 {A : Nat → Prop} : va_D A [] := ⟨fun i j p q h => by simp at h, fun k q h => by simp at h⟩
theorem zfr {A : Nat → Prop} {H0 H : Heap} {locs : List Loc} (hS : va_S A H0 H locs) (hA : ∀ q : Nat, H0.size ≤ q → A q) : ∀ q, va_A [] H.size q → A q := by
  intro q h
  rcases h with ⟨k, e, h⟩ | h
  · simp at h
  · exact hA q (Nat.le_trans hS.1 h)
theorem zkeep {D : va_G} {cl : List vw_C} {ws : va_W} {H H1 : Heap} (hP : va_P D cl ws H) (hk : ∀ q : Nat, q < H.size → ¬ va_A [] H.size q → H1[q]? = H[q]?) : va_P D cl ws H1 := by
  refine hP.kept (fun k q hq => hk q.1 (hP k q hq).lt ?_)
  rintro (⟨i, e, h⟩ | h)
  · simp at h
  · exact absurd (hP k q hq).lt (Nat.not_lt.mpr h)
theorem zstart {p : Program} {l : Launch} {e : Env} {R : Room} {s : State} {m : MethodId} {args : Array Value} {below : List Frame} {meth : Method} {c : Code} {cells slots : Nat} {Q : State → Prop} {g : JFrame} (kk : ∀ H : Heap, H = s.heap → W p l e R s m args below meth c H [] cells slots Q g) : W p l e R s m args below meth c s.heap [] cells slots Q g := kk _ rfl
theorem z1 {x y : Int32} {a b : Int} (hx : x.toInt = a) (hy : y.toInt = b) (h : x < y) : a < b := by rw [← hx, ← hy]; exact Int32.lt_iff_toInt_lt.mp h
theorem z2 {x y : Int32} {a b : Int} (hx : x.toInt = a) (hy : y.toInt = b) (h : ¬ x < y) : b ≤ a := by rw [← hx, ← hy]; exact Int.not_lt.mp (fun q => h (Int32.lt_iff_toInt_lt.mpr q))
theorem z3 {x y : Int32} {a b : Int} (hx : x.toInt = a) (hy : y.toInt = b) (h : x ≤ y) : a ≤ b := by rw [← hx, ← hy]; exact Int32.le_iff_toInt_le.mp h
theorem z4 {x y : Int32} {a b : Int} (hx : x.toInt = a) (hy : y.toInt = b) (h : ¬ x ≤ y) : b < a := by rw [← hx, ← hy]; exact Int.not_le.mp (fun q => h (Int32.le_iff_toInt_le.mpr q))
theorem z5 {x y : Int32} {a b : Int} (hx : x.toInt = a) (hy : y.toInt = b) (h : x = y) : a = b := by rw [← hx, ← hy, h]
theorem z6 {x y : Int32} {a b : Int} (hx : x.toInt = a) (hy : y.toInt = b) (h : ¬ x = y) : ¬ a = b := by rw [← hx, ← hy]; exact fun q => h (Int32.toInt_inj.mp q)
theorem z7 {x k : Int32} {a : Int} (hk : k.toInt = a) (h : x.toInt = a) : x = k := Int32.toInt_inj.mp (by rw [h, hk])
theorem zsw (x : Int32) (lo hi : Int) : (x.toInt < lo ∨ hi < x.toInt) ∨ (lo ≤ x.toInt ∧ x.toInt ≤ hi) := by omega
theorem zcA {D : va_G} {cl : List vw_C} {tys : List (ClassId × FieldType)} {s : State} {ty : FieldType} {c1 c2 : ClassId} (hK : va_K D cl tys s) (i j : Nat) (h1 : tys[i]? = some (c1, ty)) (h2 : tys[j]? = some (c2, ty)) : c2 = c1 := by
  have a := (hK.2 i _ h1).2
  have b := (hK.2 j _ h2).2
  cases ty <;> first | exact Option.some.inj (b.symm.trans a) | (obtain ⟨_, _, _, _, _, a⟩ := a; obtain ⟨_, _, _, _, _, b⟩ := b; exact Option.some.inj (b.symm.trans a))
set_option maxRecDepth 20000 in
theorem iX0 : ∀ w ∈ u_ws RX0 TX0 3, w ∈ wA := zin [272, 274, 276] (by decide +kernel) (by decide +kernel)
theorem fsX0 : ∀ j, j < 3 → defaultValue (tyX0 j) = vp_V [.null, .int 0, .int 0] j := by decide +kernel
set_option maxRecDepth 20000 in
theorem iX1 : ∀ w ∈ u_ws RX1 TX1 5, w ∈ wA := zin [201, 203, 205, 207, 209] (by decide +kernel) (by decide +kernel)
theorem fsX1 : ∀ j, j < 5 → defaultValue (tyX1 j) = vp_V [.null, .null, .null, .int 0, .int 0] j := by decide +kernel
set_option maxRecDepth 20000 in
theorem iX2 : ∀ w ∈ u_ws RX2 TX2 3, w ∈ wA := zin [157, 159, 161] (by decide +kernel) (by decide +kernel)
theorem fsX2 : ∀ j, j < 3 → defaultValue (tyX2 j) = vp_V [.null, .null, .int 0] j := by decide +kernel
set_option maxRecDepth 20000 in
theorem iX3 : ∀ w ∈ u_ws RX3 TX3 1, w ∈ wA := zin [353] (by decide +kernel) (by decide +kernel)
theorem fsX3 : ∀ j, j < 1 → defaultValue (tyX3 j) = vp_V [.long 0] j := by decide +kernel
set_option maxRecDepth 20000 in
theorem iX4 : ∀ w ∈ u_ws RX4 TX4 1, w ∈ wA := zin [577] (by decide +kernel) (by decide +kernel)
theorem fsX4 : ∀ j, j < 1 → defaultValue (tyX4 j) = vp_V [.null] j := by decide +kernel
set_option maxRecDepth 20000 in
theorem iX5 : ∀ w ∈ u_ws RX5 TX5 3, w ∈ wA := zin [173, 175, 177] (by decide +kernel) (by decide +kernel)
theorem fsX5 : ∀ j, j < 3 → defaultValue (tyX5 j) = vp_V [.null, .int 0, .null] j := by decide +kernel
set_option maxRecDepth 20000 in
theorem iX6 : ∀ w ∈ u_ws RX6 TX6 9, w ∈ wA := zin [326, 328, 330, 332, 334, 336, 338, 340, 342] (by decide +kernel) (by decide +kernel)
theorem fsX6 : ∀ j, j < 9 → defaultValue (tyX6 j) = vp_V [.null, .null, .null, .null, .long 0, .int 0, .null, .null, .null] j := by decide +kernel
set_option maxRecDepth 20000 in
theorem iX7 : ∀ w ∈ u_ws RX7 TX7 9, w ∈ wA := zin [243, 245, 247, 249, 251, 253, 255, 257, 259] (by decide +kernel) (by decide +kernel)
theorem fsX7 : ∀ j, j < 9 → defaultValue (tyX7 j) = vp_V [.null, .null, .null, .int 0, .int 0, .int 0, .int 0, .int 0, .int 0] j := by decide +kernel
set_option maxRecDepth 20000 in
theorem iX8 : ∀ w ∈ u_ws RX8 TX8 7, w ∈ wA := zin [295, 297, 299, 301, 303, 305, 307] (by decide +kernel) (by decide +kernel)
theorem fsX8 : ∀ j, j < 7 → defaultValue (tyX8 j) = vp_V [.null, .null, .null, .null, .null, .null, .null] j := by decide +kernel
set_option maxRecDepth 20000 in
theorem iX9 : ∀ w ∈ u_ws RX9 TX9 3, w ∈ wA := zin [140, 142, 144] (by decide +kernel) (by decide +kernel)
theorem fsX9 : ∀ j, j < 3 → defaultValue (tyX9 j) = vp_V [.null, .int 0, .int 0] j := by decide +kernel
set_option maxRecDepth 20000 in
theorem iX10 : ∀ w ∈ u_ws RX10 TX10 17, w ∈ wA := zin [373, 375, 377, 379, 381, 383, 385, 387, 389, 391, 393, 395, 397, 399, 401, 403, 405] (by decide +kernel) (by decide +kernel)
theorem fsX10 : ∀ j, j < 17 → defaultValue (tyX10 j) = vp_V [.null, .null, .null, .null, .null, .null, .null, .null, .null, .null, .null, .null, .null, .int 0, .int 0, .int 0, .int 0] j := by decide +kernel
set_option maxRecDepth 20000 in
theorem iX11 : ∀ w ∈ u_ws RX11 TX11 41, w ∈ wA := zin [1168, 1170, 1172, 1174, 1176, 1178, 1180, 1182, 1184, 1186, 1188, 1190, 1192, 1194, 1196, 1198, 1200, 1202, 1204, 1206, 1208, 1210, 1212, 1214, 1216, 1218, 1220, 1222, 1224, 1226, 1228, 1230, 1232, 1234, 1236, 1238, 1240, 1242, 1244, 1246, 1248] (by decide +kernel) (by decide +kernel)
theorem fsX11 : ∀ j, j < 41 → defaultValue (tyX11 j) = vp_V [.int 0, .null, .int 0, .int 0, .int 0, .int 0, .null, .null, .null, .null, .null, .null, .null, .int 0, .int 0, .null, .null, .null, .null, .null, .int 0, .int 0, .null, .null, .null, .int 0, .int 0, .null, .null, .int 0, .int 0, .null, .int 0, .long 0, .null, .int 0, .int 0, .null, .null, .null, .int 0] j := by decide +kernel
set_option maxRecDepth 20000 in
theorem qw99 : Cond.initialized RX9 ∈ wA := zw 99 (by decide +kernel) (by decide +kernel)
set_option maxRecDepth 20000 in
theorem qw100 : Cond.initialized RX2 ∈ wA := zw 100 (by decide +kernel) (by decide +kernel)
set_option maxRecDepth 20000 in
theorem qw101 : Cond.initialized RX5 ∈ wA := zw 101 (by decide +kernel) (by decide +kernel)
set_option maxRecDepth 20000 in
theorem qw102 : Cond.initialized RX1 ∈ wA := zw 102 (by decide +kernel) (by decide +kernel)
set_option maxRecDepth 20000 in
theorem qw103 : Cond.initialized RX7 ∈ wA := zw 103 (by decide +kernel) (by decide +kernel)
set_option maxRecDepth 20000 in
theorem qw104 : Cond.initialized RX0 ∈ wA := zw 104 (by decide +kernel) (by decide +kernel)
set_option maxRecDepth 20000 in
theorem qw105 : Cond.initialized RX8 ∈ wA := zw 105 (by decide +kernel) (by decide +kernel)
set_option maxRecDepth 20000 in
theorem qw106 : Cond.initialized RX6 ∈ wA := zw 106 (by decide +kernel) (by decide +kernel)
set_option maxRecDepth 20000 in
theorem qw107 : Cond.initialized RX3 ∈ wA := zw 107 (by decide +kernel) (by decide +kernel)
set_option maxRecDepth 20000 in
theorem qw123 : Cond.methodLink RX10 1 objectInit ∈ wA := zw 123 (by decide +kernel) (by decide +kernel)
set_option maxRecDepth 20000 in
theorem qw124 : Cond.instanceMethod objectInit ∈ wA := zw 124 (by decide +kernel) (by decide +kernel)
set_option maxRecDepth 20000 in
theorem qw125 : Cond.code objectInit ⟨#[0xb1]⟩ 1 none ∈ wA := zw 125 (by decide +kernel) (by decide +kernel)
set_option maxRecDepth 20000 in
theorem qw126 : Cond.classLink RX10 7 RX9 ∈ wA := zw 126 (by decide +kernel) (by decide +kernel)
set_option maxRecDepth 20000 in
theorem qw127 : Cond.instantiable RX9 3 ∈ wA := zw 127 (by decide +kernel) (by decide +kernel)
set_option maxRecDepth 20000 in
theorem qw129 : Cond.instanceMethod yX9_init ∈ wA := zw 129 (by decide +kernel) (by decide +kernel)
set_option maxRecDepth 20000 in
theorem qw130 : Cond.code yX9_init cX9_init 1 none ∈ wA := zw 130 (by decide +kernel) (by decide +kernel)
set_option maxRecDepth 20000 in
theorem qw131 : Cond.methodLink RX9 3 objectInit ∈ wA := zw 131 (by decide +kernel) (by decide +kernel)
set_option maxRecDepth 20000 in
theorem qw132 : Cond.fieldLink RX9 9 "NinePortraits$Tape" "bytes" "[I" ∈ wA := zw 132 (by decide +kernel) (by decide +kernel)
set_option maxRecDepth 20000 in
theorem qw147 : Cond.arrayClass .int ∈ wA := zw 147 (by decide +kernel) (by decide +kernel)
set_option maxRecDepth 20000 in
theorem qw148 : Cond.classLink RX10 16 RX2 ∈ wA := zw 148 (by decide +kernel) (by decide +kernel)
set_option maxRecDepth 20000 in
theorem qw149 : Cond.instantiable RX2 3 ∈ wA := zw 149 (by decide +kernel) (by decide +kernel)
set_option maxRecDepth 20000 in
theorem qw151 : Cond.instanceMethod yX2_init ∈ wA := zw 151 (by decide +kernel) (by decide +kernel)
set_option maxRecDepth 20000 in
theorem qw152 : Cond.code yX2_init cX2_init 1 none ∈ wA := zw 152 (by decide +kernel) (by decide +kernel)
set_option maxRecDepth 20000 in
theorem qw153 : Cond.methodLink RX2 3 objectInit ∈ wA := zw 153 (by decide +kernel) (by decide +kernel)
set_option maxRecDepth 20000 in
theorem qw164 : Cond.classLink RX10 23 RX5 ∈ wA := zw 164 (by decide +kernel) (by decide +kernel)
set_option maxRecDepth 20000 in
theorem qw165 : Cond.instantiable RX5 3 ∈ wA := zw 165 (by decide +kernel) (by decide +kernel)
set_option maxRecDepth 20000 in
theorem qw167 : Cond.instanceMethod yX5_init ∈ wA := zw 167 (by decide +kernel) (by decide +kernel)
set_option maxRecDepth 20000 in
theorem qw168 : Cond.code yX5_init cX5_init 1 none ∈ wA := zw 168 (by decide +kernel) (by decide +kernel)
set_option maxRecDepth 20000 in
theorem qw169 : Cond.methodLink RX5 3 objectInit ∈ wA := zw 169 (by decide +kernel) (by decide +kernel)
set_option maxRecDepth 20000 in
theorem qw170 : Cond.fieldLink RX5 9 "NinePortraits$LawReader" "steps" "[I" ∈ wA := zw 170 (by decide +kernel) (by decide +kernel)
set_option maxRecDepth 20000 in
theorem qw180 : Cond.classLink RX10 30 RX1 ∈ wA := zw 180 (by decide +kernel) (by decide +kernel)
set_option maxRecDepth 20000 in
theorem qw181 : Cond.instantiable RX1 5 ∈ wA := zw 181 (by decide +kernel) (by decide +kernel)
set_option maxRecDepth 20000 in
theorem qw183 : Cond.instanceMethod yX1_init ∈ wA := zw 183 (by decide +kernel) (by decide +kernel)
set_option maxRecDepth 20000 in
theorem qw184 : Cond.code yX1_init cX1_init 1 none ∈ wA := zw 184 (by decide +kernel) (by decide +kernel)
set_option maxRecDepth 20000 in
theorem qw185 : Cond.methodLink RX1 3 objectInit ∈ wA := zw 185 (by decide +kernel) (by decide +kernel)
set_option maxRecDepth 20000 in
theorem qw186 : Cond.fieldLink RX1 9 "NinePortraits$Court" "rules" "[I" ∈ wA := zw 186 (by decide +kernel) (by decide +kernel)
set_option maxRecDepth 20000 in
theorem qw188 : Cond.fieldLink RX1 15 "NinePortraits$Court" "brideParts" "[I" ∈ wA := zw 188 (by decide +kernel) (by decide +kernel)
set_option maxRecDepth 20000 in
theorem qw190 : Cond.fieldLink RX1 18 "NinePortraits$Court" "painterParts" "[I" ∈ wA := zw 190 (by decide +kernel) (by decide +kernel)
set_option maxRecDepth 20000 in
theorem qw212 : Cond.classLink RX10 40 RX4 ∈ wA := zw 212 (by decide +kernel) (by decide +kernel)
set_option maxRecDepth 20000 in
theorem qw214 : Cond.classLink RX10 46 RX7 ∈ wA := zw 214 (by decide +kernel) (by decide +kernel)
set_option maxRecDepth 20000 in
theorem qw215 : Cond.instantiable RX7 9 ∈ wA := zw 215 (by decide +kernel) (by decide +kernel)
set_option maxRecDepth 20000 in
theorem qw217 : Cond.instanceMethod yX7_init ∈ wA := zw 217 (by decide +kernel) (by decide +kernel)
set_option maxRecDepth 20000 in
theorem qw218 : Cond.code yX7_init cX7_init 1 none ∈ wA := zw 218 (by decide +kernel) (by decide +kernel)
set_option maxRecDepth 20000 in
theorem qw219 : Cond.methodLink RX7 3 objectInit ∈ wA := zw 219 (by decide +kernel) (by decide +kernel)
set_option maxRecDepth 20000 in
theorem qw220 : Cond.fieldLink RX7 9 "NinePortraits$State" "pays" "[I" ∈ wA := zw 220 (by decide +kernel) (by decide +kernel)
set_option maxRecDepth 20000 in
theorem qw223 : Cond.fieldLink RX7 15 "NinePortraits$State" "fears" "[I" ∈ wA := zw 223 (by decide +kernel) (by decide +kernel)
set_option maxRecDepth 20000 in
theorem qw226 : Cond.fieldLink RX7 18 "NinePortraits$State" "portraits" "[I" ∈ wA := zw 226 (by decide +kernel) (by decide +kernel)
set_option maxRecDepth 20000 in
theorem qw236 : Cond.fieldLink RX7 21 "NinePortraits$State" "wed" "I" ∈ wA := zw 236 (by decide +kernel) (by decide +kernel)
set_option maxRecDepth 20000 in
theorem qw262 : Cond.classLink RX10 56 RX0 ∈ wA := zw 262 (by decide +kernel) (by decide +kernel)
set_option maxRecDepth 20000 in
theorem qw263 : Cond.instantiable RX0 3 ∈ wA := zw 263 (by decide +kernel) (by decide +kernel)
set_option maxRecDepth 20000 in
theorem qw265 : Cond.instanceMethod yX0_init ∈ wA := zw 265 (by decide +kernel) (by decide +kernel)
set_option maxRecDepth 20000 in
theorem qw266 : Cond.code yX0_init cX0_init 1 none ∈ wA := zw 266 (by decide +kernel) (by decide +kernel)
set_option maxRecDepth 20000 in
theorem qw267 : Cond.methodLink RX0 3 objectInit ∈ wA := zw 267 (by decide +kernel) (by decide +kernel)
set_option maxRecDepth 20000 in
theorem qw268 : Cond.fieldLink RX0 11 "NinePortraits$Acts" "rows" "[I" ∈ wA := zw 268 (by decide +kernel) (by decide +kernel)
set_option maxRecDepth 20000 in
theorem qw279 : Cond.classLink RX10 63 RX8 ∈ wA := zw 279 (by decide +kernel) (by decide +kernel)
set_option maxRecDepth 20000 in
theorem qw280 : Cond.instantiable RX8 7 ∈ wA := zw 280 (by decide +kernel) (by decide +kernel)
set_option maxRecDepth 20000 in
theorem qw281 : Cond.methodLink RX10 65 yX8_init ∈ wA := zw 281 (by decide +kernel) (by decide +kernel)
set_option maxRecDepth 20000 in
theorem qw282 : Cond.instanceMethod yX8_init ∈ wA := zw 282 (by decide +kernel) (by decide +kernel)
set_option maxRecDepth 20000 in
theorem qw283 : Cond.code yX8_init cX8_init 3 none ∈ wA := zw 283 (by decide +kernel) (by decide +kernel)
set_option maxRecDepth 20000 in
theorem qw284 : Cond.methodLink RX8 3 objectInit ∈ wA := zw 284 (by decide +kernel) (by decide +kernel)
set_option maxRecDepth 20000 in
theorem qw285 : Cond.fieldLink RX8 9 "NinePortraits$Studio" "oneLooks" "[I" ∈ wA := zw 285 (by decide +kernel) (by decide +kernel)
set_option maxRecDepth 20000 in
theorem qw287 : Cond.fieldLink RX8 15 "NinePortraits$Studio" "otherLooks" "[I" ∈ wA := zw 287 (by decide +kernel) (by decide +kernel)
set_option maxRecDepth 20000 in
theorem qw289 : Cond.fieldLink RX8 24 "NinePortraits$Studio" "court" "LNinePortraits$Court;" ∈ wA := zw 289 (by decide +kernel) (by decide +kernel)
set_option maxRecDepth 20000 in
theorem qw290 : Cond.fieldLink RX8 28 "NinePortraits$Studio" "state" "LNinePortraits$State;" ∈ wA := zw 290 (by decide +kernel) (by decide +kernel)
set_option maxRecDepth 20000 in
theorem qw291 : Cond.fieldLink RX8 18 "NinePortraits$Studio" "letters" "[I" ∈ wA := zw 291 (by decide +kernel) (by decide +kernel)
set_option maxRecDepth 20000 in
theorem qw292 : Cond.fieldLink RX8 21 "NinePortraits$Studio" "stack" "[I" ∈ wA := zw 292 (by decide +kernel) (by decide +kernel)
set_option maxRecDepth 20000 in
theorem qw310 : Cond.classLink RX10 72 RX6 ∈ wA := zw 310 (by decide +kernel) (by decide +kernel)
set_option maxRecDepth 20000 in
theorem qw311 : Cond.instantiable RX6 9 ∈ wA := zw 311 (by decide +kernel) (by decide +kernel)
set_option maxRecDepth 20000 in
theorem qw312 : Cond.methodLink RX10 74 yX6_init ∈ wA := zw 312 (by decide +kernel) (by decide +kernel)
set_option maxRecDepth 20000 in
theorem qw313 : Cond.instanceMethod yX6_init ∈ wA := zw 313 (by decide +kernel) (by decide +kernel)
set_option maxRecDepth 20000 in
theorem qw314 : Cond.code yX6_init cX6_init 4 none ∈ wA := zw 314 (by decide +kernel) (by decide +kernel)
set_option maxRecDepth 20000 in
theorem qw315 : Cond.methodLink RX6 3 objectInit ∈ wA := zw 315 (by decide +kernel) (by decide +kernel)
set_option maxRecDepth 20000 in
theorem qw316 : Cond.fieldLink RX6 25 "NinePortraits$Mind" "court" "LNinePortraits$Court;" ∈ wA := zw 316 (by decide +kernel) (by decide +kernel)
set_option maxRecDepth 20000 in
theorem qw317 : Cond.fieldLink RX6 29 "NinePortraits$Mind" "state" "LNinePortraits$State;" ∈ wA := zw 317 (by decide +kernel) (by decide +kernel)
set_option maxRecDepth 20000 in
theorem qw318 : Cond.fieldLink RX6 33 "NinePortraits$Mind" "studio" "LNinePortraits$Studio;" ∈ wA := zw 318 (by decide +kernel) (by decide +kernel)
set_option maxRecDepth 20000 in
theorem qw319 : Cond.fieldLink RX6 9 "NinePortraits$Mind" "weights" "[J" ∈ wA := zw 319 (by decide +kernel) (by decide +kernel)
set_option maxRecDepth 20000 in
theorem qw323 : Cond.fieldLink RX6 15 "NinePortraits$Mind" "views" "[I" ∈ wA := zw 323 (by decide +kernel) (by decide +kernel)
set_option maxRecDepth 20000 in
theorem qw324 : Cond.fieldLink RX6 19 "NinePortraits$Mind" "alike" "[I" ∈ wA := zw 324 (by decide +kernel) (by decide +kernel)
set_option maxRecDepth 20000 in
theorem qw325 : Cond.fieldLink RX6 22 "NinePortraits$Mind" "tellers" "[I" ∈ wA := zw 325 (by decide +kernel) (by decide +kernel)
set_option maxRecDepth 20000 in
theorem qw345 : Cond.arrayClass .long ∈ wA := zw 345 (by decide +kernel) (by decide +kernel)
set_option maxRecDepth 20000 in
theorem qw346 : Cond.classLink RX10 81 RX3 ∈ wA := zw 346 (by decide +kernel) (by decide +kernel)
set_option maxRecDepth 20000 in
theorem qw347 : Cond.instantiable RX3 1 ∈ wA := zw 347 (by decide +kernel) (by decide +kernel)
set_option maxRecDepth 20000 in
theorem qw349 : Cond.instanceMethod yX3_init ∈ wA := zw 349 (by decide +kernel) (by decide +kernel)
set_option maxRecDepth 20000 in
theorem qw350 : Cond.code yX3_init cX3_init 1 none ∈ wA := zw 350 (by decide +kernel) (by decide +kernel)
set_option maxRecDepth 20000 in
theorem qw351 : Cond.methodLink RX3 1 objectInit ∈ wA := zw 351 (by decide +kernel) (by decide +kernel)
set_option maxRecDepth 20000 in
theorem qw356 : Cond.fieldLink RX10 10 "NinePortraits" "tape" "LNinePortraits$Tape;" ∈ wA := zw 356 (by decide +kernel) (by decide +kernel)
set_option maxRecDepth 20000 in
theorem qw357 : Cond.fieldLink RX10 19 "NinePortraits" "courtReader" "LNinePortraits$CourtReader;" ∈ wA := zw 357 (by decide +kernel) (by decide +kernel)
set_option maxRecDepth 20000 in
theorem qw358 : Cond.fieldLink RX10 26 "NinePortraits" "lawReader" "LNinePortraits$LawReader;" ∈ wA := zw 358 (by decide +kernel) (by decide +kernel)
set_option maxRecDepth 20000 in
theorem qw359 : Cond.fieldLink RX10 33 "NinePortraits" "draft" "LNinePortraits$Court;" ∈ wA := zw 359 (by decide +kernel) (by decide +kernel)
set_option maxRecDepth 20000 in
theorem qw360 : Cond.fieldLink RX10 37 "NinePortraits" "court" "LNinePortraits$Court;" ∈ wA := zw 360 (by decide +kernel) (by decide +kernel)
set_option maxRecDepth 20000 in
theorem qw361 : Cond.fieldLink RX10 42 "NinePortraits" "laws" "[LNinePortraits$Law;" ∈ wA := zw 361 (by decide +kernel) (by decide +kernel)
set_option maxRecDepth 20000 in
theorem qw362 : Cond.fieldLink RX10 49 "NinePortraits" "state" "LNinePortraits$State;" ∈ wA := zw 362 (by decide +kernel) (by decide +kernel)
set_option maxRecDepth 20000 in
theorem qw363 : Cond.fieldLink RX10 53 "NinePortraits" "kept" "LNinePortraits$State;" ∈ wA := zw 363 (by decide +kernel) (by decide +kernel)
set_option maxRecDepth 20000 in
theorem qw364 : Cond.fieldLink RX10 59 "NinePortraits" "acts" "LNinePortraits$Acts;" ∈ wA := zw 364 (by decide +kernel) (by decide +kernel)
set_option maxRecDepth 20000 in
theorem qw365 : Cond.fieldLink RX10 68 "NinePortraits" "studio" "LNinePortraits$Studio;" ∈ wA := zw 365 (by decide +kernel) (by decide +kernel)
set_option maxRecDepth 20000 in
theorem qw366 : Cond.fieldLink RX10 77 "NinePortraits" "mind" "LNinePortraits$Mind;" ∈ wA := zw 366 (by decide +kernel) (by decide +kernel)
set_option maxRecDepth 20000 in
theorem qw367 : Cond.fieldLink RX10 84 "NinePortraits" "draws" "LNinePortraits$Draws;" ∈ wA := zw 367 (by decide +kernel) (by decide +kernel)
set_option maxRecDepth 20000 in
theorem qw368 : Cond.fieldLink RX10 88 "NinePortraits" "refused" "[I" ∈ wA := zw 368 (by decide +kernel) (by decide +kernel)
set_option maxRecDepth 20000 in
theorem qw370 : Cond.fieldLink RX10 92 "NinePortraits" "lawThatHolds" "I" ∈ wA := zw 370 (by decide +kernel) (by decide +kernel)
set_option maxRecDepth 20000 in
theorem qw1126 : Cond.methodLink RX11 3 objectInit ∈ wA := zw 1126 (by decide +kernel) (by decide +kernel)
set_option maxRecDepth 20000 in
theorem qw1128 : Cond.fieldLink RX11 9 "NinePortraitsModel" "tape" "[I" ∈ wA := zw 1128 (by decide +kernel) (by decide +kernel)
set_option maxRecDepth 20000 in
theorem qw1133 : Cond.fieldLink RX11 13 "NinePortraitsModel" "code" "[I" ∈ wA := zw 1133 (by decide +kernel) (by decide +kernel)
set_option maxRecDepth 20000 in
theorem qw1134 : Cond.fieldLink RX11 16 "NinePortraitsModel" "value" "[I" ∈ wA := zw 1134 (by decide +kernel) (by decide +kernel)
set_option maxRecDepth 20000 in
theorem qw1135 : Cond.fieldLink RX11 19 "NinePortraitsModel" "codes" "[I" ∈ wA := zw 1135 (by decide +kernel) (by decide +kernel)
set_option maxRecDepth 20000 in
theorem qw1136 : Cond.fieldLink RX11 22 "NinePortraitsModel" "clauses" "[I" ∈ wA := zw 1136 (by decide +kernel) (by decide +kernel)
set_option maxRecDepth 20000 in
theorem qw1137 : Cond.fieldLink RX11 25 "NinePortraitsModel" "testFrom" "[I" ∈ wA := zw 1137 (by decide +kernel) (by decide +kernel)
set_option maxRecDepth 20000 in
theorem qw1138 : Cond.fieldLink RX11 28 "NinePortraitsModel" "sumFrom" "[I" ∈ wA := zw 1138 (by decide +kernel) (by decide +kernel)
set_option maxRecDepth 20000 in
theorem qw1139 : Cond.fieldLink RX11 31 "NinePortraitsModel" "sumTo" "[I" ∈ wA := zw 1139 (by decide +kernel) (by decide +kernel)
set_option maxRecDepth 20000 in
theorem qw1142 : Cond.fieldLink RX11 34 "NinePortraitsModel" "letters" "[I" ∈ wA := zw 1142 (by decide +kernel) (by decide +kernel)
set_option maxRecDepth 20000 in
theorem qw1143 : Cond.fieldLink RX11 37 "NinePortraitsModel" "stack" "[I" ∈ wA := zw 1143 (by decide +kernel) (by decide +kernel)
set_option maxRecDepth 20000 in
theorem qw1144 : Cond.fieldLink RX11 40 "NinePortraitsModel" "readRule" "[I" ∈ wA := zw 1144 (by decide +kernel) (by decide +kernel)
set_option maxRecDepth 20000 in
theorem qw1145 : Cond.fieldLink RX11 43 "NinePortraitsModel" "readBride" "[I" ∈ wA := zw 1145 (by decide +kernel) (by decide +kernel)
set_option maxRecDepth 20000 in
theorem qw1146 : Cond.fieldLink RX11 46 "NinePortraitsModel" "readPainter" "[I" ∈ wA := zw 1146 (by decide +kernel) (by decide +kernel)
set_option maxRecDepth 20000 in
theorem qw1149 : Cond.fieldLink RX11 49 "NinePortraitsModel" "rule" "[I" ∈ wA := zw 1149 (by decide +kernel) (by decide +kernel)
set_option maxRecDepth 20000 in
theorem qw1150 : Cond.fieldLink RX11 52 "NinePortraitsModel" "bride" "[I" ∈ wA := zw 1150 (by decide +kernel) (by decide +kernel)
set_option maxRecDepth 20000 in
theorem qw1151 : Cond.fieldLink RX11 55 "NinePortraitsModel" "painter" "[I" ∈ wA := zw 1151 (by decide +kernel) (by decide +kernel)
set_option maxRecDepth 20000 in
theorem qw1154 : Cond.fieldLink RX11 58 "NinePortraitsModel" "now" "[I" ∈ wA := zw 1154 (by decide +kernel) (by decide +kernel)
set_option maxRecDepth 20000 in
theorem qw1155 : Cond.fieldLink RX11 61 "NinePortraitsModel" "refused" "[I" ∈ wA := zw 1155 (by decide +kernel) (by decide +kernel)
set_option maxRecDepth 20000 in
theorem qw1156 : Cond.fieldLink RX11 64 "NinePortraitsModel" "holding" "I" ∈ wA := zw 1156 (by decide +kernel) (by decide +kernel)
set_option maxRecDepth 20000 in
theorem qw1158 : Cond.fieldLink RX11 68 "NinePortraitsModel" "kept" "[I" ∈ wA := zw 1158 (by decide +kernel) (by decide +kernel)
set_option maxRecDepth 20000 in
theorem qw1161 : Cond.fieldLink RX11 71 "NinePortraitsModel" "beliefs" "[I" ∈ wA := zw 1161 (by decide +kernel) (by decide +kernel)
set_option maxRecDepth 20000 in
theorem qw1164 : Cond.fieldLink RX11 74 "NinePortraitsModel" "askedBy" "[I" ∈ wA := zw 1164 (by decide +kernel) (by decide +kernel)
set_option maxRecDepth 20000 in
theorem qw1165 : Cond.fieldLink RX11 77 "NinePortraitsModel" "holdsOne" "[I" ∈ wA := zw 1165 (by decide +kernel) (by decide +kernel)
set_option maxRecDepth 20000 in
theorem qw1166 : Cond.fieldLink RX11 80 "NinePortraitsModel" "image" "[I" ∈ wA := zw 1166 (by decide +kernel) (by decide +kernel)
theorem hd_X0_init : yX0_init.cls = RX0 ∧ yX0_init.cls ≠ "java/lang/invoke/MethodHandle" ∧ yX0_init.cls ≠ "java/lang/invoke/VarHandle" ∧ (parseMethodDescriptor yX0_init.desc).map (fun d => d.parameters.length) = some 0 := by decide +kernel
theorem hd_X1_init : yX1_init.cls = RX1 ∧ yX1_init.cls ≠ "java/lang/invoke/MethodHandle" ∧ yX1_init.cls ≠ "java/lang/invoke/VarHandle" ∧ (parseMethodDescriptor yX1_init.desc).map (fun d => d.parameters.length) = some 0 := by decide +kernel
theorem hd_X2_init : yX2_init.cls = RX2 ∧ yX2_init.cls ≠ "java/lang/invoke/MethodHandle" ∧ yX2_init.cls ≠ "java/lang/invoke/VarHandle" ∧ (parseMethodDescriptor yX2_init.desc).map (fun d => d.parameters.length) = some 0 := by decide +kernel
theorem hd_X3_init : yX3_init.cls = RX3 ∧ yX3_init.cls ≠ "java/lang/invoke/MethodHandle" ∧ yX3_init.cls ≠ "java/lang/invoke/VarHandle" ∧ (parseMethodDescriptor yX3_init.desc).map (fun d => d.parameters.length) = some 0 := by decide +kernel
theorem hd_X5_init : yX5_init.cls = RX5 ∧ yX5_init.cls ≠ "java/lang/invoke/MethodHandle" ∧ yX5_init.cls ≠ "java/lang/invoke/VarHandle" ∧ (parseMethodDescriptor yX5_init.desc).map (fun d => d.parameters.length) = some 0 := by decide +kernel
theorem hd_X6_init : yX6_init.cls = RX6 ∧ yX6_init.cls ≠ "java/lang/invoke/MethodHandle" ∧ yX6_init.cls ≠ "java/lang/invoke/VarHandle" ∧ (parseMethodDescriptor yX6_init.desc).map (fun d => d.parameters.length) = some 3 := by decide +kernel
theorem hd_X7_init : yX7_init.cls = RX7 ∧ yX7_init.cls ≠ "java/lang/invoke/MethodHandle" ∧ yX7_init.cls ≠ "java/lang/invoke/VarHandle" ∧ (parseMethodDescriptor yX7_init.desc).map (fun d => d.parameters.length) = some 0 := by decide +kernel
theorem hd_X8_init : yX8_init.cls = RX8 ∧ yX8_init.cls ≠ "java/lang/invoke/MethodHandle" ∧ yX8_init.cls ≠ "java/lang/invoke/VarHandle" ∧ (parseMethodDescriptor yX8_init.desc).map (fun d => d.parameters.length) = some 2 := by decide +kernel
theorem hd_X9_init : yX9_init.cls = RX9 ∧ yX9_init.cls ≠ "java/lang/invoke/MethodHandle" ∧ yX9_init.cls ≠ "java/lang/invoke/VarHandle" ∧ (parseMethodDescriptor yX9_init.desc).map (fun d => d.parameters.length) = some 0 := by decide +kernel
/-- the words that a constructor needs beside the tables' good ones: its nest mates' constructors, the array of laws -/
def zE (U : State) : Prop := va_Nw (.methodLinkNest RX10 9 yX9_init "NinePortraits") U ∧ va_Nw (.methodLinkNest RX10 18 yX2_init "NinePortraits") U ∧ va_Nw (.methodLinkNest RX10 25 yX5_init "NinePortraits") U ∧ va_Nw (.methodLinkNest RX10 32 yX1_init "NinePortraits") U ∧ va_Nw (.methodLinkNest RX10 48 yX7_init "NinePortraits") U ∧ va_Nw (.methodLinkNest RX10 58 yX0_init "NinePortraits") U ∧ va_Nw (.methodLinkNest RX10 83 yX3_init "NinePortraits") U ∧ va_AO "NinePortraits$Law" U
theorem zE_same {u U : State} (h : u.vm = U.vm) (z : zE u) : zE U := by
  obtain ⟨h1, h2, h3, h4, h5, h6, h7, h8⟩ := z
  exact ⟨h1.same rfl h, h2.same rfl h, h3.same rfl h, h4.same rfl h, h5.same rfl h, h6.same rfl h, h7.same rfl h, va_AO.moved (by rw [h]; exact Vm.Alike.refl U.vm) h8⟩
theorem zE_warm {s U : State} (hW : s.WarmedH U.vm) (z : zE s) : zE U := by
  obtain ⟨h1, h2, h3, h4, h5, h6, h7, h8⟩ := z
  exact ⟨h1.warmM hW, h2.warmM hW, h3.warmM hW, h4.warmM hW, h5.warmM hW, h6.warmM hW, h7.warmM hW, va_AO.moved hW.alike h8⟩
def zPE (D : va_G) (ts : List (ClassId × FieldType)) (av : List Value) (sz : Nat) (ws : va_W) : Array Value → State → Prop := fun v U => zP D ts av sz ws v U ∧ zE U
theorem zPES {D : va_G} {ts : List (ClassId × FieldType)} {As : List Value} {ws : va_W} {s : State} {H : Heap} {A : Nat → Prop} (hP : va_P D vwCl ws H) (hK : va_K D vwCl ts s) (hD : va_D A ws) (hE : zE s) : PreS s H (zPE D ts As H.size ws) As :=
  ⟨fun a U g mk q => ⟨zPb a U g mk q.1, zE_same (u := U) rfl q.2⟩, fun U hU hW => ⟨(zPS hP hK hD).2 U hU hW, zE_warm hW hE⟩⟩
end
section
set_option maxHeartbeats 4000000 in
set_option maxRecDepth 100000 in
theorem c_X9_init (l : Launch) (dC : Nat → ClassId) (dI : Nat → Nat → Nat) (cI cJ : ClassId) (h0 : Nat) (sz : Nat) : Met l yX9_init (.code yX9_init cX9_init 1 none :: wA) ({ frames := 1, cells := 1, slots := 260, locals := 20 }) (zP (dC, dI) [(cI, .int), (cJ, .long)] [.ref h0] sz [(h0, .inr (9, [.null, .int 0, .int 0]))]) (va_Qv (fun (_ : Unit) => True) (fun (_ : Unit) (t : State) => ∃ (q1 : Nat), va_P (dC, dI) vwCl [(h0, .inr (9, [.ref q1, .int 0, .int 0])), (q1, .inl (cI, 260, .inl (fun _ => 0)))] t.heap ∧ va_D (va_A [(h0, .inr (9, [.null, .int 0, .int 0]))] sz) [(h0, .inr (9, [.ref q1, .int 0, .int 0])), (q1, .inl (cI, 260, .inl (fun _ => 0)))]) (va_A [(h0, .inr (9, [.null, .int 0, .int 0]))] sz)) 1 260 (va_A [(h0, .inr (9, [.null, .int 0, .int 0]))] sz) := by
  refine Met.ofW (cc := cX9_init) (maxL := 1) (ret := none) (by decide) rfl ?_
  intro p e s m args below meth c s₁ B hml hv
  obtain ⟨rfl, hsz, hP, hK, hT⟩ := hv
  have hx := B.exec
  have hb := B.bytes
  have hr := B.returns
  have hts : ∀ w ∈ wA, w.before _ s = true := fun w h => atoms_spec (ws := .code yX9_init cX9_init 1 none :: wA) B.pre w (List.mem_cons_of_mem _ h)
  have hown : s.vm.findClass RX9 = some m.cls := findClass_of_methodNamed B.named
  have hlocks := B.notSynchronized
  have hin : meth.name = "<init>" := (name_of_methodNamed B.named B.method).1
  subst hsz
  have hD := hT.self (sz := s.heap.size)
  generalize hAe : va_A [(h0, .inr (9, [.null, .int 0, .int 0]))] s.heap.size = A at hD ⊢
  have hA : ∀ q : Nat, s.heap.size ≤ q → A q := fun q h => by rw [← hAe]; exact Or.inr h
  have hl := lv_entry ([.ref h0]) (n := 1) (Nat.le_of_ble_eq_true rfl)
  rw [lg_entry_eq]
  generalize (lg_sl ([.ref h0]) ++ List.replicate (1 - (lg_sl ([.ref h0])).length) Slot.unset).toArray = ls at hl ⊢
  have hl : lv_has ls 1 [(0, .ref h0)] := hl
  refine zstart (fun H hH => ?_)
  rw [← hH] at hP
  have hS : va_S A s.heap H [] := by rw [hH]; exact va_S.rf
  refine lv_aload_n hx hb dX9_init_0 rfl (lv_at hl 0 rfl) ?_
  refine W.objInit hx hb hown (hts _ qw131) (hts _ qw124) (hts _ qw125) rfl (by rw [hml]; exact hl.1) rfl dX9_init_1 (Nat.le_of_ble_eq_true rfl) (Nat.le_of_ble_eq_true rfl) ?_
  refine W.eq (g2 := F0 m 4 ls []) rfl ?_
  refine lv_aload_n hx hb dX9_init_4 rfl (lv_at hl 0 rfl) ?_
  refine lv_sipush (v := 260) hx hb dX9_init_5 (by decide) ?_
  refine va_newa (atype := .int) (ty := .int) (N' := 260) (a0 := (260, .inl (fun _ => 0))) hx hb (hts _ qw147) rfl hK hP hD hS hA (fun _ => rfl) (by decide) (by decide) (Nat.le_of_ble_eq_true rfl) (Nat.le_of_ble_eq_true rfl) (Nat.le_of_ble_eq_true rfl) dX9_init_8 (fun q1 cA H hK2 hP hD hS => ?_)
  obtain rfl : cI = cA := (zcA hK2 0 2 rfl rfl).symm
  have hP : va_P (dC, dI) vwCl [(h0, .inr (9, [.null, .int 0, .int 0])), (q1, .inl (cI, 260, .inl (fun _ => 0)))] H := hP
  have hD : va_D A [(h0, .inr (9, [.null, .int 0, .int 0])), (q1, .inl (cI, 260, .inl (fun _ => 0)))] := hD
  refine W.widen (k := 1) (n := 260) (Nat.le_of_ble_eq_true rfl) (Nat.le_of_ble_eq_true rfl) ?_
  refine va_putF (D := (dC, dI)) (ci := 9) (v := .ref q1) (ty := .array .int) (C := RX9) (T := TX9) (N := 3) hx hb hts iX9 tyX9 tyX9_ok nmX9 hown hK hP hD hS 0 rfl rfl 0 (by decide) (hts _ qw132) (fun _ h9 => h9) rfl hin rfl (by decide +kernel) rfl rfl (Nat.le_of_ble_eq_true rfl) dX9_init_10 (fun H locs hP hD hS => ?_)
  have hP : va_P (dC, dI) vwCl [(h0, .inr (9, [.ref q1, .int 0, .int 0])), (q1, .inl (cI, 260, .inl (fun _ => 0)))] H := hP
  have hD : va_D A [(h0, .inr (9, [.ref q1, .int 0, .int 0])), (q1, .inl (cI, 260, .inl (fun _ => 0)))] := hD
  exact W.vret hx hb hr (fun t ht hW => ⟨⟨(), rfl, trivial, ⟨q1, by rw [ht]; exact hP, hD⟩⟩, hS.F ht⟩) hS.2.2 dX9_init_13
set_option maxHeartbeats 4000000 in
set_option maxRecDepth 100000 in
theorem c_X2_init (l : Launch) (dC : Nat → ClassId) (dI : Nat → Nat → Nat) (cI cJ : ClassId) (h0 : Nat) (sz : Nat) : Met l yX2_init (.code yX2_init cX2_init 1 none :: wA) ({ frames := 1, cells := 0, slots := 0, locals := 20 }) (zP (dC, dI) [(cI, .int), (cJ, .long)] [.ref h0] sz []) (va_Qv (fun (_ : Unit) => True) (fun (_ : Unit) (_ : State) => True) (va_A [] sz)) 0 0 (va_A [] sz) := by
  refine Met.ofW (cc := cX2_init) (maxL := 1) (ret := none) (by decide) rfl ?_
  intro p e s m args below meth c s₁ B hml hv
  obtain ⟨rfl, hsz, hP, hK, hT⟩ := hv
  have hx := B.exec
  have hb := B.bytes
  have hr := B.returns
  have hts : ∀ w ∈ wA, w.before _ s = true := fun w h => atoms_spec (ws := .code yX2_init cX2_init 1 none :: wA) B.pre w (List.mem_cons_of_mem _ h)
  have hown : s.vm.findClass RX2 = some m.cls := findClass_of_methodNamed B.named
  have hlocks := B.notSynchronized
  have hin : meth.name = "<init>" := (name_of_methodNamed B.named B.method).1
  subst hsz
  have hD : va_D (va_A [] s.heap.size) [] := zD0
  generalize hAe : va_A [] s.heap.size = A at hD ⊢
  have hA : ∀ q : Nat, s.heap.size ≤ q → A q := fun q h => by rw [← hAe]; exact Or.inr h
  have hl := lv_entry ([.ref h0]) (n := 1) (Nat.le_of_ble_eq_true rfl)
  rw [lg_entry_eq]
  generalize (lg_sl ([.ref h0]) ++ List.replicate (1 - (lg_sl ([.ref h0])).length) Slot.unset).toArray = ls at hl ⊢
  have hl : lv_has ls 1 [(0, .ref h0)] := hl
  refine zstart (fun H hH => ?_)
  rw [← hH] at hP
  have hS : va_S A s.heap H [] := by rw [hH]; exact va_S.rf
  refine lv_aload_n hx hb dX2_init_0 rfl (lv_at hl 0 rfl) ?_
  refine W.objInit hx hb hown (hts _ qw153) (hts _ qw124) (hts _ qw125) rfl (by rw [hml]; exact hl.1) rfl dX2_init_1 (Nat.le_of_ble_eq_true rfl) (Nat.le_of_ble_eq_true rfl) ?_
  refine W.eq (g2 := F0 m 4 ls []) rfl ?_
  exact W.vret hx hb hr (fun t ht hW => ⟨⟨(), rfl, trivial, trivial⟩, hS.F ht⟩) hS.2.2 dX2_init_4
set_option maxHeartbeats 4000000 in
set_option maxRecDepth 100000 in
theorem c_X5_init (l : Launch) (dC : Nat → ClassId) (dI : Nat → Nat → Nat) (cI cJ : ClassId) (h0 : Nat) (sz : Nat) : Met l yX5_init (.code yX5_init cX5_init 1 none :: wA) ({ frames := 1, cells := 1, slots := 241, locals := 20 }) (zP (dC, dI) [(cI, .int), (cJ, .long)] [.ref h0] sz [(h0, .inr (5, [.null, .int 0, .null]))]) (va_Qv (fun (_ : Unit) => True) (fun (_ : Unit) (t : State) => ∃ (q1 : Nat), va_P (dC, dI) vwCl [(h0, .inr (5, [.ref q1, .int 0, .null])), (q1, .inl (cI, 241, .inl (fun _ => 0)))] t.heap ∧ va_D (va_A [(h0, .inr (5, [.null, .int 0, .null]))] sz) [(h0, .inr (5, [.ref q1, .int 0, .null])), (q1, .inl (cI, 241, .inl (fun _ => 0)))]) (va_A [(h0, .inr (5, [.null, .int 0, .null]))] sz)) 1 241 (va_A [(h0, .inr (5, [.null, .int 0, .null]))] sz) := by
  refine Met.ofW (cc := cX5_init) (maxL := 1) (ret := none) (by decide) rfl ?_
  intro p e s m args below meth c s₁ B hml hv
  obtain ⟨rfl, hsz, hP, hK, hT⟩ := hv
  have hx := B.exec
  have hb := B.bytes
  have hr := B.returns
  have hts : ∀ w ∈ wA, w.before _ s = true := fun w h => atoms_spec (ws := .code yX5_init cX5_init 1 none :: wA) B.pre w (List.mem_cons_of_mem _ h)
  have hown : s.vm.findClass RX5 = some m.cls := findClass_of_methodNamed B.named
  have hlocks := B.notSynchronized
  have hin : meth.name = "<init>" := (name_of_methodNamed B.named B.method).1
  subst hsz
  have hD := hT.self (sz := s.heap.size)
  generalize hAe : va_A [(h0, .inr (5, [.null, .int 0, .null]))] s.heap.size = A at hD ⊢
  have hA : ∀ q : Nat, s.heap.size ≤ q → A q := fun q h => by rw [← hAe]; exact Or.inr h
  have hl := lv_entry ([.ref h0]) (n := 1) (Nat.le_of_ble_eq_true rfl)
  rw [lg_entry_eq]
  generalize (lg_sl ([.ref h0]) ++ List.replicate (1 - (lg_sl ([.ref h0])).length) Slot.unset).toArray = ls at hl ⊢
  have hl : lv_has ls 1 [(0, .ref h0)] := hl
  refine zstart (fun H hH => ?_)
  rw [← hH] at hP
  have hS : va_S A s.heap H [] := by rw [hH]; exact va_S.rf
  refine lv_aload_n hx hb dX5_init_0 rfl (lv_at hl 0 rfl) ?_
  refine W.objInit hx hb hown (hts _ qw169) (hts _ qw124) (hts _ qw125) rfl (by rw [hml]; exact hl.1) rfl dX5_init_1 (Nat.le_of_ble_eq_true rfl) (Nat.le_of_ble_eq_true rfl) ?_
  refine W.eq (g2 := F0 m 4 ls []) rfl ?_
  refine lv_aload_n hx hb dX5_init_4 rfl (lv_at hl 0 rfl) ?_
  refine lv_sipush (v := 241) hx hb dX5_init_5 (by decide) ?_
  refine va_newa (atype := .int) (ty := .int) (N' := 241) (a0 := (241, .inl (fun _ => 0))) hx hb (hts _ qw147) rfl hK hP hD hS hA (fun _ => rfl) (by decide) (by decide) (Nat.le_of_ble_eq_true rfl) (Nat.le_of_ble_eq_true rfl) (Nat.le_of_ble_eq_true rfl) dX5_init_8 (fun q1 cA H hK2 hP hD hS => ?_)
  obtain rfl : cI = cA := (zcA hK2 0 2 rfl rfl).symm
  have hP : va_P (dC, dI) vwCl [(h0, .inr (5, [.null, .int 0, .null])), (q1, .inl (cI, 241, .inl (fun _ => 0)))] H := hP
  have hD : va_D A [(h0, .inr (5, [.null, .int 0, .null])), (q1, .inl (cI, 241, .inl (fun _ => 0)))] := hD
  refine W.widen (k := 1) (n := 241) (Nat.le_of_ble_eq_true rfl) (Nat.le_of_ble_eq_true rfl) ?_
  refine va_putF (D := (dC, dI)) (ci := 5) (v := .ref q1) (ty := .array .int) (C := RX5) (T := TX5) (N := 3) hx hb hts iX5 tyX5 tyX5_ok nmX5 hown hK hP hD hS 0 rfl rfl 0 (by decide) (hts _ qw170) (fun _ h9 => h9) rfl hin rfl (by decide +kernel) rfl rfl (Nat.le_of_ble_eq_true rfl) dX5_init_10 (fun H locs hP hD hS => ?_)
  have hP : va_P (dC, dI) vwCl [(h0, .inr (5, [.ref q1, .int 0, .null])), (q1, .inl (cI, 241, .inl (fun _ => 0)))] H := hP
  have hD : va_D A [(h0, .inr (5, [.ref q1, .int 0, .null])), (q1, .inl (cI, 241, .inl (fun _ => 0)))] := hD
  exact W.vret hx hb hr (fun t ht hW => ⟨⟨(), rfl, trivial, ⟨q1, by rw [ht]; exact hP, hD⟩⟩, hS.F ht⟩) hS.2.2 dX5_init_13
set_option maxHeartbeats 4000000 in
set_option maxRecDepth 100000 in
theorem c_X1_init (l : Launch) (dC : Nat → ClassId) (dI : Nat → Nat → Nat) (cI cJ : ClassId) (h0 : Nat) (sz : Nat) : Met l yX1_init (.code yX1_init cX1_init 1 none :: wA) ({ frames := 1, cells := 3, slots := 47, locals := 20 }) (zP (dC, dI) [(cI, .int), (cJ, .long)] [.ref h0] sz [(h0, .inr (1, [.null, .null, .null, .int 0, .int 0]))]) (va_Qv (fun (_ : Unit) => True) (fun (_ : Unit) (t : State) => ∃ (q1 : Nat) (q2 : Nat) (q3 : Nat), va_P (dC, dI) vwCl [(h0, .inr (1, [.ref q1, .ref q2, .ref q3, .int 0, .int 0])), (q1, .inl (cI, 3, .inl (fun _ => 0))), (q2, .inl (cI, 24, .inl (fun _ => 0))), (q3, .inl (cI, 20, .inl (fun _ => 0)))] t.heap ∧ va_D (va_A [(h0, .inr (1, [.null, .null, .null, .int 0, .int 0]))] sz) [(h0, .inr (1, [.ref q1, .ref q2, .ref q3, .int 0, .int 0])), (q1, .inl (cI, 3, .inl (fun _ => 0))), (q2, .inl (cI, 24, .inl (fun _ => 0))), (q3, .inl (cI, 20, .inl (fun _ => 0)))]) (va_A [(h0, .inr (1, [.null, .null, .null, .int 0, .int 0]))] sz)) 3 47 (va_A [(h0, .inr (1, [.null, .null, .null, .int 0, .int 0]))] sz) := by
  refine Met.ofW (cc := cX1_init) (maxL := 1) (ret := none) (by decide) rfl ?_
  intro p e s m args below meth c s₁ B hml hv
  obtain ⟨rfl, hsz, hP, hK, hT⟩ := hv
  have hx := B.exec
  have hb := B.bytes
  have hr := B.returns
  have hts : ∀ w ∈ wA, w.before _ s = true := fun w h => atoms_spec (ws := .code yX1_init cX1_init 1 none :: wA) B.pre w (List.mem_cons_of_mem _ h)
  have hown : s.vm.findClass RX1 = some m.cls := findClass_of_methodNamed B.named
  have hlocks := B.notSynchronized
  have hin : meth.name = "<init>" := (name_of_methodNamed B.named B.method).1
  subst hsz
  have hD := hT.self (sz := s.heap.size)
  generalize hAe : va_A [(h0, .inr (1, [.null, .null, .null, .int 0, .int 0]))] s.heap.size = A at hD ⊢
  have hA : ∀ q : Nat, s.heap.size ≤ q → A q := fun q h => by rw [← hAe]; exact Or.inr h
  have hl := lv_entry ([.ref h0]) (n := 1) (Nat.le_of_ble_eq_true rfl)
  rw [lg_entry_eq]
  generalize (lg_sl ([.ref h0]) ++ List.replicate (1 - (lg_sl ([.ref h0])).length) Slot.unset).toArray = ls at hl ⊢
  have hl : lv_has ls 1 [(0, .ref h0)] := hl
  refine zstart (fun H hH => ?_)
  rw [← hH] at hP
  have hS : va_S A s.heap H [] := by rw [hH]; exact va_S.rf
  refine lv_aload_n hx hb dX1_init_0 rfl (lv_at hl 0 rfl) ?_
  refine W.objInit hx hb hown (hts _ qw185) (hts _ qw124) (hts _ qw125) rfl (by rw [hml]; exact hl.1) rfl dX1_init_1 (Nat.le_of_ble_eq_true rfl) (Nat.le_of_ble_eq_true rfl) ?_
  refine W.eq (g2 := F0 m 4 ls []) rfl ?_
  refine lv_aload_n hx hb dX1_init_4 rfl (lv_at hl 0 rfl) ?_
  refine lv_iconst (v := 3) hx hb dX1_init_5 (by decide) ?_
  refine va_newa (atype := .int) (ty := .int) (N' := 3) (a0 := (3, .inl (fun _ => 0))) hx hb (hts _ qw147) rfl hK hP hD hS hA (fun _ => rfl) (by decide) (by decide) (Nat.le_of_ble_eq_true rfl) (Nat.le_of_ble_eq_true rfl) (Nat.le_of_ble_eq_true rfl) dX1_init_6 (fun q1 cA H hK2 hP hD hS => ?_)
  obtain rfl : cI = cA := (zcA hK2 0 2 rfl rfl).symm
  have hP : va_P (dC, dI) vwCl [(h0, .inr (1, [.null, .null, .null, .int 0, .int 0])), (q1, .inl (cI, 3, .inl (fun _ => 0)))] H := hP
  have hD : va_D A [(h0, .inr (1, [.null, .null, .null, .int 0, .int 0])), (q1, .inl (cI, 3, .inl (fun _ => 0)))] := hD
  refine W.widen (k := 1) (n := 3) (Nat.le_of_ble_eq_true rfl) (Nat.le_of_ble_eq_true rfl) ?_
  refine va_putF (D := (dC, dI)) (ci := 1) (v := .ref q1) (ty := .array .int) (C := RX1) (T := TX1) (N := 5) hx hb hts iX1 tyX1 tyX1_ok nmX1 hown hK hP hD hS 0 rfl rfl 0 (by decide) (hts _ qw186) (fun _ h9 => h9) rfl hin rfl (by decide +kernel) rfl rfl (Nat.le_of_ble_eq_true rfl) dX1_init_8 (fun H locs hP hD hS => ?_)
  have hP : va_P (dC, dI) vwCl [(h0, .inr (1, [.ref q1, .null, .null, .int 0, .int 0])), (q1, .inl (cI, 3, .inl (fun _ => 0)))] H := hP
  have hD : va_D A [(h0, .inr (1, [.ref q1, .null, .null, .int 0, .int 0])), (q1, .inl (cI, 3, .inl (fun _ => 0)))] := hD
  refine lv_aload_n hx hb dX1_init_11 rfl (lv_at hl 0 rfl) ?_
  refine lv_bipush (v := 24) hx hb dX1_init_12 (by decide) ?_
  refine va_newa (atype := .int) (ty := .int) (N' := 24) (a0 := (24, .inl (fun _ => 0))) hx hb (hts _ qw147) rfl hK hP hD hS hA (fun _ => rfl) (by decide) (by decide) (Nat.le_of_ble_eq_true rfl) (Nat.le_of_ble_eq_true rfl) (Nat.le_of_ble_eq_true rfl) dX1_init_14 (fun q2 cA H hK2 hP hD hS => ?_)
  obtain rfl : cI = cA := (zcA hK2 0 2 rfl rfl).symm
  have hP : va_P (dC, dI) vwCl [(h0, .inr (1, [.ref q1, .null, .null, .int 0, .int 0])), (q1, .inl (cI, 3, .inl (fun _ => 0))), (q2, .inl (cI, 24, .inl (fun _ => 0)))] H := hP
  have hD : va_D A [(h0, .inr (1, [.ref q1, .null, .null, .int 0, .int 0])), (q1, .inl (cI, 3, .inl (fun _ => 0))), (q2, .inl (cI, 24, .inl (fun _ => 0)))] := hD
  refine W.widen (k := 2) (n := 27) (Nat.le_of_ble_eq_true rfl) (Nat.le_of_ble_eq_true rfl) ?_
  refine va_putF (D := (dC, dI)) (ci := 1) (v := .ref q2) (ty := .array .int) (C := RX1) (T := TX1) (N := 5) hx hb hts iX1 tyX1 tyX1_ok nmX1 hown hK hP hD hS 0 rfl rfl 1 (by decide) (hts _ qw188) (fun _ h9 => h9) rfl hin rfl (by decide +kernel) rfl rfl (Nat.le_of_ble_eq_true rfl) dX1_init_16 (fun H locs hP hD hS => ?_)
  have hP : va_P (dC, dI) vwCl [(h0, .inr (1, [.ref q1, .ref q2, .null, .int 0, .int 0])), (q1, .inl (cI, 3, .inl (fun _ => 0))), (q2, .inl (cI, 24, .inl (fun _ => 0)))] H := hP
  have hD : va_D A [(h0, .inr (1, [.ref q1, .ref q2, .null, .int 0, .int 0])), (q1, .inl (cI, 3, .inl (fun _ => 0))), (q2, .inl (cI, 24, .inl (fun _ => 0)))] := hD
  refine lv_aload_n hx hb dX1_init_19 rfl (lv_at hl 0 rfl) ?_
  refine lv_bipush (v := 20) hx hb dX1_init_20 (by decide) ?_
  refine va_newa (atype := .int) (ty := .int) (N' := 20) (a0 := (20, .inl (fun _ => 0))) hx hb (hts _ qw147) rfl hK hP hD hS hA (fun _ => rfl) (by decide) (by decide) (Nat.le_of_ble_eq_true rfl) (Nat.le_of_ble_eq_true rfl) (Nat.le_of_ble_eq_true rfl) dX1_init_22 (fun q3 cA H hK2 hP hD hS => ?_)
  obtain rfl : cI = cA := (zcA hK2 0 2 rfl rfl).symm
  have hP : va_P (dC, dI) vwCl [(h0, .inr (1, [.ref q1, .ref q2, .null, .int 0, .int 0])), (q1, .inl (cI, 3, .inl (fun _ => 0))), (q2, .inl (cI, 24, .inl (fun _ => 0))), (q3, .inl (cI, 20, .inl (fun _ => 0)))] H := hP
  have hD : va_D A [(h0, .inr (1, [.ref q1, .ref q2, .null, .int 0, .int 0])), (q1, .inl (cI, 3, .inl (fun _ => 0))), (q2, .inl (cI, 24, .inl (fun _ => 0))), (q3, .inl (cI, 20, .inl (fun _ => 0)))] := hD
  refine W.widen (k := 3) (n := 47) (Nat.le_of_ble_eq_true rfl) (Nat.le_of_ble_eq_true rfl) ?_
  refine va_putF (D := (dC, dI)) (ci := 1) (v := .ref q3) (ty := .array .int) (C := RX1) (T := TX1) (N := 5) hx hb hts iX1 tyX1 tyX1_ok nmX1 hown hK hP hD hS 0 rfl rfl 2 (by decide) (hts _ qw190) (fun _ h9 => h9) rfl hin rfl (by decide +kernel) rfl rfl (Nat.le_of_ble_eq_true rfl) dX1_init_24 (fun H locs hP hD hS => ?_)
  have hP : va_P (dC, dI) vwCl [(h0, .inr (1, [.ref q1, .ref q2, .ref q3, .int 0, .int 0])), (q1, .inl (cI, 3, .inl (fun _ => 0))), (q2, .inl (cI, 24, .inl (fun _ => 0))), (q3, .inl (cI, 20, .inl (fun _ => 0)))] H := hP
  have hD : va_D A [(h0, .inr (1, [.ref q1, .ref q2, .ref q3, .int 0, .int 0])), (q1, .inl (cI, 3, .inl (fun _ => 0))), (q2, .inl (cI, 24, .inl (fun _ => 0))), (q3, .inl (cI, 20, .inl (fun _ => 0)))] := hD
  exact W.vret hx hb hr (fun t ht hW => ⟨⟨(), rfl, trivial, ⟨q1, q2, q3, by rw [ht]; exact hP, hD⟩⟩, hS.F ht⟩) hS.2.2 dX1_init_27
set_option maxHeartbeats 4000000 in
set_option maxRecDepth 100000 in
theorem c_X7_init (l : Launch) (dC : Nat → ClassId) (dI : Nat → Nat → Nat) (cI cJ : ClassId) (h0 : Nat) (sz : Nat) : Met l yX7_init (.code yX7_init cX7_init 1 none :: wA) ({ frames := 1, cells := 3, slots := 91, locals := 20 }) (zP (dC, dI) [(cI, .int), (cJ, .long)] [.ref h0] sz [(h0, .inr (7, [.null, .null, .null, .int 0, .int 0, .int 0, .int 0, .int 0, .int 0]))]) (va_Qv (fun (_ : Unit) => True) (fun (_ : Unit) (t : State) => ∃ (q1 : Nat) (q2 : Nat) (q3 : Nat), va_P (dC, dI) vwCl [(h0, .inr (7, [.ref q1, .ref q2, .ref q3, .int 0, .int 0, .int 0, .int (-1), .int 0, .int 0])), (q1, .inl (cI, 6, .inl (fun _ => 0))), (q2, .inl (cI, 5, .inl (fun _ => 0))), (q3, .inl (cI, 80, .inl (fun _ => 0)))] t.heap ∧ va_D (va_A [(h0, .inr (7, [.null, .null, .null, .int 0, .int 0, .int 0, .int 0, .int 0, .int 0]))] sz) [(h0, .inr (7, [.ref q1, .ref q2, .ref q3, .int 0, .int 0, .int 0, .int (-1), .int 0, .int 0])), (q1, .inl (cI, 6, .inl (fun _ => 0))), (q2, .inl (cI, 5, .inl (fun _ => 0))), (q3, .inl (cI, 80, .inl (fun _ => 0)))]) (va_A [(h0, .inr (7, [.null, .null, .null, .int 0, .int 0, .int 0, .int 0, .int 0, .int 0]))] sz)) 3 91 (va_A [(h0, .inr (7, [.null, .null, .null, .int 0, .int 0, .int 0, .int 0, .int 0, .int 0]))] sz) := by
  refine Met.ofW (cc := cX7_init) (maxL := 1) (ret := none) (by decide) rfl ?_
  intro p e s m args below meth c s₁ B hml hv
  obtain ⟨rfl, hsz, hP, hK, hT⟩ := hv
  have hx := B.exec
  have hb := B.bytes
  have hr := B.returns
  have hts : ∀ w ∈ wA, w.before _ s = true := fun w h => atoms_spec (ws := .code yX7_init cX7_init 1 none :: wA) B.pre w (List.mem_cons_of_mem _ h)
  have hown : s.vm.findClass RX7 = some m.cls := findClass_of_methodNamed B.named
  have hlocks := B.notSynchronized
  have hin : meth.name = "<init>" := (name_of_methodNamed B.named B.method).1
  subst hsz
  have hD := hT.self (sz := s.heap.size)
  generalize hAe : va_A [(h0, .inr (7, [.null, .null, .null, .int 0, .int 0, .int 0, .int 0, .int 0, .int 0]))] s.heap.size = A at hD ⊢
  have hA : ∀ q : Nat, s.heap.size ≤ q → A q := fun q h => by rw [← hAe]; exact Or.inr h
  have hl := lv_entry ([.ref h0]) (n := 1) (Nat.le_of_ble_eq_true rfl)
  rw [lg_entry_eq]
  generalize (lg_sl ([.ref h0]) ++ List.replicate (1 - (lg_sl ([.ref h0])).length) Slot.unset).toArray = ls at hl ⊢
  have hl : lv_has ls 1 [(0, .ref h0)] := hl
  refine zstart (fun H hH => ?_)
  rw [← hH] at hP
  have hS : va_S A s.heap H [] := by rw [hH]; exact va_S.rf
  refine lv_aload_n hx hb dX7_init_0 rfl (lv_at hl 0 rfl) ?_
  refine W.objInit hx hb hown (hts _ qw219) (hts _ qw124) (hts _ qw125) rfl (by rw [hml]; exact hl.1) rfl dX7_init_1 (Nat.le_of_ble_eq_true rfl) (Nat.le_of_ble_eq_true rfl) ?_
  refine W.eq (g2 := F0 m 4 ls []) rfl ?_
  refine lv_aload_n hx hb dX7_init_4 rfl (lv_at hl 0 rfl) ?_
  refine lv_bipush (v := 6) hx hb dX7_init_5 (by decide) ?_
  refine va_newa (atype := .int) (ty := .int) (N' := 6) (a0 := (6, .inl (fun _ => 0))) hx hb (hts _ qw147) rfl hK hP hD hS hA (fun _ => rfl) (by decide) (by decide) (Nat.le_of_ble_eq_true rfl) (Nat.le_of_ble_eq_true rfl) (Nat.le_of_ble_eq_true rfl) dX7_init_7 (fun q1 cA H hK2 hP hD hS => ?_)
  obtain rfl : cI = cA := (zcA hK2 0 2 rfl rfl).symm
  have hP : va_P (dC, dI) vwCl [(h0, .inr (7, [.null, .null, .null, .int 0, .int 0, .int 0, .int 0, .int 0, .int 0])), (q1, .inl (cI, 6, .inl (fun _ => 0)))] H := hP
  have hD : va_D A [(h0, .inr (7, [.null, .null, .null, .int 0, .int 0, .int 0, .int 0, .int 0, .int 0])), (q1, .inl (cI, 6, .inl (fun _ => 0)))] := hD
  refine W.widen (k := 1) (n := 6) (Nat.le_of_ble_eq_true rfl) (Nat.le_of_ble_eq_true rfl) ?_
  refine va_putF (D := (dC, dI)) (ci := 7) (v := .ref q1) (ty := .array .int) (C := RX7) (T := TX7) (N := 9) hx hb hts iX7 tyX7 tyX7_ok nmX7 hown hK hP hD hS 0 rfl rfl 0 (by decide) (hts _ qw220) (fun _ h9 => h9) rfl hin rfl (by decide +kernel) rfl rfl (Nat.le_of_ble_eq_true rfl) dX7_init_9 (fun H locs hP hD hS => ?_)
  have hP : va_P (dC, dI) vwCl [(h0, .inr (7, [.ref q1, .null, .null, .int 0, .int 0, .int 0, .int 0, .int 0, .int 0])), (q1, .inl (cI, 6, .inl (fun _ => 0)))] H := hP
  have hD : va_D A [(h0, .inr (7, [.ref q1, .null, .null, .int 0, .int 0, .int 0, .int 0, .int 0, .int 0])), (q1, .inl (cI, 6, .inl (fun _ => 0)))] := hD
  refine lv_aload_n hx hb dX7_init_12 rfl (lv_at hl 0 rfl) ?_
  refine lv_iconst (v := 5) hx hb dX7_init_13 (by decide) ?_
  refine va_newa (atype := .int) (ty := .int) (N' := 5) (a0 := (5, .inl (fun _ => 0))) hx hb (hts _ qw147) rfl hK hP hD hS hA (fun _ => rfl) (by decide) (by decide) (Nat.le_of_ble_eq_true rfl) (Nat.le_of_ble_eq_true rfl) (Nat.le_of_ble_eq_true rfl) dX7_init_14 (fun q2 cA H hK2 hP hD hS => ?_)
  obtain rfl : cI = cA := (zcA hK2 0 2 rfl rfl).symm
  have hP : va_P (dC, dI) vwCl [(h0, .inr (7, [.ref q1, .null, .null, .int 0, .int 0, .int 0, .int 0, .int 0, .int 0])), (q1, .inl (cI, 6, .inl (fun _ => 0))), (q2, .inl (cI, 5, .inl (fun _ => 0)))] H := hP
  have hD : va_D A [(h0, .inr (7, [.ref q1, .null, .null, .int 0, .int 0, .int 0, .int 0, .int 0, .int 0])), (q1, .inl (cI, 6, .inl (fun _ => 0))), (q2, .inl (cI, 5, .inl (fun _ => 0)))] := hD
  refine W.widen (k := 2) (n := 11) (Nat.le_of_ble_eq_true rfl) (Nat.le_of_ble_eq_true rfl) ?_
  refine va_putF (D := (dC, dI)) (ci := 7) (v := .ref q2) (ty := .array .int) (C := RX7) (T := TX7) (N := 9) hx hb hts iX7 tyX7 tyX7_ok nmX7 hown hK hP hD hS 0 rfl rfl 1 (by decide) (hts _ qw223) (fun _ h9 => h9) rfl hin rfl (by decide +kernel) rfl rfl (Nat.le_of_ble_eq_true rfl) dX7_init_16 (fun H locs hP hD hS => ?_)
  have hP : va_P (dC, dI) vwCl [(h0, .inr (7, [.ref q1, .ref q2, .null, .int 0, .int 0, .int 0, .int 0, .int 0, .int 0])), (q1, .inl (cI, 6, .inl (fun _ => 0))), (q2, .inl (cI, 5, .inl (fun _ => 0)))] H := hP
  have hD : va_D A [(h0, .inr (7, [.ref q1, .ref q2, .null, .int 0, .int 0, .int 0, .int 0, .int 0, .int 0])), (q1, .inl (cI, 6, .inl (fun _ => 0))), (q2, .inl (cI, 5, .inl (fun _ => 0)))] := hD
  refine lv_aload_n hx hb dX7_init_19 rfl (lv_at hl 0 rfl) ?_
  refine lv_bipush (v := 80) hx hb dX7_init_20 (by decide) ?_
  refine va_newa (atype := .int) (ty := .int) (N' := 80) (a0 := (80, .inl (fun _ => 0))) hx hb (hts _ qw147) rfl hK hP hD hS hA (fun _ => rfl) (by decide) (by decide) (Nat.le_of_ble_eq_true rfl) (Nat.le_of_ble_eq_true rfl) (Nat.le_of_ble_eq_true rfl) dX7_init_22 (fun q3 cA H hK2 hP hD hS => ?_)
  obtain rfl : cI = cA := (zcA hK2 0 2 rfl rfl).symm
  have hP : va_P (dC, dI) vwCl [(h0, .inr (7, [.ref q1, .ref q2, .null, .int 0, .int 0, .int 0, .int 0, .int 0, .int 0])), (q1, .inl (cI, 6, .inl (fun _ => 0))), (q2, .inl (cI, 5, .inl (fun _ => 0))), (q3, .inl (cI, 80, .inl (fun _ => 0)))] H := hP
  have hD : va_D A [(h0, .inr (7, [.ref q1, .ref q2, .null, .int 0, .int 0, .int 0, .int 0, .int 0, .int 0])), (q1, .inl (cI, 6, .inl (fun _ => 0))), (q2, .inl (cI, 5, .inl (fun _ => 0))), (q3, .inl (cI, 80, .inl (fun _ => 0)))] := hD
  refine W.widen (k := 3) (n := 91) (Nat.le_of_ble_eq_true rfl) (Nat.le_of_ble_eq_true rfl) ?_
  refine va_putF (D := (dC, dI)) (ci := 7) (v := .ref q3) (ty := .array .int) (C := RX7) (T := TX7) (N := 9) hx hb hts iX7 tyX7 tyX7_ok nmX7 hown hK hP hD hS 0 rfl rfl 2 (by decide) (hts _ qw226) (fun _ h9 => h9) rfl hin rfl (by decide +kernel) rfl rfl (Nat.le_of_ble_eq_true rfl) dX7_init_24 (fun H locs hP hD hS => ?_)
  have hP : va_P (dC, dI) vwCl [(h0, .inr (7, [.ref q1, .ref q2, .ref q3, .int 0, .int 0, .int 0, .int 0, .int 0, .int 0])), (q1, .inl (cI, 6, .inl (fun _ => 0))), (q2, .inl (cI, 5, .inl (fun _ => 0))), (q3, .inl (cI, 80, .inl (fun _ => 0)))] H := hP
  have hD : va_D A [(h0, .inr (7, [.ref q1, .ref q2, .ref q3, .int 0, .int 0, .int 0, .int 0, .int 0, .int 0])), (q1, .inl (cI, 6, .inl (fun _ => 0))), (q2, .inl (cI, 5, .inl (fun _ => 0))), (q3, .inl (cI, 80, .inl (fun _ => 0)))] := hD
  refine lv_aload_n hx hb dX7_init_27 rfl (lv_at hl 0 rfl) ?_
  refine lv_iconst (v := (-1)) hx hb dX7_init_28 (by decide) ?_
  refine va_put (D := (dC, dI)) (ci := 7) (v := .int (-1)) (ty := .int) (C := RX7) (T := TX7) (N := 9) hx hb hts iX7 tyX7 tyX7_ok nmX7 hown hK hP hD hS 0 rfl rfl 6 (by decide) (hts _ qw236) (fun _ h9 => h9) rfl (by decide +kernel) rfl rfl (Nat.le_of_ble_eq_true rfl) dX7_init_29 (fun H locs hP hD hS => ?_)
  have hP : va_P (dC, dI) vwCl [(h0, .inr (7, [.ref q1, .ref q2, .ref q3, .int 0, .int 0, .int 0, .int (-1), .int 0, .int 0])), (q1, .inl (cI, 6, .inl (fun _ => 0))), (q2, .inl (cI, 5, .inl (fun _ => 0))), (q3, .inl (cI, 80, .inl (fun _ => 0)))] H := hP
  have hD : va_D A [(h0, .inr (7, [.ref q1, .ref q2, .ref q3, .int 0, .int 0, .int 0, .int (-1), .int 0, .int 0])), (q1, .inl (cI, 6, .inl (fun _ => 0))), (q2, .inl (cI, 5, .inl (fun _ => 0))), (q3, .inl (cI, 80, .inl (fun _ => 0)))] := hD
  exact W.vret hx hb hr (fun t ht hW => ⟨⟨(), rfl, trivial, ⟨q1, q2, q3, by rw [ht]; exact hP, hD⟩⟩, hS.F ht⟩) hS.2.2 dX7_init_32
set_option maxHeartbeats 4000000 in
set_option maxRecDepth 100000 in
theorem c_X0_init (l : Launch) (dC : Nat → ClassId) (dI : Nat → Nat → Nat) (cI cJ : ClassId) (h0 : Nat) (sz : Nat) : Met l yX0_init (.code yX0_init cX0_init 1 none :: wA) ({ frames := 1, cells := 1, slots := 680, locals := 20 }) (zP (dC, dI) [(cI, .int), (cJ, .long)] [.ref h0] sz [(h0, .inr (0, [.null, .int 0, .int 0]))]) (va_Qv (fun (_ : Unit) => True) (fun (_ : Unit) (t : State) => ∃ (q1 : Nat), va_P (dC, dI) vwCl [(h0, .inr (0, [.ref q1, .int 0, .int 0])), (q1, .inl (cI, 680, .inl (fun _ => 0)))] t.heap ∧ va_D (va_A [(h0, .inr (0, [.null, .int 0, .int 0]))] sz) [(h0, .inr (0, [.ref q1, .int 0, .int 0])), (q1, .inl (cI, 680, .inl (fun _ => 0)))]) (va_A [(h0, .inr (0, [.null, .int 0, .int 0]))] sz)) 1 680 (va_A [(h0, .inr (0, [.null, .int 0, .int 0]))] sz) := by
  refine Met.ofW (cc := cX0_init) (maxL := 1) (ret := none) (by decide) rfl ?_
  intro p e s m args below meth c s₁ B hml hv
  obtain ⟨rfl, hsz, hP, hK, hT⟩ := hv
  have hx := B.exec
  have hb := B.bytes
  have hr := B.returns
  have hts : ∀ w ∈ wA, w.before _ s = true := fun w h => atoms_spec (ws := .code yX0_init cX0_init 1 none :: wA) B.pre w (List.mem_cons_of_mem _ h)
  have hown : s.vm.findClass RX0 = some m.cls := findClass_of_methodNamed B.named
  have hlocks := B.notSynchronized
  have hin : meth.name = "<init>" := (name_of_methodNamed B.named B.method).1
  subst hsz
  have hD := hT.self (sz := s.heap.size)
  generalize hAe : va_A [(h0, .inr (0, [.null, .int 0, .int 0]))] s.heap.size = A at hD ⊢
  have hA : ∀ q : Nat, s.heap.size ≤ q → A q := fun q h => by rw [← hAe]; exact Or.inr h
  have hl := lv_entry ([.ref h0]) (n := 1) (Nat.le_of_ble_eq_true rfl)
  rw [lg_entry_eq]
  generalize (lg_sl ([.ref h0]) ++ List.replicate (1 - (lg_sl ([.ref h0])).length) Slot.unset).toArray = ls at hl ⊢
  have hl : lv_has ls 1 [(0, .ref h0)] := hl
  refine zstart (fun H hH => ?_)
  rw [← hH] at hP
  have hS : va_S A s.heap H [] := by rw [hH]; exact va_S.rf
  refine lv_aload_n hx hb dX0_init_0 rfl (lv_at hl 0 rfl) ?_
  refine W.objInit hx hb hown (hts _ qw267) (hts _ qw124) (hts _ qw125) rfl (by rw [hml]; exact hl.1) rfl dX0_init_1 (Nat.le_of_ble_eq_true rfl) (Nat.le_of_ble_eq_true rfl) ?_
  refine W.eq (g2 := F0 m 4 ls []) rfl ?_
  refine lv_aload_n hx hb dX0_init_4 rfl (lv_at hl 0 rfl) ?_
  refine lv_sipush (v := 680) hx hb dX0_init_5 (by decide) ?_
  refine va_newa (atype := .int) (ty := .int) (N' := 680) (a0 := (680, .inl (fun _ => 0))) hx hb (hts _ qw147) rfl hK hP hD hS hA (fun _ => rfl) (by decide) (by decide) (Nat.le_of_ble_eq_true rfl) (Nat.le_of_ble_eq_true rfl) (Nat.le_of_ble_eq_true rfl) dX0_init_8 (fun q1 cA H hK2 hP hD hS => ?_)
  obtain rfl : cI = cA := (zcA hK2 0 2 rfl rfl).symm
  have hP : va_P (dC, dI) vwCl [(h0, .inr (0, [.null, .int 0, .int 0])), (q1, .inl (cI, 680, .inl (fun _ => 0)))] H := hP
  have hD : va_D A [(h0, .inr (0, [.null, .int 0, .int 0])), (q1, .inl (cI, 680, .inl (fun _ => 0)))] := hD
  refine W.widen (k := 1) (n := 680) (Nat.le_of_ble_eq_true rfl) (Nat.le_of_ble_eq_true rfl) ?_
  refine va_putF (D := (dC, dI)) (ci := 0) (v := .ref q1) (ty := .array .int) (C := RX0) (T := TX0) (N := 3) hx hb hts iX0 tyX0 tyX0_ok nmX0 hown hK hP hD hS 0 rfl rfl 0 (by decide) (hts _ qw268) (fun _ h9 => h9) rfl hin rfl (by decide +kernel) rfl rfl (Nat.le_of_ble_eq_true rfl) dX0_init_10 (fun H locs hP hD hS => ?_)
  have hP : va_P (dC, dI) vwCl [(h0, .inr (0, [.ref q1, .int 0, .int 0])), (q1, .inl (cI, 680, .inl (fun _ => 0)))] H := hP
  have hD : va_D A [(h0, .inr (0, [.ref q1, .int 0, .int 0])), (q1, .inl (cI, 680, .inl (fun _ => 0)))] := hD
  exact W.vret hx hb hr (fun t ht hW => ⟨⟨(), rfl, trivial, ⟨q1, by rw [ht]; exact hP, hD⟩⟩, hS.F ht⟩) hS.2.2 dX0_init_13
set_option maxHeartbeats 4000000 in
set_option maxRecDepth 100000 in
theorem c_X8_init (l : Launch) (dC : Nat → ClassId) (dI : Nat → Nat → Nat) (cI cJ : ClassId) (h0 h1 h2 : Nat) (sz : Nat) : Met l yX8_init (.code yX8_init cX8_init 3 none :: wA) ({ frames := 1, cells := 4, slots := 58, locals := 20 }) (zP (dC, dI) [(cI, .int), (cJ, .long)] [.ref h0, .ref h1, .ref h2] sz [(h0, .inr (8, [.null, .null, .null, .null, .null, .null, .null]))]) (va_Qv (fun (_ : Unit) => True) (fun (_ : Unit) (t : State) => ∃ (q1 : Nat) (q2 : Nat) (q3 : Nat) (q4 : Nat), va_P (dC, dI) vwCl [(h0, .inr (8, [.ref q1, .ref q2, .ref h1, .ref h2, .ref q3, .ref q4, .null])), (q1, .inl (cI, 10, .inl (fun _ => 0))), (q2, .inl (cI, 10, .inl (fun _ => 0))), (q3, .inl (cI, 6, .inl (fun _ => 0))), (q4, .inl (cI, 32, .inl (fun _ => 0)))] t.heap ∧ va_D (va_A [(h0, .inr (8, [.null, .null, .null, .null, .null, .null, .null]))] sz) [(h0, .inr (8, [.ref q1, .ref q2, .ref h1, .ref h2, .ref q3, .ref q4, .null])), (q1, .inl (cI, 10, .inl (fun _ => 0))), (q2, .inl (cI, 10, .inl (fun _ => 0))), (q3, .inl (cI, 6, .inl (fun _ => 0))), (q4, .inl (cI, 32, .inl (fun _ => 0)))]) (va_A [(h0, .inr (8, [.null, .null, .null, .null, .null, .null, .null]))] sz)) 4 58 (va_A [(h0, .inr (8, [.null, .null, .null, .null, .null, .null, .null]))] sz) := by
  refine Met.ofW (cc := cX8_init) (maxL := 3) (ret := none) (by decide) rfl ?_
  intro p e s m args below meth c s₁ B hml hv
  obtain ⟨rfl, hsz, hP, hK, hT⟩ := hv
  have hx := B.exec
  have hb := B.bytes
  have hr := B.returns
  have hts : ∀ w ∈ wA, w.before _ s = true := fun w h => atoms_spec (ws := .code yX8_init cX8_init 3 none :: wA) B.pre w (List.mem_cons_of_mem _ h)
  have hown : s.vm.findClass RX8 = some m.cls := findClass_of_methodNamed B.named
  have hlocks := B.notSynchronized
  have hin : meth.name = "<init>" := (name_of_methodNamed B.named B.method).1
  subst hsz
  have hD := hT.self (sz := s.heap.size)
  generalize hAe : va_A [(h0, .inr (8, [.null, .null, .null, .null, .null, .null, .null]))] s.heap.size = A at hD ⊢
  have hA : ∀ q : Nat, s.heap.size ≤ q → A q := fun q h => by rw [← hAe]; exact Or.inr h
  have hl := lv_entry ([.ref h0, .ref h1, .ref h2]) (n := 3) (Nat.le_of_ble_eq_true rfl)
  rw [lg_entry_eq]
  generalize (lg_sl ([.ref h0, .ref h1, .ref h2]) ++ List.replicate (3 - (lg_sl ([.ref h0, .ref h1, .ref h2])).length) Slot.unset).toArray = ls at hl ⊢
  have hl : lv_has ls 3 [(0, .ref h0), (1, .ref h1), (2, .ref h2)] := hl
  refine zstart (fun H hH => ?_)
  rw [← hH] at hP
  have hS : va_S A s.heap H [] := by rw [hH]; exact va_S.rf
  refine lv_aload_n hx hb dX8_init_0 rfl (lv_at hl 0 rfl) ?_
  refine W.objInit hx hb hown (hts _ qw284) (hts _ qw124) (hts _ qw125) rfl (by rw [hml]; exact hl.1) rfl dX8_init_1 (Nat.le_of_ble_eq_true rfl) (Nat.le_of_ble_eq_true rfl) ?_
  refine W.eq (g2 := F0 m 4 ls []) rfl ?_
  refine lv_aload_n hx hb dX8_init_4 rfl (lv_at hl 0 rfl) ?_
  refine lv_bipush (v := 10) hx hb dX8_init_5 (by decide) ?_
  refine va_newa (atype := .int) (ty := .int) (N' := 10) (a0 := (10, .inl (fun _ => 0))) hx hb (hts _ qw147) rfl hK hP hD hS hA (fun _ => rfl) (by decide) (by decide) (Nat.le_of_ble_eq_true rfl) (Nat.le_of_ble_eq_true rfl) (Nat.le_of_ble_eq_true rfl) dX8_init_7 (fun q1 cA H hK2 hP hD hS => ?_)
  obtain rfl : cI = cA := (zcA hK2 0 2 rfl rfl).symm
  have hP : va_P (dC, dI) vwCl [(h0, .inr (8, [.null, .null, .null, .null, .null, .null, .null])), (q1, .inl (cI, 10, .inl (fun _ => 0)))] H := hP
  have hD : va_D A [(h0, .inr (8, [.null, .null, .null, .null, .null, .null, .null])), (q1, .inl (cI, 10, .inl (fun _ => 0)))] := hD
  refine W.widen (k := 1) (n := 10) (Nat.le_of_ble_eq_true rfl) (Nat.le_of_ble_eq_true rfl) ?_
  refine va_putF (D := (dC, dI)) (ci := 8) (v := .ref q1) (ty := .array .int) (C := RX8) (T := TX8) (N := 7) hx hb hts iX8 tyX8 tyX8_ok nmX8 hown hK hP hD hS 0 rfl rfl 0 (by decide) (hts _ qw285) (fun _ h9 => h9) rfl hin rfl (by decide +kernel) rfl rfl (Nat.le_of_ble_eq_true rfl) dX8_init_9 (fun H locs hP hD hS => ?_)
  have hP : va_P (dC, dI) vwCl [(h0, .inr (8, [.ref q1, .null, .null, .null, .null, .null, .null])), (q1, .inl (cI, 10, .inl (fun _ => 0)))] H := hP
  have hD : va_D A [(h0, .inr (8, [.ref q1, .null, .null, .null, .null, .null, .null])), (q1, .inl (cI, 10, .inl (fun _ => 0)))] := hD
  refine lv_aload_n hx hb dX8_init_12 rfl (lv_at hl 0 rfl) ?_
  refine lv_bipush (v := 10) hx hb dX8_init_13 (by decide) ?_
  refine va_newa (atype := .int) (ty := .int) (N' := 10) (a0 := (10, .inl (fun _ => 0))) hx hb (hts _ qw147) rfl hK hP hD hS hA (fun _ => rfl) (by decide) (by decide) (Nat.le_of_ble_eq_true rfl) (Nat.le_of_ble_eq_true rfl) (Nat.le_of_ble_eq_true rfl) dX8_init_15 (fun q2 cA H hK2 hP hD hS => ?_)
  obtain rfl : cI = cA := (zcA hK2 0 2 rfl rfl).symm
  have hP : va_P (dC, dI) vwCl [(h0, .inr (8, [.ref q1, .null, .null, .null, .null, .null, .null])), (q1, .inl (cI, 10, .inl (fun _ => 0))), (q2, .inl (cI, 10, .inl (fun _ => 0)))] H := hP
  have hD : va_D A [(h0, .inr (8, [.ref q1, .null, .null, .null, .null, .null, .null])), (q1, .inl (cI, 10, .inl (fun _ => 0))), (q2, .inl (cI, 10, .inl (fun _ => 0)))] := hD
  refine W.widen (k := 2) (n := 20) (Nat.le_of_ble_eq_true rfl) (Nat.le_of_ble_eq_true rfl) ?_
  refine va_putF (D := (dC, dI)) (ci := 8) (v := .ref q2) (ty := .array .int) (C := RX8) (T := TX8) (N := 7) hx hb hts iX8 tyX8 tyX8_ok nmX8 hown hK hP hD hS 0 rfl rfl 1 (by decide) (hts _ qw287) (fun _ h9 => h9) rfl hin rfl (by decide +kernel) rfl rfl (Nat.le_of_ble_eq_true rfl) dX8_init_17 (fun H locs hP hD hS => ?_)
  have hP : va_P (dC, dI) vwCl [(h0, .inr (8, [.ref q1, .ref q2, .null, .null, .null, .null, .null])), (q1, .inl (cI, 10, .inl (fun _ => 0))), (q2, .inl (cI, 10, .inl (fun _ => 0)))] H := hP
  have hD : va_D A [(h0, .inr (8, [.ref q1, .ref q2, .null, .null, .null, .null, .null])), (q1, .inl (cI, 10, .inl (fun _ => 0))), (q2, .inl (cI, 10, .inl (fun _ => 0)))] := hD
  refine lv_aload_n hx hb dX8_init_20 rfl (lv_at hl 0 rfl) ?_
  refine lv_bipush (v := 6) hx hb dX8_init_21 (by decide) ?_
  refine va_newa (atype := .int) (ty := .int) (N' := 6) (a0 := (6, .inl (fun _ => 0))) hx hb (hts _ qw147) rfl hK hP hD hS hA (fun _ => rfl) (by decide) (by decide) (Nat.le_of_ble_eq_true rfl) (Nat.le_of_ble_eq_true rfl) (Nat.le_of_ble_eq_true rfl) dX8_init_23 (fun q3 cA H hK2 hP hD hS => ?_)
  obtain rfl : cI = cA := (zcA hK2 0 2 rfl rfl).symm
  have hP : va_P (dC, dI) vwCl [(h0, .inr (8, [.ref q1, .ref q2, .null, .null, .null, .null, .null])), (q1, .inl (cI, 10, .inl (fun _ => 0))), (q2, .inl (cI, 10, .inl (fun _ => 0))), (q3, .inl (cI, 6, .inl (fun _ => 0)))] H := hP
  have hD : va_D A [(h0, .inr (8, [.ref q1, .ref q2, .null, .null, .null, .null, .null])), (q1, .inl (cI, 10, .inl (fun _ => 0))), (q2, .inl (cI, 10, .inl (fun _ => 0))), (q3, .inl (cI, 6, .inl (fun _ => 0)))] := hD
  refine W.widen (k := 3) (n := 26) (Nat.le_of_ble_eq_true rfl) (Nat.le_of_ble_eq_true rfl) ?_
  refine va_putF (D := (dC, dI)) (ci := 8) (v := .ref q3) (ty := .array .int) (C := RX8) (T := TX8) (N := 7) hx hb hts iX8 tyX8 tyX8_ok nmX8 hown hK hP hD hS 0 rfl rfl 4 (by decide) (hts _ qw291) (fun _ h9 => h9) rfl hin rfl (by decide +kernel) rfl rfl (Nat.le_of_ble_eq_true rfl) dX8_init_25 (fun H locs hP hD hS => ?_)
  have hP : va_P (dC, dI) vwCl [(h0, .inr (8, [.ref q1, .ref q2, .null, .null, .ref q3, .null, .null])), (q1, .inl (cI, 10, .inl (fun _ => 0))), (q2, .inl (cI, 10, .inl (fun _ => 0))), (q3, .inl (cI, 6, .inl (fun _ => 0)))] H := hP
  have hD : va_D A [(h0, .inr (8, [.ref q1, .ref q2, .null, .null, .ref q3, .null, .null])), (q1, .inl (cI, 10, .inl (fun _ => 0))), (q2, .inl (cI, 10, .inl (fun _ => 0))), (q3, .inl (cI, 6, .inl (fun _ => 0)))] := hD
  refine lv_aload_n hx hb dX8_init_28 rfl (lv_at hl 0 rfl) ?_
  refine lv_bipush (v := 32) hx hb dX8_init_29 (by decide) ?_
  refine va_newa (atype := .int) (ty := .int) (N' := 32) (a0 := (32, .inl (fun _ => 0))) hx hb (hts _ qw147) rfl hK hP hD hS hA (fun _ => rfl) (by decide) (by decide) (Nat.le_of_ble_eq_true rfl) (Nat.le_of_ble_eq_true rfl) (Nat.le_of_ble_eq_true rfl) dX8_init_31 (fun q4 cA H hK2 hP hD hS => ?_)
  obtain rfl : cI = cA := (zcA hK2 0 2 rfl rfl).symm
  have hP : va_P (dC, dI) vwCl [(h0, .inr (8, [.ref q1, .ref q2, .null, .null, .ref q3, .null, .null])), (q1, .inl (cI, 10, .inl (fun _ => 0))), (q2, .inl (cI, 10, .inl (fun _ => 0))), (q3, .inl (cI, 6, .inl (fun _ => 0))), (q4, .inl (cI, 32, .inl (fun _ => 0)))] H := hP
  have hD : va_D A [(h0, .inr (8, [.ref q1, .ref q2, .null, .null, .ref q3, .null, .null])), (q1, .inl (cI, 10, .inl (fun _ => 0))), (q2, .inl (cI, 10, .inl (fun _ => 0))), (q3, .inl (cI, 6, .inl (fun _ => 0))), (q4, .inl (cI, 32, .inl (fun _ => 0)))] := hD
  refine W.widen (k := 4) (n := 58) (Nat.le_of_ble_eq_true rfl) (Nat.le_of_ble_eq_true rfl) ?_
  refine va_putF (D := (dC, dI)) (ci := 8) (v := .ref q4) (ty := .array .int) (C := RX8) (T := TX8) (N := 7) hx hb hts iX8 tyX8 tyX8_ok nmX8 hown hK hP hD hS 0 rfl rfl 5 (by decide) (hts _ qw292) (fun _ h9 => h9) rfl hin rfl (by decide +kernel) rfl rfl (Nat.le_of_ble_eq_true rfl) dX8_init_33 (fun H locs hP hD hS => ?_)
  have hP : va_P (dC, dI) vwCl [(h0, .inr (8, [.ref q1, .ref q2, .null, .null, .ref q3, .ref q4, .null])), (q1, .inl (cI, 10, .inl (fun _ => 0))), (q2, .inl (cI, 10, .inl (fun _ => 0))), (q3, .inl (cI, 6, .inl (fun _ => 0))), (q4, .inl (cI, 32, .inl (fun _ => 0)))] H := hP
  have hD : va_D A [(h0, .inr (8, [.ref q1, .ref q2, .null, .null, .ref q3, .ref q4, .null])), (q1, .inl (cI, 10, .inl (fun _ => 0))), (q2, .inl (cI, 10, .inl (fun _ => 0))), (q3, .inl (cI, 6, .inl (fun _ => 0))), (q4, .inl (cI, 32, .inl (fun _ => 0)))] := hD
  refine lv_aload_n hx hb dX8_init_36 rfl (lv_at hl 0 rfl) ?_
  refine lv_aload_n hx hb dX8_init_37 rfl (lv_at hl 1 rfl) ?_
  refine va_putF (D := (dC, dI)) (ci := 8) (v := .ref h1) (ty := .object "NinePortraits$Court") (C := RX8) (T := TX8) (N := 7) hx hb hts iX8 tyX8 tyX8_ok nmX8 hown hK hP hD hS 0 rfl rfl 2 (by decide) (hts _ qw289) (fun _ h9 => h9) rfl hin rfl (by decide +kernel) rfl rfl (Nat.le_of_ble_eq_true rfl) dX8_init_38 (fun H locs hP hD hS => ?_)
  have hP : va_P (dC, dI) vwCl [(h0, .inr (8, [.ref q1, .ref q2, .ref h1, .null, .ref q3, .ref q4, .null])), (q1, .inl (cI, 10, .inl (fun _ => 0))), (q2, .inl (cI, 10, .inl (fun _ => 0))), (q3, .inl (cI, 6, .inl (fun _ => 0))), (q4, .inl (cI, 32, .inl (fun _ => 0)))] H := hP
  have hD : va_D A [(h0, .inr (8, [.ref q1, .ref q2, .ref h1, .null, .ref q3, .ref q4, .null])), (q1, .inl (cI, 10, .inl (fun _ => 0))), (q2, .inl (cI, 10, .inl (fun _ => 0))), (q3, .inl (cI, 6, .inl (fun _ => 0))), (q4, .inl (cI, 32, .inl (fun _ => 0)))] := hD
  refine lv_aload_n hx hb dX8_init_41 rfl (lv_at hl 0 rfl) ?_
  refine lv_aload_n hx hb dX8_init_42 rfl (lv_at hl 2 rfl) ?_
  refine va_putF (D := (dC, dI)) (ci := 8) (v := .ref h2) (ty := .object "NinePortraits$State") (C := RX8) (T := TX8) (N := 7) hx hb hts iX8 tyX8 tyX8_ok nmX8 hown hK hP hD hS 0 rfl rfl 3 (by decide) (hts _ qw290) (fun _ h9 => h9) rfl hin rfl (by decide +kernel) rfl rfl (Nat.le_of_ble_eq_true rfl) dX8_init_43 (fun H locs hP hD hS => ?_)
  have hP : va_P (dC, dI) vwCl [(h0, .inr (8, [.ref q1, .ref q2, .ref h1, .ref h2, .ref q3, .ref q4, .null])), (q1, .inl (cI, 10, .inl (fun _ => 0))), (q2, .inl (cI, 10, .inl (fun _ => 0))), (q3, .inl (cI, 6, .inl (fun _ => 0))), (q4, .inl (cI, 32, .inl (fun _ => 0)))] H := hP
  have hD : va_D A [(h0, .inr (8, [.ref q1, .ref q2, .ref h1, .ref h2, .ref q3, .ref q4, .null])), (q1, .inl (cI, 10, .inl (fun _ => 0))), (q2, .inl (cI, 10, .inl (fun _ => 0))), (q3, .inl (cI, 6, .inl (fun _ => 0))), (q4, .inl (cI, 32, .inl (fun _ => 0)))] := hD
  exact W.vret hx hb hr (fun t ht hW => ⟨⟨(), rfl, trivial, ⟨q1, q2, q3, q4, by rw [ht]; exact hP, hD⟩⟩, hS.F ht⟩) hS.2.2 dX8_init_46
set_option maxHeartbeats 4000000 in
set_option maxRecDepth 100000 in
theorem c_X6_init (l : Launch) (dC : Nat → ClassId) (dI : Nat → Nat → Nat) (cI cJ : ClassId) (h0 h1 h2 h3 : Nat) (sz : Nat) : Met l yX6_init (.code yX6_init cX6_init 4 none :: wA) ({ frames := 1, cells := 4, slots := 75, locals := 20 }) (zP (dC, dI) [(cI, .int), (cJ, .long)] [.ref h0, .ref h1, .ref h2, .ref h3] sz [(h0, .inr (6, [.null, .null, .null, .null, .long 0, .int 0, .null, .null, .null]))]) (va_Qv (fun (_ : Unit) => True) (fun (_ : Unit) (t : State) => ∃ (q1 : Nat) (q2 : Nat) (q3 : Nat) (q4 : Nat), va_P (dC, dI) vwCl [(h0, .inr (6, [.ref h1, .ref h2, .ref h3, .ref q1, .long 0, .int 0, .ref q2, .ref q3, .ref q4])), (q1, .inl (cJ, 10, .inr (.inl (fun _ => 0)))), (q2, .inl (cI, 10, .inl (fun _ => 0))), (q3, .inl (cI, 10, .inl (fun _ => 0))), (q4, .inl (cI, 45, .inl (fun _ => 0)))] t.heap ∧ va_D (va_A [(h0, .inr (6, [.null, .null, .null, .null, .long 0, .int 0, .null, .null, .null]))] sz) [(h0, .inr (6, [.ref h1, .ref h2, .ref h3, .ref q1, .long 0, .int 0, .ref q2, .ref q3, .ref q4])), (q1, .inl (cJ, 10, .inr (.inl (fun _ => 0)))), (q2, .inl (cI, 10, .inl (fun _ => 0))), (q3, .inl (cI, 10, .inl (fun _ => 0))), (q4, .inl (cI, 45, .inl (fun _ => 0)))]) (va_A [(h0, .inr (6, [.null, .null, .null, .null, .long 0, .int 0, .null, .null, .null]))] sz)) 4 75 (va_A [(h0, .inr (6, [.null, .null, .null, .null, .long 0, .int 0, .null, .null, .null]))] sz) := by
  refine Met.ofW (cc := cX6_init) (maxL := 4) (ret := none) (by decide) rfl ?_
  intro p e s m args below meth c s₁ B hml hv
  obtain ⟨rfl, hsz, hP, hK, hT⟩ := hv
  have hx := B.exec
  have hb := B.bytes
  have hr := B.returns
  have hts : ∀ w ∈ wA, w.before _ s = true := fun w h => atoms_spec (ws := .code yX6_init cX6_init 4 none :: wA) B.pre w (List.mem_cons_of_mem _ h)
  have hown : s.vm.findClass RX6 = some m.cls := findClass_of_methodNamed B.named
  have hlocks := B.notSynchronized
  have hin : meth.name = "<init>" := (name_of_methodNamed B.named B.method).1
  subst hsz
  have hD := hT.self (sz := s.heap.size)
  generalize hAe : va_A [(h0, .inr (6, [.null, .null, .null, .null, .long 0, .int 0, .null, .null, .null]))] s.heap.size = A at hD ⊢
  have hA : ∀ q : Nat, s.heap.size ≤ q → A q := fun q h => by rw [← hAe]; exact Or.inr h
  have hl := lv_entry ([.ref h0, .ref h1, .ref h2, .ref h3]) (n := 4) (Nat.le_of_ble_eq_true rfl)
  rw [lg_entry_eq]
  generalize (lg_sl ([.ref h0, .ref h1, .ref h2, .ref h3]) ++ List.replicate (4 - (lg_sl ([.ref h0, .ref h1, .ref h2, .ref h3])).length) Slot.unset).toArray = ls at hl ⊢
  have hl : lv_has ls 4 [(0, .ref h0), (1, .ref h1), (2, .ref h2), (3, .ref h3)] := hl
  refine zstart (fun H hH => ?_)
  rw [← hH] at hP
  have hS : va_S A s.heap H [] := by rw [hH]; exact va_S.rf
  refine lv_aload_n hx hb dX6_init_0 rfl (lv_at hl 0 rfl) ?_
  refine W.objInit hx hb hown (hts _ qw315) (hts _ qw124) (hts _ qw125) rfl (by rw [hml]; exact hl.1) rfl dX6_init_1 (Nat.le_of_ble_eq_true rfl) (Nat.le_of_ble_eq_true rfl) ?_
  refine W.eq (g2 := F0 m 4 ls []) rfl ?_
  refine lv_aload_n hx hb dX6_init_4 rfl (lv_at hl 0 rfl) ?_
  refine lv_bipush (v := 10) hx hb dX6_init_5 (by decide) ?_
  refine va_newa (atype := .long) (ty := .long) (N' := 10) (a0 := (10, .inr (.inl (fun _ => 0)))) hx hb (hts _ qw345) rfl hK hP hD hS hA (fun _ => rfl) (by decide) (by decide) (Nat.le_of_ble_eq_true rfl) (Nat.le_of_ble_eq_true rfl) (Nat.le_of_ble_eq_true rfl) dX6_init_7 (fun q1 cA H hK2 hP hD hS => ?_)
  obtain rfl : cJ = cA := (zcA hK2 1 2 rfl rfl).symm
  have hP : va_P (dC, dI) vwCl [(h0, .inr (6, [.null, .null, .null, .null, .long 0, .int 0, .null, .null, .null])), (q1, .inl (cJ, 10, .inr (.inl (fun _ => 0))))] H := hP
  have hD : va_D A [(h0, .inr (6, [.null, .null, .null, .null, .long 0, .int 0, .null, .null, .null])), (q1, .inl (cJ, 10, .inr (.inl (fun _ => 0))))] := hD
  refine W.widen (k := 1) (n := 10) (Nat.le_of_ble_eq_true rfl) (Nat.le_of_ble_eq_true rfl) ?_
  refine va_putF (D := (dC, dI)) (ci := 6) (v := .ref q1) (ty := .array .long) (C := RX6) (T := TX6) (N := 9) hx hb hts iX6 tyX6 tyX6_ok nmX6 hown hK hP hD hS 0 rfl rfl 3 (by decide) (hts _ qw319) (fun _ h9 => h9) rfl hin rfl (by decide +kernel) rfl rfl (Nat.le_of_ble_eq_true rfl) dX6_init_9 (fun H locs hP hD hS => ?_)
  have hP : va_P (dC, dI) vwCl [(h0, .inr (6, [.null, .null, .null, .ref q1, .long 0, .int 0, .null, .null, .null])), (q1, .inl (cJ, 10, .inr (.inl (fun _ => 0))))] H := hP
  have hD : va_D A [(h0, .inr (6, [.null, .null, .null, .ref q1, .long 0, .int 0, .null, .null, .null])), (q1, .inl (cJ, 10, .inr (.inl (fun _ => 0))))] := hD
  refine lv_aload_n hx hb dX6_init_12 rfl (lv_at hl 0 rfl) ?_
  refine lv_bipush (v := 10) hx hb dX6_init_13 (by decide) ?_
  refine va_newa (atype := .int) (ty := .int) (N' := 10) (a0 := (10, .inl (fun _ => 0))) hx hb (hts _ qw147) rfl hK hP hD hS hA (fun _ => rfl) (by decide) (by decide) (Nat.le_of_ble_eq_true rfl) (Nat.le_of_ble_eq_true rfl) (Nat.le_of_ble_eq_true rfl) dX6_init_15 (fun q2 cA H hK2 hP hD hS => ?_)
  obtain rfl : cI = cA := (zcA hK2 0 2 rfl rfl).symm
  have hP : va_P (dC, dI) vwCl [(h0, .inr (6, [.null, .null, .null, .ref q1, .long 0, .int 0, .null, .null, .null])), (q1, .inl (cJ, 10, .inr (.inl (fun _ => 0)))), (q2, .inl (cI, 10, .inl (fun _ => 0)))] H := hP
  have hD : va_D A [(h0, .inr (6, [.null, .null, .null, .ref q1, .long 0, .int 0, .null, .null, .null])), (q1, .inl (cJ, 10, .inr (.inl (fun _ => 0)))), (q2, .inl (cI, 10, .inl (fun _ => 0)))] := hD
  refine W.widen (k := 2) (n := 20) (Nat.le_of_ble_eq_true rfl) (Nat.le_of_ble_eq_true rfl) ?_
  refine va_putF (D := (dC, dI)) (ci := 6) (v := .ref q2) (ty := .array .int) (C := RX6) (T := TX6) (N := 9) hx hb hts iX6 tyX6 tyX6_ok nmX6 hown hK hP hD hS 0 rfl rfl 6 (by decide) (hts _ qw323) (fun _ h9 => h9) rfl hin rfl (by decide +kernel) rfl rfl (Nat.le_of_ble_eq_true rfl) dX6_init_17 (fun H locs hP hD hS => ?_)
  have hP : va_P (dC, dI) vwCl [(h0, .inr (6, [.null, .null, .null, .ref q1, .long 0, .int 0, .ref q2, .null, .null])), (q1, .inl (cJ, 10, .inr (.inl (fun _ => 0)))), (q2, .inl (cI, 10, .inl (fun _ => 0)))] H := hP
  have hD : va_D A [(h0, .inr (6, [.null, .null, .null, .ref q1, .long 0, .int 0, .ref q2, .null, .null])), (q1, .inl (cJ, 10, .inr (.inl (fun _ => 0)))), (q2, .inl (cI, 10, .inl (fun _ => 0)))] := hD
  refine lv_aload_n hx hb dX6_init_20 rfl (lv_at hl 0 rfl) ?_
  refine lv_bipush (v := 10) hx hb dX6_init_21 (by decide) ?_
  refine va_newa (atype := .int) (ty := .int) (N' := 10) (a0 := (10, .inl (fun _ => 0))) hx hb (hts _ qw147) rfl hK hP hD hS hA (fun _ => rfl) (by decide) (by decide) (Nat.le_of_ble_eq_true rfl) (Nat.le_of_ble_eq_true rfl) (Nat.le_of_ble_eq_true rfl) dX6_init_23 (fun q3 cA H hK2 hP hD hS => ?_)
  obtain rfl : cI = cA := (zcA hK2 0 2 rfl rfl).symm
  have hP : va_P (dC, dI) vwCl [(h0, .inr (6, [.null, .null, .null, .ref q1, .long 0, .int 0, .ref q2, .null, .null])), (q1, .inl (cJ, 10, .inr (.inl (fun _ => 0)))), (q2, .inl (cI, 10, .inl (fun _ => 0))), (q3, .inl (cI, 10, .inl (fun _ => 0)))] H := hP
  have hD : va_D A [(h0, .inr (6, [.null, .null, .null, .ref q1, .long 0, .int 0, .ref q2, .null, .null])), (q1, .inl (cJ, 10, .inr (.inl (fun _ => 0)))), (q2, .inl (cI, 10, .inl (fun _ => 0))), (q3, .inl (cI, 10, .inl (fun _ => 0)))] := hD
  refine W.widen (k := 3) (n := 30) (Nat.le_of_ble_eq_true rfl) (Nat.le_of_ble_eq_true rfl) ?_
  refine va_putF (D := (dC, dI)) (ci := 6) (v := .ref q3) (ty := .array .int) (C := RX6) (T := TX6) (N := 9) hx hb hts iX6 tyX6 tyX6_ok nmX6 hown hK hP hD hS 0 rfl rfl 7 (by decide) (hts _ qw324) (fun _ h9 => h9) rfl hin rfl (by decide +kernel) rfl rfl (Nat.le_of_ble_eq_true rfl) dX6_init_25 (fun H locs hP hD hS => ?_)
  have hP : va_P (dC, dI) vwCl [(h0, .inr (6, [.null, .null, .null, .ref q1, .long 0, .int 0, .ref q2, .ref q3, .null])), (q1, .inl (cJ, 10, .inr (.inl (fun _ => 0)))), (q2, .inl (cI, 10, .inl (fun _ => 0))), (q3, .inl (cI, 10, .inl (fun _ => 0)))] H := hP
  have hD : va_D A [(h0, .inr (6, [.null, .null, .null, .ref q1, .long 0, .int 0, .ref q2, .ref q3, .null])), (q1, .inl (cJ, 10, .inr (.inl (fun _ => 0)))), (q2, .inl (cI, 10, .inl (fun _ => 0))), (q3, .inl (cI, 10, .inl (fun _ => 0)))] := hD
  refine lv_aload_n hx hb dX6_init_28 rfl (lv_at hl 0 rfl) ?_
  refine lv_bipush (v := 45) hx hb dX6_init_29 (by decide) ?_
  refine va_newa (atype := .int) (ty := .int) (N' := 45) (a0 := (45, .inl (fun _ => 0))) hx hb (hts _ qw147) rfl hK hP hD hS hA (fun _ => rfl) (by decide) (by decide) (Nat.le_of_ble_eq_true rfl) (Nat.le_of_ble_eq_true rfl) (Nat.le_of_ble_eq_true rfl) dX6_init_31 (fun q4 cA H hK2 hP hD hS => ?_)
  obtain rfl : cI = cA := (zcA hK2 0 2 rfl rfl).symm
  have hP : va_P (dC, dI) vwCl [(h0, .inr (6, [.null, .null, .null, .ref q1, .long 0, .int 0, .ref q2, .ref q3, .null])), (q1, .inl (cJ, 10, .inr (.inl (fun _ => 0)))), (q2, .inl (cI, 10, .inl (fun _ => 0))), (q3, .inl (cI, 10, .inl (fun _ => 0))), (q4, .inl (cI, 45, .inl (fun _ => 0)))] H := hP
  have hD : va_D A [(h0, .inr (6, [.null, .null, .null, .ref q1, .long 0, .int 0, .ref q2, .ref q3, .null])), (q1, .inl (cJ, 10, .inr (.inl (fun _ => 0)))), (q2, .inl (cI, 10, .inl (fun _ => 0))), (q3, .inl (cI, 10, .inl (fun _ => 0))), (q4, .inl (cI, 45, .inl (fun _ => 0)))] := hD
  refine W.widen (k := 4) (n := 75) (Nat.le_of_ble_eq_true rfl) (Nat.le_of_ble_eq_true rfl) ?_
  refine va_putF (D := (dC, dI)) (ci := 6) (v := .ref q4) (ty := .array .int) (C := RX6) (T := TX6) (N := 9) hx hb hts iX6 tyX6 tyX6_ok nmX6 hown hK hP hD hS 0 rfl rfl 8 (by decide) (hts _ qw325) (fun _ h9 => h9) rfl hin rfl (by decide +kernel) rfl rfl (Nat.le_of_ble_eq_true rfl) dX6_init_33 (fun H locs hP hD hS => ?_)
  have hP : va_P (dC, dI) vwCl [(h0, .inr (6, [.null, .null, .null, .ref q1, .long 0, .int 0, .ref q2, .ref q3, .ref q4])), (q1, .inl (cJ, 10, .inr (.inl (fun _ => 0)))), (q2, .inl (cI, 10, .inl (fun _ => 0))), (q3, .inl (cI, 10, .inl (fun _ => 0))), (q4, .inl (cI, 45, .inl (fun _ => 0)))] H := hP
  have hD : va_D A [(h0, .inr (6, [.null, .null, .null, .ref q1, .long 0, .int 0, .ref q2, .ref q3, .ref q4])), (q1, .inl (cJ, 10, .inr (.inl (fun _ => 0)))), (q2, .inl (cI, 10, .inl (fun _ => 0))), (q3, .inl (cI, 10, .inl (fun _ => 0))), (q4, .inl (cI, 45, .inl (fun _ => 0)))] := hD
  refine lv_aload_n hx hb dX6_init_36 rfl (lv_at hl 0 rfl) ?_
  refine lv_aload_n hx hb dX6_init_37 rfl (lv_at hl 1 rfl) ?_
  refine va_putF (D := (dC, dI)) (ci := 6) (v := .ref h1) (ty := .object "NinePortraits$Court") (C := RX6) (T := TX6) (N := 9) hx hb hts iX6 tyX6 tyX6_ok nmX6 hown hK hP hD hS 0 rfl rfl 0 (by decide) (hts _ qw316) (fun _ h9 => h9) rfl hin rfl (by decide +kernel) rfl rfl (Nat.le_of_ble_eq_true rfl) dX6_init_38 (fun H locs hP hD hS => ?_)
  have hP : va_P (dC, dI) vwCl [(h0, .inr (6, [.ref h1, .null, .null, .ref q1, .long 0, .int 0, .ref q2, .ref q3, .ref q4])), (q1, .inl (cJ, 10, .inr (.inl (fun _ => 0)))), (q2, .inl (cI, 10, .inl (fun _ => 0))), (q3, .inl (cI, 10, .inl (fun _ => 0))), (q4, .inl (cI, 45, .inl (fun _ => 0)))] H := hP
  have hD : va_D A [(h0, .inr (6, [.ref h1, .null, .null, .ref q1, .long 0, .int 0, .ref q2, .ref q3, .ref q4])), (q1, .inl (cJ, 10, .inr (.inl (fun _ => 0)))), (q2, .inl (cI, 10, .inl (fun _ => 0))), (q3, .inl (cI, 10, .inl (fun _ => 0))), (q4, .inl (cI, 45, .inl (fun _ => 0)))] := hD
  refine lv_aload_n hx hb dX6_init_41 rfl (lv_at hl 0 rfl) ?_
  refine lv_aload_n hx hb dX6_init_42 rfl (lv_at hl 2 rfl) ?_
  refine va_putF (D := (dC, dI)) (ci := 6) (v := .ref h2) (ty := .object "NinePortraits$State") (C := RX6) (T := TX6) (N := 9) hx hb hts iX6 tyX6 tyX6_ok nmX6 hown hK hP hD hS 0 rfl rfl 1 (by decide) (hts _ qw317) (fun _ h9 => h9) rfl hin rfl (by decide +kernel) rfl rfl (Nat.le_of_ble_eq_true rfl) dX6_init_43 (fun H locs hP hD hS => ?_)
  have hP : va_P (dC, dI) vwCl [(h0, .inr (6, [.ref h1, .ref h2, .null, .ref q1, .long 0, .int 0, .ref q2, .ref q3, .ref q4])), (q1, .inl (cJ, 10, .inr (.inl (fun _ => 0)))), (q2, .inl (cI, 10, .inl (fun _ => 0))), (q3, .inl (cI, 10, .inl (fun _ => 0))), (q4, .inl (cI, 45, .inl (fun _ => 0)))] H := hP
  have hD : va_D A [(h0, .inr (6, [.ref h1, .ref h2, .null, .ref q1, .long 0, .int 0, .ref q2, .ref q3, .ref q4])), (q1, .inl (cJ, 10, .inr (.inl (fun _ => 0)))), (q2, .inl (cI, 10, .inl (fun _ => 0))), (q3, .inl (cI, 10, .inl (fun _ => 0))), (q4, .inl (cI, 45, .inl (fun _ => 0)))] := hD
  refine lv_aload_n hx hb dX6_init_46 rfl (lv_at hl 0 rfl) ?_
  refine lv_aload_n hx hb dX6_init_47 rfl (lv_at hl 3 rfl) ?_
  refine va_putF (D := (dC, dI)) (ci := 6) (v := .ref h3) (ty := .object "NinePortraits$Studio") (C := RX6) (T := TX6) (N := 9) hx hb hts iX6 tyX6 tyX6_ok nmX6 hown hK hP hD hS 0 rfl rfl 2 (by decide) (hts _ qw318) (fun _ h9 => h9) rfl hin rfl (by decide +kernel) rfl rfl (Nat.le_of_ble_eq_true rfl) dX6_init_48 (fun H locs hP hD hS => ?_)
  have hP : va_P (dC, dI) vwCl [(h0, .inr (6, [.ref h1, .ref h2, .ref h3, .ref q1, .long 0, .int 0, .ref q2, .ref q3, .ref q4])), (q1, .inl (cJ, 10, .inr (.inl (fun _ => 0)))), (q2, .inl (cI, 10, .inl (fun _ => 0))), (q3, .inl (cI, 10, .inl (fun _ => 0))), (q4, .inl (cI, 45, .inl (fun _ => 0)))] H := hP
  have hD : va_D A [(h0, .inr (6, [.ref h1, .ref h2, .ref h3, .ref q1, .long 0, .int 0, .ref q2, .ref q3, .ref q4])), (q1, .inl (cJ, 10, .inr (.inl (fun _ => 0)))), (q2, .inl (cI, 10, .inl (fun _ => 0))), (q3, .inl (cI, 10, .inl (fun _ => 0))), (q4, .inl (cI, 45, .inl (fun _ => 0)))] := hD
  exact W.vret hx hb hr (fun t ht hW => ⟨⟨(), rfl, trivial, ⟨q1, q2, q3, q4, by rw [ht]; exact hP, hD⟩⟩, hS.F ht⟩) hS.2.2 dX6_init_51
set_option maxHeartbeats 4000000 in
set_option maxRecDepth 100000 in
theorem c_X3_init (l : Launch) (dC : Nat → ClassId) (dI : Nat → Nat → Nat) (cI cJ : ClassId) (h0 : Nat) (sz : Nat) : Met l yX3_init (.code yX3_init cX3_init 1 none :: wA) ({ frames := 1, cells := 0, slots := 0, locals := 20 }) (zP (dC, dI) [(cI, .int), (cJ, .long)] [.ref h0] sz []) (va_Qv (fun (_ : Unit) => True) (fun (_ : Unit) (_ : State) => True) (va_A [] sz)) 0 0 (va_A [] sz) := by
  refine Met.ofW (cc := cX3_init) (maxL := 1) (ret := none) (by decide) rfl ?_
  intro p e s m args below meth c s₁ B hml hv
  obtain ⟨rfl, hsz, hP, hK, hT⟩ := hv
  have hx := B.exec
  have hb := B.bytes
  have hr := B.returns
  have hts : ∀ w ∈ wA, w.before _ s = true := fun w h => atoms_spec (ws := .code yX3_init cX3_init 1 none :: wA) B.pre w (List.mem_cons_of_mem _ h)
  have hown : s.vm.findClass RX3 = some m.cls := findClass_of_methodNamed B.named
  have hlocks := B.notSynchronized
  have hin : meth.name = "<init>" := (name_of_methodNamed B.named B.method).1
  subst hsz
  have hD : va_D (va_A [] s.heap.size) [] := zD0
  generalize hAe : va_A [] s.heap.size = A at hD ⊢
  have hA : ∀ q : Nat, s.heap.size ≤ q → A q := fun q h => by rw [← hAe]; exact Or.inr h
  have hl := lv_entry ([.ref h0]) (n := 1) (Nat.le_of_ble_eq_true rfl)
  rw [lg_entry_eq]
  generalize (lg_sl ([.ref h0]) ++ List.replicate (1 - (lg_sl ([.ref h0])).length) Slot.unset).toArray = ls at hl ⊢
  have hl : lv_has ls 1 [(0, .ref h0)] := hl
  refine zstart (fun H hH => ?_)
  rw [← hH] at hP
  have hS : va_S A s.heap H [] := by rw [hH]; exact va_S.rf
  refine lv_aload_n hx hb dX3_init_0 rfl (lv_at hl 0 rfl) ?_
  refine W.objInit hx hb hown (hts _ qw351) (hts _ qw124) (hts _ qw125) rfl (by rw [hml]; exact hl.1) rfl dX3_init_1 (Nat.le_of_ble_eq_true rfl) (Nat.le_of_ble_eq_true rfl) ?_
  refine W.eq (g2 := F0 m 4 ls []) rfl ?_
  exact W.vret hx hb hr (fun t ht hW => ⟨⟨(), rfl, trivial, trivial⟩, hS.F ht⟩) hS.2.2 dX3_init_4
end
section
set_option maxHeartbeats 4000000 in
set_option maxRecDepth 100000 in
theorem c_X10_init (l : Launch) (dC : Nat → ClassId) (dI : Nat → Nat → Nat) (cI cJ : ClassId) (h0 : Nat) (sz : Nat) : Met l yX10_init (.code yX10_init cX10_init 1 none :: wA) ({ frames := 2, cells := 36, slots := 1656, locals := 43 }) (zPE (dC, dI) [(cI, .int), (cJ, .long)] [.ref h0] sz [(h0, .inr (10, [.null, .null, .null, .null, .null, .null, .null, .null, .null, .null, .null, .null, .null, .int 0, .int 0, .int 0, .int 0]))]) (va_Qv (fun (_ : Unit) => True) (fun (_ : Unit) (t : State) => ∃ (q1 : Nat) (q3 : Nat) (q4 : Nat) (q6 : Nat) (q8 : Nat) (q9 : Nat) (q11 : Nat) (q12 : Nat) (q13 : Nat) (q14 : Nat) (q16 : Nat) (q17 : Nat) (q18 : Nat) (q20 : Nat) (q22 : Nat) (q23 : Nat) (q24 : Nat) (q25 : Nat) (q27 : Nat) (q28 : Nat) (q29 : Nat) (q30 : Nat) (q32 : Nat) (q33 : Nat) (q35 : Nat) (q36 : Nat) (q37 : Nat) (q38 : Nat) (q39 : Nat) (q41 : Nat) (q42 : Nat) (q43 : Nat) (q44 : Nat) (q45 : Nat) (q47 : Nat) (q19 : Nat), va_P (dC, dI) vwCl [(h0, .inr (10, [.ref q1, .ref q4, .ref q6, .ref q9, .ref q14, .ref q19, .ref q20, .ref q25, .ref q30, .ref q33, .ref q39, .ref q45, .ref q47, .int 0, .int (-1), .int 0, .int 0])), (q1, .inr (9, [.ref q3, .int 0, .int 0])), (q3, .inl (cI, 260, .inl (fun _ => 0))), (q4, .inr (2, [.null, .null, .int 0])), (q6, .inr (5, [.ref q8, .int 0, .null])), (q8, .inl (cI, 241, .inl (fun _ => 0))), (q9, .inr (1, [.ref q11, .ref q12, .ref q13, .int 0, .int 0])), (q11, .inl (cI, 3, .inl (fun _ => 0))), (q12, .inl (cI, 24, .inl (fun _ => 0))), (q13, .inl (cI, 20, .inl (fun _ => 0))), (q14, .inr (1, [.ref q16, .ref q17, .ref q18, .int 0, .int 0])), (q16, .inl (cI, 3, .inl (fun _ => 0))), (q17, .inl (cI, 24, .inl (fun _ => 0))), (q18, .inl (cI, 20, .inl (fun _ => 0))), (q20, .inr (7, [.ref q22, .ref q23, .ref q24, .int 0, .int 0, .int 0, .int (-1), .int 0, .int 0])), (q22, .inl (cI, 6, .inl (fun _ => 0))), (q23, .inl (cI, 5, .inl (fun _ => 0))), (q24, .inl (cI, 80, .inl (fun _ => 0))), (q25, .inr (7, [.ref q27, .ref q28, .ref q29, .int 0, .int 0, .int 0, .int (-1), .int 0, .int 0])), (q27, .inl (cI, 6, .inl (fun _ => 0))), (q28, .inl (cI, 5, .inl (fun _ => 0))), (q29, .inl (cI, 80, .inl (fun _ => 0))), (q30, .inr (0, [.ref q32, .int 0, .int 0])), (q32, .inl (cI, 680, .inl (fun _ => 0))), (q33, .inr (8, [.ref q35, .ref q36, .ref q14, .ref q20, .ref q37, .ref q38, .null])), (q35, .inl (cI, 10, .inl (fun _ => 0))), (q36, .inl (cI, 10, .inl (fun _ => 0))), (q37, .inl (cI, 6, .inl (fun _ => 0))), (q38, .inl (cI, 32, .inl (fun _ => 0))), (q39, .inr (6, [.ref q14, .ref q20, .ref q33, .ref q41, .long 0, .int 0, .ref q42, .ref q43, .ref q44])), (q41, .inl (cJ, 10, .inr (.inl (fun _ => 0)))), (q42, .inl (cI, 10, .inl (fun _ => 0))), (q43, .inl (cI, 10, .inl (fun _ => 0))), (q44, .inl (cI, 45, .inl (fun _ => 0))), (q45, .inr (3, [.long 0])), (q47, .inl (cI, 5, .inl (fun _ => 0)))] t.heap ∧ va_D (va_A [(h0, .inr (10, [.null, .null, .null, .null, .null, .null, .null, .null, .null, .null, .null, .null, .null, .int 0, .int 0, .int 0, .int 0]))] sz) [(h0, .inr (10, [.ref q1, .ref q4, .ref q6, .ref q9, .ref q14, .ref q19, .ref q20, .ref q25, .ref q30, .ref q33, .ref q39, .ref q45, .ref q47, .int 0, .int (-1), .int 0, .int 0])), (q1, .inr (9, [.ref q3, .int 0, .int 0])), (q3, .inl (cI, 260, .inl (fun _ => 0))), (q4, .inr (2, [.null, .null, .int 0])), (q6, .inr (5, [.ref q8, .int 0, .null])), (q8, .inl (cI, 241, .inl (fun _ => 0))), (q9, .inr (1, [.ref q11, .ref q12, .ref q13, .int 0, .int 0])), (q11, .inl (cI, 3, .inl (fun _ => 0))), (q12, .inl (cI, 24, .inl (fun _ => 0))), (q13, .inl (cI, 20, .inl (fun _ => 0))), (q14, .inr (1, [.ref q16, .ref q17, .ref q18, .int 0, .int 0])), (q16, .inl (cI, 3, .inl (fun _ => 0))), (q17, .inl (cI, 24, .inl (fun _ => 0))), (q18, .inl (cI, 20, .inl (fun _ => 0))), (q20, .inr (7, [.ref q22, .ref q23, .ref q24, .int 0, .int 0, .int 0, .int (-1), .int 0, .int 0])), (q22, .inl (cI, 6, .inl (fun _ => 0))), (q23, .inl (cI, 5, .inl (fun _ => 0))), (q24, .inl (cI, 80, .inl (fun _ => 0))), (q25, .inr (7, [.ref q27, .ref q28, .ref q29, .int 0, .int 0, .int 0, .int (-1), .int 0, .int 0])), (q27, .inl (cI, 6, .inl (fun _ => 0))), (q28, .inl (cI, 5, .inl (fun _ => 0))), (q29, .inl (cI, 80, .inl (fun _ => 0))), (q30, .inr (0, [.ref q32, .int 0, .int 0])), (q32, .inl (cI, 680, .inl (fun _ => 0))), (q33, .inr (8, [.ref q35, .ref q36, .ref q14, .ref q20, .ref q37, .ref q38, .null])), (q35, .inl (cI, 10, .inl (fun _ => 0))), (q36, .inl (cI, 10, .inl (fun _ => 0))), (q37, .inl (cI, 6, .inl (fun _ => 0))), (q38, .inl (cI, 32, .inl (fun _ => 0))), (q39, .inr (6, [.ref q14, .ref q20, .ref q33, .ref q41, .long 0, .int 0, .ref q42, .ref q43, .ref q44])), (q41, .inl (cJ, 10, .inr (.inl (fun _ => 0)))), (q42, .inl (cI, 10, .inl (fun _ => 0))), (q43, .inl (cI, 10, .inl (fun _ => 0))), (q44, .inl (cI, 45, .inl (fun _ => 0))), (q45, .inr (3, [.long 0])), (q47, .inl (cI, 5, .inl (fun _ => 0)))]) (va_A [(h0, .inr (10, [.null, .null, .null, .null, .null, .null, .null, .null, .null, .null, .null, .null, .null, .int 0, .int 0, .int 0, .int 0]))] sz)) 36 1656 (va_A [(h0, .inr (10, [.null, .null, .null, .null, .null, .null, .null, .null, .null, .null, .null, .null, .null, .int 0, .int 0, .int 0, .int 0]))] sz) := by
  refine Met.ofW (cc := cX10_init) (maxL := 1) (ret := none) (by decide) rfl ?_
  intro p e s m args below meth c s₁ B hml hv
  obtain ⟨⟨rfl, hsz, hP, hK, hT⟩, hE⟩ := hv
  obtain ⟨hN_9, hN_18, hN_25, hN_32, hN_48, hN_58, hN_83, hAO⟩ := hE
  have hx := B.exec
  have hb := B.bytes
  have hr := B.returns
  have hts : ∀ w ∈ wA, w.before _ s = true := fun w h => atoms_spec (ws := .code yX10_init cX10_init 1 none :: wA) B.pre w (List.mem_cons_of_mem _ h)
  have hown : s.vm.findClass RX10 = some m.cls := findClass_of_methodNamed B.named
  have hlocks := B.notSynchronized
  have hin : meth.name = "<init>" := (name_of_methodNamed B.named B.method).1
  subst hsz
  have hD := hT.self (sz := s.heap.size)
  generalize hAe : va_A [(h0, .inr (10, [.null, .null, .null, .null, .null, .null, .null, .null, .null, .null, .null, .null, .null, .int 0, .int 0, .int 0, .int 0]))] s.heap.size = A at hD ⊢
  have hA : ∀ q : Nat, s.heap.size ≤ q → A q := fun q h => by rw [← hAe]; exact Or.inr h
  have hl := lv_entry ([.ref h0]) (n := 1) (Nat.le_of_ble_eq_true rfl)
  rw [lg_entry_eq]
  generalize (lg_sl ([.ref h0]) ++ List.replicate (1 - (lg_sl ([.ref h0])).length) Slot.unset).toArray = ls at hl ⊢
  have hl : lv_has ls 1 [(0, .ref h0)] := hl
  refine zstart (fun H hH => ?_)
  rw [← hH] at hP
  have hS : va_S A s.heap H [] := by rw [hH]; exact va_S.rf
  refine lv_aload_n hx hb dX10_init_0 rfl (lv_at hl 0 rfl) ?_
  refine W.objInit hx hb hown (hts _ qw123) (hts _ qw124) (hts _ qw125) rfl (by rw [hml]; exact hl.1) rfl dX10_init_1 (Nat.le_of_ble_eq_true rfl) (Nat.le_of_ble_eq_true rfl) ?_
  refine W.eq (g2 := F0 m 4 ls []) rfl ?_
  refine lv_aload_n hx hb dX10_init_4 rfl (lv_at hl 0 rfl) ?_
  refine va_new (ci := 9) (fs := [.null, .int 0, .int 0]) (C := RX9) (T := TX9) (N := 3) hx hb hts iX9 tyX9 tyX9_ok hown (hts _ qw126) (hts _ qw127) (hts _ qw99) hK hP hD hS hA rfl fsX9 (Nat.le_of_ble_eq_true rfl) (Nat.le_of_ble_eq_true rfl) dX10_init_5 (fun q1 H hP hD hS => ?_)
  have hP : va_P (dC, dI) vwCl [(h0, .inr (10, [.null, .null, .null, .null, .null, .null, .null, .null, .null, .null, .null, .null, .null, .int 0, .int 0, .int 0, .int 0])), (q1, .inr (9, [.null, .int 0, .int 0]))] H := hP
  have hD : va_D A [(h0, .inr (10, [.null, .null, .null, .null, .null, .null, .null, .null, .null, .null, .null, .null, .null, .int 0, .int 0, .int 0, .int 0])), (q1, .inr (9, [.null, .int 0, .int 0]))] := hD
  refine W.widen (k := 1) (n := 3) (Nat.le_of_ble_eq_true rfl) (Nat.le_of_ble_eq_true rfl) ?_
  refine lv_dup hx hb dX10_init_8 rfl ?_
  have hPc := hP.sub (ws' := [(q1, .inr (9, [.null, .int 0, .int 0]))]) [1] rfl
  have hDc := hD.sub (ws' := [(q1, .inr (9, [.null, .int 0, .int 0]))]) [1] (by decide) rfl
  have hFc := va_free (wc := [(q1, .inr (9, [.null, .int 0, .int 0]))]) hD hS hA [1] rfl
  refine va_callv (va_runIN (As := []) (rest := [.ref q1, .ref h0]) ⟨hx, hb, hml, hown, hts⟩ (c_X9_init l dC dI cI cJ q1 H.size) ⟨va_cnB 0 hts (zgI qw130) rfl rfl rfl (hN_9) (hts _ qw99) (hd_X9_init).2 ⟨Nat.le_of_ble_eq_true rfl, Nat.le_of_ble_eq_true rfl⟩, rfl, hts _ qw129⟩ (zPS hPc hK hDc) rfl rfl hl.1 rfl (lv_room (Nat.le_of_ble_eq_true rfl)) dX10_init_9 ⟨Nat.le_of_ble_eq_true rfl, Nat.le_of_ble_eq_true rfl⟩) hS (fun q _ h => hFc q h) hFc (fun u t H locs ht hvm hw hB hz1 hk1 hS => ?_)
  refine W.widen (k := 2) (n := 263) (Nat.le_of_ble_eq_true rfl) (Nat.le_of_ble_eq_true rfl) ?_
  obtain ⟨q3, hB⟩ := hB
  obtain ⟨hP1, hD1⟩ := hB
  rw [ht] at hP1
  obtain ⟨hP, hD⟩ := va_join (wr := [(h0, .inr (10, [.null, .null, .null, .null, .null, .null, .null, .null, .null, .null, .null, .null, .null, .int 0, .int 0, .int 0, .int 0]))]) (w1 := [(q1, .inr (9, [.ref q3, .int 0, .int 0])), (q3, .inl (cI, 260, .inl (fun _ => 0)))]) hP hD [1] [0] rfl rfl (by decide) (by decide) hk1 hFc hP1 hD1
  have hP : va_P (dC, dI) vwCl [(h0, .inr (10, [.null, .null, .null, .null, .null, .null, .null, .null, .null, .null, .null, .null, .null, .int 0, .int 0, .int 0, .int 0])), (q1, .inr (9, [.ref q3, .int 0, .int 0])), (q3, .inl (cI, 260, .inl (fun _ => 0)))] H := hP
  have hD : va_D A [(h0, .inr (10, [.null, .null, .null, .null, .null, .null, .null, .null, .null, .null, .null, .null, .null, .int 0, .int 0, .int 0, .int 0])), (q1, .inr (9, [.ref q3, .int 0, .int 0])), (q3, .inl (cI, 260, .inl (fun _ => 0)))] := hD
  refine va_putF (D := (dC, dI)) (ci := 10) (v := .ref q1) (ty := .object "NinePortraits$Tape") (C := RX10) (T := TX10) (N := 17) hx hb hts iX10 tyX10 tyX10_ok nmX10 hown hK hP hD hS 0 rfl rfl 0 (by decide) (hts _ qw356) (fun _ h9 => h9) rfl hin rfl (by decide +kernel) rfl rfl (Nat.le_of_ble_eq_true rfl) dX10_init_12 (fun H locs hP hD hS => ?_)
  have hP : va_P (dC, dI) vwCl [(h0, .inr (10, [.ref q1, .null, .null, .null, .null, .null, .null, .null, .null, .null, .null, .null, .null, .int 0, .int 0, .int 0, .int 0])), (q1, .inr (9, [.ref q3, .int 0, .int 0])), (q3, .inl (cI, 260, .inl (fun _ => 0)))] H := hP
  have hD : va_D A [(h0, .inr (10, [.ref q1, .null, .null, .null, .null, .null, .null, .null, .null, .null, .null, .null, .null, .int 0, .int 0, .int 0, .int 0])), (q1, .inr (9, [.ref q3, .int 0, .int 0])), (q3, .inl (cI, 260, .inl (fun _ => 0)))] := hD
  refine lv_aload_n hx hb dX10_init_15 rfl (lv_at hl 0 rfl) ?_
  refine va_new (ci := 2) (fs := [.null, .null, .int 0]) (C := RX2) (T := TX2) (N := 3) hx hb hts iX2 tyX2 tyX2_ok hown (hts _ qw148) (hts _ qw149) (hts _ qw100) hK hP hD hS hA rfl fsX2 (Nat.le_of_ble_eq_true rfl) (Nat.le_of_ble_eq_true rfl) dX10_init_16 (fun q4 H hP hD hS => ?_)
  have hP : va_P (dC, dI) vwCl [(h0, .inr (10, [.ref q1, .null, .null, .null, .null, .null, .null, .null, .null, .null, .null, .null, .null, .int 0, .int 0, .int 0, .int 0])), (q1, .inr (9, [.ref q3, .int 0, .int 0])), (q3, .inl (cI, 260, .inl (fun _ => 0))), (q4, .inr (2, [.null, .null, .int 0]))] H := hP
  have hD : va_D A [(h0, .inr (10, [.ref q1, .null, .null, .null, .null, .null, .null, .null, .null, .null, .null, .null, .null, .int 0, .int 0, .int 0, .int 0])), (q1, .inr (9, [.ref q3, .int 0, .int 0])), (q3, .inl (cI, 260, .inl (fun _ => 0))), (q4, .inr (2, [.null, .null, .int 0]))] := hD
  refine W.widen (k := 3) (n := 266) (Nat.le_of_ble_eq_true rfl) (Nat.le_of_ble_eq_true rfl) ?_
  refine lv_dup hx hb dX10_init_19 rfl ?_
  have hPc : va_P (dC, dI) vwCl [] H := zP0
  have hDc : va_D (fun _ => True) [] := zD0
  have hFc := zfr hS hA
  refine va_callv (va_runIN (As := []) (rest := [.ref q4, .ref h0]) ⟨hx, hb, hml, hown, hts⟩ (c_X2_init l dC dI cI cJ q4 H.size) ⟨va_cnB 0 hts (zgI qw152) rfl rfl rfl (hN_18) (hts _ qw100) (hd_X2_init).2 ⟨Nat.le_of_ble_eq_true rfl, Nat.le_of_ble_eq_true rfl⟩, rfl, hts _ qw151⟩ (zPS hPc hK hDc) rfl rfl hl.1 rfl (lv_room (Nat.le_of_ble_eq_true rfl)) dX10_init_20 ⟨Nat.le_of_ble_eq_true rfl, Nat.le_of_ble_eq_true rfl⟩) hS (fun q _ h => hFc q h) hFc (fun u t H locs ht hvm hw hB hz1 hk1 hS => ?_)
  have hP := zkeep hP hk1
  refine va_putF (D := (dC, dI)) (ci := 10) (v := .ref q4) (ty := .object "NinePortraits$CourtReader") (C := RX10) (T := TX10) (N := 17) hx hb hts iX10 tyX10 tyX10_ok nmX10 hown hK hP hD hS 0 rfl rfl 1 (by decide) (hts _ qw357) (fun _ h9 => h9) rfl hin rfl (by decide +kernel) rfl rfl (Nat.le_of_ble_eq_true rfl) dX10_init_23 (fun H locs hP hD hS => ?_)
  have hP : va_P (dC, dI) vwCl [(h0, .inr (10, [.ref q1, .ref q4, .null, .null, .null, .null, .null, .null, .null, .null, .null, .null, .null, .int 0, .int 0, .int 0, .int 0])), (q1, .inr (9, [.ref q3, .int 0, .int 0])), (q3, .inl (cI, 260, .inl (fun _ => 0))), (q4, .inr (2, [.null, .null, .int 0]))] H := hP
  have hD : va_D A [(h0, .inr (10, [.ref q1, .ref q4, .null, .null, .null, .null, .null, .null, .null, .null, .null, .null, .null, .int 0, .int 0, .int 0, .int 0])), (q1, .inr (9, [.ref q3, .int 0, .int 0])), (q3, .inl (cI, 260, .inl (fun _ => 0))), (q4, .inr (2, [.null, .null, .int 0]))] := hD
  refine lv_aload_n hx hb dX10_init_26 rfl (lv_at hl 0 rfl) ?_
  refine va_new (ci := 5) (fs := [.null, .int 0, .null]) (C := RX5) (T := TX5) (N := 3) hx hb hts iX5 tyX5 tyX5_ok hown (hts _ qw164) (hts _ qw165) (hts _ qw101) hK hP hD hS hA rfl fsX5 (Nat.le_of_ble_eq_true rfl) (Nat.le_of_ble_eq_true rfl) dX10_init_27 (fun q6 H hP hD hS => ?_)
  have hP : va_P (dC, dI) vwCl [(h0, .inr (10, [.ref q1, .ref q4, .null, .null, .null, .null, .null, .null, .null, .null, .null, .null, .null, .int 0, .int 0, .int 0, .int 0])), (q1, .inr (9, [.ref q3, .int 0, .int 0])), (q3, .inl (cI, 260, .inl (fun _ => 0))), (q4, .inr (2, [.null, .null, .int 0])), (q6, .inr (5, [.null, .int 0, .null]))] H := hP
  have hD : va_D A [(h0, .inr (10, [.ref q1, .ref q4, .null, .null, .null, .null, .null, .null, .null, .null, .null, .null, .null, .int 0, .int 0, .int 0, .int 0])), (q1, .inr (9, [.ref q3, .int 0, .int 0])), (q3, .inl (cI, 260, .inl (fun _ => 0))), (q4, .inr (2, [.null, .null, .int 0])), (q6, .inr (5, [.null, .int 0, .null]))] := hD
  refine W.widen (k := 4) (n := 269) (Nat.le_of_ble_eq_true rfl) (Nat.le_of_ble_eq_true rfl) ?_
  refine lv_dup hx hb dX10_init_30 rfl ?_
  have hPc := hP.sub (ws' := [(q6, .inr (5, [.null, .int 0, .null]))]) [4] rfl
  have hDc := hD.sub (ws' := [(q6, .inr (5, [.null, .int 0, .null]))]) [4] (by decide) rfl
  have hFc := va_free (wc := [(q6, .inr (5, [.null, .int 0, .null]))]) hD hS hA [4] rfl
  refine va_callv (va_runIN (As := []) (rest := [.ref q6, .ref h0]) ⟨hx, hb, hml, hown, hts⟩ (c_X5_init l dC dI cI cJ q6 H.size) ⟨va_cnB 0 hts (zgI qw168) rfl rfl rfl (hN_25) (hts _ qw101) (hd_X5_init).2 ⟨Nat.le_of_ble_eq_true rfl, Nat.le_of_ble_eq_true rfl⟩, rfl, hts _ qw167⟩ (zPS hPc hK hDc) rfl rfl hl.1 rfl (lv_room (Nat.le_of_ble_eq_true rfl)) dX10_init_31 ⟨Nat.le_of_ble_eq_true rfl, Nat.le_of_ble_eq_true rfl⟩) hS (fun q _ h => hFc q h) hFc (fun u t H locs ht hvm hw hB hz1 hk1 hS => ?_)
  refine W.widen (k := 5) (n := 510) (Nat.le_of_ble_eq_true rfl) (Nat.le_of_ble_eq_true rfl) ?_
  obtain ⟨q8, hB⟩ := hB
  obtain ⟨hP1, hD1⟩ := hB
  rw [ht] at hP1
  obtain ⟨hP, hD⟩ := va_join (wr := [(h0, .inr (10, [.ref q1, .ref q4, .null, .null, .null, .null, .null, .null, .null, .null, .null, .null, .null, .int 0, .int 0, .int 0, .int 0])), (q1, .inr (9, [.ref q3, .int 0, .int 0])), (q3, .inl (cI, 260, .inl (fun _ => 0))), (q4, .inr (2, [.null, .null, .int 0]))]) (w1 := [(q6, .inr (5, [.ref q8, .int 0, .null])), (q8, .inl (cI, 241, .inl (fun _ => 0)))]) hP hD [4] [0, 1, 2, 3] rfl rfl (by decide) (by decide) hk1 hFc hP1 hD1
  have hP : va_P (dC, dI) vwCl [(h0, .inr (10, [.ref q1, .ref q4, .null, .null, .null, .null, .null, .null, .null, .null, .null, .null, .null, .int 0, .int 0, .int 0, .int 0])), (q1, .inr (9, [.ref q3, .int 0, .int 0])), (q3, .inl (cI, 260, .inl (fun _ => 0))), (q4, .inr (2, [.null, .null, .int 0])), (q6, .inr (5, [.ref q8, .int 0, .null])), (q8, .inl (cI, 241, .inl (fun _ => 0)))] H := hP
  have hD : va_D A [(h0, .inr (10, [.ref q1, .ref q4, .null, .null, .null, .null, .null, .null, .null, .null, .null, .null, .null, .int 0, .int 0, .int 0, .int 0])), (q1, .inr (9, [.ref q3, .int 0, .int 0])), (q3, .inl (cI, 260, .inl (fun _ => 0))), (q4, .inr (2, [.null, .null, .int 0])), (q6, .inr (5, [.ref q8, .int 0, .null])), (q8, .inl (cI, 241, .inl (fun _ => 0)))] := hD
  refine va_putF (D := (dC, dI)) (ci := 10) (v := .ref q6) (ty := .object "NinePortraits$LawReader") (C := RX10) (T := TX10) (N := 17) hx hb hts iX10 tyX10 tyX10_ok nmX10 hown hK hP hD hS 0 rfl rfl 2 (by decide) (hts _ qw358) (fun _ h9 => h9) rfl hin rfl (by decide +kernel) rfl rfl (Nat.le_of_ble_eq_true rfl) dX10_init_34 (fun H locs hP hD hS => ?_)
  have hP : va_P (dC, dI) vwCl [(h0, .inr (10, [.ref q1, .ref q4, .ref q6, .null, .null, .null, .null, .null, .null, .null, .null, .null, .null, .int 0, .int 0, .int 0, .int 0])), (q1, .inr (9, [.ref q3, .int 0, .int 0])), (q3, .inl (cI, 260, .inl (fun _ => 0))), (q4, .inr (2, [.null, .null, .int 0])), (q6, .inr (5, [.ref q8, .int 0, .null])), (q8, .inl (cI, 241, .inl (fun _ => 0)))] H := hP
  have hD : va_D A [(h0, .inr (10, [.ref q1, .ref q4, .ref q6, .null, .null, .null, .null, .null, .null, .null, .null, .null, .null, .int 0, .int 0, .int 0, .int 0])), (q1, .inr (9, [.ref q3, .int 0, .int 0])), (q3, .inl (cI, 260, .inl (fun _ => 0))), (q4, .inr (2, [.null, .null, .int 0])), (q6, .inr (5, [.ref q8, .int 0, .null])), (q8, .inl (cI, 241, .inl (fun _ => 0)))] := hD
  refine lv_aload_n hx hb dX10_init_37 rfl (lv_at hl 0 rfl) ?_
  refine va_new (ci := 1) (fs := [.null, .null, .null, .int 0, .int 0]) (C := RX1) (T := TX1) (N := 5) hx hb hts iX1 tyX1 tyX1_ok hown (hts _ qw180) (hts _ qw181) (hts _ qw102) hK hP hD hS hA rfl fsX1 (Nat.le_of_ble_eq_true rfl) (Nat.le_of_ble_eq_true rfl) dX10_init_38 (fun q9 H hP hD hS => ?_)
  have hP : va_P (dC, dI) vwCl [(h0, .inr (10, [.ref q1, .ref q4, .ref q6, .null, .null, .null, .null, .null, .null, .null, .null, .null, .null, .int 0, .int 0, .int 0, .int 0])), (q1, .inr (9, [.ref q3, .int 0, .int 0])), (q3, .inl (cI, 260, .inl (fun _ => 0))), (q4, .inr (2, [.null, .null, .int 0])), (q6, .inr (5, [.ref q8, .int 0, .null])), (q8, .inl (cI, 241, .inl (fun _ => 0))), (q9, .inr (1, [.null, .null, .null, .int 0, .int 0]))] H := hP
  have hD : va_D A [(h0, .inr (10, [.ref q1, .ref q4, .ref q6, .null, .null, .null, .null, .null, .null, .null, .null, .null, .null, .int 0, .int 0, .int 0, .int 0])), (q1, .inr (9, [.ref q3, .int 0, .int 0])), (q3, .inl (cI, 260, .inl (fun _ => 0))), (q4, .inr (2, [.null, .null, .int 0])), (q6, .inr (5, [.ref q8, .int 0, .null])), (q8, .inl (cI, 241, .inl (fun _ => 0))), (q9, .inr (1, [.null, .null, .null, .int 0, .int 0]))] := hD
  refine W.widen (k := 6) (n := 515) (Nat.le_of_ble_eq_true rfl) (Nat.le_of_ble_eq_true rfl) ?_
  refine lv_dup hx hb dX10_init_41 rfl ?_
  have hPc := hP.sub (ws' := [(q9, .inr (1, [.null, .null, .null, .int 0, .int 0]))]) [6] rfl
  have hDc := hD.sub (ws' := [(q9, .inr (1, [.null, .null, .null, .int 0, .int 0]))]) [6] (by decide) rfl
  have hFc := va_free (wc := [(q9, .inr (1, [.null, .null, .null, .int 0, .int 0]))]) hD hS hA [6] rfl
  refine va_callv (va_runIN (As := []) (rest := [.ref q9, .ref h0]) ⟨hx, hb, hml, hown, hts⟩ (c_X1_init l dC dI cI cJ q9 H.size) ⟨va_cnB 0 hts (zgI qw184) rfl rfl rfl (hN_32) (hts _ qw102) (hd_X1_init).2 ⟨Nat.le_of_ble_eq_true rfl, Nat.le_of_ble_eq_true rfl⟩, rfl, hts _ qw183⟩ (zPS hPc hK hDc) rfl rfl hl.1 rfl (lv_room (Nat.le_of_ble_eq_true rfl)) dX10_init_42 ⟨Nat.le_of_ble_eq_true rfl, Nat.le_of_ble_eq_true rfl⟩) hS (fun q _ h => hFc q h) hFc (fun u t H locs ht hvm hw hB hz1 hk1 hS => ?_)
  refine W.widen (k := 9) (n := 562) (Nat.le_of_ble_eq_true rfl) (Nat.le_of_ble_eq_true rfl) ?_
  obtain ⟨q11, q12, q13, hB⟩ := hB
  obtain ⟨hP1, hD1⟩ := hB
  rw [ht] at hP1
  obtain ⟨hP, hD⟩ := va_join (wr := [(h0, .inr (10, [.ref q1, .ref q4, .ref q6, .null, .null, .null, .null, .null, .null, .null, .null, .null, .null, .int 0, .int 0, .int 0, .int 0])), (q1, .inr (9, [.ref q3, .int 0, .int 0])), (q3, .inl (cI, 260, .inl (fun _ => 0))), (q4, .inr (2, [.null, .null, .int 0])), (q6, .inr (5, [.ref q8, .int 0, .null])), (q8, .inl (cI, 241, .inl (fun _ => 0)))]) (w1 := [(q9, .inr (1, [.ref q11, .ref q12, .ref q13, .int 0, .int 0])), (q11, .inl (cI, 3, .inl (fun _ => 0))), (q12, .inl (cI, 24, .inl (fun _ => 0))), (q13, .inl (cI, 20, .inl (fun _ => 0)))]) hP hD [6] [0, 1, 2, 3, 4, 5] rfl rfl (by decide) (by decide) hk1 hFc hP1 hD1
  have hP : va_P (dC, dI) vwCl [(h0, .inr (10, [.ref q1, .ref q4, .ref q6, .null, .null, .null, .null, .null, .null, .null, .null, .null, .null, .int 0, .int 0, .int 0, .int 0])), (q1, .inr (9, [.ref q3, .int 0, .int 0])), (q3, .inl (cI, 260, .inl (fun _ => 0))), (q4, .inr (2, [.null, .null, .int 0])), (q6, .inr (5, [.ref q8, .int 0, .null])), (q8, .inl (cI, 241, .inl (fun _ => 0))), (q9, .inr (1, [.ref q11, .ref q12, .ref q13, .int 0, .int 0])), (q11, .inl (cI, 3, .inl (fun _ => 0))), (q12, .inl (cI, 24, .inl (fun _ => 0))), (q13, .inl (cI, 20, .inl (fun _ => 0)))] H := hP
  have hD : va_D A [(h0, .inr (10, [.ref q1, .ref q4, .ref q6, .null, .null, .null, .null, .null, .null, .null, .null, .null, .null, .int 0, .int 0, .int 0, .int 0])), (q1, .inr (9, [.ref q3, .int 0, .int 0])), (q3, .inl (cI, 260, .inl (fun _ => 0))), (q4, .inr (2, [.null, .null, .int 0])), (q6, .inr (5, [.ref q8, .int 0, .null])), (q8, .inl (cI, 241, .inl (fun _ => 0))), (q9, .inr (1, [.ref q11, .ref q12, .ref q13, .int 0, .int 0])), (q11, .inl (cI, 3, .inl (fun _ => 0))), (q12, .inl (cI, 24, .inl (fun _ => 0))), (q13, .inl (cI, 20, .inl (fun _ => 0)))] := hD
  refine va_putF (D := (dC, dI)) (ci := 10) (v := .ref q9) (ty := .object "NinePortraits$Court") (C := RX10) (T := TX10) (N := 17) hx hb hts iX10 tyX10 tyX10_ok nmX10 hown hK hP hD hS 0 rfl rfl 3 (by decide) (hts _ qw359) (fun _ h9 => h9) rfl hin rfl (by decide +kernel) rfl rfl (Nat.le_of_ble_eq_true rfl) dX10_init_45 (fun H locs hP hD hS => ?_)
  have hP : va_P (dC, dI) vwCl [(h0, .inr (10, [.ref q1, .ref q4, .ref q6, .ref q9, .null, .null, .null, .null, .null, .null, .null, .null, .null, .int 0, .int 0, .int 0, .int 0])), (q1, .inr (9, [.ref q3, .int 0, .int 0])), (q3, .inl (cI, 260, .inl (fun _ => 0))), (q4, .inr (2, [.null, .null, .int 0])), (q6, .inr (5, [.ref q8, .int 0, .null])), (q8, .inl (cI, 241, .inl (fun _ => 0))), (q9, .inr (1, [.ref q11, .ref q12, .ref q13, .int 0, .int 0])), (q11, .inl (cI, 3, .inl (fun _ => 0))), (q12, .inl (cI, 24, .inl (fun _ => 0))), (q13, .inl (cI, 20, .inl (fun _ => 0)))] H := hP
  have hD : va_D A [(h0, .inr (10, [.ref q1, .ref q4, .ref q6, .ref q9, .null, .null, .null, .null, .null, .null, .null, .null, .null, .int 0, .int 0, .int 0, .int 0])), (q1, .inr (9, [.ref q3, .int 0, .int 0])), (q3, .inl (cI, 260, .inl (fun _ => 0))), (q4, .inr (2, [.null, .null, .int 0])), (q6, .inr (5, [.ref q8, .int 0, .null])), (q8, .inl (cI, 241, .inl (fun _ => 0))), (q9, .inr (1, [.ref q11, .ref q12, .ref q13, .int 0, .int 0])), (q11, .inl (cI, 3, .inl (fun _ => 0))), (q12, .inl (cI, 24, .inl (fun _ => 0))), (q13, .inl (cI, 20, .inl (fun _ => 0)))] := hD
  refine lv_aload_n hx hb dX10_init_48 rfl (lv_at hl 0 rfl) ?_
  refine va_new (ci := 1) (fs := [.null, .null, .null, .int 0, .int 0]) (C := RX1) (T := TX1) (N := 5) hx hb hts iX1 tyX1 tyX1_ok hown (hts _ qw180) (hts _ qw181) (hts _ qw102) hK hP hD hS hA rfl fsX1 (Nat.le_of_ble_eq_true rfl) (Nat.le_of_ble_eq_true rfl) dX10_init_49 (fun q14 H hP hD hS => ?_)
  have hP : va_P (dC, dI) vwCl [(h0, .inr (10, [.ref q1, .ref q4, .ref q6, .ref q9, .null, .null, .null, .null, .null, .null, .null, .null, .null, .int 0, .int 0, .int 0, .int 0])), (q1, .inr (9, [.ref q3, .int 0, .int 0])), (q3, .inl (cI, 260, .inl (fun _ => 0))), (q4, .inr (2, [.null, .null, .int 0])), (q6, .inr (5, [.ref q8, .int 0, .null])), (q8, .inl (cI, 241, .inl (fun _ => 0))), (q9, .inr (1, [.ref q11, .ref q12, .ref q13, .int 0, .int 0])), (q11, .inl (cI, 3, .inl (fun _ => 0))), (q12, .inl (cI, 24, .inl (fun _ => 0))), (q13, .inl (cI, 20, .inl (fun _ => 0))), (q14, .inr (1, [.null, .null, .null, .int 0, .int 0]))] H := hP
  have hD : va_D A [(h0, .inr (10, [.ref q1, .ref q4, .ref q6, .ref q9, .null, .null, .null, .null, .null, .null, .null, .null, .null, .int 0, .int 0, .int 0, .int 0])), (q1, .inr (9, [.ref q3, .int 0, .int 0])), (q3, .inl (cI, 260, .inl (fun _ => 0))), (q4, .inr (2, [.null, .null, .int 0])), (q6, .inr (5, [.ref q8, .int 0, .null])), (q8, .inl (cI, 241, .inl (fun _ => 0))), (q9, .inr (1, [.ref q11, .ref q12, .ref q13, .int 0, .int 0])), (q11, .inl (cI, 3, .inl (fun _ => 0))), (q12, .inl (cI, 24, .inl (fun _ => 0))), (q13, .inl (cI, 20, .inl (fun _ => 0))), (q14, .inr (1, [.null, .null, .null, .int 0, .int 0]))] := hD
  refine W.widen (k := 10) (n := 567) (Nat.le_of_ble_eq_true rfl) (Nat.le_of_ble_eq_true rfl) ?_
  refine lv_dup hx hb dX10_init_52 rfl ?_
  have hPc := hP.sub (ws' := [(q14, .inr (1, [.null, .null, .null, .int 0, .int 0]))]) [10] rfl
  have hDc := hD.sub (ws' := [(q14, .inr (1, [.null, .null, .null, .int 0, .int 0]))]) [10] (by decide) rfl
  have hFc := va_free (wc := [(q14, .inr (1, [.null, .null, .null, .int 0, .int 0]))]) hD hS hA [10] rfl
  refine va_callv (va_runIN (As := []) (rest := [.ref q14, .ref h0]) ⟨hx, hb, hml, hown, hts⟩ (c_X1_init l dC dI cI cJ q14 H.size) ⟨va_cnB 0 hts (zgI qw184) rfl rfl rfl (hN_32) (hts _ qw102) (hd_X1_init).2 ⟨Nat.le_of_ble_eq_true rfl, Nat.le_of_ble_eq_true rfl⟩, rfl, hts _ qw183⟩ (zPS hPc hK hDc) rfl rfl hl.1 rfl (lv_room (Nat.le_of_ble_eq_true rfl)) dX10_init_53 ⟨Nat.le_of_ble_eq_true rfl, Nat.le_of_ble_eq_true rfl⟩) hS (fun q _ h => hFc q h) hFc (fun u t H locs ht hvm hw hB hz1 hk1 hS => ?_)
  refine W.widen (k := 13) (n := 614) (Nat.le_of_ble_eq_true rfl) (Nat.le_of_ble_eq_true rfl) ?_
  obtain ⟨q16, q17, q18, hB⟩ := hB
  obtain ⟨hP1, hD1⟩ := hB
  rw [ht] at hP1
  obtain ⟨hP, hD⟩ := va_join (wr := [(h0, .inr (10, [.ref q1, .ref q4, .ref q6, .ref q9, .null, .null, .null, .null, .null, .null, .null, .null, .null, .int 0, .int 0, .int 0, .int 0])), (q1, .inr (9, [.ref q3, .int 0, .int 0])), (q3, .inl (cI, 260, .inl (fun _ => 0))), (q4, .inr (2, [.null, .null, .int 0])), (q6, .inr (5, [.ref q8, .int 0, .null])), (q8, .inl (cI, 241, .inl (fun _ => 0))), (q9, .inr (1, [.ref q11, .ref q12, .ref q13, .int 0, .int 0])), (q11, .inl (cI, 3, .inl (fun _ => 0))), (q12, .inl (cI, 24, .inl (fun _ => 0))), (q13, .inl (cI, 20, .inl (fun _ => 0)))]) (w1 := [(q14, .inr (1, [.ref q16, .ref q17, .ref q18, .int 0, .int 0])), (q16, .inl (cI, 3, .inl (fun _ => 0))), (q17, .inl (cI, 24, .inl (fun _ => 0))), (q18, .inl (cI, 20, .inl (fun _ => 0)))]) hP hD [10] [0, 1, 2, 3, 4, 5, 6, 7, 8, 9] rfl rfl (by decide) (by decide) hk1 hFc hP1 hD1
  have hP : va_P (dC, dI) vwCl [(h0, .inr (10, [.ref q1, .ref q4, .ref q6, .ref q9, .null, .null, .null, .null, .null, .null, .null, .null, .null, .int 0, .int 0, .int 0, .int 0])), (q1, .inr (9, [.ref q3, .int 0, .int 0])), (q3, .inl (cI, 260, .inl (fun _ => 0))), (q4, .inr (2, [.null, .null, .int 0])), (q6, .inr (5, [.ref q8, .int 0, .null])), (q8, .inl (cI, 241, .inl (fun _ => 0))), (q9, .inr (1, [.ref q11, .ref q12, .ref q13, .int 0, .int 0])), (q11, .inl (cI, 3, .inl (fun _ => 0))), (q12, .inl (cI, 24, .inl (fun _ => 0))), (q13, .inl (cI, 20, .inl (fun _ => 0))), (q14, .inr (1, [.ref q16, .ref q17, .ref q18, .int 0, .int 0])), (q16, .inl (cI, 3, .inl (fun _ => 0))), (q17, .inl (cI, 24, .inl (fun _ => 0))), (q18, .inl (cI, 20, .inl (fun _ => 0)))] H := hP
  have hD : va_D A [(h0, .inr (10, [.ref q1, .ref q4, .ref q6, .ref q9, .null, .null, .null, .null, .null, .null, .null, .null, .null, .int 0, .int 0, .int 0, .int 0])), (q1, .inr (9, [.ref q3, .int 0, .int 0])), (q3, .inl (cI, 260, .inl (fun _ => 0))), (q4, .inr (2, [.null, .null, .int 0])), (q6, .inr (5, [.ref q8, .int 0, .null])), (q8, .inl (cI, 241, .inl (fun _ => 0))), (q9, .inr (1, [.ref q11, .ref q12, .ref q13, .int 0, .int 0])), (q11, .inl (cI, 3, .inl (fun _ => 0))), (q12, .inl (cI, 24, .inl (fun _ => 0))), (q13, .inl (cI, 20, .inl (fun _ => 0))), (q14, .inr (1, [.ref q16, .ref q17, .ref q18, .int 0, .int 0])), (q16, .inl (cI, 3, .inl (fun _ => 0))), (q17, .inl (cI, 24, .inl (fun _ => 0))), (q18, .inl (cI, 20, .inl (fun _ => 0)))] := hD
  refine va_putF (D := (dC, dI)) (ci := 10) (v := .ref q14) (ty := .object "NinePortraits$Court") (C := RX10) (T := TX10) (N := 17) hx hb hts iX10 tyX10 tyX10_ok nmX10 hown hK hP hD hS 0 rfl rfl 4 (by decide) (hts _ qw360) (fun _ h9 => h9) rfl hin rfl (by decide +kernel) rfl rfl (Nat.le_of_ble_eq_true rfl) dX10_init_56 (fun H locs hP hD hS => ?_)
  have hP : va_P (dC, dI) vwCl [(h0, .inr (10, [.ref q1, .ref q4, .ref q6, .ref q9, .ref q14, .null, .null, .null, .null, .null, .null, .null, .null, .int 0, .int 0, .int 0, .int 0])), (q1, .inr (9, [.ref q3, .int 0, .int 0])), (q3, .inl (cI, 260, .inl (fun _ => 0))), (q4, .inr (2, [.null, .null, .int 0])), (q6, .inr (5, [.ref q8, .int 0, .null])), (q8, .inl (cI, 241, .inl (fun _ => 0))), (q9, .inr (1, [.ref q11, .ref q12, .ref q13, .int 0, .int 0])), (q11, .inl (cI, 3, .inl (fun _ => 0))), (q12, .inl (cI, 24, .inl (fun _ => 0))), (q13, .inl (cI, 20, .inl (fun _ => 0))), (q14, .inr (1, [.ref q16, .ref q17, .ref q18, .int 0, .int 0])), (q16, .inl (cI, 3, .inl (fun _ => 0))), (q17, .inl (cI, 24, .inl (fun _ => 0))), (q18, .inl (cI, 20, .inl (fun _ => 0)))] H := hP
  have hD : va_D A [(h0, .inr (10, [.ref q1, .ref q4, .ref q6, .ref q9, .ref q14, .null, .null, .null, .null, .null, .null, .null, .null, .int 0, .int 0, .int 0, .int 0])), (q1, .inr (9, [.ref q3, .int 0, .int 0])), (q3, .inl (cI, 260, .inl (fun _ => 0))), (q4, .inr (2, [.null, .null, .int 0])), (q6, .inr (5, [.ref q8, .int 0, .null])), (q8, .inl (cI, 241, .inl (fun _ => 0))), (q9, .inr (1, [.ref q11, .ref q12, .ref q13, .int 0, .int 0])), (q11, .inl (cI, 3, .inl (fun _ => 0))), (q12, .inl (cI, 24, .inl (fun _ => 0))), (q13, .inl (cI, 20, .inl (fun _ => 0))), (q14, .inr (1, [.ref q16, .ref q17, .ref q18, .int 0, .int 0])), (q16, .inl (cI, 3, .inl (fun _ => 0))), (q17, .inl (cI, 24, .inl (fun _ => 0))), (q18, .inl (cI, 20, .inl (fun _ => 0)))] := hD
  refine lv_aload_n hx hb dX10_init_59 rfl (lv_at hl 0 rfl) ?_
  refine lv_iconst (v := 4) hx hb dX10_init_60 (by decide) ?_
  refine va_newq (N' := 4) hx hb hown (hts _ qw212) hAO hK hP hD hS hA (by decide) (by decide) (by decide) (Nat.le_of_ble_eq_true rfl) (Nat.le_of_ble_eq_true rfl) dX10_init_61 (fun q19 cA H hK2 hP hD hS => ?_)
  have hP : va_P (dC, dI) vwCl [(h0, .inr (10, [.ref q1, .ref q4, .ref q6, .ref q9, .ref q14, .null, .null, .null, .null, .null, .null, .null, .null, .int 0, .int 0, .int 0, .int 0])), (q1, .inr (9, [.ref q3, .int 0, .int 0])), (q3, .inl (cI, 260, .inl (fun _ => 0))), (q4, .inr (2, [.null, .null, .int 0])), (q6, .inr (5, [.ref q8, .int 0, .null])), (q8, .inl (cI, 241, .inl (fun _ => 0))), (q9, .inr (1, [.ref q11, .ref q12, .ref q13, .int 0, .int 0])), (q11, .inl (cI, 3, .inl (fun _ => 0))), (q12, .inl (cI, 24, .inl (fun _ => 0))), (q13, .inl (cI, 20, .inl (fun _ => 0))), (q14, .inr (1, [.ref q16, .ref q17, .ref q18, .int 0, .int 0])), (q16, .inl (cI, 3, .inl (fun _ => 0))), (q17, .inl (cI, 24, .inl (fun _ => 0))), (q18, .inl (cI, 20, .inl (fun _ => 0)))] H := hP.sub [0, 1, 2, 3, 4, 5, 6, 7, 8, 9, 10, 11, 12, 13] rfl
  have hD : va_D A [(h0, .inr (10, [.ref q1, .ref q4, .ref q6, .ref q9, .ref q14, .null, .null, .null, .null, .null, .null, .null, .null, .int 0, .int 0, .int 0, .int 0])), (q1, .inr (9, [.ref q3, .int 0, .int 0])), (q3, .inl (cI, 260, .inl (fun _ => 0))), (q4, .inr (2, [.null, .null, .int 0])), (q6, .inr (5, [.ref q8, .int 0, .null])), (q8, .inl (cI, 241, .inl (fun _ => 0))), (q9, .inr (1, [.ref q11, .ref q12, .ref q13, .int 0, .int 0])), (q11, .inl (cI, 3, .inl (fun _ => 0))), (q12, .inl (cI, 24, .inl (fun _ => 0))), (q13, .inl (cI, 20, .inl (fun _ => 0))), (q14, .inr (1, [.ref q16, .ref q17, .ref q18, .int 0, .int 0])), (q16, .inl (cI, 3, .inl (fun _ => 0))), (q17, .inl (cI, 24, .inl (fun _ => 0))), (q18, .inl (cI, 20, .inl (fun _ => 0)))] := hD.sub [0, 1, 2, 3, 4, 5, 6, 7, 8, 9, 10, 11, 12, 13] (by decide) rfl
  refine W.widen (k := 14) (n := 618) (Nat.le_of_ble_eq_true rfl) (Nat.le_of_ble_eq_true rfl) ?_
  refine va_putF (D := (dC, dI)) (ci := 10) (v := .ref q19) (ty := .array (.object "NinePortraits$Law")) (C := RX10) (T := TX10) (N := 17) hx hb hts iX10 tyX10 tyX10_ok nmX10 hown hK hP hD hS 0 rfl rfl 5 (by decide) (hts _ qw361) (fun _ h9 => h9) rfl hin rfl (by decide +kernel) rfl rfl (Nat.le_of_ble_eq_true rfl) dX10_init_64 (fun H locs hP hD hS => ?_)
  have hP : va_P (dC, dI) vwCl [(h0, .inr (10, [.ref q1, .ref q4, .ref q6, .ref q9, .ref q14, .ref q19, .null, .null, .null, .null, .null, .null, .null, .int 0, .int 0, .int 0, .int 0])), (q1, .inr (9, [.ref q3, .int 0, .int 0])), (q3, .inl (cI, 260, .inl (fun _ => 0))), (q4, .inr (2, [.null, .null, .int 0])), (q6, .inr (5, [.ref q8, .int 0, .null])), (q8, .inl (cI, 241, .inl (fun _ => 0))), (q9, .inr (1, [.ref q11, .ref q12, .ref q13, .int 0, .int 0])), (q11, .inl (cI, 3, .inl (fun _ => 0))), (q12, .inl (cI, 24, .inl (fun _ => 0))), (q13, .inl (cI, 20, .inl (fun _ => 0))), (q14, .inr (1, [.ref q16, .ref q17, .ref q18, .int 0, .int 0])), (q16, .inl (cI, 3, .inl (fun _ => 0))), (q17, .inl (cI, 24, .inl (fun _ => 0))), (q18, .inl (cI, 20, .inl (fun _ => 0)))] H := hP
  have hD : va_D A [(h0, .inr (10, [.ref q1, .ref q4, .ref q6, .ref q9, .ref q14, .ref q19, .null, .null, .null, .null, .null, .null, .null, .int 0, .int 0, .int 0, .int 0])), (q1, .inr (9, [.ref q3, .int 0, .int 0])), (q3, .inl (cI, 260, .inl (fun _ => 0))), (q4, .inr (2, [.null, .null, .int 0])), (q6, .inr (5, [.ref q8, .int 0, .null])), (q8, .inl (cI, 241, .inl (fun _ => 0))), (q9, .inr (1, [.ref q11, .ref q12, .ref q13, .int 0, .int 0])), (q11, .inl (cI, 3, .inl (fun _ => 0))), (q12, .inl (cI, 24, .inl (fun _ => 0))), (q13, .inl (cI, 20, .inl (fun _ => 0))), (q14, .inr (1, [.ref q16, .ref q17, .ref q18, .int 0, .int 0])), (q16, .inl (cI, 3, .inl (fun _ => 0))), (q17, .inl (cI, 24, .inl (fun _ => 0))), (q18, .inl (cI, 20, .inl (fun _ => 0)))] := hD
  refine lv_aload_n hx hb dX10_init_67 rfl (lv_at hl 0 rfl) ?_
  refine va_new (ci := 7) (fs := [.null, .null, .null, .int 0, .int 0, .int 0, .int 0, .int 0, .int 0]) (C := RX7) (T := TX7) (N := 9) hx hb hts iX7 tyX7 tyX7_ok hown (hts _ qw214) (hts _ qw215) (hts _ qw103) hK hP hD hS hA rfl fsX7 (Nat.le_of_ble_eq_true rfl) (Nat.le_of_ble_eq_true rfl) dX10_init_68 (fun q20 H hP hD hS => ?_)
  have hP : va_P (dC, dI) vwCl [(h0, .inr (10, [.ref q1, .ref q4, .ref q6, .ref q9, .ref q14, .ref q19, .null, .null, .null, .null, .null, .null, .null, .int 0, .int 0, .int 0, .int 0])), (q1, .inr (9, [.ref q3, .int 0, .int 0])), (q3, .inl (cI, 260, .inl (fun _ => 0))), (q4, .inr (2, [.null, .null, .int 0])), (q6, .inr (5, [.ref q8, .int 0, .null])), (q8, .inl (cI, 241, .inl (fun _ => 0))), (q9, .inr (1, [.ref q11, .ref q12, .ref q13, .int 0, .int 0])), (q11, .inl (cI, 3, .inl (fun _ => 0))), (q12, .inl (cI, 24, .inl (fun _ => 0))), (q13, .inl (cI, 20, .inl (fun _ => 0))), (q14, .inr (1, [.ref q16, .ref q17, .ref q18, .int 0, .int 0])), (q16, .inl (cI, 3, .inl (fun _ => 0))), (q17, .inl (cI, 24, .inl (fun _ => 0))), (q18, .inl (cI, 20, .inl (fun _ => 0))), (q20, .inr (7, [.null, .null, .null, .int 0, .int 0, .int 0, .int 0, .int 0, .int 0]))] H := hP
  have hD : va_D A [(h0, .inr (10, [.ref q1, .ref q4, .ref q6, .ref q9, .ref q14, .ref q19, .null, .null, .null, .null, .null, .null, .null, .int 0, .int 0, .int 0, .int 0])), (q1, .inr (9, [.ref q3, .int 0, .int 0])), (q3, .inl (cI, 260, .inl (fun _ => 0))), (q4, .inr (2, [.null, .null, .int 0])), (q6, .inr (5, [.ref q8, .int 0, .null])), (q8, .inl (cI, 241, .inl (fun _ => 0))), (q9, .inr (1, [.ref q11, .ref q12, .ref q13, .int 0, .int 0])), (q11, .inl (cI, 3, .inl (fun _ => 0))), (q12, .inl (cI, 24, .inl (fun _ => 0))), (q13, .inl (cI, 20, .inl (fun _ => 0))), (q14, .inr (1, [.ref q16, .ref q17, .ref q18, .int 0, .int 0])), (q16, .inl (cI, 3, .inl (fun _ => 0))), (q17, .inl (cI, 24, .inl (fun _ => 0))), (q18, .inl (cI, 20, .inl (fun _ => 0))), (q20, .inr (7, [.null, .null, .null, .int 0, .int 0, .int 0, .int 0, .int 0, .int 0]))] := hD
  refine W.widen (k := 15) (n := 627) (Nat.le_of_ble_eq_true rfl) (Nat.le_of_ble_eq_true rfl) ?_
  refine lv_dup hx hb dX10_init_71 rfl ?_
  have hPc := hP.sub (ws' := [(q20, .inr (7, [.null, .null, .null, .int 0, .int 0, .int 0, .int 0, .int 0, .int 0]))]) [14] rfl
  have hDc := hD.sub (ws' := [(q20, .inr (7, [.null, .null, .null, .int 0, .int 0, .int 0, .int 0, .int 0, .int 0]))]) [14] (by decide) rfl
  have hFc := va_free (wc := [(q20, .inr (7, [.null, .null, .null, .int 0, .int 0, .int 0, .int 0, .int 0, .int 0]))]) hD hS hA [14] rfl
  refine va_callv (va_runIN (As := []) (rest := [.ref q20, .ref h0]) ⟨hx, hb, hml, hown, hts⟩ (c_X7_init l dC dI cI cJ q20 H.size) ⟨va_cnB 0 hts (zgI qw218) rfl rfl rfl (hN_48) (hts _ qw103) (hd_X7_init).2 ⟨Nat.le_of_ble_eq_true rfl, Nat.le_of_ble_eq_true rfl⟩, rfl, hts _ qw217⟩ (zPS hPc hK hDc) rfl rfl hl.1 rfl (lv_room (Nat.le_of_ble_eq_true rfl)) dX10_init_72 ⟨Nat.le_of_ble_eq_true rfl, Nat.le_of_ble_eq_true rfl⟩) hS (fun q _ h => hFc q h) hFc (fun u t H locs ht hvm hw hB hz1 hk1 hS => ?_)
  refine W.widen (k := 18) (n := 718) (Nat.le_of_ble_eq_true rfl) (Nat.le_of_ble_eq_true rfl) ?_
  obtain ⟨q22, q23, q24, hB⟩ := hB
  obtain ⟨hP1, hD1⟩ := hB
  rw [ht] at hP1
  obtain ⟨hP, hD⟩ := va_join (wr := [(h0, .inr (10, [.ref q1, .ref q4, .ref q6, .ref q9, .ref q14, .ref q19, .null, .null, .null, .null, .null, .null, .null, .int 0, .int 0, .int 0, .int 0])), (q1, .inr (9, [.ref q3, .int 0, .int 0])), (q3, .inl (cI, 260, .inl (fun _ => 0))), (q4, .inr (2, [.null, .null, .int 0])), (q6, .inr (5, [.ref q8, .int 0, .null])), (q8, .inl (cI, 241, .inl (fun _ => 0))), (q9, .inr (1, [.ref q11, .ref q12, .ref q13, .int 0, .int 0])), (q11, .inl (cI, 3, .inl (fun _ => 0))), (q12, .inl (cI, 24, .inl (fun _ => 0))), (q13, .inl (cI, 20, .inl (fun _ => 0))), (q14, .inr (1, [.ref q16, .ref q17, .ref q18, .int 0, .int 0])), (q16, .inl (cI, 3, .inl (fun _ => 0))), (q17, .inl (cI, 24, .inl (fun _ => 0))), (q18, .inl (cI, 20, .inl (fun _ => 0)))]) (w1 := [(q20, .inr (7, [.ref q22, .ref q23, .ref q24, .int 0, .int 0, .int 0, .int (-1), .int 0, .int 0])), (q22, .inl (cI, 6, .inl (fun _ => 0))), (q23, .inl (cI, 5, .inl (fun _ => 0))), (q24, .inl (cI, 80, .inl (fun _ => 0)))]) hP hD [14] [0, 1, 2, 3, 4, 5, 6, 7, 8, 9, 10, 11, 12, 13] rfl rfl (by decide) (by decide) hk1 hFc hP1 hD1
  have hP : va_P (dC, dI) vwCl [(h0, .inr (10, [.ref q1, .ref q4, .ref q6, .ref q9, .ref q14, .ref q19, .null, .null, .null, .null, .null, .null, .null, .int 0, .int 0, .int 0, .int 0])), (q1, .inr (9, [.ref q3, .int 0, .int 0])), (q3, .inl (cI, 260, .inl (fun _ => 0))), (q4, .inr (2, [.null, .null, .int 0])), (q6, .inr (5, [.ref q8, .int 0, .null])), (q8, .inl (cI, 241, .inl (fun _ => 0))), (q9, .inr (1, [.ref q11, .ref q12, .ref q13, .int 0, .int 0])), (q11, .inl (cI, 3, .inl (fun _ => 0))), (q12, .inl (cI, 24, .inl (fun _ => 0))), (q13, .inl (cI, 20, .inl (fun _ => 0))), (q14, .inr (1, [.ref q16, .ref q17, .ref q18, .int 0, .int 0])), (q16, .inl (cI, 3, .inl (fun _ => 0))), (q17, .inl (cI, 24, .inl (fun _ => 0))), (q18, .inl (cI, 20, .inl (fun _ => 0))), (q20, .inr (7, [.ref q22, .ref q23, .ref q24, .int 0, .int 0, .int 0, .int (-1), .int 0, .int 0])), (q22, .inl (cI, 6, .inl (fun _ => 0))), (q23, .inl (cI, 5, .inl (fun _ => 0))), (q24, .inl (cI, 80, .inl (fun _ => 0)))] H := hP
  have hD : va_D A [(h0, .inr (10, [.ref q1, .ref q4, .ref q6, .ref q9, .ref q14, .ref q19, .null, .null, .null, .null, .null, .null, .null, .int 0, .int 0, .int 0, .int 0])), (q1, .inr (9, [.ref q3, .int 0, .int 0])), (q3, .inl (cI, 260, .inl (fun _ => 0))), (q4, .inr (2, [.null, .null, .int 0])), (q6, .inr (5, [.ref q8, .int 0, .null])), (q8, .inl (cI, 241, .inl (fun _ => 0))), (q9, .inr (1, [.ref q11, .ref q12, .ref q13, .int 0, .int 0])), (q11, .inl (cI, 3, .inl (fun _ => 0))), (q12, .inl (cI, 24, .inl (fun _ => 0))), (q13, .inl (cI, 20, .inl (fun _ => 0))), (q14, .inr (1, [.ref q16, .ref q17, .ref q18, .int 0, .int 0])), (q16, .inl (cI, 3, .inl (fun _ => 0))), (q17, .inl (cI, 24, .inl (fun _ => 0))), (q18, .inl (cI, 20, .inl (fun _ => 0))), (q20, .inr (7, [.ref q22, .ref q23, .ref q24, .int 0, .int 0, .int 0, .int (-1), .int 0, .int 0])), (q22, .inl (cI, 6, .inl (fun _ => 0))), (q23, .inl (cI, 5, .inl (fun _ => 0))), (q24, .inl (cI, 80, .inl (fun _ => 0)))] := hD
  refine va_putF (D := (dC, dI)) (ci := 10) (v := .ref q20) (ty := .object "NinePortraits$State") (C := RX10) (T := TX10) (N := 17) hx hb hts iX10 tyX10 tyX10_ok nmX10 hown hK hP hD hS 0 rfl rfl 6 (by decide) (hts _ qw362) (fun _ h9 => h9) rfl hin rfl (by decide +kernel) rfl rfl (Nat.le_of_ble_eq_true rfl) dX10_init_75 (fun H locs hP hD hS => ?_)
  have hP : va_P (dC, dI) vwCl [(h0, .inr (10, [.ref q1, .ref q4, .ref q6, .ref q9, .ref q14, .ref q19, .ref q20, .null, .null, .null, .null, .null, .null, .int 0, .int 0, .int 0, .int 0])), (q1, .inr (9, [.ref q3, .int 0, .int 0])), (q3, .inl (cI, 260, .inl (fun _ => 0))), (q4, .inr (2, [.null, .null, .int 0])), (q6, .inr (5, [.ref q8, .int 0, .null])), (q8, .inl (cI, 241, .inl (fun _ => 0))), (q9, .inr (1, [.ref q11, .ref q12, .ref q13, .int 0, .int 0])), (q11, .inl (cI, 3, .inl (fun _ => 0))), (q12, .inl (cI, 24, .inl (fun _ => 0))), (q13, .inl (cI, 20, .inl (fun _ => 0))), (q14, .inr (1, [.ref q16, .ref q17, .ref q18, .int 0, .int 0])), (q16, .inl (cI, 3, .inl (fun _ => 0))), (q17, .inl (cI, 24, .inl (fun _ => 0))), (q18, .inl (cI, 20, .inl (fun _ => 0))), (q20, .inr (7, [.ref q22, .ref q23, .ref q24, .int 0, .int 0, .int 0, .int (-1), .int 0, .int 0])), (q22, .inl (cI, 6, .inl (fun _ => 0))), (q23, .inl (cI, 5, .inl (fun _ => 0))), (q24, .inl (cI, 80, .inl (fun _ => 0)))] H := hP
  have hD : va_D A [(h0, .inr (10, [.ref q1, .ref q4, .ref q6, .ref q9, .ref q14, .ref q19, .ref q20, .null, .null, .null, .null, .null, .null, .int 0, .int 0, .int 0, .int 0])), (q1, .inr (9, [.ref q3, .int 0, .int 0])), (q3, .inl (cI, 260, .inl (fun _ => 0))), (q4, .inr (2, [.null, .null, .int 0])), (q6, .inr (5, [.ref q8, .int 0, .null])), (q8, .inl (cI, 241, .inl (fun _ => 0))), (q9, .inr (1, [.ref q11, .ref q12, .ref q13, .int 0, .int 0])), (q11, .inl (cI, 3, .inl (fun _ => 0))), (q12, .inl (cI, 24, .inl (fun _ => 0))), (q13, .inl (cI, 20, .inl (fun _ => 0))), (q14, .inr (1, [.ref q16, .ref q17, .ref q18, .int 0, .int 0])), (q16, .inl (cI, 3, .inl (fun _ => 0))), (q17, .inl (cI, 24, .inl (fun _ => 0))), (q18, .inl (cI, 20, .inl (fun _ => 0))), (q20, .inr (7, [.ref q22, .ref q23, .ref q24, .int 0, .int 0, .int 0, .int (-1), .int 0, .int 0])), (q22, .inl (cI, 6, .inl (fun _ => 0))), (q23, .inl (cI, 5, .inl (fun _ => 0))), (q24, .inl (cI, 80, .inl (fun _ => 0)))] := hD
  refine lv_aload_n hx hb dX10_init_78 rfl (lv_at hl 0 rfl) ?_
  refine va_new (ci := 7) (fs := [.null, .null, .null, .int 0, .int 0, .int 0, .int 0, .int 0, .int 0]) (C := RX7) (T := TX7) (N := 9) hx hb hts iX7 tyX7 tyX7_ok hown (hts _ qw214) (hts _ qw215) (hts _ qw103) hK hP hD hS hA rfl fsX7 (Nat.le_of_ble_eq_true rfl) (Nat.le_of_ble_eq_true rfl) dX10_init_79 (fun q25 H hP hD hS => ?_)
  have hP : va_P (dC, dI) vwCl [(h0, .inr (10, [.ref q1, .ref q4, .ref q6, .ref q9, .ref q14, .ref q19, .ref q20, .null, .null, .null, .null, .null, .null, .int 0, .int 0, .int 0, .int 0])), (q1, .inr (9, [.ref q3, .int 0, .int 0])), (q3, .inl (cI, 260, .inl (fun _ => 0))), (q4, .inr (2, [.null, .null, .int 0])), (q6, .inr (5, [.ref q8, .int 0, .null])), (q8, .inl (cI, 241, .inl (fun _ => 0))), (q9, .inr (1, [.ref q11, .ref q12, .ref q13, .int 0, .int 0])), (q11, .inl (cI, 3, .inl (fun _ => 0))), (q12, .inl (cI, 24, .inl (fun _ => 0))), (q13, .inl (cI, 20, .inl (fun _ => 0))), (q14, .inr (1, [.ref q16, .ref q17, .ref q18, .int 0, .int 0])), (q16, .inl (cI, 3, .inl (fun _ => 0))), (q17, .inl (cI, 24, .inl (fun _ => 0))), (q18, .inl (cI, 20, .inl (fun _ => 0))), (q20, .inr (7, [.ref q22, .ref q23, .ref q24, .int 0, .int 0, .int 0, .int (-1), .int 0, .int 0])), (q22, .inl (cI, 6, .inl (fun _ => 0))), (q23, .inl (cI, 5, .inl (fun _ => 0))), (q24, .inl (cI, 80, .inl (fun _ => 0))), (q25, .inr (7, [.null, .null, .null, .int 0, .int 0, .int 0, .int 0, .int 0, .int 0]))] H := hP
  have hD : va_D A [(h0, .inr (10, [.ref q1, .ref q4, .ref q6, .ref q9, .ref q14, .ref q19, .ref q20, .null, .null, .null, .null, .null, .null, .int 0, .int 0, .int 0, .int 0])), (q1, .inr (9, [.ref q3, .int 0, .int 0])), (q3, .inl (cI, 260, .inl (fun _ => 0))), (q4, .inr (2, [.null, .null, .int 0])), (q6, .inr (5, [.ref q8, .int 0, .null])), (q8, .inl (cI, 241, .inl (fun _ => 0))), (q9, .inr (1, [.ref q11, .ref q12, .ref q13, .int 0, .int 0])), (q11, .inl (cI, 3, .inl (fun _ => 0))), (q12, .inl (cI, 24, .inl (fun _ => 0))), (q13, .inl (cI, 20, .inl (fun _ => 0))), (q14, .inr (1, [.ref q16, .ref q17, .ref q18, .int 0, .int 0])), (q16, .inl (cI, 3, .inl (fun _ => 0))), (q17, .inl (cI, 24, .inl (fun _ => 0))), (q18, .inl (cI, 20, .inl (fun _ => 0))), (q20, .inr (7, [.ref q22, .ref q23, .ref q24, .int 0, .int 0, .int 0, .int (-1), .int 0, .int 0])), (q22, .inl (cI, 6, .inl (fun _ => 0))), (q23, .inl (cI, 5, .inl (fun _ => 0))), (q24, .inl (cI, 80, .inl (fun _ => 0))), (q25, .inr (7, [.null, .null, .null, .int 0, .int 0, .int 0, .int 0, .int 0, .int 0]))] := hD
  refine W.widen (k := 19) (n := 727) (Nat.le_of_ble_eq_true rfl) (Nat.le_of_ble_eq_true rfl) ?_
  refine lv_dup hx hb dX10_init_82 rfl ?_
  have hPc := hP.sub (ws' := [(q25, .inr (7, [.null, .null, .null, .int 0, .int 0, .int 0, .int 0, .int 0, .int 0]))]) [18] rfl
  have hDc := hD.sub (ws' := [(q25, .inr (7, [.null, .null, .null, .int 0, .int 0, .int 0, .int 0, .int 0, .int 0]))]) [18] (by decide) rfl
  have hFc := va_free (wc := [(q25, .inr (7, [.null, .null, .null, .int 0, .int 0, .int 0, .int 0, .int 0, .int 0]))]) hD hS hA [18] rfl
  refine va_callv (va_runIN (As := []) (rest := [.ref q25, .ref h0]) ⟨hx, hb, hml, hown, hts⟩ (c_X7_init l dC dI cI cJ q25 H.size) ⟨va_cnB 0 hts (zgI qw218) rfl rfl rfl (hN_48) (hts _ qw103) (hd_X7_init).2 ⟨Nat.le_of_ble_eq_true rfl, Nat.le_of_ble_eq_true rfl⟩, rfl, hts _ qw217⟩ (zPS hPc hK hDc) rfl rfl hl.1 rfl (lv_room (Nat.le_of_ble_eq_true rfl)) dX10_init_83 ⟨Nat.le_of_ble_eq_true rfl, Nat.le_of_ble_eq_true rfl⟩) hS (fun q _ h => hFc q h) hFc (fun u t H locs ht hvm hw hB hz1 hk1 hS => ?_)
  refine W.widen (k := 22) (n := 818) (Nat.le_of_ble_eq_true rfl) (Nat.le_of_ble_eq_true rfl) ?_
  obtain ⟨q27, q28, q29, hB⟩ := hB
  obtain ⟨hP1, hD1⟩ := hB
  rw [ht] at hP1
  obtain ⟨hP, hD⟩ := va_join (wr := [(h0, .inr (10, [.ref q1, .ref q4, .ref q6, .ref q9, .ref q14, .ref q19, .ref q20, .null, .null, .null, .null, .null, .null, .int 0, .int 0, .int 0, .int 0])), (q1, .inr (9, [.ref q3, .int 0, .int 0])), (q3, .inl (cI, 260, .inl (fun _ => 0))), (q4, .inr (2, [.null, .null, .int 0])), (q6, .inr (5, [.ref q8, .int 0, .null])), (q8, .inl (cI, 241, .inl (fun _ => 0))), (q9, .inr (1, [.ref q11, .ref q12, .ref q13, .int 0, .int 0])), (q11, .inl (cI, 3, .inl (fun _ => 0))), (q12, .inl (cI, 24, .inl (fun _ => 0))), (q13, .inl (cI, 20, .inl (fun _ => 0))), (q14, .inr (1, [.ref q16, .ref q17, .ref q18, .int 0, .int 0])), (q16, .inl (cI, 3, .inl (fun _ => 0))), (q17, .inl (cI, 24, .inl (fun _ => 0))), (q18, .inl (cI, 20, .inl (fun _ => 0))), (q20, .inr (7, [.ref q22, .ref q23, .ref q24, .int 0, .int 0, .int 0, .int (-1), .int 0, .int 0])), (q22, .inl (cI, 6, .inl (fun _ => 0))), (q23, .inl (cI, 5, .inl (fun _ => 0))), (q24, .inl (cI, 80, .inl (fun _ => 0)))]) (w1 := [(q25, .inr (7, [.ref q27, .ref q28, .ref q29, .int 0, .int 0, .int 0, .int (-1), .int 0, .int 0])), (q27, .inl (cI, 6, .inl (fun _ => 0))), (q28, .inl (cI, 5, .inl (fun _ => 0))), (q29, .inl (cI, 80, .inl (fun _ => 0)))]) hP hD [18] [0, 1, 2, 3, 4, 5, 6, 7, 8, 9, 10, 11, 12, 13, 14, 15, 16, 17] rfl rfl (by decide) (by decide) hk1 hFc hP1 hD1
  have hP : va_P (dC, dI) vwCl [(h0, .inr (10, [.ref q1, .ref q4, .ref q6, .ref q9, .ref q14, .ref q19, .ref q20, .null, .null, .null, .null, .null, .null, .int 0, .int 0, .int 0, .int 0])), (q1, .inr (9, [.ref q3, .int 0, .int 0])), (q3, .inl (cI, 260, .inl (fun _ => 0))), (q4, .inr (2, [.null, .null, .int 0])), (q6, .inr (5, [.ref q8, .int 0, .null])), (q8, .inl (cI, 241, .inl (fun _ => 0))), (q9, .inr (1, [.ref q11, .ref q12, .ref q13, .int 0, .int 0])), (q11, .inl (cI, 3, .inl (fun _ => 0))), (q12, .inl (cI, 24, .inl (fun _ => 0))), (q13, .inl (cI, 20, .inl (fun _ => 0))), (q14, .inr (1, [.ref q16, .ref q17, .ref q18, .int 0, .int 0])), (q16, .inl (cI, 3, .inl (fun _ => 0))), (q17, .inl (cI, 24, .inl (fun _ => 0))), (q18, .inl (cI, 20, .inl (fun _ => 0))), (q20, .inr (7, [.ref q22, .ref q23, .ref q24, .int 0, .int 0, .int 0, .int (-1), .int 0, .int 0])), (q22, .inl (cI, 6, .inl (fun _ => 0))), (q23, .inl (cI, 5, .inl (fun _ => 0))), (q24, .inl (cI, 80, .inl (fun _ => 0))), (q25, .inr (7, [.ref q27, .ref q28, .ref q29, .int 0, .int 0, .int 0, .int (-1), .int 0, .int 0])), (q27, .inl (cI, 6, .inl (fun _ => 0))), (q28, .inl (cI, 5, .inl (fun _ => 0))), (q29, .inl (cI, 80, .inl (fun _ => 0)))] H := hP
  have hD : va_D A [(h0, .inr (10, [.ref q1, .ref q4, .ref q6, .ref q9, .ref q14, .ref q19, .ref q20, .null, .null, .null, .null, .null, .null, .int 0, .int 0, .int 0, .int 0])), (q1, .inr (9, [.ref q3, .int 0, .int 0])), (q3, .inl (cI, 260, .inl (fun _ => 0))), (q4, .inr (2, [.null, .null, .int 0])), (q6, .inr (5, [.ref q8, .int 0, .null])), (q8, .inl (cI, 241, .inl (fun _ => 0))), (q9, .inr (1, [.ref q11, .ref q12, .ref q13, .int 0, .int 0])), (q11, .inl (cI, 3, .inl (fun _ => 0))), (q12, .inl (cI, 24, .inl (fun _ => 0))), (q13, .inl (cI, 20, .inl (fun _ => 0))), (q14, .inr (1, [.ref q16, .ref q17, .ref q18, .int 0, .int 0])), (q16, .inl (cI, 3, .inl (fun _ => 0))), (q17, .inl (cI, 24, .inl (fun _ => 0))), (q18, .inl (cI, 20, .inl (fun _ => 0))), (q20, .inr (7, [.ref q22, .ref q23, .ref q24, .int 0, .int 0, .int 0, .int (-1), .int 0, .int 0])), (q22, .inl (cI, 6, .inl (fun _ => 0))), (q23, .inl (cI, 5, .inl (fun _ => 0))), (q24, .inl (cI, 80, .inl (fun _ => 0))), (q25, .inr (7, [.ref q27, .ref q28, .ref q29, .int 0, .int 0, .int 0, .int (-1), .int 0, .int 0])), (q27, .inl (cI, 6, .inl (fun _ => 0))), (q28, .inl (cI, 5, .inl (fun _ => 0))), (q29, .inl (cI, 80, .inl (fun _ => 0)))] := hD
  refine va_putF (D := (dC, dI)) (ci := 10) (v := .ref q25) (ty := .object "NinePortraits$State") (C := RX10) (T := TX10) (N := 17) hx hb hts iX10 tyX10 tyX10_ok nmX10 hown hK hP hD hS 0 rfl rfl 7 (by decide) (hts _ qw363) (fun _ h9 => h9) rfl hin rfl (by decide +kernel) rfl rfl (Nat.le_of_ble_eq_true rfl) dX10_init_86 (fun H locs hP hD hS => ?_)
  have hP : va_P (dC, dI) vwCl [(h0, .inr (10, [.ref q1, .ref q4, .ref q6, .ref q9, .ref q14, .ref q19, .ref q20, .ref q25, .null, .null, .null, .null, .null, .int 0, .int 0, .int 0, .int 0])), (q1, .inr (9, [.ref q3, .int 0, .int 0])), (q3, .inl (cI, 260, .inl (fun _ => 0))), (q4, .inr (2, [.null, .null, .int 0])), (q6, .inr (5, [.ref q8, .int 0, .null])), (q8, .inl (cI, 241, .inl (fun _ => 0))), (q9, .inr (1, [.ref q11, .ref q12, .ref q13, .int 0, .int 0])), (q11, .inl (cI, 3, .inl (fun _ => 0))), (q12, .inl (cI, 24, .inl (fun _ => 0))), (q13, .inl (cI, 20, .inl (fun _ => 0))), (q14, .inr (1, [.ref q16, .ref q17, .ref q18, .int 0, .int 0])), (q16, .inl (cI, 3, .inl (fun _ => 0))), (q17, .inl (cI, 24, .inl (fun _ => 0))), (q18, .inl (cI, 20, .inl (fun _ => 0))), (q20, .inr (7, [.ref q22, .ref q23, .ref q24, .int 0, .int 0, .int 0, .int (-1), .int 0, .int 0])), (q22, .inl (cI, 6, .inl (fun _ => 0))), (q23, .inl (cI, 5, .inl (fun _ => 0))), (q24, .inl (cI, 80, .inl (fun _ => 0))), (q25, .inr (7, [.ref q27, .ref q28, .ref q29, .int 0, .int 0, .int 0, .int (-1), .int 0, .int 0])), (q27, .inl (cI, 6, .inl (fun _ => 0))), (q28, .inl (cI, 5, .inl (fun _ => 0))), (q29, .inl (cI, 80, .inl (fun _ => 0)))] H := hP
  have hD : va_D A [(h0, .inr (10, [.ref q1, .ref q4, .ref q6, .ref q9, .ref q14, .ref q19, .ref q20, .ref q25, .null, .null, .null, .null, .null, .int 0, .int 0, .int 0, .int 0])), (q1, .inr (9, [.ref q3, .int 0, .int 0])), (q3, .inl (cI, 260, .inl (fun _ => 0))), (q4, .inr (2, [.null, .null, .int 0])), (q6, .inr (5, [.ref q8, .int 0, .null])), (q8, .inl (cI, 241, .inl (fun _ => 0))), (q9, .inr (1, [.ref q11, .ref q12, .ref q13, .int 0, .int 0])), (q11, .inl (cI, 3, .inl (fun _ => 0))), (q12, .inl (cI, 24, .inl (fun _ => 0))), (q13, .inl (cI, 20, .inl (fun _ => 0))), (q14, .inr (1, [.ref q16, .ref q17, .ref q18, .int 0, .int 0])), (q16, .inl (cI, 3, .inl (fun _ => 0))), (q17, .inl (cI, 24, .inl (fun _ => 0))), (q18, .inl (cI, 20, .inl (fun _ => 0))), (q20, .inr (7, [.ref q22, .ref q23, .ref q24, .int 0, .int 0, .int 0, .int (-1), .int 0, .int 0])), (q22, .inl (cI, 6, .inl (fun _ => 0))), (q23, .inl (cI, 5, .inl (fun _ => 0))), (q24, .inl (cI, 80, .inl (fun _ => 0))), (q25, .inr (7, [.ref q27, .ref q28, .ref q29, .int 0, .int 0, .int 0, .int (-1), .int 0, .int 0])), (q27, .inl (cI, 6, .inl (fun _ => 0))), (q28, .inl (cI, 5, .inl (fun _ => 0))), (q29, .inl (cI, 80, .inl (fun _ => 0)))] := hD
  refine lv_aload_n hx hb dX10_init_89 rfl (lv_at hl 0 rfl) ?_
  refine va_new (ci := 0) (fs := [.null, .int 0, .int 0]) (C := RX0) (T := TX0) (N := 3) hx hb hts iX0 tyX0 tyX0_ok hown (hts _ qw262) (hts _ qw263) (hts _ qw104) hK hP hD hS hA rfl fsX0 (Nat.le_of_ble_eq_true rfl) (Nat.le_of_ble_eq_true rfl) dX10_init_90 (fun q30 H hP hD hS => ?_)
  have hP : va_P (dC, dI) vwCl [(h0, .inr (10, [.ref q1, .ref q4, .ref q6, .ref q9, .ref q14, .ref q19, .ref q20, .ref q25, .null, .null, .null, .null, .null, .int 0, .int 0, .int 0, .int 0])), (q1, .inr (9, [.ref q3, .int 0, .int 0])), (q3, .inl (cI, 260, .inl (fun _ => 0))), (q4, .inr (2, [.null, .null, .int 0])), (q6, .inr (5, [.ref q8, .int 0, .null])), (q8, .inl (cI, 241, .inl (fun _ => 0))), (q9, .inr (1, [.ref q11, .ref q12, .ref q13, .int 0, .int 0])), (q11, .inl (cI, 3, .inl (fun _ => 0))), (q12, .inl (cI, 24, .inl (fun _ => 0))), (q13, .inl (cI, 20, .inl (fun _ => 0))), (q14, .inr (1, [.ref q16, .ref q17, .ref q18, .int 0, .int 0])), (q16, .inl (cI, 3, .inl (fun _ => 0))), (q17, .inl (cI, 24, .inl (fun _ => 0))), (q18, .inl (cI, 20, .inl (fun _ => 0))), (q20, .inr (7, [.ref q22, .ref q23, .ref q24, .int 0, .int 0, .int 0, .int (-1), .int 0, .int 0])), (q22, .inl (cI, 6, .inl (fun _ => 0))), (q23, .inl (cI, 5, .inl (fun _ => 0))), (q24, .inl (cI, 80, .inl (fun _ => 0))), (q25, .inr (7, [.ref q27, .ref q28, .ref q29, .int 0, .int 0, .int 0, .int (-1), .int 0, .int 0])), (q27, .inl (cI, 6, .inl (fun _ => 0))), (q28, .inl (cI, 5, .inl (fun _ => 0))), (q29, .inl (cI, 80, .inl (fun _ => 0))), (q30, .inr (0, [.null, .int 0, .int 0]))] H := hP
  have hD : va_D A [(h0, .inr (10, [.ref q1, .ref q4, .ref q6, .ref q9, .ref q14, .ref q19, .ref q20, .ref q25, .null, .null, .null, .null, .null, .int 0, .int 0, .int 0, .int 0])), (q1, .inr (9, [.ref q3, .int 0, .int 0])), (q3, .inl (cI, 260, .inl (fun _ => 0))), (q4, .inr (2, [.null, .null, .int 0])), (q6, .inr (5, [.ref q8, .int 0, .null])), (q8, .inl (cI, 241, .inl (fun _ => 0))), (q9, .inr (1, [.ref q11, .ref q12, .ref q13, .int 0, .int 0])), (q11, .inl (cI, 3, .inl (fun _ => 0))), (q12, .inl (cI, 24, .inl (fun _ => 0))), (q13, .inl (cI, 20, .inl (fun _ => 0))), (q14, .inr (1, [.ref q16, .ref q17, .ref q18, .int 0, .int 0])), (q16, .inl (cI, 3, .inl (fun _ => 0))), (q17, .inl (cI, 24, .inl (fun _ => 0))), (q18, .inl (cI, 20, .inl (fun _ => 0))), (q20, .inr (7, [.ref q22, .ref q23, .ref q24, .int 0, .int 0, .int 0, .int (-1), .int 0, .int 0])), (q22, .inl (cI, 6, .inl (fun _ => 0))), (q23, .inl (cI, 5, .inl (fun _ => 0))), (q24, .inl (cI, 80, .inl (fun _ => 0))), (q25, .inr (7, [.ref q27, .ref q28, .ref q29, .int 0, .int 0, .int 0, .int (-1), .int 0, .int 0])), (q27, .inl (cI, 6, .inl (fun _ => 0))), (q28, .inl (cI, 5, .inl (fun _ => 0))), (q29, .inl (cI, 80, .inl (fun _ => 0))), (q30, .inr (0, [.null, .int 0, .int 0]))] := hD
  refine W.widen (k := 23) (n := 821) (Nat.le_of_ble_eq_true rfl) (Nat.le_of_ble_eq_true rfl) ?_
  refine lv_dup hx hb dX10_init_93 rfl ?_
  have hPc := hP.sub (ws' := [(q30, .inr (0, [.null, .int 0, .int 0]))]) [22] rfl
  have hDc := hD.sub (ws' := [(q30, .inr (0, [.null, .int 0, .int 0]))]) [22] (by decide) rfl
  have hFc := va_free (wc := [(q30, .inr (0, [.null, .int 0, .int 0]))]) hD hS hA [22] rfl
  refine va_callv (va_runIN (As := []) (rest := [.ref q30, .ref h0]) ⟨hx, hb, hml, hown, hts⟩ (c_X0_init l dC dI cI cJ q30 H.size) ⟨va_cnB 0 hts (zgI qw266) rfl rfl rfl (hN_58) (hts _ qw104) (hd_X0_init).2 ⟨Nat.le_of_ble_eq_true rfl, Nat.le_of_ble_eq_true rfl⟩, rfl, hts _ qw265⟩ (zPS hPc hK hDc) rfl rfl hl.1 rfl (lv_room (Nat.le_of_ble_eq_true rfl)) dX10_init_94 ⟨Nat.le_of_ble_eq_true rfl, Nat.le_of_ble_eq_true rfl⟩) hS (fun q _ h => hFc q h) hFc (fun u t H locs ht hvm hw hB hz1 hk1 hS => ?_)
  refine W.widen (k := 24) (n := 1501) (Nat.le_of_ble_eq_true rfl) (Nat.le_of_ble_eq_true rfl) ?_
  obtain ⟨q32, hB⟩ := hB
  obtain ⟨hP1, hD1⟩ := hB
  rw [ht] at hP1
  obtain ⟨hP, hD⟩ := va_join (wr := [(h0, .inr (10, [.ref q1, .ref q4, .ref q6, .ref q9, .ref q14, .ref q19, .ref q20, .ref q25, .null, .null, .null, .null, .null, .int 0, .int 0, .int 0, .int 0])), (q1, .inr (9, [.ref q3, .int 0, .int 0])), (q3, .inl (cI, 260, .inl (fun _ => 0))), (q4, .inr (2, [.null, .null, .int 0])), (q6, .inr (5, [.ref q8, .int 0, .null])), (q8, .inl (cI, 241, .inl (fun _ => 0))), (q9, .inr (1, [.ref q11, .ref q12, .ref q13, .int 0, .int 0])), (q11, .inl (cI, 3, .inl (fun _ => 0))), (q12, .inl (cI, 24, .inl (fun _ => 0))), (q13, .inl (cI, 20, .inl (fun _ => 0))), (q14, .inr (1, [.ref q16, .ref q17, .ref q18, .int 0, .int 0])), (q16, .inl (cI, 3, .inl (fun _ => 0))), (q17, .inl (cI, 24, .inl (fun _ => 0))), (q18, .inl (cI, 20, .inl (fun _ => 0))), (q20, .inr (7, [.ref q22, .ref q23, .ref q24, .int 0, .int 0, .int 0, .int (-1), .int 0, .int 0])), (q22, .inl (cI, 6, .inl (fun _ => 0))), (q23, .inl (cI, 5, .inl (fun _ => 0))), (q24, .inl (cI, 80, .inl (fun _ => 0))), (q25, .inr (7, [.ref q27, .ref q28, .ref q29, .int 0, .int 0, .int 0, .int (-1), .int 0, .int 0])), (q27, .inl (cI, 6, .inl (fun _ => 0))), (q28, .inl (cI, 5, .inl (fun _ => 0))), (q29, .inl (cI, 80, .inl (fun _ => 0)))]) (w1 := [(q30, .inr (0, [.ref q32, .int 0, .int 0])), (q32, .inl (cI, 680, .inl (fun _ => 0)))]) hP hD [22] [0, 1, 2, 3, 4, 5, 6, 7, 8, 9, 10, 11, 12, 13, 14, 15, 16, 17, 18, 19, 20, 21] rfl rfl (by decide) (by decide) hk1 hFc hP1 hD1
  have hP : va_P (dC, dI) vwCl [(h0, .inr (10, [.ref q1, .ref q4, .ref q6, .ref q9, .ref q14, .ref q19, .ref q20, .ref q25, .null, .null, .null, .null, .null, .int 0, .int 0, .int 0, .int 0])), (q1, .inr (9, [.ref q3, .int 0, .int 0])), (q3, .inl (cI, 260, .inl (fun _ => 0))), (q4, .inr (2, [.null, .null, .int 0])), (q6, .inr (5, [.ref q8, .int 0, .null])), (q8, .inl (cI, 241, .inl (fun _ => 0))), (q9, .inr (1, [.ref q11, .ref q12, .ref q13, .int 0, .int 0])), (q11, .inl (cI, 3, .inl (fun _ => 0))), (q12, .inl (cI, 24, .inl (fun _ => 0))), (q13, .inl (cI, 20, .inl (fun _ => 0))), (q14, .inr (1, [.ref q16, .ref q17, .ref q18, .int 0, .int 0])), (q16, .inl (cI, 3, .inl (fun _ => 0))), (q17, .inl (cI, 24, .inl (fun _ => 0))), (q18, .inl (cI, 20, .inl (fun _ => 0))), (q20, .inr (7, [.ref q22, .ref q23, .ref q24, .int 0, .int 0, .int 0, .int (-1), .int 0, .int 0])), (q22, .inl (cI, 6, .inl (fun _ => 0))), (q23, .inl (cI, 5, .inl (fun _ => 0))), (q24, .inl (cI, 80, .inl (fun _ => 0))), (q25, .inr (7, [.ref q27, .ref q28, .ref q29, .int 0, .int 0, .int 0, .int (-1), .int 0, .int 0])), (q27, .inl (cI, 6, .inl (fun _ => 0))), (q28, .inl (cI, 5, .inl (fun _ => 0))), (q29, .inl (cI, 80, .inl (fun _ => 0))), (q30, .inr (0, [.ref q32, .int 0, .int 0])), (q32, .inl (cI, 680, .inl (fun _ => 0)))] H := hP
  have hD : va_D A [(h0, .inr (10, [.ref q1, .ref q4, .ref q6, .ref q9, .ref q14, .ref q19, .ref q20, .ref q25, .null, .null, .null, .null, .null, .int 0, .int 0, .int 0, .int 0])), (q1, .inr (9, [.ref q3, .int 0, .int 0])), (q3, .inl (cI, 260, .inl (fun _ => 0))), (q4, .inr (2, [.null, .null, .int 0])), (q6, .inr (5, [.ref q8, .int 0, .null])), (q8, .inl (cI, 241, .inl (fun _ => 0))), (q9, .inr (1, [.ref q11, .ref q12, .ref q13, .int 0, .int 0])), (q11, .inl (cI, 3, .inl (fun _ => 0))), (q12, .inl (cI, 24, .inl (fun _ => 0))), (q13, .inl (cI, 20, .inl (fun _ => 0))), (q14, .inr (1, [.ref q16, .ref q17, .ref q18, .int 0, .int 0])), (q16, .inl (cI, 3, .inl (fun _ => 0))), (q17, .inl (cI, 24, .inl (fun _ => 0))), (q18, .inl (cI, 20, .inl (fun _ => 0))), (q20, .inr (7, [.ref q22, .ref q23, .ref q24, .int 0, .int 0, .int 0, .int (-1), .int 0, .int 0])), (q22, .inl (cI, 6, .inl (fun _ => 0))), (q23, .inl (cI, 5, .inl (fun _ => 0))), (q24, .inl (cI, 80, .inl (fun _ => 0))), (q25, .inr (7, [.ref q27, .ref q28, .ref q29, .int 0, .int 0, .int 0, .int (-1), .int 0, .int 0])), (q27, .inl (cI, 6, .inl (fun _ => 0))), (q28, .inl (cI, 5, .inl (fun _ => 0))), (q29, .inl (cI, 80, .inl (fun _ => 0))), (q30, .inr (0, [.ref q32, .int 0, .int 0])), (q32, .inl (cI, 680, .inl (fun _ => 0)))] := hD
  refine va_putF (D := (dC, dI)) (ci := 10) (v := .ref q30) (ty := .object "NinePortraits$Acts") (C := RX10) (T := TX10) (N := 17) hx hb hts iX10 tyX10 tyX10_ok nmX10 hown hK hP hD hS 0 rfl rfl 8 (by decide) (hts _ qw364) (fun _ h9 => h9) rfl hin rfl (by decide +kernel) rfl rfl (Nat.le_of_ble_eq_true rfl) dX10_init_97 (fun H locs hP hD hS => ?_)
  have hP : va_P (dC, dI) vwCl [(h0, .inr (10, [.ref q1, .ref q4, .ref q6, .ref q9, .ref q14, .ref q19, .ref q20, .ref q25, .ref q30, .null, .null, .null, .null, .int 0, .int 0, .int 0, .int 0])), (q1, .inr (9, [.ref q3, .int 0, .int 0])), (q3, .inl (cI, 260, .inl (fun _ => 0))), (q4, .inr (2, [.null, .null, .int 0])), (q6, .inr (5, [.ref q8, .int 0, .null])), (q8, .inl (cI, 241, .inl (fun _ => 0))), (q9, .inr (1, [.ref q11, .ref q12, .ref q13, .int 0, .int 0])), (q11, .inl (cI, 3, .inl (fun _ => 0))), (q12, .inl (cI, 24, .inl (fun _ => 0))), (q13, .inl (cI, 20, .inl (fun _ => 0))), (q14, .inr (1, [.ref q16, .ref q17, .ref q18, .int 0, .int 0])), (q16, .inl (cI, 3, .inl (fun _ => 0))), (q17, .inl (cI, 24, .inl (fun _ => 0))), (q18, .inl (cI, 20, .inl (fun _ => 0))), (q20, .inr (7, [.ref q22, .ref q23, .ref q24, .int 0, .int 0, .int 0, .int (-1), .int 0, .int 0])), (q22, .inl (cI, 6, .inl (fun _ => 0))), (q23, .inl (cI, 5, .inl (fun _ => 0))), (q24, .inl (cI, 80, .inl (fun _ => 0))), (q25, .inr (7, [.ref q27, .ref q28, .ref q29, .int 0, .int 0, .int 0, .int (-1), .int 0, .int 0])), (q27, .inl (cI, 6, .inl (fun _ => 0))), (q28, .inl (cI, 5, .inl (fun _ => 0))), (q29, .inl (cI, 80, .inl (fun _ => 0))), (q30, .inr (0, [.ref q32, .int 0, .int 0])), (q32, .inl (cI, 680, .inl (fun _ => 0)))] H := hP
  have hD : va_D A [(h0, .inr (10, [.ref q1, .ref q4, .ref q6, .ref q9, .ref q14, .ref q19, .ref q20, .ref q25, .ref q30, .null, .null, .null, .null, .int 0, .int 0, .int 0, .int 0])), (q1, .inr (9, [.ref q3, .int 0, .int 0])), (q3, .inl (cI, 260, .inl (fun _ => 0))), (q4, .inr (2, [.null, .null, .int 0])), (q6, .inr (5, [.ref q8, .int 0, .null])), (q8, .inl (cI, 241, .inl (fun _ => 0))), (q9, .inr (1, [.ref q11, .ref q12, .ref q13, .int 0, .int 0])), (q11, .inl (cI, 3, .inl (fun _ => 0))), (q12, .inl (cI, 24, .inl (fun _ => 0))), (q13, .inl (cI, 20, .inl (fun _ => 0))), (q14, .inr (1, [.ref q16, .ref q17, .ref q18, .int 0, .int 0])), (q16, .inl (cI, 3, .inl (fun _ => 0))), (q17, .inl (cI, 24, .inl (fun _ => 0))), (q18, .inl (cI, 20, .inl (fun _ => 0))), (q20, .inr (7, [.ref q22, .ref q23, .ref q24, .int 0, .int 0, .int 0, .int (-1), .int 0, .int 0])), (q22, .inl (cI, 6, .inl (fun _ => 0))), (q23, .inl (cI, 5, .inl (fun _ => 0))), (q24, .inl (cI, 80, .inl (fun _ => 0))), (q25, .inr (7, [.ref q27, .ref q28, .ref q29, .int 0, .int 0, .int 0, .int (-1), .int 0, .int 0])), (q27, .inl (cI, 6, .inl (fun _ => 0))), (q28, .inl (cI, 5, .inl (fun _ => 0))), (q29, .inl (cI, 80, .inl (fun _ => 0))), (q30, .inr (0, [.ref q32, .int 0, .int 0])), (q32, .inl (cI, 680, .inl (fun _ => 0)))] := hD
  refine lv_aload_n hx hb dX10_init_100 rfl (lv_at hl 0 rfl) ?_
  refine va_new (ci := 8) (fs := [.null, .null, .null, .null, .null, .null, .null]) (C := RX8) (T := TX8) (N := 7) hx hb hts iX8 tyX8 tyX8_ok hown (hts _ qw279) (hts _ qw280) (hts _ qw105) hK hP hD hS hA rfl fsX8 (Nat.le_of_ble_eq_true rfl) (Nat.le_of_ble_eq_true rfl) dX10_init_101 (fun q33 H hP hD hS => ?_)
  have hP : va_P (dC, dI) vwCl [(h0, .inr (10, [.ref q1, .ref q4, .ref q6, .ref q9, .ref q14, .ref q19, .ref q20, .ref q25, .ref q30, .null, .null, .null, .null, .int 0, .int 0, .int 0, .int 0])), (q1, .inr (9, [.ref q3, .int 0, .int 0])), (q3, .inl (cI, 260, .inl (fun _ => 0))), (q4, .inr (2, [.null, .null, .int 0])), (q6, .inr (5, [.ref q8, .int 0, .null])), (q8, .inl (cI, 241, .inl (fun _ => 0))), (q9, .inr (1, [.ref q11, .ref q12, .ref q13, .int 0, .int 0])), (q11, .inl (cI, 3, .inl (fun _ => 0))), (q12, .inl (cI, 24, .inl (fun _ => 0))), (q13, .inl (cI, 20, .inl (fun _ => 0))), (q14, .inr (1, [.ref q16, .ref q17, .ref q18, .int 0, .int 0])), (q16, .inl (cI, 3, .inl (fun _ => 0))), (q17, .inl (cI, 24, .inl (fun _ => 0))), (q18, .inl (cI, 20, .inl (fun _ => 0))), (q20, .inr (7, [.ref q22, .ref q23, .ref q24, .int 0, .int 0, .int 0, .int (-1), .int 0, .int 0])), (q22, .inl (cI, 6, .inl (fun _ => 0))), (q23, .inl (cI, 5, .inl (fun _ => 0))), (q24, .inl (cI, 80, .inl (fun _ => 0))), (q25, .inr (7, [.ref q27, .ref q28, .ref q29, .int 0, .int 0, .int 0, .int (-1), .int 0, .int 0])), (q27, .inl (cI, 6, .inl (fun _ => 0))), (q28, .inl (cI, 5, .inl (fun _ => 0))), (q29, .inl (cI, 80, .inl (fun _ => 0))), (q30, .inr (0, [.ref q32, .int 0, .int 0])), (q32, .inl (cI, 680, .inl (fun _ => 0))), (q33, .inr (8, [.null, .null, .null, .null, .null, .null, .null]))] H := hP
  have hD : va_D A [(h0, .inr (10, [.ref q1, .ref q4, .ref q6, .ref q9, .ref q14, .ref q19, .ref q20, .ref q25, .ref q30, .null, .null, .null, .null, .int 0, .int 0, .int 0, .int 0])), (q1, .inr (9, [.ref q3, .int 0, .int 0])), (q3, .inl (cI, 260, .inl (fun _ => 0))), (q4, .inr (2, [.null, .null, .int 0])), (q6, .inr (5, [.ref q8, .int 0, .null])), (q8, .inl (cI, 241, .inl (fun _ => 0))), (q9, .inr (1, [.ref q11, .ref q12, .ref q13, .int 0, .int 0])), (q11, .inl (cI, 3, .inl (fun _ => 0))), (q12, .inl (cI, 24, .inl (fun _ => 0))), (q13, .inl (cI, 20, .inl (fun _ => 0))), (q14, .inr (1, [.ref q16, .ref q17, .ref q18, .int 0, .int 0])), (q16, .inl (cI, 3, .inl (fun _ => 0))), (q17, .inl (cI, 24, .inl (fun _ => 0))), (q18, .inl (cI, 20, .inl (fun _ => 0))), (q20, .inr (7, [.ref q22, .ref q23, .ref q24, .int 0, .int 0, .int 0, .int (-1), .int 0, .int 0])), (q22, .inl (cI, 6, .inl (fun _ => 0))), (q23, .inl (cI, 5, .inl (fun _ => 0))), (q24, .inl (cI, 80, .inl (fun _ => 0))), (q25, .inr (7, [.ref q27, .ref q28, .ref q29, .int 0, .int 0, .int 0, .int (-1), .int 0, .int 0])), (q27, .inl (cI, 6, .inl (fun _ => 0))), (q28, .inl (cI, 5, .inl (fun _ => 0))), (q29, .inl (cI, 80, .inl (fun _ => 0))), (q30, .inr (0, [.ref q32, .int 0, .int 0])), (q32, .inl (cI, 680, .inl (fun _ => 0))), (q33, .inr (8, [.null, .null, .null, .null, .null, .null, .null]))] := hD
  refine W.widen (k := 25) (n := 1508) (Nat.le_of_ble_eq_true rfl) (Nat.le_of_ble_eq_true rfl) ?_
  refine lv_dup hx hb dX10_init_104 rfl ?_
  refine lv_aload_n hx hb dX10_init_105 rfl (lv_at hl 0 rfl) ?_
  refine va_get (D := (dC, dI)) (ci := 10) (v := .ref q14) (C := RX10) (T := TX10) (N := 17) hx hb hts iX10 hown hK hP 0 rfl rfl 4 (by decide) (hts _ qw360) (fun _ h9 => h9) rfl dX10_init_106 ?_
  refine lv_aload_n hx hb dX10_init_109 rfl (lv_at hl 0 rfl) ?_
  refine va_get (D := (dC, dI)) (ci := 10) (v := .ref q20) (C := RX10) (T := TX10) (N := 17) hx hb hts iX10 hown hK hP 0 rfl rfl 6 (by decide) (hts _ qw362) (fun _ h9 => h9) rfl dX10_init_110 ?_
  have hPc := hP.sub (ws' := [(q33, .inr (8, [.null, .null, .null, .null, .null, .null, .null]))]) [24] rfl
  have hDc := hD.sub (ws' := [(q33, .inr (8, [.null, .null, .null, .null, .null, .null, .null]))]) [24] (by decide) rfl
  have hFc := va_free (wc := [(q33, .inr (8, [.null, .null, .null, .null, .null, .null, .null]))]) hD hS hA [24] rfl
  refine va_callv (va_runI (As := [.ref q14, .ref q20]) (rest := [.ref q33, .ref h0]) ⟨hx, hb, hml, hown, hts⟩ (c_X8_init l dC dI cI cJ q33 q14 q20 H.size) (cwI 2 hts (zgI qw283) rfl rfl rfl (hts _ qw105) (hts _ qw281) (hts _ qw282) rfl (hd_X8_init).2 ⟨Nat.le_of_ble_eq_true rfl, Nat.le_of_ble_eq_true rfl⟩) (zPS hPc hK hDc) rfl rfl hl.1 rfl (lv_room (Nat.le_of_ble_eq_true rfl)) dX10_init_113 ⟨Nat.le_of_ble_eq_true rfl, Nat.le_of_ble_eq_true rfl⟩) hS (fun q _ h => hFc q h) hFc (fun u t H locs ht hvm hw hB hz1 hk1 hS => ?_)
  refine W.widen (k := 29) (n := 1566) (Nat.le_of_ble_eq_true rfl) (Nat.le_of_ble_eq_true rfl) ?_
  obtain ⟨q35, q36, q37, q38, hB⟩ := hB
  obtain ⟨hP1, hD1⟩ := hB
  rw [ht] at hP1
  obtain ⟨hP, hD⟩ := va_join (wr := [(h0, .inr (10, [.ref q1, .ref q4, .ref q6, .ref q9, .ref q14, .ref q19, .ref q20, .ref q25, .ref q30, .null, .null, .null, .null, .int 0, .int 0, .int 0, .int 0])), (q1, .inr (9, [.ref q3, .int 0, .int 0])), (q3, .inl (cI, 260, .inl (fun _ => 0))), (q4, .inr (2, [.null, .null, .int 0])), (q6, .inr (5, [.ref q8, .int 0, .null])), (q8, .inl (cI, 241, .inl (fun _ => 0))), (q9, .inr (1, [.ref q11, .ref q12, .ref q13, .int 0, .int 0])), (q11, .inl (cI, 3, .inl (fun _ => 0))), (q12, .inl (cI, 24, .inl (fun _ => 0))), (q13, .inl (cI, 20, .inl (fun _ => 0))), (q14, .inr (1, [.ref q16, .ref q17, .ref q18, .int 0, .int 0])), (q16, .inl (cI, 3, .inl (fun _ => 0))), (q17, .inl (cI, 24, .inl (fun _ => 0))), (q18, .inl (cI, 20, .inl (fun _ => 0))), (q20, .inr (7, [.ref q22, .ref q23, .ref q24, .int 0, .int 0, .int 0, .int (-1), .int 0, .int 0])), (q22, .inl (cI, 6, .inl (fun _ => 0))), (q23, .inl (cI, 5, .inl (fun _ => 0))), (q24, .inl (cI, 80, .inl (fun _ => 0))), (q25, .inr (7, [.ref q27, .ref q28, .ref q29, .int 0, .int 0, .int 0, .int (-1), .int 0, .int 0])), (q27, .inl (cI, 6, .inl (fun _ => 0))), (q28, .inl (cI, 5, .inl (fun _ => 0))), (q29, .inl (cI, 80, .inl (fun _ => 0))), (q30, .inr (0, [.ref q32, .int 0, .int 0])), (q32, .inl (cI, 680, .inl (fun _ => 0)))]) (w1 := [(q33, .inr (8, [.ref q35, .ref q36, .ref q14, .ref q20, .ref q37, .ref q38, .null])), (q35, .inl (cI, 10, .inl (fun _ => 0))), (q36, .inl (cI, 10, .inl (fun _ => 0))), (q37, .inl (cI, 6, .inl (fun _ => 0))), (q38, .inl (cI, 32, .inl (fun _ => 0)))]) hP hD [24] [0, 1, 2, 3, 4, 5, 6, 7, 8, 9, 10, 11, 12, 13, 14, 15, 16, 17, 18, 19, 20, 21, 22, 23] rfl rfl (by decide) (by decide) hk1 hFc hP1 hD1
  have hP : va_P (dC, dI) vwCl [(h0, .inr (10, [.ref q1, .ref q4, .ref q6, .ref q9, .ref q14, .ref q19, .ref q20, .ref q25, .ref q30, .null, .null, .null, .null, .int 0, .int 0, .int 0, .int 0])), (q1, .inr (9, [.ref q3, .int 0, .int 0])), (q3, .inl (cI, 260, .inl (fun _ => 0))), (q4, .inr (2, [.null, .null, .int 0])), (q6, .inr (5, [.ref q8, .int 0, .null])), (q8, .inl (cI, 241, .inl (fun _ => 0))), (q9, .inr (1, [.ref q11, .ref q12, .ref q13, .int 0, .int 0])), (q11, .inl (cI, 3, .inl (fun _ => 0))), (q12, .inl (cI, 24, .inl (fun _ => 0))), (q13, .inl (cI, 20, .inl (fun _ => 0))), (q14, .inr (1, [.ref q16, .ref q17, .ref q18, .int 0, .int 0])), (q16, .inl (cI, 3, .inl (fun _ => 0))), (q17, .inl (cI, 24, .inl (fun _ => 0))), (q18, .inl (cI, 20, .inl (fun _ => 0))), (q20, .inr (7, [.ref q22, .ref q23, .ref q24, .int 0, .int 0, .int 0, .int (-1), .int 0, .int 0])), (q22, .inl (cI, 6, .inl (fun _ => 0))), (q23, .inl (cI, 5, .inl (fun _ => 0))), (q24, .inl (cI, 80, .inl (fun _ => 0))), (q25, .inr (7, [.ref q27, .ref q28, .ref q29, .int 0, .int 0, .int 0, .int (-1), .int 0, .int 0])), (q27, .inl (cI, 6, .inl (fun _ => 0))), (q28, .inl (cI, 5, .inl (fun _ => 0))), (q29, .inl (cI, 80, .inl (fun _ => 0))), (q30, .inr (0, [.ref q32, .int 0, .int 0])), (q32, .inl (cI, 680, .inl (fun _ => 0))), (q33, .inr (8, [.ref q35, .ref q36, .ref q14, .ref q20, .ref q37, .ref q38, .null])), (q35, .inl (cI, 10, .inl (fun _ => 0))), (q36, .inl (cI, 10, .inl (fun _ => 0))), (q37, .inl (cI, 6, .inl (fun _ => 0))), (q38, .inl (cI, 32, .inl (fun _ => 0)))] H := hP
  have hD : va_D A [(h0, .inr (10, [.ref q1, .ref q4, .ref q6, .ref q9, .ref q14, .ref q19, .ref q20, .ref q25, .ref q30, .null, .null, .null, .null, .int 0, .int 0, .int 0, .int 0])), (q1, .inr (9, [.ref q3, .int 0, .int 0])), (q3, .inl (cI, 260, .inl (fun _ => 0))), (q4, .inr (2, [.null, .null, .int 0])), (q6, .inr (5, [.ref q8, .int 0, .null])), (q8, .inl (cI, 241, .inl (fun _ => 0))), (q9, .inr (1, [.ref q11, .ref q12, .ref q13, .int 0, .int 0])), (q11, .inl (cI, 3, .inl (fun _ => 0))), (q12, .inl (cI, 24, .inl (fun _ => 0))), (q13, .inl (cI, 20, .inl (fun _ => 0))), (q14, .inr (1, [.ref q16, .ref q17, .ref q18, .int 0, .int 0])), (q16, .inl (cI, 3, .inl (fun _ => 0))), (q17, .inl (cI, 24, .inl (fun _ => 0))), (q18, .inl (cI, 20, .inl (fun _ => 0))), (q20, .inr (7, [.ref q22, .ref q23, .ref q24, .int 0, .int 0, .int 0, .int (-1), .int 0, .int 0])), (q22, .inl (cI, 6, .inl (fun _ => 0))), (q23, .inl (cI, 5, .inl (fun _ => 0))), (q24, .inl (cI, 80, .inl (fun _ => 0))), (q25, .inr (7, [.ref q27, .ref q28, .ref q29, .int 0, .int 0, .int 0, .int (-1), .int 0, .int 0])), (q27, .inl (cI, 6, .inl (fun _ => 0))), (q28, .inl (cI, 5, .inl (fun _ => 0))), (q29, .inl (cI, 80, .inl (fun _ => 0))), (q30, .inr (0, [.ref q32, .int 0, .int 0])), (q32, .inl (cI, 680, .inl (fun _ => 0))), (q33, .inr (8, [.ref q35, .ref q36, .ref q14, .ref q20, .ref q37, .ref q38, .null])), (q35, .inl (cI, 10, .inl (fun _ => 0))), (q36, .inl (cI, 10, .inl (fun _ => 0))), (q37, .inl (cI, 6, .inl (fun _ => 0))), (q38, .inl (cI, 32, .inl (fun _ => 0)))] := hD
  refine va_putF (D := (dC, dI)) (ci := 10) (v := .ref q33) (ty := .object "NinePortraits$Studio") (C := RX10) (T := TX10) (N := 17) hx hb hts iX10 tyX10 tyX10_ok nmX10 hown hK hP hD hS 0 rfl rfl 9 (by decide) (hts _ qw365) (fun _ h9 => h9) rfl hin rfl (by decide +kernel) rfl rfl (Nat.le_of_ble_eq_true rfl) dX10_init_116 (fun H locs hP hD hS => ?_)
  have hP : va_P (dC, dI) vwCl [(h0, .inr (10, [.ref q1, .ref q4, .ref q6, .ref q9, .ref q14, .ref q19, .ref q20, .ref q25, .ref q30, .ref q33, .null, .null, .null, .int 0, .int 0, .int 0, .int 0])), (q1, .inr (9, [.ref q3, .int 0, .int 0])), (q3, .inl (cI, 260, .inl (fun _ => 0))), (q4, .inr (2, [.null, .null, .int 0])), (q6, .inr (5, [.ref q8, .int 0, .null])), (q8, .inl (cI, 241, .inl (fun _ => 0))), (q9, .inr (1, [.ref q11, .ref q12, .ref q13, .int 0, .int 0])), (q11, .inl (cI, 3, .inl (fun _ => 0))), (q12, .inl (cI, 24, .inl (fun _ => 0))), (q13, .inl (cI, 20, .inl (fun _ => 0))), (q14, .inr (1, [.ref q16, .ref q17, .ref q18, .int 0, .int 0])), (q16, .inl (cI, 3, .inl (fun _ => 0))), (q17, .inl (cI, 24, .inl (fun _ => 0))), (q18, .inl (cI, 20, .inl (fun _ => 0))), (q20, .inr (7, [.ref q22, .ref q23, .ref q24, .int 0, .int 0, .int 0, .int (-1), .int 0, .int 0])), (q22, .inl (cI, 6, .inl (fun _ => 0))), (q23, .inl (cI, 5, .inl (fun _ => 0))), (q24, .inl (cI, 80, .inl (fun _ => 0))), (q25, .inr (7, [.ref q27, .ref q28, .ref q29, .int 0, .int 0, .int 0, .int (-1), .int 0, .int 0])), (q27, .inl (cI, 6, .inl (fun _ => 0))), (q28, .inl (cI, 5, .inl (fun _ => 0))), (q29, .inl (cI, 80, .inl (fun _ => 0))), (q30, .inr (0, [.ref q32, .int 0, .int 0])), (q32, .inl (cI, 680, .inl (fun _ => 0))), (q33, .inr (8, [.ref q35, .ref q36, .ref q14, .ref q20, .ref q37, .ref q38, .null])), (q35, .inl (cI, 10, .inl (fun _ => 0))), (q36, .inl (cI, 10, .inl (fun _ => 0))), (q37, .inl (cI, 6, .inl (fun _ => 0))), (q38, .inl (cI, 32, .inl (fun _ => 0)))] H := hP
  have hD : va_D A [(h0, .inr (10, [.ref q1, .ref q4, .ref q6, .ref q9, .ref q14, .ref q19, .ref q20, .ref q25, .ref q30, .ref q33, .null, .null, .null, .int 0, .int 0, .int 0, .int 0])), (q1, .inr (9, [.ref q3, .int 0, .int 0])), (q3, .inl (cI, 260, .inl (fun _ => 0))), (q4, .inr (2, [.null, .null, .int 0])), (q6, .inr (5, [.ref q8, .int 0, .null])), (q8, .inl (cI, 241, .inl (fun _ => 0))), (q9, .inr (1, [.ref q11, .ref q12, .ref q13, .int 0, .int 0])), (q11, .inl (cI, 3, .inl (fun _ => 0))), (q12, .inl (cI, 24, .inl (fun _ => 0))), (q13, .inl (cI, 20, .inl (fun _ => 0))), (q14, .inr (1, [.ref q16, .ref q17, .ref q18, .int 0, .int 0])), (q16, .inl (cI, 3, .inl (fun _ => 0))), (q17, .inl (cI, 24, .inl (fun _ => 0))), (q18, .inl (cI, 20, .inl (fun _ => 0))), (q20, .inr (7, [.ref q22, .ref q23, .ref q24, .int 0, .int 0, .int 0, .int (-1), .int 0, .int 0])), (q22, .inl (cI, 6, .inl (fun _ => 0))), (q23, .inl (cI, 5, .inl (fun _ => 0))), (q24, .inl (cI, 80, .inl (fun _ => 0))), (q25, .inr (7, [.ref q27, .ref q28, .ref q29, .int 0, .int 0, .int 0, .int (-1), .int 0, .int 0])), (q27, .inl (cI, 6, .inl (fun _ => 0))), (q28, .inl (cI, 5, .inl (fun _ => 0))), (q29, .inl (cI, 80, .inl (fun _ => 0))), (q30, .inr (0, [.ref q32, .int 0, .int 0])), (q32, .inl (cI, 680, .inl (fun _ => 0))), (q33, .inr (8, [.ref q35, .ref q36, .ref q14, .ref q20, .ref q37, .ref q38, .null])), (q35, .inl (cI, 10, .inl (fun _ => 0))), (q36, .inl (cI, 10, .inl (fun _ => 0))), (q37, .inl (cI, 6, .inl (fun _ => 0))), (q38, .inl (cI, 32, .inl (fun _ => 0)))] := hD
  refine lv_aload_n hx hb dX10_init_119 rfl (lv_at hl 0 rfl) ?_
  refine va_new (ci := 6) (fs := [.null, .null, .null, .null, .long 0, .int 0, .null, .null, .null]) (C := RX6) (T := TX6) (N := 9) hx hb hts iX6 tyX6 tyX6_ok hown (hts _ qw310) (hts _ qw311) (hts _ qw106) hK hP hD hS hA rfl fsX6 (Nat.le_of_ble_eq_true rfl) (Nat.le_of_ble_eq_true rfl) dX10_init_120 (fun q39 H hP hD hS => ?_)
  have hP : va_P (dC, dI) vwCl [(h0, .inr (10, [.ref q1, .ref q4, .ref q6, .ref q9, .ref q14, .ref q19, .ref q20, .ref q25, .ref q30, .ref q33, .null, .null, .null, .int 0, .int 0, .int 0, .int 0])), (q1, .inr (9, [.ref q3, .int 0, .int 0])), (q3, .inl (cI, 260, .inl (fun _ => 0))), (q4, .inr (2, [.null, .null, .int 0])), (q6, .inr (5, [.ref q8, .int 0, .null])), (q8, .inl (cI, 241, .inl (fun _ => 0))), (q9, .inr (1, [.ref q11, .ref q12, .ref q13, .int 0, .int 0])), (q11, .inl (cI, 3, .inl (fun _ => 0))), (q12, .inl (cI, 24, .inl (fun _ => 0))), (q13, .inl (cI, 20, .inl (fun _ => 0))), (q14, .inr (1, [.ref q16, .ref q17, .ref q18, .int 0, .int 0])), (q16, .inl (cI, 3, .inl (fun _ => 0))), (q17, .inl (cI, 24, .inl (fun _ => 0))), (q18, .inl (cI, 20, .inl (fun _ => 0))), (q20, .inr (7, [.ref q22, .ref q23, .ref q24, .int 0, .int 0, .int 0, .int (-1), .int 0, .int 0])), (q22, .inl (cI, 6, .inl (fun _ => 0))), (q23, .inl (cI, 5, .inl (fun _ => 0))), (q24, .inl (cI, 80, .inl (fun _ => 0))), (q25, .inr (7, [.ref q27, .ref q28, .ref q29, .int 0, .int 0, .int 0, .int (-1), .int 0, .int 0])), (q27, .inl (cI, 6, .inl (fun _ => 0))), (q28, .inl (cI, 5, .inl (fun _ => 0))), (q29, .inl (cI, 80, .inl (fun _ => 0))), (q30, .inr (0, [.ref q32, .int 0, .int 0])), (q32, .inl (cI, 680, .inl (fun _ => 0))), (q33, .inr (8, [.ref q35, .ref q36, .ref q14, .ref q20, .ref q37, .ref q38, .null])), (q35, .inl (cI, 10, .inl (fun _ => 0))), (q36, .inl (cI, 10, .inl (fun _ => 0))), (q37, .inl (cI, 6, .inl (fun _ => 0))), (q38, .inl (cI, 32, .inl (fun _ => 0))), (q39, .inr (6, [.null, .null, .null, .null, .long 0, .int 0, .null, .null, .null]))] H := hP
  have hD : va_D A [(h0, .inr (10, [.ref q1, .ref q4, .ref q6, .ref q9, .ref q14, .ref q19, .ref q20, .ref q25, .ref q30, .ref q33, .null, .null, .null, .int 0, .int 0, .int 0, .int 0])), (q1, .inr (9, [.ref q3, .int 0, .int 0])), (q3, .inl (cI, 260, .inl (fun _ => 0))), (q4, .inr (2, [.null, .null, .int 0])), (q6, .inr (5, [.ref q8, .int 0, .null])), (q8, .inl (cI, 241, .inl (fun _ => 0))), (q9, .inr (1, [.ref q11, .ref q12, .ref q13, .int 0, .int 0])), (q11, .inl (cI, 3, .inl (fun _ => 0))), (q12, .inl (cI, 24, .inl (fun _ => 0))), (q13, .inl (cI, 20, .inl (fun _ => 0))), (q14, .inr (1, [.ref q16, .ref q17, .ref q18, .int 0, .int 0])), (q16, .inl (cI, 3, .inl (fun _ => 0))), (q17, .inl (cI, 24, .inl (fun _ => 0))), (q18, .inl (cI, 20, .inl (fun _ => 0))), (q20, .inr (7, [.ref q22, .ref q23, .ref q24, .int 0, .int 0, .int 0, .int (-1), .int 0, .int 0])), (q22, .inl (cI, 6, .inl (fun _ => 0))), (q23, .inl (cI, 5, .inl (fun _ => 0))), (q24, .inl (cI, 80, .inl (fun _ => 0))), (q25, .inr (7, [.ref q27, .ref q28, .ref q29, .int 0, .int 0, .int 0, .int (-1), .int 0, .int 0])), (q27, .inl (cI, 6, .inl (fun _ => 0))), (q28, .inl (cI, 5, .inl (fun _ => 0))), (q29, .inl (cI, 80, .inl (fun _ => 0))), (q30, .inr (0, [.ref q32, .int 0, .int 0])), (q32, .inl (cI, 680, .inl (fun _ => 0))), (q33, .inr (8, [.ref q35, .ref q36, .ref q14, .ref q20, .ref q37, .ref q38, .null])), (q35, .inl (cI, 10, .inl (fun _ => 0))), (q36, .inl (cI, 10, .inl (fun _ => 0))), (q37, .inl (cI, 6, .inl (fun _ => 0))), (q38, .inl (cI, 32, .inl (fun _ => 0))), (q39, .inr (6, [.null, .null, .null, .null, .long 0, .int 0, .null, .null, .null]))] := hD
  refine W.widen (k := 30) (n := 1575) (Nat.le_of_ble_eq_true rfl) (Nat.le_of_ble_eq_true rfl) ?_
  refine lv_dup hx hb dX10_init_123 rfl ?_
  refine lv_aload_n hx hb dX10_init_124 rfl (lv_at hl 0 rfl) ?_
  refine va_get (D := (dC, dI)) (ci := 10) (v := .ref q14) (C := RX10) (T := TX10) (N := 17) hx hb hts iX10 hown hK hP 0 rfl rfl 4 (by decide) (hts _ qw360) (fun _ h9 => h9) rfl dX10_init_125 ?_
  refine lv_aload_n hx hb dX10_init_128 rfl (lv_at hl 0 rfl) ?_
  refine va_get (D := (dC, dI)) (ci := 10) (v := .ref q20) (C := RX10) (T := TX10) (N := 17) hx hb hts iX10 hown hK hP 0 rfl rfl 6 (by decide) (hts _ qw362) (fun _ h9 => h9) rfl dX10_init_129 ?_
  refine lv_aload_n hx hb dX10_init_132 rfl (lv_at hl 0 rfl) ?_
  refine va_get (D := (dC, dI)) (ci := 10) (v := .ref q33) (C := RX10) (T := TX10) (N := 17) hx hb hts iX10 hown hK hP 0 rfl rfl 9 (by decide) (hts _ qw365) (fun _ h9 => h9) rfl dX10_init_133 ?_
  have hPc := hP.sub (ws' := [(q39, .inr (6, [.null, .null, .null, .null, .long 0, .int 0, .null, .null, .null]))]) [29] rfl
  have hDc := hD.sub (ws' := [(q39, .inr (6, [.null, .null, .null, .null, .long 0, .int 0, .null, .null, .null]))]) [29] (by decide) rfl
  have hFc := va_free (wc := [(q39, .inr (6, [.null, .null, .null, .null, .long 0, .int 0, .null, .null, .null]))]) hD hS hA [29] rfl
  refine va_callv (va_runI (As := [.ref q14, .ref q20, .ref q33]) (rest := [.ref q39, .ref h0]) ⟨hx, hb, hml, hown, hts⟩ (c_X6_init l dC dI cI cJ q39 q14 q20 q33 H.size) (cwI 3 hts (zgI qw314) rfl rfl rfl (hts _ qw106) (hts _ qw312) (hts _ qw313) rfl (hd_X6_init).2 ⟨Nat.le_of_ble_eq_true rfl, Nat.le_of_ble_eq_true rfl⟩) (zPS hPc hK hDc) rfl rfl hl.1 rfl (lv_room (Nat.le_of_ble_eq_true rfl)) dX10_init_136 ⟨Nat.le_of_ble_eq_true rfl, Nat.le_of_ble_eq_true rfl⟩) hS (fun q _ h => hFc q h) hFc (fun u t H locs ht hvm hw hB hz1 hk1 hS => ?_)
  refine W.widen (k := 34) (n := 1650) (Nat.le_of_ble_eq_true rfl) (Nat.le_of_ble_eq_true rfl) ?_
  obtain ⟨q41, q42, q43, q44, hB⟩ := hB
  obtain ⟨hP1, hD1⟩ := hB
  rw [ht] at hP1
  obtain ⟨hP, hD⟩ := va_join (wr := [(h0, .inr (10, [.ref q1, .ref q4, .ref q6, .ref q9, .ref q14, .ref q19, .ref q20, .ref q25, .ref q30, .ref q33, .null, .null, .null, .int 0, .int 0, .int 0, .int 0])), (q1, .inr (9, [.ref q3, .int 0, .int 0])), (q3, .inl (cI, 260, .inl (fun _ => 0))), (q4, .inr (2, [.null, .null, .int 0])), (q6, .inr (5, [.ref q8, .int 0, .null])), (q8, .inl (cI, 241, .inl (fun _ => 0))), (q9, .inr (1, [.ref q11, .ref q12, .ref q13, .int 0, .int 0])), (q11, .inl (cI, 3, .inl (fun _ => 0))), (q12, .inl (cI, 24, .inl (fun _ => 0))), (q13, .inl (cI, 20, .inl (fun _ => 0))), (q14, .inr (1, [.ref q16, .ref q17, .ref q18, .int 0, .int 0])), (q16, .inl (cI, 3, .inl (fun _ => 0))), (q17, .inl (cI, 24, .inl (fun _ => 0))), (q18, .inl (cI, 20, .inl (fun _ => 0))), (q20, .inr (7, [.ref q22, .ref q23, .ref q24, .int 0, .int 0, .int 0, .int (-1), .int 0, .int 0])), (q22, .inl (cI, 6, .inl (fun _ => 0))), (q23, .inl (cI, 5, .inl (fun _ => 0))), (q24, .inl (cI, 80, .inl (fun _ => 0))), (q25, .inr (7, [.ref q27, .ref q28, .ref q29, .int 0, .int 0, .int 0, .int (-1), .int 0, .int 0])), (q27, .inl (cI, 6, .inl (fun _ => 0))), (q28, .inl (cI, 5, .inl (fun _ => 0))), (q29, .inl (cI, 80, .inl (fun _ => 0))), (q30, .inr (0, [.ref q32, .int 0, .int 0])), (q32, .inl (cI, 680, .inl (fun _ => 0))), (q33, .inr (8, [.ref q35, .ref q36, .ref q14, .ref q20, .ref q37, .ref q38, .null])), (q35, .inl (cI, 10, .inl (fun _ => 0))), (q36, .inl (cI, 10, .inl (fun _ => 0))), (q37, .inl (cI, 6, .inl (fun _ => 0))), (q38, .inl (cI, 32, .inl (fun _ => 0)))]) (w1 := [(q39, .inr (6, [.ref q14, .ref q20, .ref q33, .ref q41, .long 0, .int 0, .ref q42, .ref q43, .ref q44])), (q41, .inl (cJ, 10, .inr (.inl (fun _ => 0)))), (q42, .inl (cI, 10, .inl (fun _ => 0))), (q43, .inl (cI, 10, .inl (fun _ => 0))), (q44, .inl (cI, 45, .inl (fun _ => 0)))]) hP hD [29] [0, 1, 2, 3, 4, 5, 6, 7, 8, 9, 10, 11, 12, 13, 14, 15, 16, 17, 18, 19, 20, 21, 22, 23, 24, 25, 26, 27, 28] rfl rfl (by decide) (by decide) hk1 hFc hP1 hD1
  have hP : va_P (dC, dI) vwCl [(h0, .inr (10, [.ref q1, .ref q4, .ref q6, .ref q9, .ref q14, .ref q19, .ref q20, .ref q25, .ref q30, .ref q33, .null, .null, .null, .int 0, .int 0, .int 0, .int 0])), (q1, .inr (9, [.ref q3, .int 0, .int 0])), (q3, .inl (cI, 260, .inl (fun _ => 0))), (q4, .inr (2, [.null, .null, .int 0])), (q6, .inr (5, [.ref q8, .int 0, .null])), (q8, .inl (cI, 241, .inl (fun _ => 0))), (q9, .inr (1, [.ref q11, .ref q12, .ref q13, .int 0, .int 0])), (q11, .inl (cI, 3, .inl (fun _ => 0))), (q12, .inl (cI, 24, .inl (fun _ => 0))), (q13, .inl (cI, 20, .inl (fun _ => 0))), (q14, .inr (1, [.ref q16, .ref q17, .ref q18, .int 0, .int 0])), (q16, .inl (cI, 3, .inl (fun _ => 0))), (q17, .inl (cI, 24, .inl (fun _ => 0))), (q18, .inl (cI, 20, .inl (fun _ => 0))), (q20, .inr (7, [.ref q22, .ref q23, .ref q24, .int 0, .int 0, .int 0, .int (-1), .int 0, .int 0])), (q22, .inl (cI, 6, .inl (fun _ => 0))), (q23, .inl (cI, 5, .inl (fun _ => 0))), (q24, .inl (cI, 80, .inl (fun _ => 0))), (q25, .inr (7, [.ref q27, .ref q28, .ref q29, .int 0, .int 0, .int 0, .int (-1), .int 0, .int 0])), (q27, .inl (cI, 6, .inl (fun _ => 0))), (q28, .inl (cI, 5, .inl (fun _ => 0))), (q29, .inl (cI, 80, .inl (fun _ => 0))), (q30, .inr (0, [.ref q32, .int 0, .int 0])), (q32, .inl (cI, 680, .inl (fun _ => 0))), (q33, .inr (8, [.ref q35, .ref q36, .ref q14, .ref q20, .ref q37, .ref q38, .null])), (q35, .inl (cI, 10, .inl (fun _ => 0))), (q36, .inl (cI, 10, .inl (fun _ => 0))), (q37, .inl (cI, 6, .inl (fun _ => 0))), (q38, .inl (cI, 32, .inl (fun _ => 0))), (q39, .inr (6, [.ref q14, .ref q20, .ref q33, .ref q41, .long 0, .int 0, .ref q42, .ref q43, .ref q44])), (q41, .inl (cJ, 10, .inr (.inl (fun _ => 0)))), (q42, .inl (cI, 10, .inl (fun _ => 0))), (q43, .inl (cI, 10, .inl (fun _ => 0))), (q44, .inl (cI, 45, .inl (fun _ => 0)))] H := hP
  have hD : va_D A [(h0, .inr (10, [.ref q1, .ref q4, .ref q6, .ref q9, .ref q14, .ref q19, .ref q20, .ref q25, .ref q30, .ref q33, .null, .null, .null, .int 0, .int 0, .int 0, .int 0])), (q1, .inr (9, [.ref q3, .int 0, .int 0])), (q3, .inl (cI, 260, .inl (fun _ => 0))), (q4, .inr (2, [.null, .null, .int 0])), (q6, .inr (5, [.ref q8, .int 0, .null])), (q8, .inl (cI, 241, .inl (fun _ => 0))), (q9, .inr (1, [.ref q11, .ref q12, .ref q13, .int 0, .int 0])), (q11, .inl (cI, 3, .inl (fun _ => 0))), (q12, .inl (cI, 24, .inl (fun _ => 0))), (q13, .inl (cI, 20, .inl (fun _ => 0))), (q14, .inr (1, [.ref q16, .ref q17, .ref q18, .int 0, .int 0])), (q16, .inl (cI, 3, .inl (fun _ => 0))), (q17, .inl (cI, 24, .inl (fun _ => 0))), (q18, .inl (cI, 20, .inl (fun _ => 0))), (q20, .inr (7, [.ref q22, .ref q23, .ref q24, .int 0, .int 0, .int 0, .int (-1), .int 0, .int 0])), (q22, .inl (cI, 6, .inl (fun _ => 0))), (q23, .inl (cI, 5, .inl (fun _ => 0))), (q24, .inl (cI, 80, .inl (fun _ => 0))), (q25, .inr (7, [.ref q27, .ref q28, .ref q29, .int 0, .int 0, .int 0, .int (-1), .int 0, .int 0])), (q27, .inl (cI, 6, .inl (fun _ => 0))), (q28, .inl (cI, 5, .inl (fun _ => 0))), (q29, .inl (cI, 80, .inl (fun _ => 0))), (q30, .inr (0, [.ref q32, .int 0, .int 0])), (q32, .inl (cI, 680, .inl (fun _ => 0))), (q33, .inr (8, [.ref q35, .ref q36, .ref q14, .ref q20, .ref q37, .ref q38, .null])), (q35, .inl (cI, 10, .inl (fun _ => 0))), (q36, .inl (cI, 10, .inl (fun _ => 0))), (q37, .inl (cI, 6, .inl (fun _ => 0))), (q38, .inl (cI, 32, .inl (fun _ => 0))), (q39, .inr (6, [.ref q14, .ref q20, .ref q33, .ref q41, .long 0, .int 0, .ref q42, .ref q43, .ref q44])), (q41, .inl (cJ, 10, .inr (.inl (fun _ => 0)))), (q42, .inl (cI, 10, .inl (fun _ => 0))), (q43, .inl (cI, 10, .inl (fun _ => 0))), (q44, .inl (cI, 45, .inl (fun _ => 0)))] := hD
  refine va_putF (D := (dC, dI)) (ci := 10) (v := .ref q39) (ty := .object "NinePortraits$Mind") (C := RX10) (T := TX10) (N := 17) hx hb hts iX10 tyX10 tyX10_ok nmX10 hown hK hP hD hS 0 rfl rfl 10 (by decide) (hts _ qw366) (fun _ h9 => h9) rfl hin rfl (by decide +kernel) rfl rfl (Nat.le_of_ble_eq_true rfl) dX10_init_139 (fun H locs hP hD hS => ?_)
  have hP : va_P (dC, dI) vwCl [(h0, .inr (10, [.ref q1, .ref q4, .ref q6, .ref q9, .ref q14, .ref q19, .ref q20, .ref q25, .ref q30, .ref q33, .ref q39, .null, .null, .int 0, .int 0, .int 0, .int 0])), (q1, .inr (9, [.ref q3, .int 0, .int 0])), (q3, .inl (cI, 260, .inl (fun _ => 0))), (q4, .inr (2, [.null, .null, .int 0])), (q6, .inr (5, [.ref q8, .int 0, .null])), (q8, .inl (cI, 241, .inl (fun _ => 0))), (q9, .inr (1, [.ref q11, .ref q12, .ref q13, .int 0, .int 0])), (q11, .inl (cI, 3, .inl (fun _ => 0))), (q12, .inl (cI, 24, .inl (fun _ => 0))), (q13, .inl (cI, 20, .inl (fun _ => 0))), (q14, .inr (1, [.ref q16, .ref q17, .ref q18, .int 0, .int 0])), (q16, .inl (cI, 3, .inl (fun _ => 0))), (q17, .inl (cI, 24, .inl (fun _ => 0))), (q18, .inl (cI, 20, .inl (fun _ => 0))), (q20, .inr (7, [.ref q22, .ref q23, .ref q24, .int 0, .int 0, .int 0, .int (-1), .int 0, .int 0])), (q22, .inl (cI, 6, .inl (fun _ => 0))), (q23, .inl (cI, 5, .inl (fun _ => 0))), (q24, .inl (cI, 80, .inl (fun _ => 0))), (q25, .inr (7, [.ref q27, .ref q28, .ref q29, .int 0, .int 0, .int 0, .int (-1), .int 0, .int 0])), (q27, .inl (cI, 6, .inl (fun _ => 0))), (q28, .inl (cI, 5, .inl (fun _ => 0))), (q29, .inl (cI, 80, .inl (fun _ => 0))), (q30, .inr (0, [.ref q32, .int 0, .int 0])), (q32, .inl (cI, 680, .inl (fun _ => 0))), (q33, .inr (8, [.ref q35, .ref q36, .ref q14, .ref q20, .ref q37, .ref q38, .null])), (q35, .inl (cI, 10, .inl (fun _ => 0))), (q36, .inl (cI, 10, .inl (fun _ => 0))), (q37, .inl (cI, 6, .inl (fun _ => 0))), (q38, .inl (cI, 32, .inl (fun _ => 0))), (q39, .inr (6, [.ref q14, .ref q20, .ref q33, .ref q41, .long 0, .int 0, .ref q42, .ref q43, .ref q44])), (q41, .inl (cJ, 10, .inr (.inl (fun _ => 0)))), (q42, .inl (cI, 10, .inl (fun _ => 0))), (q43, .inl (cI, 10, .inl (fun _ => 0))), (q44, .inl (cI, 45, .inl (fun _ => 0)))] H := hP
  have hD : va_D A [(h0, .inr (10, [.ref q1, .ref q4, .ref q6, .ref q9, .ref q14, .ref q19, .ref q20, .ref q25, .ref q30, .ref q33, .ref q39, .null, .null, .int 0, .int 0, .int 0, .int 0])), (q1, .inr (9, [.ref q3, .int 0, .int 0])), (q3, .inl (cI, 260, .inl (fun _ => 0))), (q4, .inr (2, [.null, .null, .int 0])), (q6, .inr (5, [.ref q8, .int 0, .null])), (q8, .inl (cI, 241, .inl (fun _ => 0))), (q9, .inr (1, [.ref q11, .ref q12, .ref q13, .int 0, .int 0])), (q11, .inl (cI, 3, .inl (fun _ => 0))), (q12, .inl (cI, 24, .inl (fun _ => 0))), (q13, .inl (cI, 20, .inl (fun _ => 0))), (q14, .inr (1, [.ref q16, .ref q17, .ref q18, .int 0, .int 0])), (q16, .inl (cI, 3, .inl (fun _ => 0))), (q17, .inl (cI, 24, .inl (fun _ => 0))), (q18, .inl (cI, 20, .inl (fun _ => 0))), (q20, .inr (7, [.ref q22, .ref q23, .ref q24, .int 0, .int 0, .int 0, .int (-1), .int 0, .int 0])), (q22, .inl (cI, 6, .inl (fun _ => 0))), (q23, .inl (cI, 5, .inl (fun _ => 0))), (q24, .inl (cI, 80, .inl (fun _ => 0))), (q25, .inr (7, [.ref q27, .ref q28, .ref q29, .int 0, .int 0, .int 0, .int (-1), .int 0, .int 0])), (q27, .inl (cI, 6, .inl (fun _ => 0))), (q28, .inl (cI, 5, .inl (fun _ => 0))), (q29, .inl (cI, 80, .inl (fun _ => 0))), (q30, .inr (0, [.ref q32, .int 0, .int 0])), (q32, .inl (cI, 680, .inl (fun _ => 0))), (q33, .inr (8, [.ref q35, .ref q36, .ref q14, .ref q20, .ref q37, .ref q38, .null])), (q35, .inl (cI, 10, .inl (fun _ => 0))), (q36, .inl (cI, 10, .inl (fun _ => 0))), (q37, .inl (cI, 6, .inl (fun _ => 0))), (q38, .inl (cI, 32, .inl (fun _ => 0))), (q39, .inr (6, [.ref q14, .ref q20, .ref q33, .ref q41, .long 0, .int 0, .ref q42, .ref q43, .ref q44])), (q41, .inl (cJ, 10, .inr (.inl (fun _ => 0)))), (q42, .inl (cI, 10, .inl (fun _ => 0))), (q43, .inl (cI, 10, .inl (fun _ => 0))), (q44, .inl (cI, 45, .inl (fun _ => 0)))] := hD
  refine lv_aload_n hx hb dX10_init_142 rfl (lv_at hl 0 rfl) ?_
  refine va_new (ci := 3) (fs := [.long 0]) (C := RX3) (T := TX3) (N := 1) hx hb hts iX3 tyX3 tyX3_ok hown (hts _ qw346) (hts _ qw347) (hts _ qw107) hK hP hD hS hA rfl fsX3 (Nat.le_of_ble_eq_true rfl) (Nat.le_of_ble_eq_true rfl) dX10_init_143 (fun q45 H hP hD hS => ?_)
  have hP : va_P (dC, dI) vwCl [(h0, .inr (10, [.ref q1, .ref q4, .ref q6, .ref q9, .ref q14, .ref q19, .ref q20, .ref q25, .ref q30, .ref q33, .ref q39, .null, .null, .int 0, .int 0, .int 0, .int 0])), (q1, .inr (9, [.ref q3, .int 0, .int 0])), (q3, .inl (cI, 260, .inl (fun _ => 0))), (q4, .inr (2, [.null, .null, .int 0])), (q6, .inr (5, [.ref q8, .int 0, .null])), (q8, .inl (cI, 241, .inl (fun _ => 0))), (q9, .inr (1, [.ref q11, .ref q12, .ref q13, .int 0, .int 0])), (q11, .inl (cI, 3, .inl (fun _ => 0))), (q12, .inl (cI, 24, .inl (fun _ => 0))), (q13, .inl (cI, 20, .inl (fun _ => 0))), (q14, .inr (1, [.ref q16, .ref q17, .ref q18, .int 0, .int 0])), (q16, .inl (cI, 3, .inl (fun _ => 0))), (q17, .inl (cI, 24, .inl (fun _ => 0))), (q18, .inl (cI, 20, .inl (fun _ => 0))), (q20, .inr (7, [.ref q22, .ref q23, .ref q24, .int 0, .int 0, .int 0, .int (-1), .int 0, .int 0])), (q22, .inl (cI, 6, .inl (fun _ => 0))), (q23, .inl (cI, 5, .inl (fun _ => 0))), (q24, .inl (cI, 80, .inl (fun _ => 0))), (q25, .inr (7, [.ref q27, .ref q28, .ref q29, .int 0, .int 0, .int 0, .int (-1), .int 0, .int 0])), (q27, .inl (cI, 6, .inl (fun _ => 0))), (q28, .inl (cI, 5, .inl (fun _ => 0))), (q29, .inl (cI, 80, .inl (fun _ => 0))), (q30, .inr (0, [.ref q32, .int 0, .int 0])), (q32, .inl (cI, 680, .inl (fun _ => 0))), (q33, .inr (8, [.ref q35, .ref q36, .ref q14, .ref q20, .ref q37, .ref q38, .null])), (q35, .inl (cI, 10, .inl (fun _ => 0))), (q36, .inl (cI, 10, .inl (fun _ => 0))), (q37, .inl (cI, 6, .inl (fun _ => 0))), (q38, .inl (cI, 32, .inl (fun _ => 0))), (q39, .inr (6, [.ref q14, .ref q20, .ref q33, .ref q41, .long 0, .int 0, .ref q42, .ref q43, .ref q44])), (q41, .inl (cJ, 10, .inr (.inl (fun _ => 0)))), (q42, .inl (cI, 10, .inl (fun _ => 0))), (q43, .inl (cI, 10, .inl (fun _ => 0))), (q44, .inl (cI, 45, .inl (fun _ => 0))), (q45, .inr (3, [.long 0]))] H := hP
  have hD : va_D A [(h0, .inr (10, [.ref q1, .ref q4, .ref q6, .ref q9, .ref q14, .ref q19, .ref q20, .ref q25, .ref q30, .ref q33, .ref q39, .null, .null, .int 0, .int 0, .int 0, .int 0])), (q1, .inr (9, [.ref q3, .int 0, .int 0])), (q3, .inl (cI, 260, .inl (fun _ => 0))), (q4, .inr (2, [.null, .null, .int 0])), (q6, .inr (5, [.ref q8, .int 0, .null])), (q8, .inl (cI, 241, .inl (fun _ => 0))), (q9, .inr (1, [.ref q11, .ref q12, .ref q13, .int 0, .int 0])), (q11, .inl (cI, 3, .inl (fun _ => 0))), (q12, .inl (cI, 24, .inl (fun _ => 0))), (q13, .inl (cI, 20, .inl (fun _ => 0))), (q14, .inr (1, [.ref q16, .ref q17, .ref q18, .int 0, .int 0])), (q16, .inl (cI, 3, .inl (fun _ => 0))), (q17, .inl (cI, 24, .inl (fun _ => 0))), (q18, .inl (cI, 20, .inl (fun _ => 0))), (q20, .inr (7, [.ref q22, .ref q23, .ref q24, .int 0, .int 0, .int 0, .int (-1), .int 0, .int 0])), (q22, .inl (cI, 6, .inl (fun _ => 0))), (q23, .inl (cI, 5, .inl (fun _ => 0))), (q24, .inl (cI, 80, .inl (fun _ => 0))), (q25, .inr (7, [.ref q27, .ref q28, .ref q29, .int 0, .int 0, .int 0, .int (-1), .int 0, .int 0])), (q27, .inl (cI, 6, .inl (fun _ => 0))), (q28, .inl (cI, 5, .inl (fun _ => 0))), (q29, .inl (cI, 80, .inl (fun _ => 0))), (q30, .inr (0, [.ref q32, .int 0, .int 0])), (q32, .inl (cI, 680, .inl (fun _ => 0))), (q33, .inr (8, [.ref q35, .ref q36, .ref q14, .ref q20, .ref q37, .ref q38, .null])), (q35, .inl (cI, 10, .inl (fun _ => 0))), (q36, .inl (cI, 10, .inl (fun _ => 0))), (q37, .inl (cI, 6, .inl (fun _ => 0))), (q38, .inl (cI, 32, .inl (fun _ => 0))), (q39, .inr (6, [.ref q14, .ref q20, .ref q33, .ref q41, .long 0, .int 0, .ref q42, .ref q43, .ref q44])), (q41, .inl (cJ, 10, .inr (.inl (fun _ => 0)))), (q42, .inl (cI, 10, .inl (fun _ => 0))), (q43, .inl (cI, 10, .inl (fun _ => 0))), (q44, .inl (cI, 45, .inl (fun _ => 0))), (q45, .inr (3, [.long 0]))] := hD
  refine W.widen (k := 35) (n := 1651) (Nat.le_of_ble_eq_true rfl) (Nat.le_of_ble_eq_true rfl) ?_
  refine lv_dup hx hb dX10_init_146 rfl ?_
  have hPc : va_P (dC, dI) vwCl [] H := zP0
  have hDc : va_D (fun _ => True) [] := zD0
  have hFc := zfr hS hA
  refine va_callv (va_runIN (As := []) (rest := [.ref q45, .ref h0]) ⟨hx, hb, hml, hown, hts⟩ (c_X3_init l dC dI cI cJ q45 H.size) ⟨va_cnB 0 hts (zgI qw350) rfl rfl rfl (hN_83) (hts _ qw107) (hd_X3_init).2 ⟨Nat.le_of_ble_eq_true rfl, Nat.le_of_ble_eq_true rfl⟩, rfl, hts _ qw349⟩ (zPS hPc hK hDc) rfl rfl hl.1 rfl (lv_room (Nat.le_of_ble_eq_true rfl)) dX10_init_147 ⟨Nat.le_of_ble_eq_true rfl, Nat.le_of_ble_eq_true rfl⟩) hS (fun q _ h => hFc q h) hFc (fun u t H locs ht hvm hw hB hz1 hk1 hS => ?_)
  have hP := zkeep hP hk1
  refine va_putF (D := (dC, dI)) (ci := 10) (v := .ref q45) (ty := .object "NinePortraits$Draws") (C := RX10) (T := TX10) (N := 17) hx hb hts iX10 tyX10 tyX10_ok nmX10 hown hK hP hD hS 0 rfl rfl 11 (by decide) (hts _ qw367) (fun _ h9 => h9) rfl hin rfl (by decide +kernel) rfl rfl (Nat.le_of_ble_eq_true rfl) dX10_init_150 (fun H locs hP hD hS => ?_)
  have hP : va_P (dC, dI) vwCl [(h0, .inr (10, [.ref q1, .ref q4, .ref q6, .ref q9, .ref q14, .ref q19, .ref q20, .ref q25, .ref q30, .ref q33, .ref q39, .ref q45, .null, .int 0, .int 0, .int 0, .int 0])), (q1, .inr (9, [.ref q3, .int 0, .int 0])), (q3, .inl (cI, 260, .inl (fun _ => 0))), (q4, .inr (2, [.null, .null, .int 0])), (q6, .inr (5, [.ref q8, .int 0, .null])), (q8, .inl (cI, 241, .inl (fun _ => 0))), (q9, .inr (1, [.ref q11, .ref q12, .ref q13, .int 0, .int 0])), (q11, .inl (cI, 3, .inl (fun _ => 0))), (q12, .inl (cI, 24, .inl (fun _ => 0))), (q13, .inl (cI, 20, .inl (fun _ => 0))), (q14, .inr (1, [.ref q16, .ref q17, .ref q18, .int 0, .int 0])), (q16, .inl (cI, 3, .inl (fun _ => 0))), (q17, .inl (cI, 24, .inl (fun _ => 0))), (q18, .inl (cI, 20, .inl (fun _ => 0))), (q20, .inr (7, [.ref q22, .ref q23, .ref q24, .int 0, .int 0, .int 0, .int (-1), .int 0, .int 0])), (q22, .inl (cI, 6, .inl (fun _ => 0))), (q23, .inl (cI, 5, .inl (fun _ => 0))), (q24, .inl (cI, 80, .inl (fun _ => 0))), (q25, .inr (7, [.ref q27, .ref q28, .ref q29, .int 0, .int 0, .int 0, .int (-1), .int 0, .int 0])), (q27, .inl (cI, 6, .inl (fun _ => 0))), (q28, .inl (cI, 5, .inl (fun _ => 0))), (q29, .inl (cI, 80, .inl (fun _ => 0))), (q30, .inr (0, [.ref q32, .int 0, .int 0])), (q32, .inl (cI, 680, .inl (fun _ => 0))), (q33, .inr (8, [.ref q35, .ref q36, .ref q14, .ref q20, .ref q37, .ref q38, .null])), (q35, .inl (cI, 10, .inl (fun _ => 0))), (q36, .inl (cI, 10, .inl (fun _ => 0))), (q37, .inl (cI, 6, .inl (fun _ => 0))), (q38, .inl (cI, 32, .inl (fun _ => 0))), (q39, .inr (6, [.ref q14, .ref q20, .ref q33, .ref q41, .long 0, .int 0, .ref q42, .ref q43, .ref q44])), (q41, .inl (cJ, 10, .inr (.inl (fun _ => 0)))), (q42, .inl (cI, 10, .inl (fun _ => 0))), (q43, .inl (cI, 10, .inl (fun _ => 0))), (q44, .inl (cI, 45, .inl (fun _ => 0))), (q45, .inr (3, [.long 0]))] H := hP
  have hD : va_D A [(h0, .inr (10, [.ref q1, .ref q4, .ref q6, .ref q9, .ref q14, .ref q19, .ref q20, .ref q25, .ref q30, .ref q33, .ref q39, .ref q45, .null, .int 0, .int 0, .int 0, .int 0])), (q1, .inr (9, [.ref q3, .int 0, .int 0])), (q3, .inl (cI, 260, .inl (fun _ => 0))), (q4, .inr (2, [.null, .null, .int 0])), (q6, .inr (5, [.ref q8, .int 0, .null])), (q8, .inl (cI, 241, .inl (fun _ => 0))), (q9, .inr (1, [.ref q11, .ref q12, .ref q13, .int 0, .int 0])), (q11, .inl (cI, 3, .inl (fun _ => 0))), (q12, .inl (cI, 24, .inl (fun _ => 0))), (q13, .inl (cI, 20, .inl (fun _ => 0))), (q14, .inr (1, [.ref q16, .ref q17, .ref q18, .int 0, .int 0])), (q16, .inl (cI, 3, .inl (fun _ => 0))), (q17, .inl (cI, 24, .inl (fun _ => 0))), (q18, .inl (cI, 20, .inl (fun _ => 0))), (q20, .inr (7, [.ref q22, .ref q23, .ref q24, .int 0, .int 0, .int 0, .int (-1), .int 0, .int 0])), (q22, .inl (cI, 6, .inl (fun _ => 0))), (q23, .inl (cI, 5, .inl (fun _ => 0))), (q24, .inl (cI, 80, .inl (fun _ => 0))), (q25, .inr (7, [.ref q27, .ref q28, .ref q29, .int 0, .int 0, .int 0, .int (-1), .int 0, .int 0])), (q27, .inl (cI, 6, .inl (fun _ => 0))), (q28, .inl (cI, 5, .inl (fun _ => 0))), (q29, .inl (cI, 80, .inl (fun _ => 0))), (q30, .inr (0, [.ref q32, .int 0, .int 0])), (q32, .inl (cI, 680, .inl (fun _ => 0))), (q33, .inr (8, [.ref q35, .ref q36, .ref q14, .ref q20, .ref q37, .ref q38, .null])), (q35, .inl (cI, 10, .inl (fun _ => 0))), (q36, .inl (cI, 10, .inl (fun _ => 0))), (q37, .inl (cI, 6, .inl (fun _ => 0))), (q38, .inl (cI, 32, .inl (fun _ => 0))), (q39, .inr (6, [.ref q14, .ref q20, .ref q33, .ref q41, .long 0, .int 0, .ref q42, .ref q43, .ref q44])), (q41, .inl (cJ, 10, .inr (.inl (fun _ => 0)))), (q42, .inl (cI, 10, .inl (fun _ => 0))), (q43, .inl (cI, 10, .inl (fun _ => 0))), (q44, .inl (cI, 45, .inl (fun _ => 0))), (q45, .inr (3, [.long 0]))] := hD
  refine lv_aload_n hx hb dX10_init_153 rfl (lv_at hl 0 rfl) ?_
  refine lv_iconst (v := 5) hx hb dX10_init_154 (by decide) ?_
  refine va_newa (atype := .int) (ty := .int) (N' := 5) (a0 := (5, .inl (fun _ => 0))) hx hb (hts _ qw147) rfl hK hP hD hS hA (fun _ => rfl) (by decide) (by decide) (Nat.le_of_ble_eq_true rfl) (Nat.le_of_ble_eq_true rfl) (Nat.le_of_ble_eq_true rfl) dX10_init_155 (fun q47 cA H hK2 hP hD hS => ?_)
  obtain rfl : cI = cA := (zcA hK2 0 2 rfl rfl).symm
  have hP : va_P (dC, dI) vwCl [(h0, .inr (10, [.ref q1, .ref q4, .ref q6, .ref q9, .ref q14, .ref q19, .ref q20, .ref q25, .ref q30, .ref q33, .ref q39, .ref q45, .null, .int 0, .int 0, .int 0, .int 0])), (q1, .inr (9, [.ref q3, .int 0, .int 0])), (q3, .inl (cI, 260, .inl (fun _ => 0))), (q4, .inr (2, [.null, .null, .int 0])), (q6, .inr (5, [.ref q8, .int 0, .null])), (q8, .inl (cI, 241, .inl (fun _ => 0))), (q9, .inr (1, [.ref q11, .ref q12, .ref q13, .int 0, .int 0])), (q11, .inl (cI, 3, .inl (fun _ => 0))), (q12, .inl (cI, 24, .inl (fun _ => 0))), (q13, .inl (cI, 20, .inl (fun _ => 0))), (q14, .inr (1, [.ref q16, .ref q17, .ref q18, .int 0, .int 0])), (q16, .inl (cI, 3, .inl (fun _ => 0))), (q17, .inl (cI, 24, .inl (fun _ => 0))), (q18, .inl (cI, 20, .inl (fun _ => 0))), (q20, .inr (7, [.ref q22, .ref q23, .ref q24, .int 0, .int 0, .int 0, .int (-1), .int 0, .int 0])), (q22, .inl (cI, 6, .inl (fun _ => 0))), (q23, .inl (cI, 5, .inl (fun _ => 0))), (q24, .inl (cI, 80, .inl (fun _ => 0))), (q25, .inr (7, [.ref q27, .ref q28, .ref q29, .int 0, .int 0, .int 0, .int (-1), .int 0, .int 0])), (q27, .inl (cI, 6, .inl (fun _ => 0))), (q28, .inl (cI, 5, .inl (fun _ => 0))), (q29, .inl (cI, 80, .inl (fun _ => 0))), (q30, .inr (0, [.ref q32, .int 0, .int 0])), (q32, .inl (cI, 680, .inl (fun _ => 0))), (q33, .inr (8, [.ref q35, .ref q36, .ref q14, .ref q20, .ref q37, .ref q38, .null])), (q35, .inl (cI, 10, .inl (fun _ => 0))), (q36, .inl (cI, 10, .inl (fun _ => 0))), (q37, .inl (cI, 6, .inl (fun _ => 0))), (q38, .inl (cI, 32, .inl (fun _ => 0))), (q39, .inr (6, [.ref q14, .ref q20, .ref q33, .ref q41, .long 0, .int 0, .ref q42, .ref q43, .ref q44])), (q41, .inl (cJ, 10, .inr (.inl (fun _ => 0)))), (q42, .inl (cI, 10, .inl (fun _ => 0))), (q43, .inl (cI, 10, .inl (fun _ => 0))), (q44, .inl (cI, 45, .inl (fun _ => 0))), (q45, .inr (3, [.long 0])), (q47, .inl (cI, 5, .inl (fun _ => 0)))] H := hP
  have hD : va_D A [(h0, .inr (10, [.ref q1, .ref q4, .ref q6, .ref q9, .ref q14, .ref q19, .ref q20, .ref q25, .ref q30, .ref q33, .ref q39, .ref q45, .null, .int 0, .int 0, .int 0, .int 0])), (q1, .inr (9, [.ref q3, .int 0, .int 0])), (q3, .inl (cI, 260, .inl (fun _ => 0))), (q4, .inr (2, [.null, .null, .int 0])), (q6, .inr (5, [.ref q8, .int 0, .null])), (q8, .inl (cI, 241, .inl (fun _ => 0))), (q9, .inr (1, [.ref q11, .ref q12, .ref q13, .int 0, .int 0])), (q11, .inl (cI, 3, .inl (fun _ => 0))), (q12, .inl (cI, 24, .inl (fun _ => 0))), (q13, .inl (cI, 20, .inl (fun _ => 0))), (q14, .inr (1, [.ref q16, .ref q17, .ref q18, .int 0, .int 0])), (q16, .inl (cI, 3, .inl (fun _ => 0))), (q17, .inl (cI, 24, .inl (fun _ => 0))), (q18, .inl (cI, 20, .inl (fun _ => 0))), (q20, .inr (7, [.ref q22, .ref q23, .ref q24, .int 0, .int 0, .int 0, .int (-1), .int 0, .int 0])), (q22, .inl (cI, 6, .inl (fun _ => 0))), (q23, .inl (cI, 5, .inl (fun _ => 0))), (q24, .inl (cI, 80, .inl (fun _ => 0))), (q25, .inr (7, [.ref q27, .ref q28, .ref q29, .int 0, .int 0, .int 0, .int (-1), .int 0, .int 0])), (q27, .inl (cI, 6, .inl (fun _ => 0))), (q28, .inl (cI, 5, .inl (fun _ => 0))), (q29, .inl (cI, 80, .inl (fun _ => 0))), (q30, .inr (0, [.ref q32, .int 0, .int 0])), (q32, .inl (cI, 680, .inl (fun _ => 0))), (q33, .inr (8, [.ref q35, .ref q36, .ref q14, .ref q20, .ref q37, .ref q38, .null])), (q35, .inl (cI, 10, .inl (fun _ => 0))), (q36, .inl (cI, 10, .inl (fun _ => 0))), (q37, .inl (cI, 6, .inl (fun _ => 0))), (q38, .inl (cI, 32, .inl (fun _ => 0))), (q39, .inr (6, [.ref q14, .ref q20, .ref q33, .ref q41, .long 0, .int 0, .ref q42, .ref q43, .ref q44])), (q41, .inl (cJ, 10, .inr (.inl (fun _ => 0)))), (q42, .inl (cI, 10, .inl (fun _ => 0))), (q43, .inl (cI, 10, .inl (fun _ => 0))), (q44, .inl (cI, 45, .inl (fun _ => 0))), (q45, .inr (3, [.long 0])), (q47, .inl (cI, 5, .inl (fun _ => 0)))] := hD
  refine W.widen (k := 36) (n := 1656) (Nat.le_of_ble_eq_true rfl) (Nat.le_of_ble_eq_true rfl) ?_
  refine va_putF (D := (dC, dI)) (ci := 10) (v := .ref q47) (ty := .array .int) (C := RX10) (T := TX10) (N := 17) hx hb hts iX10 tyX10 tyX10_ok nmX10 hown hK hP hD hS 0 rfl rfl 12 (by decide) (hts _ qw368) (fun _ h9 => h9) rfl hin rfl (by decide +kernel) rfl rfl (Nat.le_of_ble_eq_true rfl) dX10_init_157 (fun H locs hP hD hS => ?_)
  have hP : va_P (dC, dI) vwCl [(h0, .inr (10, [.ref q1, .ref q4, .ref q6, .ref q9, .ref q14, .ref q19, .ref q20, .ref q25, .ref q30, .ref q33, .ref q39, .ref q45, .ref q47, .int 0, .int 0, .int 0, .int 0])), (q1, .inr (9, [.ref q3, .int 0, .int 0])), (q3, .inl (cI, 260, .inl (fun _ => 0))), (q4, .inr (2, [.null, .null, .int 0])), (q6, .inr (5, [.ref q8, .int 0, .null])), (q8, .inl (cI, 241, .inl (fun _ => 0))), (q9, .inr (1, [.ref q11, .ref q12, .ref q13, .int 0, .int 0])), (q11, .inl (cI, 3, .inl (fun _ => 0))), (q12, .inl (cI, 24, .inl (fun _ => 0))), (q13, .inl (cI, 20, .inl (fun _ => 0))), (q14, .inr (1, [.ref q16, .ref q17, .ref q18, .int 0, .int 0])), (q16, .inl (cI, 3, .inl (fun _ => 0))), (q17, .inl (cI, 24, .inl (fun _ => 0))), (q18, .inl (cI, 20, .inl (fun _ => 0))), (q20, .inr (7, [.ref q22, .ref q23, .ref q24, .int 0, .int 0, .int 0, .int (-1), .int 0, .int 0])), (q22, .inl (cI, 6, .inl (fun _ => 0))), (q23, .inl (cI, 5, .inl (fun _ => 0))), (q24, .inl (cI, 80, .inl (fun _ => 0))), (q25, .inr (7, [.ref q27, .ref q28, .ref q29, .int 0, .int 0, .int 0, .int (-1), .int 0, .int 0])), (q27, .inl (cI, 6, .inl (fun _ => 0))), (q28, .inl (cI, 5, .inl (fun _ => 0))), (q29, .inl (cI, 80, .inl (fun _ => 0))), (q30, .inr (0, [.ref q32, .int 0, .int 0])), (q32, .inl (cI, 680, .inl (fun _ => 0))), (q33, .inr (8, [.ref q35, .ref q36, .ref q14, .ref q20, .ref q37, .ref q38, .null])), (q35, .inl (cI, 10, .inl (fun _ => 0))), (q36, .inl (cI, 10, .inl (fun _ => 0))), (q37, .inl (cI, 6, .inl (fun _ => 0))), (q38, .inl (cI, 32, .inl (fun _ => 0))), (q39, .inr (6, [.ref q14, .ref q20, .ref q33, .ref q41, .long 0, .int 0, .ref q42, .ref q43, .ref q44])), (q41, .inl (cJ, 10, .inr (.inl (fun _ => 0)))), (q42, .inl (cI, 10, .inl (fun _ => 0))), (q43, .inl (cI, 10, .inl (fun _ => 0))), (q44, .inl (cI, 45, .inl (fun _ => 0))), (q45, .inr (3, [.long 0])), (q47, .inl (cI, 5, .inl (fun _ => 0)))] H := hP
  have hD : va_D A [(h0, .inr (10, [.ref q1, .ref q4, .ref q6, .ref q9, .ref q14, .ref q19, .ref q20, .ref q25, .ref q30, .ref q33, .ref q39, .ref q45, .ref q47, .int 0, .int 0, .int 0, .int 0])), (q1, .inr (9, [.ref q3, .int 0, .int 0])), (q3, .inl (cI, 260, .inl (fun _ => 0))), (q4, .inr (2, [.null, .null, .int 0])), (q6, .inr (5, [.ref q8, .int 0, .null])), (q8, .inl (cI, 241, .inl (fun _ => 0))), (q9, .inr (1, [.ref q11, .ref q12, .ref q13, .int 0, .int 0])), (q11, .inl (cI, 3, .inl (fun _ => 0))), (q12, .inl (cI, 24, .inl (fun _ => 0))), (q13, .inl (cI, 20, .inl (fun _ => 0))), (q14, .inr (1, [.ref q16, .ref q17, .ref q18, .int 0, .int 0])), (q16, .inl (cI, 3, .inl (fun _ => 0))), (q17, .inl (cI, 24, .inl (fun _ => 0))), (q18, .inl (cI, 20, .inl (fun _ => 0))), (q20, .inr (7, [.ref q22, .ref q23, .ref q24, .int 0, .int 0, .int 0, .int (-1), .int 0, .int 0])), (q22, .inl (cI, 6, .inl (fun _ => 0))), (q23, .inl (cI, 5, .inl (fun _ => 0))), (q24, .inl (cI, 80, .inl (fun _ => 0))), (q25, .inr (7, [.ref q27, .ref q28, .ref q29, .int 0, .int 0, .int 0, .int (-1), .int 0, .int 0])), (q27, .inl (cI, 6, .inl (fun _ => 0))), (q28, .inl (cI, 5, .inl (fun _ => 0))), (q29, .inl (cI, 80, .inl (fun _ => 0))), (q30, .inr (0, [.ref q32, .int 0, .int 0])), (q32, .inl (cI, 680, .inl (fun _ => 0))), (q33, .inr (8, [.ref q35, .ref q36, .ref q14, .ref q20, .ref q37, .ref q38, .null])), (q35, .inl (cI, 10, .inl (fun _ => 0))), (q36, .inl (cI, 10, .inl (fun _ => 0))), (q37, .inl (cI, 6, .inl (fun _ => 0))), (q38, .inl (cI, 32, .inl (fun _ => 0))), (q39, .inr (6, [.ref q14, .ref q20, .ref q33, .ref q41, .long 0, .int 0, .ref q42, .ref q43, .ref q44])), (q41, .inl (cJ, 10, .inr (.inl (fun _ => 0)))), (q42, .inl (cI, 10, .inl (fun _ => 0))), (q43, .inl (cI, 10, .inl (fun _ => 0))), (q44, .inl (cI, 45, .inl (fun _ => 0))), (q45, .inr (3, [.long 0])), (q47, .inl (cI, 5, .inl (fun _ => 0)))] := hD
  refine lv_aload_n hx hb dX10_init_160 rfl (lv_at hl 0 rfl) ?_
  refine lv_iconst (v := (-1)) hx hb dX10_init_161 (by decide) ?_
  refine va_put (D := (dC, dI)) (ci := 10) (v := .int (-1)) (ty := .int) (C := RX10) (T := TX10) (N := 17) hx hb hts iX10 tyX10 tyX10_ok nmX10 hown hK hP hD hS 0 rfl rfl 14 (by decide) (hts _ qw370) (fun _ h9 => h9) rfl (by decide +kernel) rfl rfl (Nat.le_of_ble_eq_true rfl) dX10_init_162 (fun H locs hP hD hS => ?_)
  have hP : va_P (dC, dI) vwCl [(h0, .inr (10, [.ref q1, .ref q4, .ref q6, .ref q9, .ref q14, .ref q19, .ref q20, .ref q25, .ref q30, .ref q33, .ref q39, .ref q45, .ref q47, .int 0, .int (-1), .int 0, .int 0])), (q1, .inr (9, [.ref q3, .int 0, .int 0])), (q3, .inl (cI, 260, .inl (fun _ => 0))), (q4, .inr (2, [.null, .null, .int 0])), (q6, .inr (5, [.ref q8, .int 0, .null])), (q8, .inl (cI, 241, .inl (fun _ => 0))), (q9, .inr (1, [.ref q11, .ref q12, .ref q13, .int 0, .int 0])), (q11, .inl (cI, 3, .inl (fun _ => 0))), (q12, .inl (cI, 24, .inl (fun _ => 0))), (q13, .inl (cI, 20, .inl (fun _ => 0))), (q14, .inr (1, [.ref q16, .ref q17, .ref q18, .int 0, .int 0])), (q16, .inl (cI, 3, .inl (fun _ => 0))), (q17, .inl (cI, 24, .inl (fun _ => 0))), (q18, .inl (cI, 20, .inl (fun _ => 0))), (q20, .inr (7, [.ref q22, .ref q23, .ref q24, .int 0, .int 0, .int 0, .int (-1), .int 0, .int 0])), (q22, .inl (cI, 6, .inl (fun _ => 0))), (q23, .inl (cI, 5, .inl (fun _ => 0))), (q24, .inl (cI, 80, .inl (fun _ => 0))), (q25, .inr (7, [.ref q27, .ref q28, .ref q29, .int 0, .int 0, .int 0, .int (-1), .int 0, .int 0])), (q27, .inl (cI, 6, .inl (fun _ => 0))), (q28, .inl (cI, 5, .inl (fun _ => 0))), (q29, .inl (cI, 80, .inl (fun _ => 0))), (q30, .inr (0, [.ref q32, .int 0, .int 0])), (q32, .inl (cI, 680, .inl (fun _ => 0))), (q33, .inr (8, [.ref q35, .ref q36, .ref q14, .ref q20, .ref q37, .ref q38, .null])), (q35, .inl (cI, 10, .inl (fun _ => 0))), (q36, .inl (cI, 10, .inl (fun _ => 0))), (q37, .inl (cI, 6, .inl (fun _ => 0))), (q38, .inl (cI, 32, .inl (fun _ => 0))), (q39, .inr (6, [.ref q14, .ref q20, .ref q33, .ref q41, .long 0, .int 0, .ref q42, .ref q43, .ref q44])), (q41, .inl (cJ, 10, .inr (.inl (fun _ => 0)))), (q42, .inl (cI, 10, .inl (fun _ => 0))), (q43, .inl (cI, 10, .inl (fun _ => 0))), (q44, .inl (cI, 45, .inl (fun _ => 0))), (q45, .inr (3, [.long 0])), (q47, .inl (cI, 5, .inl (fun _ => 0)))] H := hP
  have hD : va_D A [(h0, .inr (10, [.ref q1, .ref q4, .ref q6, .ref q9, .ref q14, .ref q19, .ref q20, .ref q25, .ref q30, .ref q33, .ref q39, .ref q45, .ref q47, .int 0, .int (-1), .int 0, .int 0])), (q1, .inr (9, [.ref q3, .int 0, .int 0])), (q3, .inl (cI, 260, .inl (fun _ => 0))), (q4, .inr (2, [.null, .null, .int 0])), (q6, .inr (5, [.ref q8, .int 0, .null])), (q8, .inl (cI, 241, .inl (fun _ => 0))), (q9, .inr (1, [.ref q11, .ref q12, .ref q13, .int 0, .int 0])), (q11, .inl (cI, 3, .inl (fun _ => 0))), (q12, .inl (cI, 24, .inl (fun _ => 0))), (q13, .inl (cI, 20, .inl (fun _ => 0))), (q14, .inr (1, [.ref q16, .ref q17, .ref q18, .int 0, .int 0])), (q16, .inl (cI, 3, .inl (fun _ => 0))), (q17, .inl (cI, 24, .inl (fun _ => 0))), (q18, .inl (cI, 20, .inl (fun _ => 0))), (q20, .inr (7, [.ref q22, .ref q23, .ref q24, .int 0, .int 0, .int 0, .int (-1), .int 0, .int 0])), (q22, .inl (cI, 6, .inl (fun _ => 0))), (q23, .inl (cI, 5, .inl (fun _ => 0))), (q24, .inl (cI, 80, .inl (fun _ => 0))), (q25, .inr (7, [.ref q27, .ref q28, .ref q29, .int 0, .int 0, .int 0, .int (-1), .int 0, .int 0])), (q27, .inl (cI, 6, .inl (fun _ => 0))), (q28, .inl (cI, 5, .inl (fun _ => 0))), (q29, .inl (cI, 80, .inl (fun _ => 0))), (q30, .inr (0, [.ref q32, .int 0, .int 0])), (q32, .inl (cI, 680, .inl (fun _ => 0))), (q33, .inr (8, [.ref q35, .ref q36, .ref q14, .ref q20, .ref q37, .ref q38, .null])), (q35, .inl (cI, 10, .inl (fun _ => 0))), (q36, .inl (cI, 10, .inl (fun _ => 0))), (q37, .inl (cI, 6, .inl (fun _ => 0))), (q38, .inl (cI, 32, .inl (fun _ => 0))), (q39, .inr (6, [.ref q14, .ref q20, .ref q33, .ref q41, .long 0, .int 0, .ref q42, .ref q43, .ref q44])), (q41, .inl (cJ, 10, .inr (.inl (fun _ => 0)))), (q42, .inl (cI, 10, .inl (fun _ => 0))), (q43, .inl (cI, 10, .inl (fun _ => 0))), (q44, .inl (cI, 45, .inl (fun _ => 0))), (q45, .inr (3, [.long 0])), (q47, .inl (cI, 5, .inl (fun _ => 0)))] := hD
  exact W.vret hx hb hr (fun t ht hW => ⟨⟨(), rfl, trivial, ⟨q1, q3, q4, q6, q8, q9, q11, q12, q13, q14, q16, q17, q18, q20, q22, q23, q24, q25, q27, q28, q29, q30, q32, q33, q35, q36, q37, q38, q39, q41, q42, q43, q44, q45, q47, q19, by rw [ht]; exact hP, hD⟩⟩, hS.F ht⟩) hS.2.2 dX10_init_165
end
section
set_option maxHeartbeats 4000000 in
set_option maxRecDepth 100000 in
theorem c_X11_init (l : Launch) (dC : Nat → ClassId) (dI : Nat → Nat → Nat) (cI cJ : ClassId) (h0 : Nat) (sz : Nat) : Met l yX11_init (.code yX11_init cX11_init 1 none :: wA) ({ frames := 1, cells := 23, slots := 11830, locals := 20 }) (zP (dC, dI) [(cI, .int), (cJ, .long)] [.ref h0] sz [(h0, .inr (11, [.int 0, .null, .int 0, .int 0, .int 0, .int 0, .null, .null, .null, .null, .null, .null, .null, .int 0, .int 0, .null, .null, .null, .null, .null, .int 0, .int 0, .null, .null, .null, .int 0, .int 0, .null, .null, .int 0, .int 0, .null, .int 0, .long 0, .null, .int 0, .int 0, .null, .null, .null, .int 0]))]) (va_Qv (fun (_ : Unit) => True) (fun (_ : Unit) (t : State) => ∃ (q1 : Nat) (q2 : Nat) (q3 : Nat) (q4 : Nat) (q5 : Nat) (q6 : Nat) (q7 : Nat) (q8 : Nat) (q9 : Nat) (q10 : Nat) (q11 : Nat) (q12 : Nat) (q13 : Nat) (q14 : Nat) (q15 : Nat) (q16 : Nat) (q17 : Nat) (q18 : Nat) (q19 : Nat) (q20 : Nat) (q21 : Nat) (q22 : Nat) (q23 : Nat), va_P (dC, dI) vwCl [(h0, .inr (11, [.int 0, .ref q1, .int 0, .int 0, .int 0, .int 0, .ref q2, .ref q3, .ref q4, .ref q5, .ref q6, .ref q7, .ref q8, .int 0, .int 0, .ref q9, .ref q10, .ref q11, .ref q12, .ref q13, .int 0, .int 0, .ref q14, .ref q15, .ref q16, .int 0, .int 0, .ref q17, .ref q18, .int (-1), .int 0, .ref q19, .int 0, .long 0, .ref q20, .int 0, .int 0, .ref q21, .ref q22, .ref q23, .int 0])), (q1, .inl (cI, 240, .inl (fun _ => 0))), (q2, .inl (cI, 2600, .inl (fun _ => 0))), (q3, .inl (cI, 2600, .inl (fun _ => 0))), (q4, .inl (cI, 5, .inl (fun _ => 0))), (q5, .inl (cI, 5, .inl (fun _ => 0))), (q6, .inl (cI, 700, .inl (fun _ => 0))), (q7, .inl (cI, 700, .inl (fun _ => 0))), (q8, .inl (cI, 700, .inl (fun _ => 0))), (q9, .inl (cI, 6, .inl (fun _ => 0))), (q10, .inl (cI, 80, .inl (fun _ => 0))), (q11, .inl (cI, 3, .inl (fun _ => 0))), (q12, .inl (cI, 24, .inl (fun _ => 0))), (q13, .inl (cI, 20, .inl (fun _ => 0))), (q14, .inl (cI, 3, .inl (fun _ => 0))), (q15, .inl (cI, 24, .inl (fun _ => 0))), (q16, .inl (cI, 20, .inl (fun _ => 0))), (q17, .inl (cI, 97, .inl (fun _ => 0))), (q18, .inl (cI, 5, .inl (fun _ => 0))), (q19, .inl (cI, 3880, .inl (fun _ => 0))), (q20, .inl (cI, 10, .inl (fun _ => 0))), (q21, .inl (cI, 6, .inl (fun _ => 0))), (q22, .inl (cI, 5, .inl (fun _ => 0))), (q23, .inl (cI, 97, .inl (fun _ => 0)))] t.heap ∧ va_D (va_A [(h0, .inr (11, [.int 0, .null, .int 0, .int 0, .int 0, .int 0, .null, .null, .null, .null, .null, .null, .null, .int 0, .int 0, .null, .null, .null, .null, .null, .int 0, .int 0, .null, .null, .null, .int 0, .int 0, .null, .null, .int 0, .int 0, .null, .int 0, .long 0, .null, .int 0, .int 0, .null, .null, .null, .int 0]))] sz) [(h0, .inr (11, [.int 0, .ref q1, .int 0, .int 0, .int 0, .int 0, .ref q2, .ref q3, .ref q4, .ref q5, .ref q6, .ref q7, .ref q8, .int 0, .int 0, .ref q9, .ref q10, .ref q11, .ref q12, .ref q13, .int 0, .int 0, .ref q14, .ref q15, .ref q16, .int 0, .int 0, .ref q17, .ref q18, .int (-1), .int 0, .ref q19, .int 0, .long 0, .ref q20, .int 0, .int 0, .ref q21, .ref q22, .ref q23, .int 0])), (q1, .inl (cI, 240, .inl (fun _ => 0))), (q2, .inl (cI, 2600, .inl (fun _ => 0))), (q3, .inl (cI, 2600, .inl (fun _ => 0))), (q4, .inl (cI, 5, .inl (fun _ => 0))), (q5, .inl (cI, 5, .inl (fun _ => 0))), (q6, .inl (cI, 700, .inl (fun _ => 0))), (q7, .inl (cI, 700, .inl (fun _ => 0))), (q8, .inl (cI, 700, .inl (fun _ => 0))), (q9, .inl (cI, 6, .inl (fun _ => 0))), (q10, .inl (cI, 80, .inl (fun _ => 0))), (q11, .inl (cI, 3, .inl (fun _ => 0))), (q12, .inl (cI, 24, .inl (fun _ => 0))), (q13, .inl (cI, 20, .inl (fun _ => 0))), (q14, .inl (cI, 3, .inl (fun _ => 0))), (q15, .inl (cI, 24, .inl (fun _ => 0))), (q16, .inl (cI, 20, .inl (fun _ => 0))), (q17, .inl (cI, 97, .inl (fun _ => 0))), (q18, .inl (cI, 5, .inl (fun _ => 0))), (q19, .inl (cI, 3880, .inl (fun _ => 0))), (q20, .inl (cI, 10, .inl (fun _ => 0))), (q21, .inl (cI, 6, .inl (fun _ => 0))), (q22, .inl (cI, 5, .inl (fun _ => 0))), (q23, .inl (cI, 97, .inl (fun _ => 0)))]) (va_A [(h0, .inr (11, [.int 0, .null, .int 0, .int 0, .int 0, .int 0, .null, .null, .null, .null, .null, .null, .null, .int 0, .int 0, .null, .null, .null, .null, .null, .int 0, .int 0, .null, .null, .null, .int 0, .int 0, .null, .null, .int 0, .int 0, .null, .int 0, .long 0, .null, .int 0, .int 0, .null, .null, .null, .int 0]))] sz)) 23 11830 (va_A [(h0, .inr (11, [.int 0, .null, .int 0, .int 0, .int 0, .int 0, .null, .null, .null, .null, .null, .null, .null, .int 0, .int 0, .null, .null, .null, .null, .null, .int 0, .int 0, .null, .null, .null, .int 0, .int 0, .null, .null, .int 0, .int 0, .null, .int 0, .long 0, .null, .int 0, .int 0, .null, .null, .null, .int 0]))] sz) := by
  refine Met.ofW (cc := cX11_init) (maxL := 1) (ret := none) (by decide) rfl ?_
  intro p e s m args below meth c s₁ B hml hv
  obtain ⟨rfl, hsz, hP, hK, hT⟩ := hv
  have hx := B.exec
  have hb := B.bytes
  have hr := B.returns
  have hts : ∀ w ∈ wA, w.before _ s = true := fun w h => atoms_spec (ws := .code yX11_init cX11_init 1 none :: wA) B.pre w (List.mem_cons_of_mem _ h)
  have hown : s.vm.findClass RX11 = some m.cls := findClass_of_methodNamed B.named
  have hlocks := B.notSynchronized
  have hin : meth.name = "<init>" := (name_of_methodNamed B.named B.method).1
  subst hsz
  have hD := hT.self (sz := s.heap.size)
  generalize hAe : va_A [(h0, .inr (11, [.int 0, .null, .int 0, .int 0, .int 0, .int 0, .null, .null, .null, .null, .null, .null, .null, .int 0, .int 0, .null, .null, .null, .null, .null, .int 0, .int 0, .null, .null, .null, .int 0, .int 0, .null, .null, .int 0, .int 0, .null, .int 0, .long 0, .null, .int 0, .int 0, .null, .null, .null, .int 0]))] s.heap.size = A at hD ⊢
  have hA : ∀ q : Nat, s.heap.size ≤ q → A q := fun q h => by rw [← hAe]; exact Or.inr h
  have hl := lv_entry ([.ref h0]) (n := 1) (Nat.le_of_ble_eq_true rfl)
  rw [lg_entry_eq]
  generalize (lg_sl ([.ref h0]) ++ List.replicate (1 - (lg_sl ([.ref h0])).length) Slot.unset).toArray = ls at hl ⊢
  have hl : lv_has ls 1 [(0, .ref h0)] := hl
  refine zstart (fun H hH => ?_)
  rw [← hH] at hP
  have hS : va_S A s.heap H [] := by rw [hH]; exact va_S.rf
  refine lv_aload_n hx hb dX11_init_0 rfl (lv_at hl 0 rfl) ?_
  refine W.objInit hx hb hown (hts _ qw1126) (hts _ qw124) (hts _ qw125) rfl (by rw [hml]; exact hl.1) rfl dX11_init_1 (Nat.le_of_ble_eq_true rfl) (Nat.le_of_ble_eq_true rfl) ?_
  refine W.eq (g2 := F0 m 4 ls []) rfl ?_
  refine lv_aload_n hx hb dX11_init_4 rfl (lv_at hl 0 rfl) ?_
  refine lv_sipush (v := 240) hx hb dX11_init_5 (by decide) ?_
  refine va_newa (atype := .int) (ty := .int) (N' := 240) (a0 := (240, .inl (fun _ => 0))) hx hb (hts _ qw147) rfl hK hP hD hS hA (fun _ => rfl) (by decide) (by decide) (Nat.le_of_ble_eq_true rfl) (Nat.le_of_ble_eq_true rfl) (Nat.le_of_ble_eq_true rfl) dX11_init_8 (fun q1 cA H hK2 hP hD hS => ?_)
  obtain rfl : cI = cA := (zcA hK2 0 2 rfl rfl).symm
  have hP : va_P (dC, dI) vwCl [(h0, .inr (11, [.int 0, .null, .int 0, .int 0, .int 0, .int 0, .null, .null, .null, .null, .null, .null, .null, .int 0, .int 0, .null, .null, .null, .null, .null, .int 0, .int 0, .null, .null, .null, .int 0, .int 0, .null, .null, .int 0, .int 0, .null, .int 0, .long 0, .null, .int 0, .int 0, .null, .null, .null, .int 0])), (q1, .inl (cI, 240, .inl (fun _ => 0)))] H := hP
  have hD : va_D A [(h0, .inr (11, [.int 0, .null, .int 0, .int 0, .int 0, .int 0, .null, .null, .null, .null, .null, .null, .null, .int 0, .int 0, .null, .null, .null, .null, .null, .int 0, .int 0, .null, .null, .null, .int 0, .int 0, .null, .null, .int 0, .int 0, .null, .int 0, .long 0, .null, .int 0, .int 0, .null, .null, .null, .int 0])), (q1, .inl (cI, 240, .inl (fun _ => 0)))] := hD
  refine W.widen (k := 1) (n := 240) (Nat.le_of_ble_eq_true rfl) (Nat.le_of_ble_eq_true rfl) ?_
  refine va_putF (D := (dC, dI)) (ci := 11) (v := .ref q1) (ty := .array .int) (C := RX11) (T := TX11) (N := 41) hx hb hts iX11 tyX11 tyX11_ok nmX11 hown hK hP hD hS 0 rfl rfl 1 (by decide) (hts _ qw1128) (fun _ h9 => h9) rfl hin rfl (by decide +kernel) rfl rfl (Nat.le_of_ble_eq_true rfl) dX11_init_10 (fun H locs hP hD hS => ?_)
  have hP : va_P (dC, dI) vwCl [(h0, .inr (11, [.int 0, .ref q1, .int 0, .int 0, .int 0, .int 0, .null, .null, .null, .null, .null, .null, .null, .int 0, .int 0, .null, .null, .null, .null, .null, .int 0, .int 0, .null, .null, .null, .int 0, .int 0, .null, .null, .int 0, .int 0, .null, .int 0, .long 0, .null, .int 0, .int 0, .null, .null, .null, .int 0])), (q1, .inl (cI, 240, .inl (fun _ => 0)))] H := hP
  have hD : va_D A [(h0, .inr (11, [.int 0, .ref q1, .int 0, .int 0, .int 0, .int 0, .null, .null, .null, .null, .null, .null, .null, .int 0, .int 0, .null, .null, .null, .null, .null, .int 0, .int 0, .null, .null, .null, .int 0, .int 0, .null, .null, .int 0, .int 0, .null, .int 0, .long 0, .null, .int 0, .int 0, .null, .null, .null, .int 0])), (q1, .inl (cI, 240, .inl (fun _ => 0)))] := hD
  refine lv_aload_n hx hb dX11_init_13 rfl (lv_at hl 0 rfl) ?_
  refine lv_sipush (v := 2600) hx hb dX11_init_14 (by decide) ?_
  refine va_newa (atype := .int) (ty := .int) (N' := 2600) (a0 := (2600, .inl (fun _ => 0))) hx hb (hts _ qw147) rfl hK hP hD hS hA (fun _ => rfl) (by decide) (by decide) (Nat.le_of_ble_eq_true rfl) (Nat.le_of_ble_eq_true rfl) (Nat.le_of_ble_eq_true rfl) dX11_init_17 (fun q2 cA H hK2 hP hD hS => ?_)
  obtain rfl : cI = cA := (zcA hK2 0 2 rfl rfl).symm
  have hP : va_P (dC, dI) vwCl [(h0, .inr (11, [.int 0, .ref q1, .int 0, .int 0, .int 0, .int 0, .null, .null, .null, .null, .null, .null, .null, .int 0, .int 0, .null, .null, .null, .null, .null, .int 0, .int 0, .null, .null, .null, .int 0, .int 0, .null, .null, .int 0, .int 0, .null, .int 0, .long 0, .null, .int 0, .int 0, .null, .null, .null, .int 0])), (q1, .inl (cI, 240, .inl (fun _ => 0))), (q2, .inl (cI, 2600, .inl (fun _ => 0)))] H := hP
  have hD : va_D A [(h0, .inr (11, [.int 0, .ref q1, .int 0, .int 0, .int 0, .int 0, .null, .null, .null, .null, .null, .null, .null, .int 0, .int 0, .null, .null, .null, .null, .null, .int 0, .int 0, .null, .null, .null, .int 0, .int 0, .null, .null, .int 0, .int 0, .null, .int 0, .long 0, .null, .int 0, .int 0, .null, .null, .null, .int 0])), (q1, .inl (cI, 240, .inl (fun _ => 0))), (q2, .inl (cI, 2600, .inl (fun _ => 0)))] := hD
  refine W.widen (k := 2) (n := 2840) (Nat.le_of_ble_eq_true rfl) (Nat.le_of_ble_eq_true rfl) ?_
  refine va_putF (D := (dC, dI)) (ci := 11) (v := .ref q2) (ty := .array .int) (C := RX11) (T := TX11) (N := 41) hx hb hts iX11 tyX11 tyX11_ok nmX11 hown hK hP hD hS 0 rfl rfl 6 (by decide) (hts _ qw1133) (fun _ h9 => h9) rfl hin rfl (by decide +kernel) rfl rfl (Nat.le_of_ble_eq_true rfl) dX11_init_19 (fun H locs hP hD hS => ?_)
  have hP : va_P (dC, dI) vwCl [(h0, .inr (11, [.int 0, .ref q1, .int 0, .int 0, .int 0, .int 0, .ref q2, .null, .null, .null, .null, .null, .null, .int 0, .int 0, .null, .null, .null, .null, .null, .int 0, .int 0, .null, .null, .null, .int 0, .int 0, .null, .null, .int 0, .int 0, .null, .int 0, .long 0, .null, .int 0, .int 0, .null, .null, .null, .int 0])), (q1, .inl (cI, 240, .inl (fun _ => 0))), (q2, .inl (cI, 2600, .inl (fun _ => 0)))] H := hP
  have hD : va_D A [(h0, .inr (11, [.int 0, .ref q1, .int 0, .int 0, .int 0, .int 0, .ref q2, .null, .null, .null, .null, .null, .null, .int 0, .int 0, .null, .null, .null, .null, .null, .int 0, .int 0, .null, .null, .null, .int 0, .int 0, .null, .null, .int 0, .int 0, .null, .int 0, .long 0, .null, .int 0, .int 0, .null, .null, .null, .int 0])), (q1, .inl (cI, 240, .inl (fun _ => 0))), (q2, .inl (cI, 2600, .inl (fun _ => 0)))] := hD
  refine lv_aload_n hx hb dX11_init_22 rfl (lv_at hl 0 rfl) ?_
  refine lv_sipush (v := 2600) hx hb dX11_init_23 (by decide) ?_
  refine va_newa (atype := .int) (ty := .int) (N' := 2600) (a0 := (2600, .inl (fun _ => 0))) hx hb (hts _ qw147) rfl hK hP hD hS hA (fun _ => rfl) (by decide) (by decide) (Nat.le_of_ble_eq_true rfl) (Nat.le_of_ble_eq_true rfl) (Nat.le_of_ble_eq_true rfl) dX11_init_26 (fun q3 cA H hK2 hP hD hS => ?_)
  obtain rfl : cI = cA := (zcA hK2 0 2 rfl rfl).symm
  have hP : va_P (dC, dI) vwCl [(h0, .inr (11, [.int 0, .ref q1, .int 0, .int 0, .int 0, .int 0, .ref q2, .null, .null, .null, .null, .null, .null, .int 0, .int 0, .null, .null, .null, .null, .null, .int 0, .int 0, .null, .null, .null, .int 0, .int 0, .null, .null, .int 0, .int 0, .null, .int 0, .long 0, .null, .int 0, .int 0, .null, .null, .null, .int 0])), (q1, .inl (cI, 240, .inl (fun _ => 0))), (q2, .inl (cI, 2600, .inl (fun _ => 0))), (q3, .inl (cI, 2600, .inl (fun _ => 0)))] H := hP
  have hD : va_D A [(h0, .inr (11, [.int 0, .ref q1, .int 0, .int 0, .int 0, .int 0, .ref q2, .null, .null, .null, .null, .null, .null, .int 0, .int 0, .null, .null, .null, .null, .null, .int 0, .int 0, .null, .null, .null, .int 0, .int 0, .null, .null, .int 0, .int 0, .null, .int 0, .long 0, .null, .int 0, .int 0, .null, .null, .null, .int 0])), (q1, .inl (cI, 240, .inl (fun _ => 0))), (q2, .inl (cI, 2600, .inl (fun _ => 0))), (q3, .inl (cI, 2600, .inl (fun _ => 0)))] := hD
  refine W.widen (k := 3) (n := 5440) (Nat.le_of_ble_eq_true rfl) (Nat.le_of_ble_eq_true rfl) ?_
  refine va_putF (D := (dC, dI)) (ci := 11) (v := .ref q3) (ty := .array .int) (C := RX11) (T := TX11) (N := 41) hx hb hts iX11 tyX11 tyX11_ok nmX11 hown hK hP hD hS 0 rfl rfl 7 (by decide) (hts _ qw1134) (fun _ h9 => h9) rfl hin rfl (by decide +kernel) rfl rfl (Nat.le_of_ble_eq_true rfl) dX11_init_28 (fun H locs hP hD hS => ?_)
  have hP : va_P (dC, dI) vwCl [(h0, .inr (11, [.int 0, .ref q1, .int 0, .int 0, .int 0, .int 0, .ref q2, .ref q3, .null, .null, .null, .null, .null, .int 0, .int 0, .null, .null, .null, .null, .null, .int 0, .int 0, .null, .null, .null, .int 0, .int 0, .null, .null, .int 0, .int 0, .null, .int 0, .long 0, .null, .int 0, .int 0, .null, .null, .null, .int 0])), (q1, .inl (cI, 240, .inl (fun _ => 0))), (q2, .inl (cI, 2600, .inl (fun _ => 0))), (q3, .inl (cI, 2600, .inl (fun _ => 0)))] H := hP
  have hD : va_D A [(h0, .inr (11, [.int 0, .ref q1, .int 0, .int 0, .int 0, .int 0, .ref q2, .ref q3, .null, .null, .null, .null, .null, .int 0, .int 0, .null, .null, .null, .null, .null, .int 0, .int 0, .null, .null, .null, .int 0, .int 0, .null, .null, .int 0, .int 0, .null, .int 0, .long 0, .null, .int 0, .int 0, .null, .null, .null, .int 0])), (q1, .inl (cI, 240, .inl (fun _ => 0))), (q2, .inl (cI, 2600, .inl (fun _ => 0))), (q3, .inl (cI, 2600, .inl (fun _ => 0)))] := hD
  refine lv_aload_n hx hb dX11_init_31 rfl (lv_at hl 0 rfl) ?_
  refine lv_iconst (v := 5) hx hb dX11_init_32 (by decide) ?_
  refine va_newa (atype := .int) (ty := .int) (N' := 5) (a0 := (5, .inl (fun _ => 0))) hx hb (hts _ qw147) rfl hK hP hD hS hA (fun _ => rfl) (by decide) (by decide) (Nat.le_of_ble_eq_true rfl) (Nat.le_of_ble_eq_true rfl) (Nat.le_of_ble_eq_true rfl) dX11_init_33 (fun q4 cA H hK2 hP hD hS => ?_)
  obtain rfl : cI = cA := (zcA hK2 0 2 rfl rfl).symm
  have hP : va_P (dC, dI) vwCl [(h0, .inr (11, [.int 0, .ref q1, .int 0, .int 0, .int 0, .int 0, .ref q2, .ref q3, .null, .null, .null, .null, .null, .int 0, .int 0, .null, .null, .null, .null, .null, .int 0, .int 0, .null, .null, .null, .int 0, .int 0, .null, .null, .int 0, .int 0, .null, .int 0, .long 0, .null, .int 0, .int 0, .null, .null, .null, .int 0])), (q1, .inl (cI, 240, .inl (fun _ => 0))), (q2, .inl (cI, 2600, .inl (fun _ => 0))), (q3, .inl (cI, 2600, .inl (fun _ => 0))), (q4, .inl (cI, 5, .inl (fun _ => 0)))] H := hP
  have hD : va_D A [(h0, .inr (11, [.int 0, .ref q1, .int 0, .int 0, .int 0, .int 0, .ref q2, .ref q3, .null, .null, .null, .null, .null, .int 0, .int 0, .null, .null, .null, .null, .null, .int 0, .int 0, .null, .null, .null, .int 0, .int 0, .null, .null, .int 0, .int 0, .null, .int 0, .long 0, .null, .int 0, .int 0, .null, .null, .null, .int 0])), (q1, .inl (cI, 240, .inl (fun _ => 0))), (q2, .inl (cI, 2600, .inl (fun _ => 0))), (q3, .inl (cI, 2600, .inl (fun _ => 0))), (q4, .inl (cI, 5, .inl (fun _ => 0)))] := hD
  refine W.widen (k := 4) (n := 5445) (Nat.le_of_ble_eq_true rfl) (Nat.le_of_ble_eq_true rfl) ?_
  refine va_putF (D := (dC, dI)) (ci := 11) (v := .ref q4) (ty := .array .int) (C := RX11) (T := TX11) (N := 41) hx hb hts iX11 tyX11 tyX11_ok nmX11 hown hK hP hD hS 0 rfl rfl 8 (by decide) (hts _ qw1135) (fun _ h9 => h9) rfl hin rfl (by decide +kernel) rfl rfl (Nat.le_of_ble_eq_true rfl) dX11_init_35 (fun H locs hP hD hS => ?_)
  have hP : va_P (dC, dI) vwCl [(h0, .inr (11, [.int 0, .ref q1, .int 0, .int 0, .int 0, .int 0, .ref q2, .ref q3, .ref q4, .null, .null, .null, .null, .int 0, .int 0, .null, .null, .null, .null, .null, .int 0, .int 0, .null, .null, .null, .int 0, .int 0, .null, .null, .int 0, .int 0, .null, .int 0, .long 0, .null, .int 0, .int 0, .null, .null, .null, .int 0])), (q1, .inl (cI, 240, .inl (fun _ => 0))), (q2, .inl (cI, 2600, .inl (fun _ => 0))), (q3, .inl (cI, 2600, .inl (fun _ => 0))), (q4, .inl (cI, 5, .inl (fun _ => 0)))] H := hP
  have hD : va_D A [(h0, .inr (11, [.int 0, .ref q1, .int 0, .int 0, .int 0, .int 0, .ref q2, .ref q3, .ref q4, .null, .null, .null, .null, .int 0, .int 0, .null, .null, .null, .null, .null, .int 0, .int 0, .null, .null, .null, .int 0, .int 0, .null, .null, .int 0, .int 0, .null, .int 0, .long 0, .null, .int 0, .int 0, .null, .null, .null, .int 0])), (q1, .inl (cI, 240, .inl (fun _ => 0))), (q2, .inl (cI, 2600, .inl (fun _ => 0))), (q3, .inl (cI, 2600, .inl (fun _ => 0))), (q4, .inl (cI, 5, .inl (fun _ => 0)))] := hD
  refine lv_aload_n hx hb dX11_init_38 rfl (lv_at hl 0 rfl) ?_
  refine lv_iconst (v := 5) hx hb dX11_init_39 (by decide) ?_
  refine va_newa (atype := .int) (ty := .int) (N' := 5) (a0 := (5, .inl (fun _ => 0))) hx hb (hts _ qw147) rfl hK hP hD hS hA (fun _ => rfl) (by decide) (by decide) (Nat.le_of_ble_eq_true rfl) (Nat.le_of_ble_eq_true rfl) (Nat.le_of_ble_eq_true rfl) dX11_init_40 (fun q5 cA H hK2 hP hD hS => ?_)
  obtain rfl : cI = cA := (zcA hK2 0 2 rfl rfl).symm
  have hP : va_P (dC, dI) vwCl [(h0, .inr (11, [.int 0, .ref q1, .int 0, .int 0, .int 0, .int 0, .ref q2, .ref q3, .ref q4, .null, .null, .null, .null, .int 0, .int 0, .null, .null, .null, .null, .null, .int 0, .int 0, .null, .null, .null, .int 0, .int 0, .null, .null, .int 0, .int 0, .null, .int 0, .long 0, .null, .int 0, .int 0, .null, .null, .null, .int 0])), (q1, .inl (cI, 240, .inl (fun _ => 0))), (q2, .inl (cI, 2600, .inl (fun _ => 0))), (q3, .inl (cI, 2600, .inl (fun _ => 0))), (q4, .inl (cI, 5, .inl (fun _ => 0))), (q5, .inl (cI, 5, .inl (fun _ => 0)))] H := hP
  have hD : va_D A [(h0, .inr (11, [.int 0, .ref q1, .int 0, .int 0, .int 0, .int 0, .ref q2, .ref q3, .ref q4, .null, .null, .null, .null, .int 0, .int 0, .null, .null, .null, .null, .null, .int 0, .int 0, .null, .null, .null, .int 0, .int 0, .null, .null, .int 0, .int 0, .null, .int 0, .long 0, .null, .int 0, .int 0, .null, .null, .null, .int 0])), (q1, .inl (cI, 240, .inl (fun _ => 0))), (q2, .inl (cI, 2600, .inl (fun _ => 0))), (q3, .inl (cI, 2600, .inl (fun _ => 0))), (q4, .inl (cI, 5, .inl (fun _ => 0))), (q5, .inl (cI, 5, .inl (fun _ => 0)))] := hD
  refine W.widen (k := 5) (n := 5450) (Nat.le_of_ble_eq_true rfl) (Nat.le_of_ble_eq_true rfl) ?_
  refine va_putF (D := (dC, dI)) (ci := 11) (v := .ref q5) (ty := .array .int) (C := RX11) (T := TX11) (N := 41) hx hb hts iX11 tyX11 tyX11_ok nmX11 hown hK hP hD hS 0 rfl rfl 9 (by decide) (hts _ qw1136) (fun _ h9 => h9) rfl hin rfl (by decide +kernel) rfl rfl (Nat.le_of_ble_eq_true rfl) dX11_init_42 (fun H locs hP hD hS => ?_)
  have hP : va_P (dC, dI) vwCl [(h0, .inr (11, [.int 0, .ref q1, .int 0, .int 0, .int 0, .int 0, .ref q2, .ref q3, .ref q4, .ref q5, .null, .null, .null, .int 0, .int 0, .null, .null, .null, .null, .null, .int 0, .int 0, .null, .null, .null, .int 0, .int 0, .null, .null, .int 0, .int 0, .null, .int 0, .long 0, .null, .int 0, .int 0, .null, .null, .null, .int 0])), (q1, .inl (cI, 240, .inl (fun _ => 0))), (q2, .inl (cI, 2600, .inl (fun _ => 0))), (q3, .inl (cI, 2600, .inl (fun _ => 0))), (q4, .inl (cI, 5, .inl (fun _ => 0))), (q5, .inl (cI, 5, .inl (fun _ => 0)))] H := hP
  have hD : va_D A [(h0, .inr (11, [.int 0, .ref q1, .int 0, .int 0, .int 0, .int 0, .ref q2, .ref q3, .ref q4, .ref q5, .null, .null, .null, .int 0, .int 0, .null, .null, .null, .null, .null, .int 0, .int 0, .null, .null, .null, .int 0, .int 0, .null, .null, .int 0, .int 0, .null, .int 0, .long 0, .null, .int 0, .int 0, .null, .null, .null, .int 0])), (q1, .inl (cI, 240, .inl (fun _ => 0))), (q2, .inl (cI, 2600, .inl (fun _ => 0))), (q3, .inl (cI, 2600, .inl (fun _ => 0))), (q4, .inl (cI, 5, .inl (fun _ => 0))), (q5, .inl (cI, 5, .inl (fun _ => 0)))] := hD
  refine lv_aload_n hx hb dX11_init_45 rfl (lv_at hl 0 rfl) ?_
  refine lv_sipush (v := 700) hx hb dX11_init_46 (by decide) ?_
  refine va_newa (atype := .int) (ty := .int) (N' := 700) (a0 := (700, .inl (fun _ => 0))) hx hb (hts _ qw147) rfl hK hP hD hS hA (fun _ => rfl) (by decide) (by decide) (Nat.le_of_ble_eq_true rfl) (Nat.le_of_ble_eq_true rfl) (Nat.le_of_ble_eq_true rfl) dX11_init_49 (fun q6 cA H hK2 hP hD hS => ?_)
  obtain rfl : cI = cA := (zcA hK2 0 2 rfl rfl).symm
  have hP : va_P (dC, dI) vwCl [(h0, .inr (11, [.int 0, .ref q1, .int 0, .int 0, .int 0, .int 0, .ref q2, .ref q3, .ref q4, .ref q5, .null, .null, .null, .int 0, .int 0, .null, .null, .null, .null, .null, .int 0, .int 0, .null, .null, .null, .int 0, .int 0, .null, .null, .int 0, .int 0, .null, .int 0, .long 0, .null, .int 0, .int 0, .null, .null, .null, .int 0])), (q1, .inl (cI, 240, .inl (fun _ => 0))), (q2, .inl (cI, 2600, .inl (fun _ => 0))), (q3, .inl (cI, 2600, .inl (fun _ => 0))), (q4, .inl (cI, 5, .inl (fun _ => 0))), (q5, .inl (cI, 5, .inl (fun _ => 0))), (q6, .inl (cI, 700, .inl (fun _ => 0)))] H := hP
  have hD : va_D A [(h0, .inr (11, [.int 0, .ref q1, .int 0, .int 0, .int 0, .int 0, .ref q2, .ref q3, .ref q4, .ref q5, .null, .null, .null, .int 0, .int 0, .null, .null, .null, .null, .null, .int 0, .int 0, .null, .null, .null, .int 0, .int 0, .null, .null, .int 0, .int 0, .null, .int 0, .long 0, .null, .int 0, .int 0, .null, .null, .null, .int 0])), (q1, .inl (cI, 240, .inl (fun _ => 0))), (q2, .inl (cI, 2600, .inl (fun _ => 0))), (q3, .inl (cI, 2600, .inl (fun _ => 0))), (q4, .inl (cI, 5, .inl (fun _ => 0))), (q5, .inl (cI, 5, .inl (fun _ => 0))), (q6, .inl (cI, 700, .inl (fun _ => 0)))] := hD
  refine W.widen (k := 6) (n := 6150) (Nat.le_of_ble_eq_true rfl) (Nat.le_of_ble_eq_true rfl) ?_
  refine va_putF (D := (dC, dI)) (ci := 11) (v := .ref q6) (ty := .array .int) (C := RX11) (T := TX11) (N := 41) hx hb hts iX11 tyX11 tyX11_ok nmX11 hown hK hP hD hS 0 rfl rfl 10 (by decide) (hts _ qw1137) (fun _ h9 => h9) rfl hin rfl (by decide +kernel) rfl rfl (Nat.le_of_ble_eq_true rfl) dX11_init_51 (fun H locs hP hD hS => ?_)
  have hP : va_P (dC, dI) vwCl [(h0, .inr (11, [.int 0, .ref q1, .int 0, .int 0, .int 0, .int 0, .ref q2, .ref q3, .ref q4, .ref q5, .ref q6, .null, .null, .int 0, .int 0, .null, .null, .null, .null, .null, .int 0, .int 0, .null, .null, .null, .int 0, .int 0, .null, .null, .int 0, .int 0, .null, .int 0, .long 0, .null, .int 0, .int 0, .null, .null, .null, .int 0])), (q1, .inl (cI, 240, .inl (fun _ => 0))), (q2, .inl (cI, 2600, .inl (fun _ => 0))), (q3, .inl (cI, 2600, .inl (fun _ => 0))), (q4, .inl (cI, 5, .inl (fun _ => 0))), (q5, .inl (cI, 5, .inl (fun _ => 0))), (q6, .inl (cI, 700, .inl (fun _ => 0)))] H := hP
  have hD : va_D A [(h0, .inr (11, [.int 0, .ref q1, .int 0, .int 0, .int 0, .int 0, .ref q2, .ref q3, .ref q4, .ref q5, .ref q6, .null, .null, .int 0, .int 0, .null, .null, .null, .null, .null, .int 0, .int 0, .null, .null, .null, .int 0, .int 0, .null, .null, .int 0, .int 0, .null, .int 0, .long 0, .null, .int 0, .int 0, .null, .null, .null, .int 0])), (q1, .inl (cI, 240, .inl (fun _ => 0))), (q2, .inl (cI, 2600, .inl (fun _ => 0))), (q3, .inl (cI, 2600, .inl (fun _ => 0))), (q4, .inl (cI, 5, .inl (fun _ => 0))), (q5, .inl (cI, 5, .inl (fun _ => 0))), (q6, .inl (cI, 700, .inl (fun _ => 0)))] := hD
  refine lv_aload_n hx hb dX11_init_54 rfl (lv_at hl 0 rfl) ?_
  refine lv_sipush (v := 700) hx hb dX11_init_55 (by decide) ?_
  refine va_newa (atype := .int) (ty := .int) (N' := 700) (a0 := (700, .inl (fun _ => 0))) hx hb (hts _ qw147) rfl hK hP hD hS hA (fun _ => rfl) (by decide) (by decide) (Nat.le_of_ble_eq_true rfl) (Nat.le_of_ble_eq_true rfl) (Nat.le_of_ble_eq_true rfl) dX11_init_58 (fun q7 cA H hK2 hP hD hS => ?_)
  obtain rfl : cI = cA := (zcA hK2 0 2 rfl rfl).symm
  have hP : va_P (dC, dI) vwCl [(h0, .inr (11, [.int 0, .ref q1, .int 0, .int 0, .int 0, .int 0, .ref q2, .ref q3, .ref q4, .ref q5, .ref q6, .null, .null, .int 0, .int 0, .null, .null, .null, .null, .null, .int 0, .int 0, .null, .null, .null, .int 0, .int 0, .null, .null, .int 0, .int 0, .null, .int 0, .long 0, .null, .int 0, .int 0, .null, .null, .null, .int 0])), (q1, .inl (cI, 240, .inl (fun _ => 0))), (q2, .inl (cI, 2600, .inl (fun _ => 0))), (q3, .inl (cI, 2600, .inl (fun _ => 0))), (q4, .inl (cI, 5, .inl (fun _ => 0))), (q5, .inl (cI, 5, .inl (fun _ => 0))), (q6, .inl (cI, 700, .inl (fun _ => 0))), (q7, .inl (cI, 700, .inl (fun _ => 0)))] H := hP
  have hD : va_D A [(h0, .inr (11, [.int 0, .ref q1, .int 0, .int 0, .int 0, .int 0, .ref q2, .ref q3, .ref q4, .ref q5, .ref q6, .null, .null, .int 0, .int 0, .null, .null, .null, .null, .null, .int 0, .int 0, .null, .null, .null, .int 0, .int 0, .null, .null, .int 0, .int 0, .null, .int 0, .long 0, .null, .int 0, .int 0, .null, .null, .null, .int 0])), (q1, .inl (cI, 240, .inl (fun _ => 0))), (q2, .inl (cI, 2600, .inl (fun _ => 0))), (q3, .inl (cI, 2600, .inl (fun _ => 0))), (q4, .inl (cI, 5, .inl (fun _ => 0))), (q5, .inl (cI, 5, .inl (fun _ => 0))), (q6, .inl (cI, 700, .inl (fun _ => 0))), (q7, .inl (cI, 700, .inl (fun _ => 0)))] := hD
  refine W.widen (k := 7) (n := 6850) (Nat.le_of_ble_eq_true rfl) (Nat.le_of_ble_eq_true rfl) ?_
  refine va_putF (D := (dC, dI)) (ci := 11) (v := .ref q7) (ty := .array .int) (C := RX11) (T := TX11) (N := 41) hx hb hts iX11 tyX11 tyX11_ok nmX11 hown hK hP hD hS 0 rfl rfl 11 (by decide) (hts _ qw1138) (fun _ h9 => h9) rfl hin rfl (by decide +kernel) rfl rfl (Nat.le_of_ble_eq_true rfl) dX11_init_60 (fun H locs hP hD hS => ?_)
  have hP : va_P (dC, dI) vwCl [(h0, .inr (11, [.int 0, .ref q1, .int 0, .int 0, .int 0, .int 0, .ref q2, .ref q3, .ref q4, .ref q5, .ref q6, .ref q7, .null, .int 0, .int 0, .null, .null, .null, .null, .null, .int 0, .int 0, .null, .null, .null, .int 0, .int 0, .null, .null, .int 0, .int 0, .null, .int 0, .long 0, .null, .int 0, .int 0, .null, .null, .null, .int 0])), (q1, .inl (cI, 240, .inl (fun _ => 0))), (q2, .inl (cI, 2600, .inl (fun _ => 0))), (q3, .inl (cI, 2600, .inl (fun _ => 0))), (q4, .inl (cI, 5, .inl (fun _ => 0))), (q5, .inl (cI, 5, .inl (fun _ => 0))), (q6, .inl (cI, 700, .inl (fun _ => 0))), (q7, .inl (cI, 700, .inl (fun _ => 0)))] H := hP
  have hD : va_D A [(h0, .inr (11, [.int 0, .ref q1, .int 0, .int 0, .int 0, .int 0, .ref q2, .ref q3, .ref q4, .ref q5, .ref q6, .ref q7, .null, .int 0, .int 0, .null, .null, .null, .null, .null, .int 0, .int 0, .null, .null, .null, .int 0, .int 0, .null, .null, .int 0, .int 0, .null, .int 0, .long 0, .null, .int 0, .int 0, .null, .null, .null, .int 0])), (q1, .inl (cI, 240, .inl (fun _ => 0))), (q2, .inl (cI, 2600, .inl (fun _ => 0))), (q3, .inl (cI, 2600, .inl (fun _ => 0))), (q4, .inl (cI, 5, .inl (fun _ => 0))), (q5, .inl (cI, 5, .inl (fun _ => 0))), (q6, .inl (cI, 700, .inl (fun _ => 0))), (q7, .inl (cI, 700, .inl (fun _ => 0)))] := hD
  refine lv_aload_n hx hb dX11_init_63 rfl (lv_at hl 0 rfl) ?_
  refine lv_sipush (v := 700) hx hb dX11_init_64 (by decide) ?_
  refine va_newa (atype := .int) (ty := .int) (N' := 700) (a0 := (700, .inl (fun _ => 0))) hx hb (hts _ qw147) rfl hK hP hD hS hA (fun _ => rfl) (by decide) (by decide) (Nat.le_of_ble_eq_true rfl) (Nat.le_of_ble_eq_true rfl) (Nat.le_of_ble_eq_true rfl) dX11_init_67 (fun q8 cA H hK2 hP hD hS => ?_)
  obtain rfl : cI = cA := (zcA hK2 0 2 rfl rfl).symm
  have hP : va_P (dC, dI) vwCl [(h0, .inr (11, [.int 0, .ref q1, .int 0, .int 0, .int 0, .int 0, .ref q2, .ref q3, .ref q4, .ref q5, .ref q6, .ref q7, .null, .int 0, .int 0, .null, .null, .null, .null, .null, .int 0, .int 0, .null, .null, .null, .int 0, .int 0, .null, .null, .int 0, .int 0, .null, .int 0, .long 0, .null, .int 0, .int 0, .null, .null, .null, .int 0])), (q1, .inl (cI, 240, .inl (fun _ => 0))), (q2, .inl (cI, 2600, .inl (fun _ => 0))), (q3, .inl (cI, 2600, .inl (fun _ => 0))), (q4, .inl (cI, 5, .inl (fun _ => 0))), (q5, .inl (cI, 5, .inl (fun _ => 0))), (q6, .inl (cI, 700, .inl (fun _ => 0))), (q7, .inl (cI, 700, .inl (fun _ => 0))), (q8, .inl (cI, 700, .inl (fun _ => 0)))] H := hP
  have hD : va_D A [(h0, .inr (11, [.int 0, .ref q1, .int 0, .int 0, .int 0, .int 0, .ref q2, .ref q3, .ref q4, .ref q5, .ref q6, .ref q7, .null, .int 0, .int 0, .null, .null, .null, .null, .null, .int 0, .int 0, .null, .null, .null, .int 0, .int 0, .null, .null, .int 0, .int 0, .null, .int 0, .long 0, .null, .int 0, .int 0, .null, .null, .null, .int 0])), (q1, .inl (cI, 240, .inl (fun _ => 0))), (q2, .inl (cI, 2600, .inl (fun _ => 0))), (q3, .inl (cI, 2600, .inl (fun _ => 0))), (q4, .inl (cI, 5, .inl (fun _ => 0))), (q5, .inl (cI, 5, .inl (fun _ => 0))), (q6, .inl (cI, 700, .inl (fun _ => 0))), (q7, .inl (cI, 700, .inl (fun _ => 0))), (q8, .inl (cI, 700, .inl (fun _ => 0)))] := hD
  refine W.widen (k := 8) (n := 7550) (Nat.le_of_ble_eq_true rfl) (Nat.le_of_ble_eq_true rfl) ?_
  refine va_putF (D := (dC, dI)) (ci := 11) (v := .ref q8) (ty := .array .int) (C := RX11) (T := TX11) (N := 41) hx hb hts iX11 tyX11 tyX11_ok nmX11 hown hK hP hD hS 0 rfl rfl 12 (by decide) (hts _ qw1139) (fun _ h9 => h9) rfl hin rfl (by decide +kernel) rfl rfl (Nat.le_of_ble_eq_true rfl) dX11_init_69 (fun H locs hP hD hS => ?_)
  have hP : va_P (dC, dI) vwCl [(h0, .inr (11, [.int 0, .ref q1, .int 0, .int 0, .int 0, .int 0, .ref q2, .ref q3, .ref q4, .ref q5, .ref q6, .ref q7, .ref q8, .int 0, .int 0, .null, .null, .null, .null, .null, .int 0, .int 0, .null, .null, .null, .int 0, .int 0, .null, .null, .int 0, .int 0, .null, .int 0, .long 0, .null, .int 0, .int 0, .null, .null, .null, .int 0])), (q1, .inl (cI, 240, .inl (fun _ => 0))), (q2, .inl (cI, 2600, .inl (fun _ => 0))), (q3, .inl (cI, 2600, .inl (fun _ => 0))), (q4, .inl (cI, 5, .inl (fun _ => 0))), (q5, .inl (cI, 5, .inl (fun _ => 0))), (q6, .inl (cI, 700, .inl (fun _ => 0))), (q7, .inl (cI, 700, .inl (fun _ => 0))), (q8, .inl (cI, 700, .inl (fun _ => 0)))] H := hP
  have hD : va_D A [(h0, .inr (11, [.int 0, .ref q1, .int 0, .int 0, .int 0, .int 0, .ref q2, .ref q3, .ref q4, .ref q5, .ref q6, .ref q7, .ref q8, .int 0, .int 0, .null, .null, .null, .null, .null, .int 0, .int 0, .null, .null, .null, .int 0, .int 0, .null, .null, .int 0, .int 0, .null, .int 0, .long 0, .null, .int 0, .int 0, .null, .null, .null, .int 0])), (q1, .inl (cI, 240, .inl (fun _ => 0))), (q2, .inl (cI, 2600, .inl (fun _ => 0))), (q3, .inl (cI, 2600, .inl (fun _ => 0))), (q4, .inl (cI, 5, .inl (fun _ => 0))), (q5, .inl (cI, 5, .inl (fun _ => 0))), (q6, .inl (cI, 700, .inl (fun _ => 0))), (q7, .inl (cI, 700, .inl (fun _ => 0))), (q8, .inl (cI, 700, .inl (fun _ => 0)))] := hD
  refine lv_aload_n hx hb dX11_init_72 rfl (lv_at hl 0 rfl) ?_
  refine lv_bipush (v := 6) hx hb dX11_init_73 (by decide) ?_
  refine va_newa (atype := .int) (ty := .int) (N' := 6) (a0 := (6, .inl (fun _ => 0))) hx hb (hts _ qw147) rfl hK hP hD hS hA (fun _ => rfl) (by decide) (by decide) (Nat.le_of_ble_eq_true rfl) (Nat.le_of_ble_eq_true rfl) (Nat.le_of_ble_eq_true rfl) dX11_init_75 (fun q9 cA H hK2 hP hD hS => ?_)
  obtain rfl : cI = cA := (zcA hK2 0 2 rfl rfl).symm
  have hP : va_P (dC, dI) vwCl [(h0, .inr (11, [.int 0, .ref q1, .int 0, .int 0, .int 0, .int 0, .ref q2, .ref q3, .ref q4, .ref q5, .ref q6, .ref q7, .ref q8, .int 0, .int 0, .null, .null, .null, .null, .null, .int 0, .int 0, .null, .null, .null, .int 0, .int 0, .null, .null, .int 0, .int 0, .null, .int 0, .long 0, .null, .int 0, .int 0, .null, .null, .null, .int 0])), (q1, .inl (cI, 240, .inl (fun _ => 0))), (q2, .inl (cI, 2600, .inl (fun _ => 0))), (q3, .inl (cI, 2600, .inl (fun _ => 0))), (q4, .inl (cI, 5, .inl (fun _ => 0))), (q5, .inl (cI, 5, .inl (fun _ => 0))), (q6, .inl (cI, 700, .inl (fun _ => 0))), (q7, .inl (cI, 700, .inl (fun _ => 0))), (q8, .inl (cI, 700, .inl (fun _ => 0))), (q9, .inl (cI, 6, .inl (fun _ => 0)))] H := hP
  have hD : va_D A [(h0, .inr (11, [.int 0, .ref q1, .int 0, .int 0, .int 0, .int 0, .ref q2, .ref q3, .ref q4, .ref q5, .ref q6, .ref q7, .ref q8, .int 0, .int 0, .null, .null, .null, .null, .null, .int 0, .int 0, .null, .null, .null, .int 0, .int 0, .null, .null, .int 0, .int 0, .null, .int 0, .long 0, .null, .int 0, .int 0, .null, .null, .null, .int 0])), (q1, .inl (cI, 240, .inl (fun _ => 0))), (q2, .inl (cI, 2600, .inl (fun _ => 0))), (q3, .inl (cI, 2600, .inl (fun _ => 0))), (q4, .inl (cI, 5, .inl (fun _ => 0))), (q5, .inl (cI, 5, .inl (fun _ => 0))), (q6, .inl (cI, 700, .inl (fun _ => 0))), (q7, .inl (cI, 700, .inl (fun _ => 0))), (q8, .inl (cI, 700, .inl (fun _ => 0))), (q9, .inl (cI, 6, .inl (fun _ => 0)))] := hD
  refine W.widen (k := 9) (n := 7556) (Nat.le_of_ble_eq_true rfl) (Nat.le_of_ble_eq_true rfl) ?_
  refine va_putF (D := (dC, dI)) (ci := 11) (v := .ref q9) (ty := .array .int) (C := RX11) (T := TX11) (N := 41) hx hb hts iX11 tyX11 tyX11_ok nmX11 hown hK hP hD hS 0 rfl rfl 15 (by decide) (hts _ qw1142) (fun _ h9 => h9) rfl hin rfl (by decide +kernel) rfl rfl (Nat.le_of_ble_eq_true rfl) dX11_init_77 (fun H locs hP hD hS => ?_)
  have hP : va_P (dC, dI) vwCl [(h0, .inr (11, [.int 0, .ref q1, .int 0, .int 0, .int 0, .int 0, .ref q2, .ref q3, .ref q4, .ref q5, .ref q6, .ref q7, .ref q8, .int 0, .int 0, .ref q9, .null, .null, .null, .null, .int 0, .int 0, .null, .null, .null, .int 0, .int 0, .null, .null, .int 0, .int 0, .null, .int 0, .long 0, .null, .int 0, .int 0, .null, .null, .null, .int 0])), (q1, .inl (cI, 240, .inl (fun _ => 0))), (q2, .inl (cI, 2600, .inl (fun _ => 0))), (q3, .inl (cI, 2600, .inl (fun _ => 0))), (q4, .inl (cI, 5, .inl (fun _ => 0))), (q5, .inl (cI, 5, .inl (fun _ => 0))), (q6, .inl (cI, 700, .inl (fun _ => 0))), (q7, .inl (cI, 700, .inl (fun _ => 0))), (q8, .inl (cI, 700, .inl (fun _ => 0))), (q9, .inl (cI, 6, .inl (fun _ => 0)))] H := hP
  have hD : va_D A [(h0, .inr (11, [.int 0, .ref q1, .int 0, .int 0, .int 0, .int 0, .ref q2, .ref q3, .ref q4, .ref q5, .ref q6, .ref q7, .ref q8, .int 0, .int 0, .ref q9, .null, .null, .null, .null, .int 0, .int 0, .null, .null, .null, .int 0, .int 0, .null, .null, .int 0, .int 0, .null, .int 0, .long 0, .null, .int 0, .int 0, .null, .null, .null, .int 0])), (q1, .inl (cI, 240, .inl (fun _ => 0))), (q2, .inl (cI, 2600, .inl (fun _ => 0))), (q3, .inl (cI, 2600, .inl (fun _ => 0))), (q4, .inl (cI, 5, .inl (fun _ => 0))), (q5, .inl (cI, 5, .inl (fun _ => 0))), (q6, .inl (cI, 700, .inl (fun _ => 0))), (q7, .inl (cI, 700, .inl (fun _ => 0))), (q8, .inl (cI, 700, .inl (fun _ => 0))), (q9, .inl (cI, 6, .inl (fun _ => 0)))] := hD
  refine lv_aload_n hx hb dX11_init_80 rfl (lv_at hl 0 rfl) ?_
  refine lv_bipush (v := 80) hx hb dX11_init_81 (by decide) ?_
  refine va_newa (atype := .int) (ty := .int) (N' := 80) (a0 := (80, .inl (fun _ => 0))) hx hb (hts _ qw147) rfl hK hP hD hS hA (fun _ => rfl) (by decide) (by decide) (Nat.le_of_ble_eq_true rfl) (Nat.le_of_ble_eq_true rfl) (Nat.le_of_ble_eq_true rfl) dX11_init_83 (fun q10 cA H hK2 hP hD hS => ?_)
  obtain rfl : cI = cA := (zcA hK2 0 2 rfl rfl).symm
  have hP : va_P (dC, dI) vwCl [(h0, .inr (11, [.int 0, .ref q1, .int 0, .int 0, .int 0, .int 0, .ref q2, .ref q3, .ref q4, .ref q5, .ref q6, .ref q7, .ref q8, .int 0, .int 0, .ref q9, .null, .null, .null, .null, .int 0, .int 0, .null, .null, .null, .int 0, .int 0, .null, .null, .int 0, .int 0, .null, .int 0, .long 0, .null, .int 0, .int 0, .null, .null, .null, .int 0])), (q1, .inl (cI, 240, .inl (fun _ => 0))), (q2, .inl (cI, 2600, .inl (fun _ => 0))), (q3, .inl (cI, 2600, .inl (fun _ => 0))), (q4, .inl (cI, 5, .inl (fun _ => 0))), (q5, .inl (cI, 5, .inl (fun _ => 0))), (q6, .inl (cI, 700, .inl (fun _ => 0))), (q7, .inl (cI, 700, .inl (fun _ => 0))), (q8, .inl (cI, 700, .inl (fun _ => 0))), (q9, .inl (cI, 6, .inl (fun _ => 0))), (q10, .inl (cI, 80, .inl (fun _ => 0)))] H := hP
  have hD : va_D A [(h0, .inr (11, [.int 0, .ref q1, .int 0, .int 0, .int 0, .int 0, .ref q2, .ref q3, .ref q4, .ref q5, .ref q6, .ref q7, .ref q8, .int 0, .int 0, .ref q9, .null, .null, .null, .null, .int 0, .int 0, .null, .null, .null, .int 0, .int 0, .null, .null, .int 0, .int 0, .null, .int 0, .long 0, .null, .int 0, .int 0, .null, .null, .null, .int 0])), (q1, .inl (cI, 240, .inl (fun _ => 0))), (q2, .inl (cI, 2600, .inl (fun _ => 0))), (q3, .inl (cI, 2600, .inl (fun _ => 0))), (q4, .inl (cI, 5, .inl (fun _ => 0))), (q5, .inl (cI, 5, .inl (fun _ => 0))), (q6, .inl (cI, 700, .inl (fun _ => 0))), (q7, .inl (cI, 700, .inl (fun _ => 0))), (q8, .inl (cI, 700, .inl (fun _ => 0))), (q9, .inl (cI, 6, .inl (fun _ => 0))), (q10, .inl (cI, 80, .inl (fun _ => 0)))] := hD
  refine W.widen (k := 10) (n := 7636) (Nat.le_of_ble_eq_true rfl) (Nat.le_of_ble_eq_true rfl) ?_
  refine va_putF (D := (dC, dI)) (ci := 11) (v := .ref q10) (ty := .array .int) (C := RX11) (T := TX11) (N := 41) hx hb hts iX11 tyX11 tyX11_ok nmX11 hown hK hP hD hS 0 rfl rfl 16 (by decide) (hts _ qw1143) (fun _ h9 => h9) rfl hin rfl (by decide +kernel) rfl rfl (Nat.le_of_ble_eq_true rfl) dX11_init_85 (fun H locs hP hD hS => ?_)
  have hP : va_P (dC, dI) vwCl [(h0, .inr (11, [.int 0, .ref q1, .int 0, .int 0, .int 0, .int 0, .ref q2, .ref q3, .ref q4, .ref q5, .ref q6, .ref q7, .ref q8, .int 0, .int 0, .ref q9, .ref q10, .null, .null, .null, .int 0, .int 0, .null, .null, .null, .int 0, .int 0, .null, .null, .int 0, .int 0, .null, .int 0, .long 0, .null, .int 0, .int 0, .null, .null, .null, .int 0])), (q1, .inl (cI, 240, .inl (fun _ => 0))), (q2, .inl (cI, 2600, .inl (fun _ => 0))), (q3, .inl (cI, 2600, .inl (fun _ => 0))), (q4, .inl (cI, 5, .inl (fun _ => 0))), (q5, .inl (cI, 5, .inl (fun _ => 0))), (q6, .inl (cI, 700, .inl (fun _ => 0))), (q7, .inl (cI, 700, .inl (fun _ => 0))), (q8, .inl (cI, 700, .inl (fun _ => 0))), (q9, .inl (cI, 6, .inl (fun _ => 0))), (q10, .inl (cI, 80, .inl (fun _ => 0)))] H := hP
  have hD : va_D A [(h0, .inr (11, [.int 0, .ref q1, .int 0, .int 0, .int 0, .int 0, .ref q2, .ref q3, .ref q4, .ref q5, .ref q6, .ref q7, .ref q8, .int 0, .int 0, .ref q9, .ref q10, .null, .null, .null, .int 0, .int 0, .null, .null, .null, .int 0, .int 0, .null, .null, .int 0, .int 0, .null, .int 0, .long 0, .null, .int 0, .int 0, .null, .null, .null, .int 0])), (q1, .inl (cI, 240, .inl (fun _ => 0))), (q2, .inl (cI, 2600, .inl (fun _ => 0))), (q3, .inl (cI, 2600, .inl (fun _ => 0))), (q4, .inl (cI, 5, .inl (fun _ => 0))), (q5, .inl (cI, 5, .inl (fun _ => 0))), (q6, .inl (cI, 700, .inl (fun _ => 0))), (q7, .inl (cI, 700, .inl (fun _ => 0))), (q8, .inl (cI, 700, .inl (fun _ => 0))), (q9, .inl (cI, 6, .inl (fun _ => 0))), (q10, .inl (cI, 80, .inl (fun _ => 0)))] := hD
  refine lv_aload_n hx hb dX11_init_88 rfl (lv_at hl 0 rfl) ?_
  refine lv_iconst (v := 3) hx hb dX11_init_89 (by decide) ?_
  refine va_newa (atype := .int) (ty := .int) (N' := 3) (a0 := (3, .inl (fun _ => 0))) hx hb (hts _ qw147) rfl hK hP hD hS hA (fun _ => rfl) (by decide) (by decide) (Nat.le_of_ble_eq_true rfl) (Nat.le_of_ble_eq_true rfl) (Nat.le_of_ble_eq_true rfl) dX11_init_90 (fun q11 cA H hK2 hP hD hS => ?_)
  obtain rfl : cI = cA := (zcA hK2 0 2 rfl rfl).symm
  have hP : va_P (dC, dI) vwCl [(h0, .inr (11, [.int 0, .ref q1, .int 0, .int 0, .int 0, .int 0, .ref q2, .ref q3, .ref q4, .ref q5, .ref q6, .ref q7, .ref q8, .int 0, .int 0, .ref q9, .ref q10, .null, .null, .null, .int 0, .int 0, .null, .null, .null, .int 0, .int 0, .null, .null, .int 0, .int 0, .null, .int 0, .long 0, .null, .int 0, .int 0, .null, .null, .null, .int 0])), (q1, .inl (cI, 240, .inl (fun _ => 0))), (q2, .inl (cI, 2600, .inl (fun _ => 0))), (q3, .inl (cI, 2600, .inl (fun _ => 0))), (q4, .inl (cI, 5, .inl (fun _ => 0))), (q5, .inl (cI, 5, .inl (fun _ => 0))), (q6, .inl (cI, 700, .inl (fun _ => 0))), (q7, .inl (cI, 700, .inl (fun _ => 0))), (q8, .inl (cI, 700, .inl (fun _ => 0))), (q9, .inl (cI, 6, .inl (fun _ => 0))), (q10, .inl (cI, 80, .inl (fun _ => 0))), (q11, .inl (cI, 3, .inl (fun _ => 0)))] H := hP
  have hD : va_D A [(h0, .inr (11, [.int 0, .ref q1, .int 0, .int 0, .int 0, .int 0, .ref q2, .ref q3, .ref q4, .ref q5, .ref q6, .ref q7, .ref q8, .int 0, .int 0, .ref q9, .ref q10, .null, .null, .null, .int 0, .int 0, .null, .null, .null, .int 0, .int 0, .null, .null, .int 0, .int 0, .null, .int 0, .long 0, .null, .int 0, .int 0, .null, .null, .null, .int 0])), (q1, .inl (cI, 240, .inl (fun _ => 0))), (q2, .inl (cI, 2600, .inl (fun _ => 0))), (q3, .inl (cI, 2600, .inl (fun _ => 0))), (q4, .inl (cI, 5, .inl (fun _ => 0))), (q5, .inl (cI, 5, .inl (fun _ => 0))), (q6, .inl (cI, 700, .inl (fun _ => 0))), (q7, .inl (cI, 700, .inl (fun _ => 0))), (q8, .inl (cI, 700, .inl (fun _ => 0))), (q9, .inl (cI, 6, .inl (fun _ => 0))), (q10, .inl (cI, 80, .inl (fun _ => 0))), (q11, .inl (cI, 3, .inl (fun _ => 0)))] := hD
  refine W.widen (k := 11) (n := 7639) (Nat.le_of_ble_eq_true rfl) (Nat.le_of_ble_eq_true rfl) ?_
  refine va_putF (D := (dC, dI)) (ci := 11) (v := .ref q11) (ty := .array .int) (C := RX11) (T := TX11) (N := 41) hx hb hts iX11 tyX11 tyX11_ok nmX11 hown hK hP hD hS 0 rfl rfl 17 (by decide) (hts _ qw1144) (fun _ h9 => h9) rfl hin rfl (by decide +kernel) rfl rfl (Nat.le_of_ble_eq_true rfl) dX11_init_92 (fun H locs hP hD hS => ?_)
  have hP : va_P (dC, dI) vwCl [(h0, .inr (11, [.int 0, .ref q1, .int 0, .int 0, .int 0, .int 0, .ref q2, .ref q3, .ref q4, .ref q5, .ref q6, .ref q7, .ref q8, .int 0, .int 0, .ref q9, .ref q10, .ref q11, .null, .null, .int 0, .int 0, .null, .null, .null, .int 0, .int 0, .null, .null, .int 0, .int 0, .null, .int 0, .long 0, .null, .int 0, .int 0, .null, .null, .null, .int 0])), (q1, .inl (cI, 240, .inl (fun _ => 0))), (q2, .inl (cI, 2600, .inl (fun _ => 0))), (q3, .inl (cI, 2600, .inl (fun _ => 0))), (q4, .inl (cI, 5, .inl (fun _ => 0))), (q5, .inl (cI, 5, .inl (fun _ => 0))), (q6, .inl (cI, 700, .inl (fun _ => 0))), (q7, .inl (cI, 700, .inl (fun _ => 0))), (q8, .inl (cI, 700, .inl (fun _ => 0))), (q9, .inl (cI, 6, .inl (fun _ => 0))), (q10, .inl (cI, 80, .inl (fun _ => 0))), (q11, .inl (cI, 3, .inl (fun _ => 0)))] H := hP
  have hD : va_D A [(h0, .inr (11, [.int 0, .ref q1, .int 0, .int 0, .int 0, .int 0, .ref q2, .ref q3, .ref q4, .ref q5, .ref q6, .ref q7, .ref q8, .int 0, .int 0, .ref q9, .ref q10, .ref q11, .null, .null, .int 0, .int 0, .null, .null, .null, .int 0, .int 0, .null, .null, .int 0, .int 0, .null, .int 0, .long 0, .null, .int 0, .int 0, .null, .null, .null, .int 0])), (q1, .inl (cI, 240, .inl (fun _ => 0))), (q2, .inl (cI, 2600, .inl (fun _ => 0))), (q3, .inl (cI, 2600, .inl (fun _ => 0))), (q4, .inl (cI, 5, .inl (fun _ => 0))), (q5, .inl (cI, 5, .inl (fun _ => 0))), (q6, .inl (cI, 700, .inl (fun _ => 0))), (q7, .inl (cI, 700, .inl (fun _ => 0))), (q8, .inl (cI, 700, .inl (fun _ => 0))), (q9, .inl (cI, 6, .inl (fun _ => 0))), (q10, .inl (cI, 80, .inl (fun _ => 0))), (q11, .inl (cI, 3, .inl (fun _ => 0)))] := hD
  refine lv_aload_n hx hb dX11_init_95 rfl (lv_at hl 0 rfl) ?_
  refine lv_bipush (v := 24) hx hb dX11_init_96 (by decide) ?_
  refine va_newa (atype := .int) (ty := .int) (N' := 24) (a0 := (24, .inl (fun _ => 0))) hx hb (hts _ qw147) rfl hK hP hD hS hA (fun _ => rfl) (by decide) (by decide) (Nat.le_of_ble_eq_true rfl) (Nat.le_of_ble_eq_true rfl) (Nat.le_of_ble_eq_true rfl) dX11_init_98 (fun q12 cA H hK2 hP hD hS => ?_)
  obtain rfl : cI = cA := (zcA hK2 0 2 rfl rfl).symm
  have hP : va_P (dC, dI) vwCl [(h0, .inr (11, [.int 0, .ref q1, .int 0, .int 0, .int 0, .int 0, .ref q2, .ref q3, .ref q4, .ref q5, .ref q6, .ref q7, .ref q8, .int 0, .int 0, .ref q9, .ref q10, .ref q11, .null, .null, .int 0, .int 0, .null, .null, .null, .int 0, .int 0, .null, .null, .int 0, .int 0, .null, .int 0, .long 0, .null, .int 0, .int 0, .null, .null, .null, .int 0])), (q1, .inl (cI, 240, .inl (fun _ => 0))), (q2, .inl (cI, 2600, .inl (fun _ => 0))), (q3, .inl (cI, 2600, .inl (fun _ => 0))), (q4, .inl (cI, 5, .inl (fun _ => 0))), (q5, .inl (cI, 5, .inl (fun _ => 0))), (q6, .inl (cI, 700, .inl (fun _ => 0))), (q7, .inl (cI, 700, .inl (fun _ => 0))), (q8, .inl (cI, 700, .inl (fun _ => 0))), (q9, .inl (cI, 6, .inl (fun _ => 0))), (q10, .inl (cI, 80, .inl (fun _ => 0))), (q11, .inl (cI, 3, .inl (fun _ => 0))), (q12, .inl (cI, 24, .inl (fun _ => 0)))] H := hP
  have hD : va_D A [(h0, .inr (11, [.int 0, .ref q1, .int 0, .int 0, .int 0, .int 0, .ref q2, .ref q3, .ref q4, .ref q5, .ref q6, .ref q7, .ref q8, .int 0, .int 0, .ref q9, .ref q10, .ref q11, .null, .null, .int 0, .int 0, .null, .null, .null, .int 0, .int 0, .null, .null, .int 0, .int 0, .null, .int 0, .long 0, .null, .int 0, .int 0, .null, .null, .null, .int 0])), (q1, .inl (cI, 240, .inl (fun _ => 0))), (q2, .inl (cI, 2600, .inl (fun _ => 0))), (q3, .inl (cI, 2600, .inl (fun _ => 0))), (q4, .inl (cI, 5, .inl (fun _ => 0))), (q5, .inl (cI, 5, .inl (fun _ => 0))), (q6, .inl (cI, 700, .inl (fun _ => 0))), (q7, .inl (cI, 700, .inl (fun _ => 0))), (q8, .inl (cI, 700, .inl (fun _ => 0))), (q9, .inl (cI, 6, .inl (fun _ => 0))), (q10, .inl (cI, 80, .inl (fun _ => 0))), (q11, .inl (cI, 3, .inl (fun _ => 0))), (q12, .inl (cI, 24, .inl (fun _ => 0)))] := hD
  refine W.widen (k := 12) (n := 7663) (Nat.le_of_ble_eq_true rfl) (Nat.le_of_ble_eq_true rfl) ?_
  refine va_putF (D := (dC, dI)) (ci := 11) (v := .ref q12) (ty := .array .int) (C := RX11) (T := TX11) (N := 41) hx hb hts iX11 tyX11 tyX11_ok nmX11 hown hK hP hD hS 0 rfl rfl 18 (by decide) (hts _ qw1145) (fun _ h9 => h9) rfl hin rfl (by decide +kernel) rfl rfl (Nat.le_of_ble_eq_true rfl) dX11_init_100 (fun H locs hP hD hS => ?_)
  have hP : va_P (dC, dI) vwCl [(h0, .inr (11, [.int 0, .ref q1, .int 0, .int 0, .int 0, .int 0, .ref q2, .ref q3, .ref q4, .ref q5, .ref q6, .ref q7, .ref q8, .int 0, .int 0, .ref q9, .ref q10, .ref q11, .ref q12, .null, .int 0, .int 0, .null, .null, .null, .int 0, .int 0, .null, .null, .int 0, .int 0, .null, .int 0, .long 0, .null, .int 0, .int 0, .null, .null, .null, .int 0])), (q1, .inl (cI, 240, .inl (fun _ => 0))), (q2, .inl (cI, 2600, .inl (fun _ => 0))), (q3, .inl (cI, 2600, .inl (fun _ => 0))), (q4, .inl (cI, 5, .inl (fun _ => 0))), (q5, .inl (cI, 5, .inl (fun _ => 0))), (q6, .inl (cI, 700, .inl (fun _ => 0))), (q7, .inl (cI, 700, .inl (fun _ => 0))), (q8, .inl (cI, 700, .inl (fun _ => 0))), (q9, .inl (cI, 6, .inl (fun _ => 0))), (q10, .inl (cI, 80, .inl (fun _ => 0))), (q11, .inl (cI, 3, .inl (fun _ => 0))), (q12, .inl (cI, 24, .inl (fun _ => 0)))] H := hP
  have hD : va_D A [(h0, .inr (11, [.int 0, .ref q1, .int 0, .int 0, .int 0, .int 0, .ref q2, .ref q3, .ref q4, .ref q5, .ref q6, .ref q7, .ref q8, .int 0, .int 0, .ref q9, .ref q10, .ref q11, .ref q12, .null, .int 0, .int 0, .null, .null, .null, .int 0, .int 0, .null, .null, .int 0, .int 0, .null, .int 0, .long 0, .null, .int 0, .int 0, .null, .null, .null, .int 0])), (q1, .inl (cI, 240, .inl (fun _ => 0))), (q2, .inl (cI, 2600, .inl (fun _ => 0))), (q3, .inl (cI, 2600, .inl (fun _ => 0))), (q4, .inl (cI, 5, .inl (fun _ => 0))), (q5, .inl (cI, 5, .inl (fun _ => 0))), (q6, .inl (cI, 700, .inl (fun _ => 0))), (q7, .inl (cI, 700, .inl (fun _ => 0))), (q8, .inl (cI, 700, .inl (fun _ => 0))), (q9, .inl (cI, 6, .inl (fun _ => 0))), (q10, .inl (cI, 80, .inl (fun _ => 0))), (q11, .inl (cI, 3, .inl (fun _ => 0))), (q12, .inl (cI, 24, .inl (fun _ => 0)))] := hD
  refine lv_aload_n hx hb dX11_init_103 rfl (lv_at hl 0 rfl) ?_
  refine lv_bipush (v := 20) hx hb dX11_init_104 (by decide) ?_
  refine va_newa (atype := .int) (ty := .int) (N' := 20) (a0 := (20, .inl (fun _ => 0))) hx hb (hts _ qw147) rfl hK hP hD hS hA (fun _ => rfl) (by decide) (by decide) (Nat.le_of_ble_eq_true rfl) (Nat.le_of_ble_eq_true rfl) (Nat.le_of_ble_eq_true rfl) dX11_init_106 (fun q13 cA H hK2 hP hD hS => ?_)
  obtain rfl : cI = cA := (zcA hK2 0 2 rfl rfl).symm
  have hP : va_P (dC, dI) vwCl [(h0, .inr (11, [.int 0, .ref q1, .int 0, .int 0, .int 0, .int 0, .ref q2, .ref q3, .ref q4, .ref q5, .ref q6, .ref q7, .ref q8, .int 0, .int 0, .ref q9, .ref q10, .ref q11, .ref q12, .null, .int 0, .int 0, .null, .null, .null, .int 0, .int 0, .null, .null, .int 0, .int 0, .null, .int 0, .long 0, .null, .int 0, .int 0, .null, .null, .null, .int 0])), (q1, .inl (cI, 240, .inl (fun _ => 0))), (q2, .inl (cI, 2600, .inl (fun _ => 0))), (q3, .inl (cI, 2600, .inl (fun _ => 0))), (q4, .inl (cI, 5, .inl (fun _ => 0))), (q5, .inl (cI, 5, .inl (fun _ => 0))), (q6, .inl (cI, 700, .inl (fun _ => 0))), (q7, .inl (cI, 700, .inl (fun _ => 0))), (q8, .inl (cI, 700, .inl (fun _ => 0))), (q9, .inl (cI, 6, .inl (fun _ => 0))), (q10, .inl (cI, 80, .inl (fun _ => 0))), (q11, .inl (cI, 3, .inl (fun _ => 0))), (q12, .inl (cI, 24, .inl (fun _ => 0))), (q13, .inl (cI, 20, .inl (fun _ => 0)))] H := hP
  have hD : va_D A [(h0, .inr (11, [.int 0, .ref q1, .int 0, .int 0, .int 0, .int 0, .ref q2, .ref q3, .ref q4, .ref q5, .ref q6, .ref q7, .ref q8, .int 0, .int 0, .ref q9, .ref q10, .ref q11, .ref q12, .null, .int 0, .int 0, .null, .null, .null, .int 0, .int 0, .null, .null, .int 0, .int 0, .null, .int 0, .long 0, .null, .int 0, .int 0, .null, .null, .null, .int 0])), (q1, .inl (cI, 240, .inl (fun _ => 0))), (q2, .inl (cI, 2600, .inl (fun _ => 0))), (q3, .inl (cI, 2600, .inl (fun _ => 0))), (q4, .inl (cI, 5, .inl (fun _ => 0))), (q5, .inl (cI, 5, .inl (fun _ => 0))), (q6, .inl (cI, 700, .inl (fun _ => 0))), (q7, .inl (cI, 700, .inl (fun _ => 0))), (q8, .inl (cI, 700, .inl (fun _ => 0))), (q9, .inl (cI, 6, .inl (fun _ => 0))), (q10, .inl (cI, 80, .inl (fun _ => 0))), (q11, .inl (cI, 3, .inl (fun _ => 0))), (q12, .inl (cI, 24, .inl (fun _ => 0))), (q13, .inl (cI, 20, .inl (fun _ => 0)))] := hD
  refine W.widen (k := 13) (n := 7683) (Nat.le_of_ble_eq_true rfl) (Nat.le_of_ble_eq_true rfl) ?_
  refine va_putF (D := (dC, dI)) (ci := 11) (v := .ref q13) (ty := .array .int) (C := RX11) (T := TX11) (N := 41) hx hb hts iX11 tyX11 tyX11_ok nmX11 hown hK hP hD hS 0 rfl rfl 19 (by decide) (hts _ qw1146) (fun _ h9 => h9) rfl hin rfl (by decide +kernel) rfl rfl (Nat.le_of_ble_eq_true rfl) dX11_init_108 (fun H locs hP hD hS => ?_)
  have hP : va_P (dC, dI) vwCl [(h0, .inr (11, [.int 0, .ref q1, .int 0, .int 0, .int 0, .int 0, .ref q2, .ref q3, .ref q4, .ref q5, .ref q6, .ref q7, .ref q8, .int 0, .int 0, .ref q9, .ref q10, .ref q11, .ref q12, .ref q13, .int 0, .int 0, .null, .null, .null, .int 0, .int 0, .null, .null, .int 0, .int 0, .null, .int 0, .long 0, .null, .int 0, .int 0, .null, .null, .null, .int 0])), (q1, .inl (cI, 240, .inl (fun _ => 0))), (q2, .inl (cI, 2600, .inl (fun _ => 0))), (q3, .inl (cI, 2600, .inl (fun _ => 0))), (q4, .inl (cI, 5, .inl (fun _ => 0))), (q5, .inl (cI, 5, .inl (fun _ => 0))), (q6, .inl (cI, 700, .inl (fun _ => 0))), (q7, .inl (cI, 700, .inl (fun _ => 0))), (q8, .inl (cI, 700, .inl (fun _ => 0))), (q9, .inl (cI, 6, .inl (fun _ => 0))), (q10, .inl (cI, 80, .inl (fun _ => 0))), (q11, .inl (cI, 3, .inl (fun _ => 0))), (q12, .inl (cI, 24, .inl (fun _ => 0))), (q13, .inl (cI, 20, .inl (fun _ => 0)))] H := hP
  have hD : va_D A [(h0, .inr (11, [.int 0, .ref q1, .int 0, .int 0, .int 0, .int 0, .ref q2, .ref q3, .ref q4, .ref q5, .ref q6, .ref q7, .ref q8, .int 0, .int 0, .ref q9, .ref q10, .ref q11, .ref q12, .ref q13, .int 0, .int 0, .null, .null, .null, .int 0, .int 0, .null, .null, .int 0, .int 0, .null, .int 0, .long 0, .null, .int 0, .int 0, .null, .null, .null, .int 0])), (q1, .inl (cI, 240, .inl (fun _ => 0))), (q2, .inl (cI, 2600, .inl (fun _ => 0))), (q3, .inl (cI, 2600, .inl (fun _ => 0))), (q4, .inl (cI, 5, .inl (fun _ => 0))), (q5, .inl (cI, 5, .inl (fun _ => 0))), (q6, .inl (cI, 700, .inl (fun _ => 0))), (q7, .inl (cI, 700, .inl (fun _ => 0))), (q8, .inl (cI, 700, .inl (fun _ => 0))), (q9, .inl (cI, 6, .inl (fun _ => 0))), (q10, .inl (cI, 80, .inl (fun _ => 0))), (q11, .inl (cI, 3, .inl (fun _ => 0))), (q12, .inl (cI, 24, .inl (fun _ => 0))), (q13, .inl (cI, 20, .inl (fun _ => 0)))] := hD
  refine lv_aload_n hx hb dX11_init_111 rfl (lv_at hl 0 rfl) ?_
  refine lv_iconst (v := 3) hx hb dX11_init_112 (by decide) ?_
  refine va_newa (atype := .int) (ty := .int) (N' := 3) (a0 := (3, .inl (fun _ => 0))) hx hb (hts _ qw147) rfl hK hP hD hS hA (fun _ => rfl) (by decide) (by decide) (Nat.le_of_ble_eq_true rfl) (Nat.le_of_ble_eq_true rfl) (Nat.le_of_ble_eq_true rfl) dX11_init_113 (fun q14 cA H hK2 hP hD hS => ?_)
  obtain rfl : cI = cA := (zcA hK2 0 2 rfl rfl).symm
  have hP : va_P (dC, dI) vwCl [(h0, .inr (11, [.int 0, .ref q1, .int 0, .int 0, .int 0, .int 0, .ref q2, .ref q3, .ref q4, .ref q5, .ref q6, .ref q7, .ref q8, .int 0, .int 0, .ref q9, .ref q10, .ref q11, .ref q12, .ref q13, .int 0, .int 0, .null, .null, .null, .int 0, .int 0, .null, .null, .int 0, .int 0, .null, .int 0, .long 0, .null, .int 0, .int 0, .null, .null, .null, .int 0])), (q1, .inl (cI, 240, .inl (fun _ => 0))), (q2, .inl (cI, 2600, .inl (fun _ => 0))), (q3, .inl (cI, 2600, .inl (fun _ => 0))), (q4, .inl (cI, 5, .inl (fun _ => 0))), (q5, .inl (cI, 5, .inl (fun _ => 0))), (q6, .inl (cI, 700, .inl (fun _ => 0))), (q7, .inl (cI, 700, .inl (fun _ => 0))), (q8, .inl (cI, 700, .inl (fun _ => 0))), (q9, .inl (cI, 6, .inl (fun _ => 0))), (q10, .inl (cI, 80, .inl (fun _ => 0))), (q11, .inl (cI, 3, .inl (fun _ => 0))), (q12, .inl (cI, 24, .inl (fun _ => 0))), (q13, .inl (cI, 20, .inl (fun _ => 0))), (q14, .inl (cI, 3, .inl (fun _ => 0)))] H := hP
  have hD : va_D A [(h0, .inr (11, [.int 0, .ref q1, .int 0, .int 0, .int 0, .int 0, .ref q2, .ref q3, .ref q4, .ref q5, .ref q6, .ref q7, .ref q8, .int 0, .int 0, .ref q9, .ref q10, .ref q11, .ref q12, .ref q13, .int 0, .int 0, .null, .null, .null, .int 0, .int 0, .null, .null, .int 0, .int 0, .null, .int 0, .long 0, .null, .int 0, .int 0, .null, .null, .null, .int 0])), (q1, .inl (cI, 240, .inl (fun _ => 0))), (q2, .inl (cI, 2600, .inl (fun _ => 0))), (q3, .inl (cI, 2600, .inl (fun _ => 0))), (q4, .inl (cI, 5, .inl (fun _ => 0))), (q5, .inl (cI, 5, .inl (fun _ => 0))), (q6, .inl (cI, 700, .inl (fun _ => 0))), (q7, .inl (cI, 700, .inl (fun _ => 0))), (q8, .inl (cI, 700, .inl (fun _ => 0))), (q9, .inl (cI, 6, .inl (fun _ => 0))), (q10, .inl (cI, 80, .inl (fun _ => 0))), (q11, .inl (cI, 3, .inl (fun _ => 0))), (q12, .inl (cI, 24, .inl (fun _ => 0))), (q13, .inl (cI, 20, .inl (fun _ => 0))), (q14, .inl (cI, 3, .inl (fun _ => 0)))] := hD
  refine W.widen (k := 14) (n := 7686) (Nat.le_of_ble_eq_true rfl) (Nat.le_of_ble_eq_true rfl) ?_
  refine va_putF (D := (dC, dI)) (ci := 11) (v := .ref q14) (ty := .array .int) (C := RX11) (T := TX11) (N := 41) hx hb hts iX11 tyX11 tyX11_ok nmX11 hown hK hP hD hS 0 rfl rfl 22 (by decide) (hts _ qw1149) (fun _ h9 => h9) rfl hin rfl (by decide +kernel) rfl rfl (Nat.le_of_ble_eq_true rfl) dX11_init_115 (fun H locs hP hD hS => ?_)
  have hP : va_P (dC, dI) vwCl [(h0, .inr (11, [.int 0, .ref q1, .int 0, .int 0, .int 0, .int 0, .ref q2, .ref q3, .ref q4, .ref q5, .ref q6, .ref q7, .ref q8, .int 0, .int 0, .ref q9, .ref q10, .ref q11, .ref q12, .ref q13, .int 0, .int 0, .ref q14, .null, .null, .int 0, .int 0, .null, .null, .int 0, .int 0, .null, .int 0, .long 0, .null, .int 0, .int 0, .null, .null, .null, .int 0])), (q1, .inl (cI, 240, .inl (fun _ => 0))), (q2, .inl (cI, 2600, .inl (fun _ => 0))), (q3, .inl (cI, 2600, .inl (fun _ => 0))), (q4, .inl (cI, 5, .inl (fun _ => 0))), (q5, .inl (cI, 5, .inl (fun _ => 0))), (q6, .inl (cI, 700, .inl (fun _ => 0))), (q7, .inl (cI, 700, .inl (fun _ => 0))), (q8, .inl (cI, 700, .inl (fun _ => 0))), (q9, .inl (cI, 6, .inl (fun _ => 0))), (q10, .inl (cI, 80, .inl (fun _ => 0))), (q11, .inl (cI, 3, .inl (fun _ => 0))), (q12, .inl (cI, 24, .inl (fun _ => 0))), (q13, .inl (cI, 20, .inl (fun _ => 0))), (q14, .inl (cI, 3, .inl (fun _ => 0)))] H := hP
  have hD : va_D A [(h0, .inr (11, [.int 0, .ref q1, .int 0, .int 0, .int 0, .int 0, .ref q2, .ref q3, .ref q4, .ref q5, .ref q6, .ref q7, .ref q8, .int 0, .int 0, .ref q9, .ref q10, .ref q11, .ref q12, .ref q13, .int 0, .int 0, .ref q14, .null, .null, .int 0, .int 0, .null, .null, .int 0, .int 0, .null, .int 0, .long 0, .null, .int 0, .int 0, .null, .null, .null, .int 0])), (q1, .inl (cI, 240, .inl (fun _ => 0))), (q2, .inl (cI, 2600, .inl (fun _ => 0))), (q3, .inl (cI, 2600, .inl (fun _ => 0))), (q4, .inl (cI, 5, .inl (fun _ => 0))), (q5, .inl (cI, 5, .inl (fun _ => 0))), (q6, .inl (cI, 700, .inl (fun _ => 0))), (q7, .inl (cI, 700, .inl (fun _ => 0))), (q8, .inl (cI, 700, .inl (fun _ => 0))), (q9, .inl (cI, 6, .inl (fun _ => 0))), (q10, .inl (cI, 80, .inl (fun _ => 0))), (q11, .inl (cI, 3, .inl (fun _ => 0))), (q12, .inl (cI, 24, .inl (fun _ => 0))), (q13, .inl (cI, 20, .inl (fun _ => 0))), (q14, .inl (cI, 3, .inl (fun _ => 0)))] := hD
  refine lv_aload_n hx hb dX11_init_118 rfl (lv_at hl 0 rfl) ?_
  refine lv_bipush (v := 24) hx hb dX11_init_119 (by decide) ?_
  refine va_newa (atype := .int) (ty := .int) (N' := 24) (a0 := (24, .inl (fun _ => 0))) hx hb (hts _ qw147) rfl hK hP hD hS hA (fun _ => rfl) (by decide) (by decide) (Nat.le_of_ble_eq_true rfl) (Nat.le_of_ble_eq_true rfl) (Nat.le_of_ble_eq_true rfl) dX11_init_121 (fun q15 cA H hK2 hP hD hS => ?_)
  obtain rfl : cI = cA := (zcA hK2 0 2 rfl rfl).symm
  have hP : va_P (dC, dI) vwCl [(h0, .inr (11, [.int 0, .ref q1, .int 0, .int 0, .int 0, .int 0, .ref q2, .ref q3, .ref q4, .ref q5, .ref q6, .ref q7, .ref q8, .int 0, .int 0, .ref q9, .ref q10, .ref q11, .ref q12, .ref q13, .int 0, .int 0, .ref q14, .null, .null, .int 0, .int 0, .null, .null, .int 0, .int 0, .null, .int 0, .long 0, .null, .int 0, .int 0, .null, .null, .null, .int 0])), (q1, .inl (cI, 240, .inl (fun _ => 0))), (q2, .inl (cI, 2600, .inl (fun _ => 0))), (q3, .inl (cI, 2600, .inl (fun _ => 0))), (q4, .inl (cI, 5, .inl (fun _ => 0))), (q5, .inl (cI, 5, .inl (fun _ => 0))), (q6, .inl (cI, 700, .inl (fun _ => 0))), (q7, .inl (cI, 700, .inl (fun _ => 0))), (q8, .inl (cI, 700, .inl (fun _ => 0))), (q9, .inl (cI, 6, .inl (fun _ => 0))), (q10, .inl (cI, 80, .inl (fun _ => 0))), (q11, .inl (cI, 3, .inl (fun _ => 0))), (q12, .inl (cI, 24, .inl (fun _ => 0))), (q13, .inl (cI, 20, .inl (fun _ => 0))), (q14, .inl (cI, 3, .inl (fun _ => 0))), (q15, .inl (cI, 24, .inl (fun _ => 0)))] H := hP
  have hD : va_D A [(h0, .inr (11, [.int 0, .ref q1, .int 0, .int 0, .int 0, .int 0, .ref q2, .ref q3, .ref q4, .ref q5, .ref q6, .ref q7, .ref q8, .int 0, .int 0, .ref q9, .ref q10, .ref q11, .ref q12, .ref q13, .int 0, .int 0, .ref q14, .null, .null, .int 0, .int 0, .null, .null, .int 0, .int 0, .null, .int 0, .long 0, .null, .int 0, .int 0, .null, .null, .null, .int 0])), (q1, .inl (cI, 240, .inl (fun _ => 0))), (q2, .inl (cI, 2600, .inl (fun _ => 0))), (q3, .inl (cI, 2600, .inl (fun _ => 0))), (q4, .inl (cI, 5, .inl (fun _ => 0))), (q5, .inl (cI, 5, .inl (fun _ => 0))), (q6, .inl (cI, 700, .inl (fun _ => 0))), (q7, .inl (cI, 700, .inl (fun _ => 0))), (q8, .inl (cI, 700, .inl (fun _ => 0))), (q9, .inl (cI, 6, .inl (fun _ => 0))), (q10, .inl (cI, 80, .inl (fun _ => 0))), (q11, .inl (cI, 3, .inl (fun _ => 0))), (q12, .inl (cI, 24, .inl (fun _ => 0))), (q13, .inl (cI, 20, .inl (fun _ => 0))), (q14, .inl (cI, 3, .inl (fun _ => 0))), (q15, .inl (cI, 24, .inl (fun _ => 0)))] := hD
  refine W.widen (k := 15) (n := 7710) (Nat.le_of_ble_eq_true rfl) (Nat.le_of_ble_eq_true rfl) ?_
  refine va_putF (D := (dC, dI)) (ci := 11) (v := .ref q15) (ty := .array .int) (C := RX11) (T := TX11) (N := 41) hx hb hts iX11 tyX11 tyX11_ok nmX11 hown hK hP hD hS 0 rfl rfl 23 (by decide) (hts _ qw1150) (fun _ h9 => h9) rfl hin rfl (by decide +kernel) rfl rfl (Nat.le_of_ble_eq_true rfl) dX11_init_123 (fun H locs hP hD hS => ?_)
  have hP : va_P (dC, dI) vwCl [(h0, .inr (11, [.int 0, .ref q1, .int 0, .int 0, .int 0, .int 0, .ref q2, .ref q3, .ref q4, .ref q5, .ref q6, .ref q7, .ref q8, .int 0, .int 0, .ref q9, .ref q10, .ref q11, .ref q12, .ref q13, .int 0, .int 0, .ref q14, .ref q15, .null, .int 0, .int 0, .null, .null, .int 0, .int 0, .null, .int 0, .long 0, .null, .int 0, .int 0, .null, .null, .null, .int 0])), (q1, .inl (cI, 240, .inl (fun _ => 0))), (q2, .inl (cI, 2600, .inl (fun _ => 0))), (q3, .inl (cI, 2600, .inl (fun _ => 0))), (q4, .inl (cI, 5, .inl (fun _ => 0))), (q5, .inl (cI, 5, .inl (fun _ => 0))), (q6, .inl (cI, 700, .inl (fun _ => 0))), (q7, .inl (cI, 700, .inl (fun _ => 0))), (q8, .inl (cI, 700, .inl (fun _ => 0))), (q9, .inl (cI, 6, .inl (fun _ => 0))), (q10, .inl (cI, 80, .inl (fun _ => 0))), (q11, .inl (cI, 3, .inl (fun _ => 0))), (q12, .inl (cI, 24, .inl (fun _ => 0))), (q13, .inl (cI, 20, .inl (fun _ => 0))), (q14, .inl (cI, 3, .inl (fun _ => 0))), (q15, .inl (cI, 24, .inl (fun _ => 0)))] H := hP
  have hD : va_D A [(h0, .inr (11, [.int 0, .ref q1, .int 0, .int 0, .int 0, .int 0, .ref q2, .ref q3, .ref q4, .ref q5, .ref q6, .ref q7, .ref q8, .int 0, .int 0, .ref q9, .ref q10, .ref q11, .ref q12, .ref q13, .int 0, .int 0, .ref q14, .ref q15, .null, .int 0, .int 0, .null, .null, .int 0, .int 0, .null, .int 0, .long 0, .null, .int 0, .int 0, .null, .null, .null, .int 0])), (q1, .inl (cI, 240, .inl (fun _ => 0))), (q2, .inl (cI, 2600, .inl (fun _ => 0))), (q3, .inl (cI, 2600, .inl (fun _ => 0))), (q4, .inl (cI, 5, .inl (fun _ => 0))), (q5, .inl (cI, 5, .inl (fun _ => 0))), (q6, .inl (cI, 700, .inl (fun _ => 0))), (q7, .inl (cI, 700, .inl (fun _ => 0))), (q8, .inl (cI, 700, .inl (fun _ => 0))), (q9, .inl (cI, 6, .inl (fun _ => 0))), (q10, .inl (cI, 80, .inl (fun _ => 0))), (q11, .inl (cI, 3, .inl (fun _ => 0))), (q12, .inl (cI, 24, .inl (fun _ => 0))), (q13, .inl (cI, 20, .inl (fun _ => 0))), (q14, .inl (cI, 3, .inl (fun _ => 0))), (q15, .inl (cI, 24, .inl (fun _ => 0)))] := hD
  refine lv_aload_n hx hb dX11_init_126 rfl (lv_at hl 0 rfl) ?_
  refine lv_bipush (v := 20) hx hb dX11_init_127 (by decide) ?_
  refine va_newa (atype := .int) (ty := .int) (N' := 20) (a0 := (20, .inl (fun _ => 0))) hx hb (hts _ qw147) rfl hK hP hD hS hA (fun _ => rfl) (by decide) (by decide) (Nat.le_of_ble_eq_true rfl) (Nat.le_of_ble_eq_true rfl) (Nat.le_of_ble_eq_true rfl) dX11_init_129 (fun q16 cA H hK2 hP hD hS => ?_)
  obtain rfl : cI = cA := (zcA hK2 0 2 rfl rfl).symm
  have hP : va_P (dC, dI) vwCl [(h0, .inr (11, [.int 0, .ref q1, .int 0, .int 0, .int 0, .int 0, .ref q2, .ref q3, .ref q4, .ref q5, .ref q6, .ref q7, .ref q8, .int 0, .int 0, .ref q9, .ref q10, .ref q11, .ref q12, .ref q13, .int 0, .int 0, .ref q14, .ref q15, .null, .int 0, .int 0, .null, .null, .int 0, .int 0, .null, .int 0, .long 0, .null, .int 0, .int 0, .null, .null, .null, .int 0])), (q1, .inl (cI, 240, .inl (fun _ => 0))), (q2, .inl (cI, 2600, .inl (fun _ => 0))), (q3, .inl (cI, 2600, .inl (fun _ => 0))), (q4, .inl (cI, 5, .inl (fun _ => 0))), (q5, .inl (cI, 5, .inl (fun _ => 0))), (q6, .inl (cI, 700, .inl (fun _ => 0))), (q7, .inl (cI, 700, .inl (fun _ => 0))), (q8, .inl (cI, 700, .inl (fun _ => 0))), (q9, .inl (cI, 6, .inl (fun _ => 0))), (q10, .inl (cI, 80, .inl (fun _ => 0))), (q11, .inl (cI, 3, .inl (fun _ => 0))), (q12, .inl (cI, 24, .inl (fun _ => 0))), (q13, .inl (cI, 20, .inl (fun _ => 0))), (q14, .inl (cI, 3, .inl (fun _ => 0))), (q15, .inl (cI, 24, .inl (fun _ => 0))), (q16, .inl (cI, 20, .inl (fun _ => 0)))] H := hP
  have hD : va_D A [(h0, .inr (11, [.int 0, .ref q1, .int 0, .int 0, .int 0, .int 0, .ref q2, .ref q3, .ref q4, .ref q5, .ref q6, .ref q7, .ref q8, .int 0, .int 0, .ref q9, .ref q10, .ref q11, .ref q12, .ref q13, .int 0, .int 0, .ref q14, .ref q15, .null, .int 0, .int 0, .null, .null, .int 0, .int 0, .null, .int 0, .long 0, .null, .int 0, .int 0, .null, .null, .null, .int 0])), (q1, .inl (cI, 240, .inl (fun _ => 0))), (q2, .inl (cI, 2600, .inl (fun _ => 0))), (q3, .inl (cI, 2600, .inl (fun _ => 0))), (q4, .inl (cI, 5, .inl (fun _ => 0))), (q5, .inl (cI, 5, .inl (fun _ => 0))), (q6, .inl (cI, 700, .inl (fun _ => 0))), (q7, .inl (cI, 700, .inl (fun _ => 0))), (q8, .inl (cI, 700, .inl (fun _ => 0))), (q9, .inl (cI, 6, .inl (fun _ => 0))), (q10, .inl (cI, 80, .inl (fun _ => 0))), (q11, .inl (cI, 3, .inl (fun _ => 0))), (q12, .inl (cI, 24, .inl (fun _ => 0))), (q13, .inl (cI, 20, .inl (fun _ => 0))), (q14, .inl (cI, 3, .inl (fun _ => 0))), (q15, .inl (cI, 24, .inl (fun _ => 0))), (q16, .inl (cI, 20, .inl (fun _ => 0)))] := hD
  refine W.widen (k := 16) (n := 7730) (Nat.le_of_ble_eq_true rfl) (Nat.le_of_ble_eq_true rfl) ?_
  refine va_putF (D := (dC, dI)) (ci := 11) (v := .ref q16) (ty := .array .int) (C := RX11) (T := TX11) (N := 41) hx hb hts iX11 tyX11 tyX11_ok nmX11 hown hK hP hD hS 0 rfl rfl 24 (by decide) (hts _ qw1151) (fun _ h9 => h9) rfl hin rfl (by decide +kernel) rfl rfl (Nat.le_of_ble_eq_true rfl) dX11_init_131 (fun H locs hP hD hS => ?_)
  have hP : va_P (dC, dI) vwCl [(h0, .inr (11, [.int 0, .ref q1, .int 0, .int 0, .int 0, .int 0, .ref q2, .ref q3, .ref q4, .ref q5, .ref q6, .ref q7, .ref q8, .int 0, .int 0, .ref q9, .ref q10, .ref q11, .ref q12, .ref q13, .int 0, .int 0, .ref q14, .ref q15, .ref q16, .int 0, .int 0, .null, .null, .int 0, .int 0, .null, .int 0, .long 0, .null, .int 0, .int 0, .null, .null, .null, .int 0])), (q1, .inl (cI, 240, .inl (fun _ => 0))), (q2, .inl (cI, 2600, .inl (fun _ => 0))), (q3, .inl (cI, 2600, .inl (fun _ => 0))), (q4, .inl (cI, 5, .inl (fun _ => 0))), (q5, .inl (cI, 5, .inl (fun _ => 0))), (q6, .inl (cI, 700, .inl (fun _ => 0))), (q7, .inl (cI, 700, .inl (fun _ => 0))), (q8, .inl (cI, 700, .inl (fun _ => 0))), (q9, .inl (cI, 6, .inl (fun _ => 0))), (q10, .inl (cI, 80, .inl (fun _ => 0))), (q11, .inl (cI, 3, .inl (fun _ => 0))), (q12, .inl (cI, 24, .inl (fun _ => 0))), (q13, .inl (cI, 20, .inl (fun _ => 0))), (q14, .inl (cI, 3, .inl (fun _ => 0))), (q15, .inl (cI, 24, .inl (fun _ => 0))), (q16, .inl (cI, 20, .inl (fun _ => 0)))] H := hP
  have hD : va_D A [(h0, .inr (11, [.int 0, .ref q1, .int 0, .int 0, .int 0, .int 0, .ref q2, .ref q3, .ref q4, .ref q5, .ref q6, .ref q7, .ref q8, .int 0, .int 0, .ref q9, .ref q10, .ref q11, .ref q12, .ref q13, .int 0, .int 0, .ref q14, .ref q15, .ref q16, .int 0, .int 0, .null, .null, .int 0, .int 0, .null, .int 0, .long 0, .null, .int 0, .int 0, .null, .null, .null, .int 0])), (q1, .inl (cI, 240, .inl (fun _ => 0))), (q2, .inl (cI, 2600, .inl (fun _ => 0))), (q3, .inl (cI, 2600, .inl (fun _ => 0))), (q4, .inl (cI, 5, .inl (fun _ => 0))), (q5, .inl (cI, 5, .inl (fun _ => 0))), (q6, .inl (cI, 700, .inl (fun _ => 0))), (q7, .inl (cI, 700, .inl (fun _ => 0))), (q8, .inl (cI, 700, .inl (fun _ => 0))), (q9, .inl (cI, 6, .inl (fun _ => 0))), (q10, .inl (cI, 80, .inl (fun _ => 0))), (q11, .inl (cI, 3, .inl (fun _ => 0))), (q12, .inl (cI, 24, .inl (fun _ => 0))), (q13, .inl (cI, 20, .inl (fun _ => 0))), (q14, .inl (cI, 3, .inl (fun _ => 0))), (q15, .inl (cI, 24, .inl (fun _ => 0))), (q16, .inl (cI, 20, .inl (fun _ => 0)))] := hD
  refine lv_aload_n hx hb dX11_init_134 rfl (lv_at hl 0 rfl) ?_
  refine lv_bipush (v := 97) hx hb dX11_init_135 (by decide) ?_
  refine va_newa (atype := .int) (ty := .int) (N' := 97) (a0 := (97, .inl (fun _ => 0))) hx hb (hts _ qw147) rfl hK hP hD hS hA (fun _ => rfl) (by decide) (by decide) (Nat.le_of_ble_eq_true rfl) (Nat.le_of_ble_eq_true rfl) (Nat.le_of_ble_eq_true rfl) dX11_init_137 (fun q17 cA H hK2 hP hD hS => ?_)
  obtain rfl : cI = cA := (zcA hK2 0 2 rfl rfl).symm
  have hP : va_P (dC, dI) vwCl [(h0, .inr (11, [.int 0, .ref q1, .int 0, .int 0, .int 0, .int 0, .ref q2, .ref q3, .ref q4, .ref q5, .ref q6, .ref q7, .ref q8, .int 0, .int 0, .ref q9, .ref q10, .ref q11, .ref q12, .ref q13, .int 0, .int 0, .ref q14, .ref q15, .ref q16, .int 0, .int 0, .null, .null, .int 0, .int 0, .null, .int 0, .long 0, .null, .int 0, .int 0, .null, .null, .null, .int 0])), (q1, .inl (cI, 240, .inl (fun _ => 0))), (q2, .inl (cI, 2600, .inl (fun _ => 0))), (q3, .inl (cI, 2600, .inl (fun _ => 0))), (q4, .inl (cI, 5, .inl (fun _ => 0))), (q5, .inl (cI, 5, .inl (fun _ => 0))), (q6, .inl (cI, 700, .inl (fun _ => 0))), (q7, .inl (cI, 700, .inl (fun _ => 0))), (q8, .inl (cI, 700, .inl (fun _ => 0))), (q9, .inl (cI, 6, .inl (fun _ => 0))), (q10, .inl (cI, 80, .inl (fun _ => 0))), (q11, .inl (cI, 3, .inl (fun _ => 0))), (q12, .inl (cI, 24, .inl (fun _ => 0))), (q13, .inl (cI, 20, .inl (fun _ => 0))), (q14, .inl (cI, 3, .inl (fun _ => 0))), (q15, .inl (cI, 24, .inl (fun _ => 0))), (q16, .inl (cI, 20, .inl (fun _ => 0))), (q17, .inl (cI, 97, .inl (fun _ => 0)))] H := hP
  have hD : va_D A [(h0, .inr (11, [.int 0, .ref q1, .int 0, .int 0, .int 0, .int 0, .ref q2, .ref q3, .ref q4, .ref q5, .ref q6, .ref q7, .ref q8, .int 0, .int 0, .ref q9, .ref q10, .ref q11, .ref q12, .ref q13, .int 0, .int 0, .ref q14, .ref q15, .ref q16, .int 0, .int 0, .null, .null, .int 0, .int 0, .null, .int 0, .long 0, .null, .int 0, .int 0, .null, .null, .null, .int 0])), (q1, .inl (cI, 240, .inl (fun _ => 0))), (q2, .inl (cI, 2600, .inl (fun _ => 0))), (q3, .inl (cI, 2600, .inl (fun _ => 0))), (q4, .inl (cI, 5, .inl (fun _ => 0))), (q5, .inl (cI, 5, .inl (fun _ => 0))), (q6, .inl (cI, 700, .inl (fun _ => 0))), (q7, .inl (cI, 700, .inl (fun _ => 0))), (q8, .inl (cI, 700, .inl (fun _ => 0))), (q9, .inl (cI, 6, .inl (fun _ => 0))), (q10, .inl (cI, 80, .inl (fun _ => 0))), (q11, .inl (cI, 3, .inl (fun _ => 0))), (q12, .inl (cI, 24, .inl (fun _ => 0))), (q13, .inl (cI, 20, .inl (fun _ => 0))), (q14, .inl (cI, 3, .inl (fun _ => 0))), (q15, .inl (cI, 24, .inl (fun _ => 0))), (q16, .inl (cI, 20, .inl (fun _ => 0))), (q17, .inl (cI, 97, .inl (fun _ => 0)))] := hD
  refine W.widen (k := 17) (n := 7827) (Nat.le_of_ble_eq_true rfl) (Nat.le_of_ble_eq_true rfl) ?_
  refine va_putF (D := (dC, dI)) (ci := 11) (v := .ref q17) (ty := .array .int) (C := RX11) (T := TX11) (N := 41) hx hb hts iX11 tyX11 tyX11_ok nmX11 hown hK hP hD hS 0 rfl rfl 27 (by decide) (hts _ qw1154) (fun _ h9 => h9) rfl hin rfl (by decide +kernel) rfl rfl (Nat.le_of_ble_eq_true rfl) dX11_init_139 (fun H locs hP hD hS => ?_)
  have hP : va_P (dC, dI) vwCl [(h0, .inr (11, [.int 0, .ref q1, .int 0, .int 0, .int 0, .int 0, .ref q2, .ref q3, .ref q4, .ref q5, .ref q6, .ref q7, .ref q8, .int 0, .int 0, .ref q9, .ref q10, .ref q11, .ref q12, .ref q13, .int 0, .int 0, .ref q14, .ref q15, .ref q16, .int 0, .int 0, .ref q17, .null, .int 0, .int 0, .null, .int 0, .long 0, .null, .int 0, .int 0, .null, .null, .null, .int 0])), (q1, .inl (cI, 240, .inl (fun _ => 0))), (q2, .inl (cI, 2600, .inl (fun _ => 0))), (q3, .inl (cI, 2600, .inl (fun _ => 0))), (q4, .inl (cI, 5, .inl (fun _ => 0))), (q5, .inl (cI, 5, .inl (fun _ => 0))), (q6, .inl (cI, 700, .inl (fun _ => 0))), (q7, .inl (cI, 700, .inl (fun _ => 0))), (q8, .inl (cI, 700, .inl (fun _ => 0))), (q9, .inl (cI, 6, .inl (fun _ => 0))), (q10, .inl (cI, 80, .inl (fun _ => 0))), (q11, .inl (cI, 3, .inl (fun _ => 0))), (q12, .inl (cI, 24, .inl (fun _ => 0))), (q13, .inl (cI, 20, .inl (fun _ => 0))), (q14, .inl (cI, 3, .inl (fun _ => 0))), (q15, .inl (cI, 24, .inl (fun _ => 0))), (q16, .inl (cI, 20, .inl (fun _ => 0))), (q17, .inl (cI, 97, .inl (fun _ => 0)))] H := hP
  have hD : va_D A [(h0, .inr (11, [.int 0, .ref q1, .int 0, .int 0, .int 0, .int 0, .ref q2, .ref q3, .ref q4, .ref q5, .ref q6, .ref q7, .ref q8, .int 0, .int 0, .ref q9, .ref q10, .ref q11, .ref q12, .ref q13, .int 0, .int 0, .ref q14, .ref q15, .ref q16, .int 0, .int 0, .ref q17, .null, .int 0, .int 0, .null, .int 0, .long 0, .null, .int 0, .int 0, .null, .null, .null, .int 0])), (q1, .inl (cI, 240, .inl (fun _ => 0))), (q2, .inl (cI, 2600, .inl (fun _ => 0))), (q3, .inl (cI, 2600, .inl (fun _ => 0))), (q4, .inl (cI, 5, .inl (fun _ => 0))), (q5, .inl (cI, 5, .inl (fun _ => 0))), (q6, .inl (cI, 700, .inl (fun _ => 0))), (q7, .inl (cI, 700, .inl (fun _ => 0))), (q8, .inl (cI, 700, .inl (fun _ => 0))), (q9, .inl (cI, 6, .inl (fun _ => 0))), (q10, .inl (cI, 80, .inl (fun _ => 0))), (q11, .inl (cI, 3, .inl (fun _ => 0))), (q12, .inl (cI, 24, .inl (fun _ => 0))), (q13, .inl (cI, 20, .inl (fun _ => 0))), (q14, .inl (cI, 3, .inl (fun _ => 0))), (q15, .inl (cI, 24, .inl (fun _ => 0))), (q16, .inl (cI, 20, .inl (fun _ => 0))), (q17, .inl (cI, 97, .inl (fun _ => 0)))] := hD
  refine lv_aload_n hx hb dX11_init_142 rfl (lv_at hl 0 rfl) ?_
  refine lv_iconst (v := 5) hx hb dX11_init_143 (by decide) ?_
  refine va_newa (atype := .int) (ty := .int) (N' := 5) (a0 := (5, .inl (fun _ => 0))) hx hb (hts _ qw147) rfl hK hP hD hS hA (fun _ => rfl) (by decide) (by decide) (Nat.le_of_ble_eq_true rfl) (Nat.le_of_ble_eq_true rfl) (Nat.le_of_ble_eq_true rfl) dX11_init_144 (fun q18 cA H hK2 hP hD hS => ?_)
  obtain rfl : cI = cA := (zcA hK2 0 2 rfl rfl).symm
  have hP : va_P (dC, dI) vwCl [(h0, .inr (11, [.int 0, .ref q1, .int 0, .int 0, .int 0, .int 0, .ref q2, .ref q3, .ref q4, .ref q5, .ref q6, .ref q7, .ref q8, .int 0, .int 0, .ref q9, .ref q10, .ref q11, .ref q12, .ref q13, .int 0, .int 0, .ref q14, .ref q15, .ref q16, .int 0, .int 0, .ref q17, .null, .int 0, .int 0, .null, .int 0, .long 0, .null, .int 0, .int 0, .null, .null, .null, .int 0])), (q1, .inl (cI, 240, .inl (fun _ => 0))), (q2, .inl (cI, 2600, .inl (fun _ => 0))), (q3, .inl (cI, 2600, .inl (fun _ => 0))), (q4, .inl (cI, 5, .inl (fun _ => 0))), (q5, .inl (cI, 5, .inl (fun _ => 0))), (q6, .inl (cI, 700, .inl (fun _ => 0))), (q7, .inl (cI, 700, .inl (fun _ => 0))), (q8, .inl (cI, 700, .inl (fun _ => 0))), (q9, .inl (cI, 6, .inl (fun _ => 0))), (q10, .inl (cI, 80, .inl (fun _ => 0))), (q11, .inl (cI, 3, .inl (fun _ => 0))), (q12, .inl (cI, 24, .inl (fun _ => 0))), (q13, .inl (cI, 20, .inl (fun _ => 0))), (q14, .inl (cI, 3, .inl (fun _ => 0))), (q15, .inl (cI, 24, .inl (fun _ => 0))), (q16, .inl (cI, 20, .inl (fun _ => 0))), (q17, .inl (cI, 97, .inl (fun _ => 0))), (q18, .inl (cI, 5, .inl (fun _ => 0)))] H := hP
  have hD : va_D A [(h0, .inr (11, [.int 0, .ref q1, .int 0, .int 0, .int 0, .int 0, .ref q2, .ref q3, .ref q4, .ref q5, .ref q6, .ref q7, .ref q8, .int 0, .int 0, .ref q9, .ref q10, .ref q11, .ref q12, .ref q13, .int 0, .int 0, .ref q14, .ref q15, .ref q16, .int 0, .int 0, .ref q17, .null, .int 0, .int 0, .null, .int 0, .long 0, .null, .int 0, .int 0, .null, .null, .null, .int 0])), (q1, .inl (cI, 240, .inl (fun _ => 0))), (q2, .inl (cI, 2600, .inl (fun _ => 0))), (q3, .inl (cI, 2600, .inl (fun _ => 0))), (q4, .inl (cI, 5, .inl (fun _ => 0))), (q5, .inl (cI, 5, .inl (fun _ => 0))), (q6, .inl (cI, 700, .inl (fun _ => 0))), (q7, .inl (cI, 700, .inl (fun _ => 0))), (q8, .inl (cI, 700, .inl (fun _ => 0))), (q9, .inl (cI, 6, .inl (fun _ => 0))), (q10, .inl (cI, 80, .inl (fun _ => 0))), (q11, .inl (cI, 3, .inl (fun _ => 0))), (q12, .inl (cI, 24, .inl (fun _ => 0))), (q13, .inl (cI, 20, .inl (fun _ => 0))), (q14, .inl (cI, 3, .inl (fun _ => 0))), (q15, .inl (cI, 24, .inl (fun _ => 0))), (q16, .inl (cI, 20, .inl (fun _ => 0))), (q17, .inl (cI, 97, .inl (fun _ => 0))), (q18, .inl (cI, 5, .inl (fun _ => 0)))] := hD
  refine W.widen (k := 18) (n := 7832) (Nat.le_of_ble_eq_true rfl) (Nat.le_of_ble_eq_true rfl) ?_
  refine va_putF (D := (dC, dI)) (ci := 11) (v := .ref q18) (ty := .array .int) (C := RX11) (T := TX11) (N := 41) hx hb hts iX11 tyX11 tyX11_ok nmX11 hown hK hP hD hS 0 rfl rfl 28 (by decide) (hts _ qw1155) (fun _ h9 => h9) rfl hin rfl (by decide +kernel) rfl rfl (Nat.le_of_ble_eq_true rfl) dX11_init_146 (fun H locs hP hD hS => ?_)
  have hP : va_P (dC, dI) vwCl [(h0, .inr (11, [.int 0, .ref q1, .int 0, .int 0, .int 0, .int 0, .ref q2, .ref q3, .ref q4, .ref q5, .ref q6, .ref q7, .ref q8, .int 0, .int 0, .ref q9, .ref q10, .ref q11, .ref q12, .ref q13, .int 0, .int 0, .ref q14, .ref q15, .ref q16, .int 0, .int 0, .ref q17, .ref q18, .int 0, .int 0, .null, .int 0, .long 0, .null, .int 0, .int 0, .null, .null, .null, .int 0])), (q1, .inl (cI, 240, .inl (fun _ => 0))), (q2, .inl (cI, 2600, .inl (fun _ => 0))), (q3, .inl (cI, 2600, .inl (fun _ => 0))), (q4, .inl (cI, 5, .inl (fun _ => 0))), (q5, .inl (cI, 5, .inl (fun _ => 0))), (q6, .inl (cI, 700, .inl (fun _ => 0))), (q7, .inl (cI, 700, .inl (fun _ => 0))), (q8, .inl (cI, 700, .inl (fun _ => 0))), (q9, .inl (cI, 6, .inl (fun _ => 0))), (q10, .inl (cI, 80, .inl (fun _ => 0))), (q11, .inl (cI, 3, .inl (fun _ => 0))), (q12, .inl (cI, 24, .inl (fun _ => 0))), (q13, .inl (cI, 20, .inl (fun _ => 0))), (q14, .inl (cI, 3, .inl (fun _ => 0))), (q15, .inl (cI, 24, .inl (fun _ => 0))), (q16, .inl (cI, 20, .inl (fun _ => 0))), (q17, .inl (cI, 97, .inl (fun _ => 0))), (q18, .inl (cI, 5, .inl (fun _ => 0)))] H := hP
  have hD : va_D A [(h0, .inr (11, [.int 0, .ref q1, .int 0, .int 0, .int 0, .int 0, .ref q2, .ref q3, .ref q4, .ref q5, .ref q6, .ref q7, .ref q8, .int 0, .int 0, .ref q9, .ref q10, .ref q11, .ref q12, .ref q13, .int 0, .int 0, .ref q14, .ref q15, .ref q16, .int 0, .int 0, .ref q17, .ref q18, .int 0, .int 0, .null, .int 0, .long 0, .null, .int 0, .int 0, .null, .null, .null, .int 0])), (q1, .inl (cI, 240, .inl (fun _ => 0))), (q2, .inl (cI, 2600, .inl (fun _ => 0))), (q3, .inl (cI, 2600, .inl (fun _ => 0))), (q4, .inl (cI, 5, .inl (fun _ => 0))), (q5, .inl (cI, 5, .inl (fun _ => 0))), (q6, .inl (cI, 700, .inl (fun _ => 0))), (q7, .inl (cI, 700, .inl (fun _ => 0))), (q8, .inl (cI, 700, .inl (fun _ => 0))), (q9, .inl (cI, 6, .inl (fun _ => 0))), (q10, .inl (cI, 80, .inl (fun _ => 0))), (q11, .inl (cI, 3, .inl (fun _ => 0))), (q12, .inl (cI, 24, .inl (fun _ => 0))), (q13, .inl (cI, 20, .inl (fun _ => 0))), (q14, .inl (cI, 3, .inl (fun _ => 0))), (q15, .inl (cI, 24, .inl (fun _ => 0))), (q16, .inl (cI, 20, .inl (fun _ => 0))), (q17, .inl (cI, 97, .inl (fun _ => 0))), (q18, .inl (cI, 5, .inl (fun _ => 0)))] := hD
  refine lv_aload_n hx hb dX11_init_149 rfl (lv_at hl 0 rfl) ?_
  refine lv_iconst (v := (-1)) hx hb dX11_init_150 (by decide) ?_
  refine va_put (D := (dC, dI)) (ci := 11) (v := .int (-1)) (ty := .int) (C := RX11) (T := TX11) (N := 41) hx hb hts iX11 tyX11 tyX11_ok nmX11 hown hK hP hD hS 0 rfl rfl 29 (by decide) (hts _ qw1156) (fun _ h9 => h9) rfl (by decide +kernel) rfl rfl (Nat.le_of_ble_eq_true rfl) dX11_init_151 (fun H locs hP hD hS => ?_)
  have hP : va_P (dC, dI) vwCl [(h0, .inr (11, [.int 0, .ref q1, .int 0, .int 0, .int 0, .int 0, .ref q2, .ref q3, .ref q4, .ref q5, .ref q6, .ref q7, .ref q8, .int 0, .int 0, .ref q9, .ref q10, .ref q11, .ref q12, .ref q13, .int 0, .int 0, .ref q14, .ref q15, .ref q16, .int 0, .int 0, .ref q17, .ref q18, .int (-1), .int 0, .null, .int 0, .long 0, .null, .int 0, .int 0, .null, .null, .null, .int 0])), (q1, .inl (cI, 240, .inl (fun _ => 0))), (q2, .inl (cI, 2600, .inl (fun _ => 0))), (q3, .inl (cI, 2600, .inl (fun _ => 0))), (q4, .inl (cI, 5, .inl (fun _ => 0))), (q5, .inl (cI, 5, .inl (fun _ => 0))), (q6, .inl (cI, 700, .inl (fun _ => 0))), (q7, .inl (cI, 700, .inl (fun _ => 0))), (q8, .inl (cI, 700, .inl (fun _ => 0))), (q9, .inl (cI, 6, .inl (fun _ => 0))), (q10, .inl (cI, 80, .inl (fun _ => 0))), (q11, .inl (cI, 3, .inl (fun _ => 0))), (q12, .inl (cI, 24, .inl (fun _ => 0))), (q13, .inl (cI, 20, .inl (fun _ => 0))), (q14, .inl (cI, 3, .inl (fun _ => 0))), (q15, .inl (cI, 24, .inl (fun _ => 0))), (q16, .inl (cI, 20, .inl (fun _ => 0))), (q17, .inl (cI, 97, .inl (fun _ => 0))), (q18, .inl (cI, 5, .inl (fun _ => 0)))] H := hP
  have hD : va_D A [(h0, .inr (11, [.int 0, .ref q1, .int 0, .int 0, .int 0, .int 0, .ref q2, .ref q3, .ref q4, .ref q5, .ref q6, .ref q7, .ref q8, .int 0, .int 0, .ref q9, .ref q10, .ref q11, .ref q12, .ref q13, .int 0, .int 0, .ref q14, .ref q15, .ref q16, .int 0, .int 0, .ref q17, .ref q18, .int (-1), .int 0, .null, .int 0, .long 0, .null, .int 0, .int 0, .null, .null, .null, .int 0])), (q1, .inl (cI, 240, .inl (fun _ => 0))), (q2, .inl (cI, 2600, .inl (fun _ => 0))), (q3, .inl (cI, 2600, .inl (fun _ => 0))), (q4, .inl (cI, 5, .inl (fun _ => 0))), (q5, .inl (cI, 5, .inl (fun _ => 0))), (q6, .inl (cI, 700, .inl (fun _ => 0))), (q7, .inl (cI, 700, .inl (fun _ => 0))), (q8, .inl (cI, 700, .inl (fun _ => 0))), (q9, .inl (cI, 6, .inl (fun _ => 0))), (q10, .inl (cI, 80, .inl (fun _ => 0))), (q11, .inl (cI, 3, .inl (fun _ => 0))), (q12, .inl (cI, 24, .inl (fun _ => 0))), (q13, .inl (cI, 20, .inl (fun _ => 0))), (q14, .inl (cI, 3, .inl (fun _ => 0))), (q15, .inl (cI, 24, .inl (fun _ => 0))), (q16, .inl (cI, 20, .inl (fun _ => 0))), (q17, .inl (cI, 97, .inl (fun _ => 0))), (q18, .inl (cI, 5, .inl (fun _ => 0)))] := hD
  refine lv_aload_n hx hb dX11_init_154 rfl (lv_at hl 0 rfl) ?_
  refine lv_sipush (v := 3880) hx hb dX11_init_155 (by decide) ?_
  refine va_newa (atype := .int) (ty := .int) (N' := 3880) (a0 := (3880, .inl (fun _ => 0))) hx hb (hts _ qw147) rfl hK hP hD hS hA (fun _ => rfl) (by decide) (by decide) (Nat.le_of_ble_eq_true rfl) (Nat.le_of_ble_eq_true rfl) (Nat.le_of_ble_eq_true rfl) dX11_init_158 (fun q19 cA H hK2 hP hD hS => ?_)
  obtain rfl : cI = cA := (zcA hK2 0 2 rfl rfl).symm
  have hP : va_P (dC, dI) vwCl [(h0, .inr (11, [.int 0, .ref q1, .int 0, .int 0, .int 0, .int 0, .ref q2, .ref q3, .ref q4, .ref q5, .ref q6, .ref q7, .ref q8, .int 0, .int 0, .ref q9, .ref q10, .ref q11, .ref q12, .ref q13, .int 0, .int 0, .ref q14, .ref q15, .ref q16, .int 0, .int 0, .ref q17, .ref q18, .int (-1), .int 0, .null, .int 0, .long 0, .null, .int 0, .int 0, .null, .null, .null, .int 0])), (q1, .inl (cI, 240, .inl (fun _ => 0))), (q2, .inl (cI, 2600, .inl (fun _ => 0))), (q3, .inl (cI, 2600, .inl (fun _ => 0))), (q4, .inl (cI, 5, .inl (fun _ => 0))), (q5, .inl (cI, 5, .inl (fun _ => 0))), (q6, .inl (cI, 700, .inl (fun _ => 0))), (q7, .inl (cI, 700, .inl (fun _ => 0))), (q8, .inl (cI, 700, .inl (fun _ => 0))), (q9, .inl (cI, 6, .inl (fun _ => 0))), (q10, .inl (cI, 80, .inl (fun _ => 0))), (q11, .inl (cI, 3, .inl (fun _ => 0))), (q12, .inl (cI, 24, .inl (fun _ => 0))), (q13, .inl (cI, 20, .inl (fun _ => 0))), (q14, .inl (cI, 3, .inl (fun _ => 0))), (q15, .inl (cI, 24, .inl (fun _ => 0))), (q16, .inl (cI, 20, .inl (fun _ => 0))), (q17, .inl (cI, 97, .inl (fun _ => 0))), (q18, .inl (cI, 5, .inl (fun _ => 0))), (q19, .inl (cI, 3880, .inl (fun _ => 0)))] H := hP
  have hD : va_D A [(h0, .inr (11, [.int 0, .ref q1, .int 0, .int 0, .int 0, .int 0, .ref q2, .ref q3, .ref q4, .ref q5, .ref q6, .ref q7, .ref q8, .int 0, .int 0, .ref q9, .ref q10, .ref q11, .ref q12, .ref q13, .int 0, .int 0, .ref q14, .ref q15, .ref q16, .int 0, .int 0, .ref q17, .ref q18, .int (-1), .int 0, .null, .int 0, .long 0, .null, .int 0, .int 0, .null, .null, .null, .int 0])), (q1, .inl (cI, 240, .inl (fun _ => 0))), (q2, .inl (cI, 2600, .inl (fun _ => 0))), (q3, .inl (cI, 2600, .inl (fun _ => 0))), (q4, .inl (cI, 5, .inl (fun _ => 0))), (q5, .inl (cI, 5, .inl (fun _ => 0))), (q6, .inl (cI, 700, .inl (fun _ => 0))), (q7, .inl (cI, 700, .inl (fun _ => 0))), (q8, .inl (cI, 700, .inl (fun _ => 0))), (q9, .inl (cI, 6, .inl (fun _ => 0))), (q10, .inl (cI, 80, .inl (fun _ => 0))), (q11, .inl (cI, 3, .inl (fun _ => 0))), (q12, .inl (cI, 24, .inl (fun _ => 0))), (q13, .inl (cI, 20, .inl (fun _ => 0))), (q14, .inl (cI, 3, .inl (fun _ => 0))), (q15, .inl (cI, 24, .inl (fun _ => 0))), (q16, .inl (cI, 20, .inl (fun _ => 0))), (q17, .inl (cI, 97, .inl (fun _ => 0))), (q18, .inl (cI, 5, .inl (fun _ => 0))), (q19, .inl (cI, 3880, .inl (fun _ => 0)))] := hD
  refine W.widen (k := 19) (n := 11712) (Nat.le_of_ble_eq_true rfl) (Nat.le_of_ble_eq_true rfl) ?_
  refine va_putF (D := (dC, dI)) (ci := 11) (v := .ref q19) (ty := .array .int) (C := RX11) (T := TX11) (N := 41) hx hb hts iX11 tyX11 tyX11_ok nmX11 hown hK hP hD hS 0 rfl rfl 31 (by decide) (hts _ qw1158) (fun _ h9 => h9) rfl hin rfl (by decide +kernel) rfl rfl (Nat.le_of_ble_eq_true rfl) dX11_init_160 (fun H locs hP hD hS => ?_)
  have hP : va_P (dC, dI) vwCl [(h0, .inr (11, [.int 0, .ref q1, .int 0, .int 0, .int 0, .int 0, .ref q2, .ref q3, .ref q4, .ref q5, .ref q6, .ref q7, .ref q8, .int 0, .int 0, .ref q9, .ref q10, .ref q11, .ref q12, .ref q13, .int 0, .int 0, .ref q14, .ref q15, .ref q16, .int 0, .int 0, .ref q17, .ref q18, .int (-1), .int 0, .ref q19, .int 0, .long 0, .null, .int 0, .int 0, .null, .null, .null, .int 0])), (q1, .inl (cI, 240, .inl (fun _ => 0))), (q2, .inl (cI, 2600, .inl (fun _ => 0))), (q3, .inl (cI, 2600, .inl (fun _ => 0))), (q4, .inl (cI, 5, .inl (fun _ => 0))), (q5, .inl (cI, 5, .inl (fun _ => 0))), (q6, .inl (cI, 700, .inl (fun _ => 0))), (q7, .inl (cI, 700, .inl (fun _ => 0))), (q8, .inl (cI, 700, .inl (fun _ => 0))), (q9, .inl (cI, 6, .inl (fun _ => 0))), (q10, .inl (cI, 80, .inl (fun _ => 0))), (q11, .inl (cI, 3, .inl (fun _ => 0))), (q12, .inl (cI, 24, .inl (fun _ => 0))), (q13, .inl (cI, 20, .inl (fun _ => 0))), (q14, .inl (cI, 3, .inl (fun _ => 0))), (q15, .inl (cI, 24, .inl (fun _ => 0))), (q16, .inl (cI, 20, .inl (fun _ => 0))), (q17, .inl (cI, 97, .inl (fun _ => 0))), (q18, .inl (cI, 5, .inl (fun _ => 0))), (q19, .inl (cI, 3880, .inl (fun _ => 0)))] H := hP
  have hD : va_D A [(h0, .inr (11, [.int 0, .ref q1, .int 0, .int 0, .int 0, .int 0, .ref q2, .ref q3, .ref q4, .ref q5, .ref q6, .ref q7, .ref q8, .int 0, .int 0, .ref q9, .ref q10, .ref q11, .ref q12, .ref q13, .int 0, .int 0, .ref q14, .ref q15, .ref q16, .int 0, .int 0, .ref q17, .ref q18, .int (-1), .int 0, .ref q19, .int 0, .long 0, .null, .int 0, .int 0, .null, .null, .null, .int 0])), (q1, .inl (cI, 240, .inl (fun _ => 0))), (q2, .inl (cI, 2600, .inl (fun _ => 0))), (q3, .inl (cI, 2600, .inl (fun _ => 0))), (q4, .inl (cI, 5, .inl (fun _ => 0))), (q5, .inl (cI, 5, .inl (fun _ => 0))), (q6, .inl (cI, 700, .inl (fun _ => 0))), (q7, .inl (cI, 700, .inl (fun _ => 0))), (q8, .inl (cI, 700, .inl (fun _ => 0))), (q9, .inl (cI, 6, .inl (fun _ => 0))), (q10, .inl (cI, 80, .inl (fun _ => 0))), (q11, .inl (cI, 3, .inl (fun _ => 0))), (q12, .inl (cI, 24, .inl (fun _ => 0))), (q13, .inl (cI, 20, .inl (fun _ => 0))), (q14, .inl (cI, 3, .inl (fun _ => 0))), (q15, .inl (cI, 24, .inl (fun _ => 0))), (q16, .inl (cI, 20, .inl (fun _ => 0))), (q17, .inl (cI, 97, .inl (fun _ => 0))), (q18, .inl (cI, 5, .inl (fun _ => 0))), (q19, .inl (cI, 3880, .inl (fun _ => 0)))] := hD
  refine lv_aload_n hx hb dX11_init_163 rfl (lv_at hl 0 rfl) ?_
  refine lv_bipush (v := 10) hx hb dX11_init_164 (by decide) ?_
  refine va_newa (atype := .int) (ty := .int) (N' := 10) (a0 := (10, .inl (fun _ => 0))) hx hb (hts _ qw147) rfl hK hP hD hS hA (fun _ => rfl) (by decide) (by decide) (Nat.le_of_ble_eq_true rfl) (Nat.le_of_ble_eq_true rfl) (Nat.le_of_ble_eq_true rfl) dX11_init_166 (fun q20 cA H hK2 hP hD hS => ?_)
  obtain rfl : cI = cA := (zcA hK2 0 2 rfl rfl).symm
  have hP : va_P (dC, dI) vwCl [(h0, .inr (11, [.int 0, .ref q1, .int 0, .int 0, .int 0, .int 0, .ref q2, .ref q3, .ref q4, .ref q5, .ref q6, .ref q7, .ref q8, .int 0, .int 0, .ref q9, .ref q10, .ref q11, .ref q12, .ref q13, .int 0, .int 0, .ref q14, .ref q15, .ref q16, .int 0, .int 0, .ref q17, .ref q18, .int (-1), .int 0, .ref q19, .int 0, .long 0, .null, .int 0, .int 0, .null, .null, .null, .int 0])), (q1, .inl (cI, 240, .inl (fun _ => 0))), (q2, .inl (cI, 2600, .inl (fun _ => 0))), (q3, .inl (cI, 2600, .inl (fun _ => 0))), (q4, .inl (cI, 5, .inl (fun _ => 0))), (q5, .inl (cI, 5, .inl (fun _ => 0))), (q6, .inl (cI, 700, .inl (fun _ => 0))), (q7, .inl (cI, 700, .inl (fun _ => 0))), (q8, .inl (cI, 700, .inl (fun _ => 0))), (q9, .inl (cI, 6, .inl (fun _ => 0))), (q10, .inl (cI, 80, .inl (fun _ => 0))), (q11, .inl (cI, 3, .inl (fun _ => 0))), (q12, .inl (cI, 24, .inl (fun _ => 0))), (q13, .inl (cI, 20, .inl (fun _ => 0))), (q14, .inl (cI, 3, .inl (fun _ => 0))), (q15, .inl (cI, 24, .inl (fun _ => 0))), (q16, .inl (cI, 20, .inl (fun _ => 0))), (q17, .inl (cI, 97, .inl (fun _ => 0))), (q18, .inl (cI, 5, .inl (fun _ => 0))), (q19, .inl (cI, 3880, .inl (fun _ => 0))), (q20, .inl (cI, 10, .inl (fun _ => 0)))] H := hP
  have hD : va_D A [(h0, .inr (11, [.int 0, .ref q1, .int 0, .int 0, .int 0, .int 0, .ref q2, .ref q3, .ref q4, .ref q5, .ref q6, .ref q7, .ref q8, .int 0, .int 0, .ref q9, .ref q10, .ref q11, .ref q12, .ref q13, .int 0, .int 0, .ref q14, .ref q15, .ref q16, .int 0, .int 0, .ref q17, .ref q18, .int (-1), .int 0, .ref q19, .int 0, .long 0, .null, .int 0, .int 0, .null, .null, .null, .int 0])), (q1, .inl (cI, 240, .inl (fun _ => 0))), (q2, .inl (cI, 2600, .inl (fun _ => 0))), (q3, .inl (cI, 2600, .inl (fun _ => 0))), (q4, .inl (cI, 5, .inl (fun _ => 0))), (q5, .inl (cI, 5, .inl (fun _ => 0))), (q6, .inl (cI, 700, .inl (fun _ => 0))), (q7, .inl (cI, 700, .inl (fun _ => 0))), (q8, .inl (cI, 700, .inl (fun _ => 0))), (q9, .inl (cI, 6, .inl (fun _ => 0))), (q10, .inl (cI, 80, .inl (fun _ => 0))), (q11, .inl (cI, 3, .inl (fun _ => 0))), (q12, .inl (cI, 24, .inl (fun _ => 0))), (q13, .inl (cI, 20, .inl (fun _ => 0))), (q14, .inl (cI, 3, .inl (fun _ => 0))), (q15, .inl (cI, 24, .inl (fun _ => 0))), (q16, .inl (cI, 20, .inl (fun _ => 0))), (q17, .inl (cI, 97, .inl (fun _ => 0))), (q18, .inl (cI, 5, .inl (fun _ => 0))), (q19, .inl (cI, 3880, .inl (fun _ => 0))), (q20, .inl (cI, 10, .inl (fun _ => 0)))] := hD
  refine W.widen (k := 20) (n := 11722) (Nat.le_of_ble_eq_true rfl) (Nat.le_of_ble_eq_true rfl) ?_
  refine va_putF (D := (dC, dI)) (ci := 11) (v := .ref q20) (ty := .array .int) (C := RX11) (T := TX11) (N := 41) hx hb hts iX11 tyX11 tyX11_ok nmX11 hown hK hP hD hS 0 rfl rfl 34 (by decide) (hts _ qw1161) (fun _ h9 => h9) rfl hin rfl (by decide +kernel) rfl rfl (Nat.le_of_ble_eq_true rfl) dX11_init_168 (fun H locs hP hD hS => ?_)
  have hP : va_P (dC, dI) vwCl [(h0, .inr (11, [.int 0, .ref q1, .int 0, .int 0, .int 0, .int 0, .ref q2, .ref q3, .ref q4, .ref q5, .ref q6, .ref q7, .ref q8, .int 0, .int 0, .ref q9, .ref q10, .ref q11, .ref q12, .ref q13, .int 0, .int 0, .ref q14, .ref q15, .ref q16, .int 0, .int 0, .ref q17, .ref q18, .int (-1), .int 0, .ref q19, .int 0, .long 0, .ref q20, .int 0, .int 0, .null, .null, .null, .int 0])), (q1, .inl (cI, 240, .inl (fun _ => 0))), (q2, .inl (cI, 2600, .inl (fun _ => 0))), (q3, .inl (cI, 2600, .inl (fun _ => 0))), (q4, .inl (cI, 5, .inl (fun _ => 0))), (q5, .inl (cI, 5, .inl (fun _ => 0))), (q6, .inl (cI, 700, .inl (fun _ => 0))), (q7, .inl (cI, 700, .inl (fun _ => 0))), (q8, .inl (cI, 700, .inl (fun _ => 0))), (q9, .inl (cI, 6, .inl (fun _ => 0))), (q10, .inl (cI, 80, .inl (fun _ => 0))), (q11, .inl (cI, 3, .inl (fun _ => 0))), (q12, .inl (cI, 24, .inl (fun _ => 0))), (q13, .inl (cI, 20, .inl (fun _ => 0))), (q14, .inl (cI, 3, .inl (fun _ => 0))), (q15, .inl (cI, 24, .inl (fun _ => 0))), (q16, .inl (cI, 20, .inl (fun _ => 0))), (q17, .inl (cI, 97, .inl (fun _ => 0))), (q18, .inl (cI, 5, .inl (fun _ => 0))), (q19, .inl (cI, 3880, .inl (fun _ => 0))), (q20, .inl (cI, 10, .inl (fun _ => 0)))] H := hP
  have hD : va_D A [(h0, .inr (11, [.int 0, .ref q1, .int 0, .int 0, .int 0, .int 0, .ref q2, .ref q3, .ref q4, .ref q5, .ref q6, .ref q7, .ref q8, .int 0, .int 0, .ref q9, .ref q10, .ref q11, .ref q12, .ref q13, .int 0, .int 0, .ref q14, .ref q15, .ref q16, .int 0, .int 0, .ref q17, .ref q18, .int (-1), .int 0, .ref q19, .int 0, .long 0, .ref q20, .int 0, .int 0, .null, .null, .null, .int 0])), (q1, .inl (cI, 240, .inl (fun _ => 0))), (q2, .inl (cI, 2600, .inl (fun _ => 0))), (q3, .inl (cI, 2600, .inl (fun _ => 0))), (q4, .inl (cI, 5, .inl (fun _ => 0))), (q5, .inl (cI, 5, .inl (fun _ => 0))), (q6, .inl (cI, 700, .inl (fun _ => 0))), (q7, .inl (cI, 700, .inl (fun _ => 0))), (q8, .inl (cI, 700, .inl (fun _ => 0))), (q9, .inl (cI, 6, .inl (fun _ => 0))), (q10, .inl (cI, 80, .inl (fun _ => 0))), (q11, .inl (cI, 3, .inl (fun _ => 0))), (q12, .inl (cI, 24, .inl (fun _ => 0))), (q13, .inl (cI, 20, .inl (fun _ => 0))), (q14, .inl (cI, 3, .inl (fun _ => 0))), (q15, .inl (cI, 24, .inl (fun _ => 0))), (q16, .inl (cI, 20, .inl (fun _ => 0))), (q17, .inl (cI, 97, .inl (fun _ => 0))), (q18, .inl (cI, 5, .inl (fun _ => 0))), (q19, .inl (cI, 3880, .inl (fun _ => 0))), (q20, .inl (cI, 10, .inl (fun _ => 0)))] := hD
  refine lv_aload_n hx hb dX11_init_171 rfl (lv_at hl 0 rfl) ?_
  refine lv_bipush (v := 6) hx hb dX11_init_172 (by decide) ?_
  refine va_newa (atype := .int) (ty := .int) (N' := 6) (a0 := (6, .inl (fun _ => 0))) hx hb (hts _ qw147) rfl hK hP hD hS hA (fun _ => rfl) (by decide) (by decide) (Nat.le_of_ble_eq_true rfl) (Nat.le_of_ble_eq_true rfl) (Nat.le_of_ble_eq_true rfl) dX11_init_174 (fun q21 cA H hK2 hP hD hS => ?_)
  obtain rfl : cI = cA := (zcA hK2 0 2 rfl rfl).symm
  have hP : va_P (dC, dI) vwCl [(h0, .inr (11, [.int 0, .ref q1, .int 0, .int 0, .int 0, .int 0, .ref q2, .ref q3, .ref q4, .ref q5, .ref q6, .ref q7, .ref q8, .int 0, .int 0, .ref q9, .ref q10, .ref q11, .ref q12, .ref q13, .int 0, .int 0, .ref q14, .ref q15, .ref q16, .int 0, .int 0, .ref q17, .ref q18, .int (-1), .int 0, .ref q19, .int 0, .long 0, .ref q20, .int 0, .int 0, .null, .null, .null, .int 0])), (q1, .inl (cI, 240, .inl (fun _ => 0))), (q2, .inl (cI, 2600, .inl (fun _ => 0))), (q3, .inl (cI, 2600, .inl (fun _ => 0))), (q4, .inl (cI, 5, .inl (fun _ => 0))), (q5, .inl (cI, 5, .inl (fun _ => 0))), (q6, .inl (cI, 700, .inl (fun _ => 0))), (q7, .inl (cI, 700, .inl (fun _ => 0))), (q8, .inl (cI, 700, .inl (fun _ => 0))), (q9, .inl (cI, 6, .inl (fun _ => 0))), (q10, .inl (cI, 80, .inl (fun _ => 0))), (q11, .inl (cI, 3, .inl (fun _ => 0))), (q12, .inl (cI, 24, .inl (fun _ => 0))), (q13, .inl (cI, 20, .inl (fun _ => 0))), (q14, .inl (cI, 3, .inl (fun _ => 0))), (q15, .inl (cI, 24, .inl (fun _ => 0))), (q16, .inl (cI, 20, .inl (fun _ => 0))), (q17, .inl (cI, 97, .inl (fun _ => 0))), (q18, .inl (cI, 5, .inl (fun _ => 0))), (q19, .inl (cI, 3880, .inl (fun _ => 0))), (q20, .inl (cI, 10, .inl (fun _ => 0))), (q21, .inl (cI, 6, .inl (fun _ => 0)))] H := hP
  have hD : va_D A [(h0, .inr (11, [.int 0, .ref q1, .int 0, .int 0, .int 0, .int 0, .ref q2, .ref q3, .ref q4, .ref q5, .ref q6, .ref q7, .ref q8, .int 0, .int 0, .ref q9, .ref q10, .ref q11, .ref q12, .ref q13, .int 0, .int 0, .ref q14, .ref q15, .ref q16, .int 0, .int 0, .ref q17, .ref q18, .int (-1), .int 0, .ref q19, .int 0, .long 0, .ref q20, .int 0, .int 0, .null, .null, .null, .int 0])), (q1, .inl (cI, 240, .inl (fun _ => 0))), (q2, .inl (cI, 2600, .inl (fun _ => 0))), (q3, .inl (cI, 2600, .inl (fun _ => 0))), (q4, .inl (cI, 5, .inl (fun _ => 0))), (q5, .inl (cI, 5, .inl (fun _ => 0))), (q6, .inl (cI, 700, .inl (fun _ => 0))), (q7, .inl (cI, 700, .inl (fun _ => 0))), (q8, .inl (cI, 700, .inl (fun _ => 0))), (q9, .inl (cI, 6, .inl (fun _ => 0))), (q10, .inl (cI, 80, .inl (fun _ => 0))), (q11, .inl (cI, 3, .inl (fun _ => 0))), (q12, .inl (cI, 24, .inl (fun _ => 0))), (q13, .inl (cI, 20, .inl (fun _ => 0))), (q14, .inl (cI, 3, .inl (fun _ => 0))), (q15, .inl (cI, 24, .inl (fun _ => 0))), (q16, .inl (cI, 20, .inl (fun _ => 0))), (q17, .inl (cI, 97, .inl (fun _ => 0))), (q18, .inl (cI, 5, .inl (fun _ => 0))), (q19, .inl (cI, 3880, .inl (fun _ => 0))), (q20, .inl (cI, 10, .inl (fun _ => 0))), (q21, .inl (cI, 6, .inl (fun _ => 0)))] := hD
  refine W.widen (k := 21) (n := 11728) (Nat.le_of_ble_eq_true rfl) (Nat.le_of_ble_eq_true rfl) ?_
  refine va_putF (D := (dC, dI)) (ci := 11) (v := .ref q21) (ty := .array .int) (C := RX11) (T := TX11) (N := 41) hx hb hts iX11 tyX11 tyX11_ok nmX11 hown hK hP hD hS 0 rfl rfl 37 (by decide) (hts _ qw1164) (fun _ h9 => h9) rfl hin rfl (by decide +kernel) rfl rfl (Nat.le_of_ble_eq_true rfl) dX11_init_176 (fun H locs hP hD hS => ?_)
  have hP : va_P (dC, dI) vwCl [(h0, .inr (11, [.int 0, .ref q1, .int 0, .int 0, .int 0, .int 0, .ref q2, .ref q3, .ref q4, .ref q5, .ref q6, .ref q7, .ref q8, .int 0, .int 0, .ref q9, .ref q10, .ref q11, .ref q12, .ref q13, .int 0, .int 0, .ref q14, .ref q15, .ref q16, .int 0, .int 0, .ref q17, .ref q18, .int (-1), .int 0, .ref q19, .int 0, .long 0, .ref q20, .int 0, .int 0, .ref q21, .null, .null, .int 0])), (q1, .inl (cI, 240, .inl (fun _ => 0))), (q2, .inl (cI, 2600, .inl (fun _ => 0))), (q3, .inl (cI, 2600, .inl (fun _ => 0))), (q4, .inl (cI, 5, .inl (fun _ => 0))), (q5, .inl (cI, 5, .inl (fun _ => 0))), (q6, .inl (cI, 700, .inl (fun _ => 0))), (q7, .inl (cI, 700, .inl (fun _ => 0))), (q8, .inl (cI, 700, .inl (fun _ => 0))), (q9, .inl (cI, 6, .inl (fun _ => 0))), (q10, .inl (cI, 80, .inl (fun _ => 0))), (q11, .inl (cI, 3, .inl (fun _ => 0))), (q12, .inl (cI, 24, .inl (fun _ => 0))), (q13, .inl (cI, 20, .inl (fun _ => 0))), (q14, .inl (cI, 3, .inl (fun _ => 0))), (q15, .inl (cI, 24, .inl (fun _ => 0))), (q16, .inl (cI, 20, .inl (fun _ => 0))), (q17, .inl (cI, 97, .inl (fun _ => 0))), (q18, .inl (cI, 5, .inl (fun _ => 0))), (q19, .inl (cI, 3880, .inl (fun _ => 0))), (q20, .inl (cI, 10, .inl (fun _ => 0))), (q21, .inl (cI, 6, .inl (fun _ => 0)))] H := hP
  have hD : va_D A [(h0, .inr (11, [.int 0, .ref q1, .int 0, .int 0, .int 0, .int 0, .ref q2, .ref q3, .ref q4, .ref q5, .ref q6, .ref q7, .ref q8, .int 0, .int 0, .ref q9, .ref q10, .ref q11, .ref q12, .ref q13, .int 0, .int 0, .ref q14, .ref q15, .ref q16, .int 0, .int 0, .ref q17, .ref q18, .int (-1), .int 0, .ref q19, .int 0, .long 0, .ref q20, .int 0, .int 0, .ref q21, .null, .null, .int 0])), (q1, .inl (cI, 240, .inl (fun _ => 0))), (q2, .inl (cI, 2600, .inl (fun _ => 0))), (q3, .inl (cI, 2600, .inl (fun _ => 0))), (q4, .inl (cI, 5, .inl (fun _ => 0))), (q5, .inl (cI, 5, .inl (fun _ => 0))), (q6, .inl (cI, 700, .inl (fun _ => 0))), (q7, .inl (cI, 700, .inl (fun _ => 0))), (q8, .inl (cI, 700, .inl (fun _ => 0))), (q9, .inl (cI, 6, .inl (fun _ => 0))), (q10, .inl (cI, 80, .inl (fun _ => 0))), (q11, .inl (cI, 3, .inl (fun _ => 0))), (q12, .inl (cI, 24, .inl (fun _ => 0))), (q13, .inl (cI, 20, .inl (fun _ => 0))), (q14, .inl (cI, 3, .inl (fun _ => 0))), (q15, .inl (cI, 24, .inl (fun _ => 0))), (q16, .inl (cI, 20, .inl (fun _ => 0))), (q17, .inl (cI, 97, .inl (fun _ => 0))), (q18, .inl (cI, 5, .inl (fun _ => 0))), (q19, .inl (cI, 3880, .inl (fun _ => 0))), (q20, .inl (cI, 10, .inl (fun _ => 0))), (q21, .inl (cI, 6, .inl (fun _ => 0)))] := hD
  refine lv_aload_n hx hb dX11_init_179 rfl (lv_at hl 0 rfl) ?_
  refine lv_iconst (v := 5) hx hb dX11_init_180 (by decide) ?_
  refine va_newa (atype := .int) (ty := .int) (N' := 5) (a0 := (5, .inl (fun _ => 0))) hx hb (hts _ qw147) rfl hK hP hD hS hA (fun _ => rfl) (by decide) (by decide) (Nat.le_of_ble_eq_true rfl) (Nat.le_of_ble_eq_true rfl) (Nat.le_of_ble_eq_true rfl) dX11_init_181 (fun q22 cA H hK2 hP hD hS => ?_)
  obtain rfl : cI = cA := (zcA hK2 0 2 rfl rfl).symm
  have hP : va_P (dC, dI) vwCl [(h0, .inr (11, [.int 0, .ref q1, .int 0, .int 0, .int 0, .int 0, .ref q2, .ref q3, .ref q4, .ref q5, .ref q6, .ref q7, .ref q8, .int 0, .int 0, .ref q9, .ref q10, .ref q11, .ref q12, .ref q13, .int 0, .int 0, .ref q14, .ref q15, .ref q16, .int 0, .int 0, .ref q17, .ref q18, .int (-1), .int 0, .ref q19, .int 0, .long 0, .ref q20, .int 0, .int 0, .ref q21, .null, .null, .int 0])), (q1, .inl (cI, 240, .inl (fun _ => 0))), (q2, .inl (cI, 2600, .inl (fun _ => 0))), (q3, .inl (cI, 2600, .inl (fun _ => 0))), (q4, .inl (cI, 5, .inl (fun _ => 0))), (q5, .inl (cI, 5, .inl (fun _ => 0))), (q6, .inl (cI, 700, .inl (fun _ => 0))), (q7, .inl (cI, 700, .inl (fun _ => 0))), (q8, .inl (cI, 700, .inl (fun _ => 0))), (q9, .inl (cI, 6, .inl (fun _ => 0))), (q10, .inl (cI, 80, .inl (fun _ => 0))), (q11, .inl (cI, 3, .inl (fun _ => 0))), (q12, .inl (cI, 24, .inl (fun _ => 0))), (q13, .inl (cI, 20, .inl (fun _ => 0))), (q14, .inl (cI, 3, .inl (fun _ => 0))), (q15, .inl (cI, 24, .inl (fun _ => 0))), (q16, .inl (cI, 20, .inl (fun _ => 0))), (q17, .inl (cI, 97, .inl (fun _ => 0))), (q18, .inl (cI, 5, .inl (fun _ => 0))), (q19, .inl (cI, 3880, .inl (fun _ => 0))), (q20, .inl (cI, 10, .inl (fun _ => 0))), (q21, .inl (cI, 6, .inl (fun _ => 0))), (q22, .inl (cI, 5, .inl (fun _ => 0)))] H := hP
  have hD : va_D A [(h0, .inr (11, [.int 0, .ref q1, .int 0, .int 0, .int 0, .int 0, .ref q2, .ref q3, .ref q4, .ref q5, .ref q6, .ref q7, .ref q8, .int 0, .int 0, .ref q9, .ref q10, .ref q11, .ref q12, .ref q13, .int 0, .int 0, .ref q14, .ref q15, .ref q16, .int 0, .int 0, .ref q17, .ref q18, .int (-1), .int 0, .ref q19, .int 0, .long 0, .ref q20, .int 0, .int 0, .ref q21, .null, .null, .int 0])), (q1, .inl (cI, 240, .inl (fun _ => 0))), (q2, .inl (cI, 2600, .inl (fun _ => 0))), (q3, .inl (cI, 2600, .inl (fun _ => 0))), (q4, .inl (cI, 5, .inl (fun _ => 0))), (q5, .inl (cI, 5, .inl (fun _ => 0))), (q6, .inl (cI, 700, .inl (fun _ => 0))), (q7, .inl (cI, 700, .inl (fun _ => 0))), (q8, .inl (cI, 700, .inl (fun _ => 0))), (q9, .inl (cI, 6, .inl (fun _ => 0))), (q10, .inl (cI, 80, .inl (fun _ => 0))), (q11, .inl (cI, 3, .inl (fun _ => 0))), (q12, .inl (cI, 24, .inl (fun _ => 0))), (q13, .inl (cI, 20, .inl (fun _ => 0))), (q14, .inl (cI, 3, .inl (fun _ => 0))), (q15, .inl (cI, 24, .inl (fun _ => 0))), (q16, .inl (cI, 20, .inl (fun _ => 0))), (q17, .inl (cI, 97, .inl (fun _ => 0))), (q18, .inl (cI, 5, .inl (fun _ => 0))), (q19, .inl (cI, 3880, .inl (fun _ => 0))), (q20, .inl (cI, 10, .inl (fun _ => 0))), (q21, .inl (cI, 6, .inl (fun _ => 0))), (q22, .inl (cI, 5, .inl (fun _ => 0)))] := hD
  refine W.widen (k := 22) (n := 11733) (Nat.le_of_ble_eq_true rfl) (Nat.le_of_ble_eq_true rfl) ?_
  refine va_putF (D := (dC, dI)) (ci := 11) (v := .ref q22) (ty := .array .int) (C := RX11) (T := TX11) (N := 41) hx hb hts iX11 tyX11 tyX11_ok nmX11 hown hK hP hD hS 0 rfl rfl 38 (by decide) (hts _ qw1165) (fun _ h9 => h9) rfl hin rfl (by decide +kernel) rfl rfl (Nat.le_of_ble_eq_true rfl) dX11_init_183 (fun H locs hP hD hS => ?_)
  have hP : va_P (dC, dI) vwCl [(h0, .inr (11, [.int 0, .ref q1, .int 0, .int 0, .int 0, .int 0, .ref q2, .ref q3, .ref q4, .ref q5, .ref q6, .ref q7, .ref q8, .int 0, .int 0, .ref q9, .ref q10, .ref q11, .ref q12, .ref q13, .int 0, .int 0, .ref q14, .ref q15, .ref q16, .int 0, .int 0, .ref q17, .ref q18, .int (-1), .int 0, .ref q19, .int 0, .long 0, .ref q20, .int 0, .int 0, .ref q21, .ref q22, .null, .int 0])), (q1, .inl (cI, 240, .inl (fun _ => 0))), (q2, .inl (cI, 2600, .inl (fun _ => 0))), (q3, .inl (cI, 2600, .inl (fun _ => 0))), (q4, .inl (cI, 5, .inl (fun _ => 0))), (q5, .inl (cI, 5, .inl (fun _ => 0))), (q6, .inl (cI, 700, .inl (fun _ => 0))), (q7, .inl (cI, 700, .inl (fun _ => 0))), (q8, .inl (cI, 700, .inl (fun _ => 0))), (q9, .inl (cI, 6, .inl (fun _ => 0))), (q10, .inl (cI, 80, .inl (fun _ => 0))), (q11, .inl (cI, 3, .inl (fun _ => 0))), (q12, .inl (cI, 24, .inl (fun _ => 0))), (q13, .inl (cI, 20, .inl (fun _ => 0))), (q14, .inl (cI, 3, .inl (fun _ => 0))), (q15, .inl (cI, 24, .inl (fun _ => 0))), (q16, .inl (cI, 20, .inl (fun _ => 0))), (q17, .inl (cI, 97, .inl (fun _ => 0))), (q18, .inl (cI, 5, .inl (fun _ => 0))), (q19, .inl (cI, 3880, .inl (fun _ => 0))), (q20, .inl (cI, 10, .inl (fun _ => 0))), (q21, .inl (cI, 6, .inl (fun _ => 0))), (q22, .inl (cI, 5, .inl (fun _ => 0)))] H := hP
  have hD : va_D A [(h0, .inr (11, [.int 0, .ref q1, .int 0, .int 0, .int 0, .int 0, .ref q2, .ref q3, .ref q4, .ref q5, .ref q6, .ref q7, .ref q8, .int 0, .int 0, .ref q9, .ref q10, .ref q11, .ref q12, .ref q13, .int 0, .int 0, .ref q14, .ref q15, .ref q16, .int 0, .int 0, .ref q17, .ref q18, .int (-1), .int 0, .ref q19, .int 0, .long 0, .ref q20, .int 0, .int 0, .ref q21, .ref q22, .null, .int 0])), (q1, .inl (cI, 240, .inl (fun _ => 0))), (q2, .inl (cI, 2600, .inl (fun _ => 0))), (q3, .inl (cI, 2600, .inl (fun _ => 0))), (q4, .inl (cI, 5, .inl (fun _ => 0))), (q5, .inl (cI, 5, .inl (fun _ => 0))), (q6, .inl (cI, 700, .inl (fun _ => 0))), (q7, .inl (cI, 700, .inl (fun _ => 0))), (q8, .inl (cI, 700, .inl (fun _ => 0))), (q9, .inl (cI, 6, .inl (fun _ => 0))), (q10, .inl (cI, 80, .inl (fun _ => 0))), (q11, .inl (cI, 3, .inl (fun _ => 0))), (q12, .inl (cI, 24, .inl (fun _ => 0))), (q13, .inl (cI, 20, .inl (fun _ => 0))), (q14, .inl (cI, 3, .inl (fun _ => 0))), (q15, .inl (cI, 24, .inl (fun _ => 0))), (q16, .inl (cI, 20, .inl (fun _ => 0))), (q17, .inl (cI, 97, .inl (fun _ => 0))), (q18, .inl (cI, 5, .inl (fun _ => 0))), (q19, .inl (cI, 3880, .inl (fun _ => 0))), (q20, .inl (cI, 10, .inl (fun _ => 0))), (q21, .inl (cI, 6, .inl (fun _ => 0))), (q22, .inl (cI, 5, .inl (fun _ => 0)))] := hD
  refine lv_aload_n hx hb dX11_init_186 rfl (lv_at hl 0 rfl) ?_
  refine lv_bipush (v := 97) hx hb dX11_init_187 (by decide) ?_
  refine va_newa (atype := .int) (ty := .int) (N' := 97) (a0 := (97, .inl (fun _ => 0))) hx hb (hts _ qw147) rfl hK hP hD hS hA (fun _ => rfl) (by decide) (by decide) (Nat.le_of_ble_eq_true rfl) (Nat.le_of_ble_eq_true rfl) (Nat.le_of_ble_eq_true rfl) dX11_init_189 (fun q23 cA H hK2 hP hD hS => ?_)
  obtain rfl : cI = cA := (zcA hK2 0 2 rfl rfl).symm
  have hP : va_P (dC, dI) vwCl [(h0, .inr (11, [.int 0, .ref q1, .int 0, .int 0, .int 0, .int 0, .ref q2, .ref q3, .ref q4, .ref q5, .ref q6, .ref q7, .ref q8, .int 0, .int 0, .ref q9, .ref q10, .ref q11, .ref q12, .ref q13, .int 0, .int 0, .ref q14, .ref q15, .ref q16, .int 0, .int 0, .ref q17, .ref q18, .int (-1), .int 0, .ref q19, .int 0, .long 0, .ref q20, .int 0, .int 0, .ref q21, .ref q22, .null, .int 0])), (q1, .inl (cI, 240, .inl (fun _ => 0))), (q2, .inl (cI, 2600, .inl (fun _ => 0))), (q3, .inl (cI, 2600, .inl (fun _ => 0))), (q4, .inl (cI, 5, .inl (fun _ => 0))), (q5, .inl (cI, 5, .inl (fun _ => 0))), (q6, .inl (cI, 700, .inl (fun _ => 0))), (q7, .inl (cI, 700, .inl (fun _ => 0))), (q8, .inl (cI, 700, .inl (fun _ => 0))), (q9, .inl (cI, 6, .inl (fun _ => 0))), (q10, .inl (cI, 80, .inl (fun _ => 0))), (q11, .inl (cI, 3, .inl (fun _ => 0))), (q12, .inl (cI, 24, .inl (fun _ => 0))), (q13, .inl (cI, 20, .inl (fun _ => 0))), (q14, .inl (cI, 3, .inl (fun _ => 0))), (q15, .inl (cI, 24, .inl (fun _ => 0))), (q16, .inl (cI, 20, .inl (fun _ => 0))), (q17, .inl (cI, 97, .inl (fun _ => 0))), (q18, .inl (cI, 5, .inl (fun _ => 0))), (q19, .inl (cI, 3880, .inl (fun _ => 0))), (q20, .inl (cI, 10, .inl (fun _ => 0))), (q21, .inl (cI, 6, .inl (fun _ => 0))), (q22, .inl (cI, 5, .inl (fun _ => 0))), (q23, .inl (cI, 97, .inl (fun _ => 0)))] H := hP
  have hD : va_D A [(h0, .inr (11, [.int 0, .ref q1, .int 0, .int 0, .int 0, .int 0, .ref q2, .ref q3, .ref q4, .ref q5, .ref q6, .ref q7, .ref q8, .int 0, .int 0, .ref q9, .ref q10, .ref q11, .ref q12, .ref q13, .int 0, .int 0, .ref q14, .ref q15, .ref q16, .int 0, .int 0, .ref q17, .ref q18, .int (-1), .int 0, .ref q19, .int 0, .long 0, .ref q20, .int 0, .int 0, .ref q21, .ref q22, .null, .int 0])), (q1, .inl (cI, 240, .inl (fun _ => 0))), (q2, .inl (cI, 2600, .inl (fun _ => 0))), (q3, .inl (cI, 2600, .inl (fun _ => 0))), (q4, .inl (cI, 5, .inl (fun _ => 0))), (q5, .inl (cI, 5, .inl (fun _ => 0))), (q6, .inl (cI, 700, .inl (fun _ => 0))), (q7, .inl (cI, 700, .inl (fun _ => 0))), (q8, .inl (cI, 700, .inl (fun _ => 0))), (q9, .inl (cI, 6, .inl (fun _ => 0))), (q10, .inl (cI, 80, .inl (fun _ => 0))), (q11, .inl (cI, 3, .inl (fun _ => 0))), (q12, .inl (cI, 24, .inl (fun _ => 0))), (q13, .inl (cI, 20, .inl (fun _ => 0))), (q14, .inl (cI, 3, .inl (fun _ => 0))), (q15, .inl (cI, 24, .inl (fun _ => 0))), (q16, .inl (cI, 20, .inl (fun _ => 0))), (q17, .inl (cI, 97, .inl (fun _ => 0))), (q18, .inl (cI, 5, .inl (fun _ => 0))), (q19, .inl (cI, 3880, .inl (fun _ => 0))), (q20, .inl (cI, 10, .inl (fun _ => 0))), (q21, .inl (cI, 6, .inl (fun _ => 0))), (q22, .inl (cI, 5, .inl (fun _ => 0))), (q23, .inl (cI, 97, .inl (fun _ => 0)))] := hD
  refine W.widen (k := 23) (n := 11830) (Nat.le_of_ble_eq_true rfl) (Nat.le_of_ble_eq_true rfl) ?_
  refine va_putF (D := (dC, dI)) (ci := 11) (v := .ref q23) (ty := .array .int) (C := RX11) (T := TX11) (N := 41) hx hb hts iX11 tyX11 tyX11_ok nmX11 hown hK hP hD hS 0 rfl rfl 39 (by decide) (hts _ qw1166) (fun _ h9 => h9) rfl hin rfl (by decide +kernel) rfl rfl (Nat.le_of_ble_eq_true rfl) dX11_init_191 (fun H locs hP hD hS => ?_)
  have hP : va_P (dC, dI) vwCl [(h0, .inr (11, [.int 0, .ref q1, .int 0, .int 0, .int 0, .int 0, .ref q2, .ref q3, .ref q4, .ref q5, .ref q6, .ref q7, .ref q8, .int 0, .int 0, .ref q9, .ref q10, .ref q11, .ref q12, .ref q13, .int 0, .int 0, .ref q14, .ref q15, .ref q16, .int 0, .int 0, .ref q17, .ref q18, .int (-1), .int 0, .ref q19, .int 0, .long 0, .ref q20, .int 0, .int 0, .ref q21, .ref q22, .ref q23, .int 0])), (q1, .inl (cI, 240, .inl (fun _ => 0))), (q2, .inl (cI, 2600, .inl (fun _ => 0))), (q3, .inl (cI, 2600, .inl (fun _ => 0))), (q4, .inl (cI, 5, .inl (fun _ => 0))), (q5, .inl (cI, 5, .inl (fun _ => 0))), (q6, .inl (cI, 700, .inl (fun _ => 0))), (q7, .inl (cI, 700, .inl (fun _ => 0))), (q8, .inl (cI, 700, .inl (fun _ => 0))), (q9, .inl (cI, 6, .inl (fun _ => 0))), (q10, .inl (cI, 80, .inl (fun _ => 0))), (q11, .inl (cI, 3, .inl (fun _ => 0))), (q12, .inl (cI, 24, .inl (fun _ => 0))), (q13, .inl (cI, 20, .inl (fun _ => 0))), (q14, .inl (cI, 3, .inl (fun _ => 0))), (q15, .inl (cI, 24, .inl (fun _ => 0))), (q16, .inl (cI, 20, .inl (fun _ => 0))), (q17, .inl (cI, 97, .inl (fun _ => 0))), (q18, .inl (cI, 5, .inl (fun _ => 0))), (q19, .inl (cI, 3880, .inl (fun _ => 0))), (q20, .inl (cI, 10, .inl (fun _ => 0))), (q21, .inl (cI, 6, .inl (fun _ => 0))), (q22, .inl (cI, 5, .inl (fun _ => 0))), (q23, .inl (cI, 97, .inl (fun _ => 0)))] H := hP
  have hD : va_D A [(h0, .inr (11, [.int 0, .ref q1, .int 0, .int 0, .int 0, .int 0, .ref q2, .ref q3, .ref q4, .ref q5, .ref q6, .ref q7, .ref q8, .int 0, .int 0, .ref q9, .ref q10, .ref q11, .ref q12, .ref q13, .int 0, .int 0, .ref q14, .ref q15, .ref q16, .int 0, .int 0, .ref q17, .ref q18, .int (-1), .int 0, .ref q19, .int 0, .long 0, .ref q20, .int 0, .int 0, .ref q21, .ref q22, .ref q23, .int 0])), (q1, .inl (cI, 240, .inl (fun _ => 0))), (q2, .inl (cI, 2600, .inl (fun _ => 0))), (q3, .inl (cI, 2600, .inl (fun _ => 0))), (q4, .inl (cI, 5, .inl (fun _ => 0))), (q5, .inl (cI, 5, .inl (fun _ => 0))), (q6, .inl (cI, 700, .inl (fun _ => 0))), (q7, .inl (cI, 700, .inl (fun _ => 0))), (q8, .inl (cI, 700, .inl (fun _ => 0))), (q9, .inl (cI, 6, .inl (fun _ => 0))), (q10, .inl (cI, 80, .inl (fun _ => 0))), (q11, .inl (cI, 3, .inl (fun _ => 0))), (q12, .inl (cI, 24, .inl (fun _ => 0))), (q13, .inl (cI, 20, .inl (fun _ => 0))), (q14, .inl (cI, 3, .inl (fun _ => 0))), (q15, .inl (cI, 24, .inl (fun _ => 0))), (q16, .inl (cI, 20, .inl (fun _ => 0))), (q17, .inl (cI, 97, .inl (fun _ => 0))), (q18, .inl (cI, 5, .inl (fun _ => 0))), (q19, .inl (cI, 3880, .inl (fun _ => 0))), (q20, .inl (cI, 10, .inl (fun _ => 0))), (q21, .inl (cI, 6, .inl (fun _ => 0))), (q22, .inl (cI, 5, .inl (fun _ => 0))), (q23, .inl (cI, 97, .inl (fun _ => 0)))] := hD
  exact W.vret hx hb hr (fun t ht hW => ⟨⟨(), rfl, trivial, ⟨q1, q2, q3, q4, q5, q6, q7, q8, q9, q10, q11, q12, q13, q14, q15, q16, q17, q18, q19, q20, q21, q22, q23, by rw [ht]; exact hP, hD⟩⟩, hS.F ht⟩) hS.2.2 dX11_init_194
end
