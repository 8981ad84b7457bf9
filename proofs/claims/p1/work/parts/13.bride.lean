def zEx : String := "java/util/NoSuchElementException"
def zEn : List String := ["java/lang/RuntimeException", "java/lang/Exception"]
def zB0 : List Cond := [.declares ⟨"java/lang/RuntimeException", "<init>", "()V"⟩, .declares ⟨"java/lang/Exception", "<init>", "()V"⟩, .declares ⟨"java/lang/Throwable", "<init>", "()V"⟩, .castable zEx zEx]
set_option maxRecDepth 20000 in
theorem zxg0 : ∀ w ∈ (vx_at0 RX10 160 zEx zEn).filter goodWord, w ∈ lw_tbl := by decide +kernel
theorem zxg : ∀ w ∈ (vx_at0 RX10 160 zEx zEn).filter goodWord, w ∈ wA := fun w h => List.mem_filter.mpr ⟨zxg0 w h, (List.mem_filter.mp h).2⟩
set_option maxRecDepth 20000 in
theorem zxb : ∀ w ∈ (vx_at0 RX10 160 zEx zEn).filter (fun w => !goodWord w), w ∈ zB0 := by decide +kernel
set_option maxRecDepth 20000 in
theorem zxo : ∀ w ∈ Cond.classLink RX10 158 zEx :: Cond.initialized zEx :: vx_at0 RX10 160 zEx zEn, vx_ot w = true := by decide +kernel
/-- what a throw needs beside the good words -/
def zG (A : Nat → Prop) (U : State) : Prop := (va_Nw (.declares ⟨"java/lang/RuntimeException", "<init>", "()V"⟩) U ∧ va_Nw (.declares ⟨"java/lang/Exception", "<init>", "()V"⟩) U ∧ va_Nw (.declares ⟨"java/lang/Throwable", "<init>", "()V"⟩) U ∧ va_Nw (.castable zEx zEx) U) ∧ vx_Zq Bundle.tN "UNASSIGNED_STACK" Bundle.steD A U U.heap ∧ vx_Zq Bundle.tN "SUPPRESSED_SENTINEL" Bundle.listD A U U.heap
theorem zG_words {A : Nat → Prop} {s : State} {args : Array Value} (h : zG A s) : ∀ w ∈ zB0, w.before args s = true := by
  obtain ⟨⟨h1, h2, h3, h4⟩, -⟩ := h
  exact vx_c (h1.use rfl) (vx_c (h2.use rfl) (vx_c (h3.use rfl) (vx_c (h4.use rfl) vx_n)))
theorem zG_call {A B : Nat → Prop} {s : State} {H : Heap} {locs : List Loc} (hG : zG A s) (hS : va_S A s.heap H locs) (hB : ∀ q, B q → A q) : ∀ U : State, U.heap = H → s.WarmedH U.vm → zG B U := by
  intro U hU hW
  obtain ⟨⟨h1, h2, h3, h4⟩, h5, h6⟩ := hG
  refine ⟨⟨h1.warmD hW, h2.warmD hW, h3.warmD hW, h4.warmC hW⟩, ?_, ?_⟩
  · rw [hU]
    exact ((h5.kept hS.2.1).narrow hB).moved hW.alike
  · rw [hU]
    exact ((h6.kept hS.2.1).narrow hB).moved hW.alike
def zPG (D : va_G) (ts : List (ClassId × FieldType)) (av : List Value) (sz : Nat) (ws : va_W) : Array Value → State → Prop := fun v U => zP D ts av sz ws v U ∧ zG (va_A [] sz) U
theorem zPGb {D : va_G} {ts : List (ClassId × FieldType)} {av : List Value} {sz : Nat} {ws : va_W} : FrameBlind (zPG D ts av sz ws) := fun a U g mk q => by
  obtain ⟨q1, ⟨h1, h2, h3, h4⟩, h5, h6⟩ := q
  exact ⟨zPb a U g mk q1, ⟨h1.same (u := U) rfl rfl, h2.same (u := U) rfl rfl, h3.same (u := U) rfl rfl, h4.same (u := U) rfl rfl⟩, h5.moved (Vm.Alike.refl U.vm), h6.moved (Vm.Alike.refl U.vm)⟩
theorem zPGV {D : va_G} {ts : List (ClassId × FieldType)} {As : List Value} {ws : va_W} {s : State} {H : Heap} {A : Nat → Prop} {C : String} {b : Addr} (hP : va_P D vwCl ws H) (hK : va_K D vwCl ts s) (hD : va_D A ws) (hr : ∃ cell : Cell, H[b]? = some cell ∧ cell.vm.isStatics = false ∧ s.vm.findClass C = some cell.cls) (hG : ∀ U : State, U.heap = H → s.WarmedH U.vm → zG (va_A [] H.size) U) : PreV s H C b (zPG D ts (.ref b :: As) H.size ws) As :=
  ⟨zPGb, hr, fun U hU hW => ⟨(zPV hP hK hD hr).2.2 U hU hW, hG U hU hW⟩⟩
theorem zPGS {D : va_G} {ts : List (ClassId × FieldType)} {As : List Value} {ws : va_W} {s : State} {H : Heap} {A : Nat → Prop} (hP : va_P D vwCl ws H) (hK : va_K D vwCl ts s) (hD : va_D A ws) (hG : ∀ U : State, U.heap = H → s.WarmedH U.vm → zG (va_A [] H.size) U) : PreS s H (zPG D ts As H.size ws) As :=
  ⟨zPGb, fun U hU hW => ⟨(zPS hP hK hD).2 U hU hW, hG U hU hW⟩⟩
theorem zgSW {own : String} {idx : Nat} {y : MethodName} {w : Cond} (h1 : Cond.methodLink own idx y ∈ wA) (h2 : Cond.static y ∈ wA) (h4 : Cond.initialized y.cls ∈ wA) (hc : w ∈ wA) : GoodIn wA (va_wsS own idx y (w :: wA)) := by
  intro v hv
  unfold va_wsS at hv
  rcases List.mem_append.mp hv with h | h
  · simp only [List.mem_cons, List.not_mem_nil, or_false] at h
    rcases h with rfl | rfl | rfl
    · exact zgood h1
    · exact zgood h2
    · exact zgood h4
  · exact zgI hc v h
set_option maxHeartbeats 4000000 in
set_option maxRecDepth 100000 in
theorem c_X10_bride (l : Launch) (hl0 : l.stackTraces = false) (dC : Nat → ClassId) (dI : Nat → Nat → Nat) (cI cJ : ClassId) (h0 h1 h2 h3 h4 h5 h6 h7 h8 h9 h10 h11 h12 h13 h14 h15 h16 : Nat) (sz : Nat) (p0 p1 : Int32) : vx_Met l yX10_bride (.code yX10_bride cX10_bride 3 (some .int) :: wA) ({ frames := 6, cells := 1, slots := 6, locals := 90 }) (zPG (dC, dI) [(cI, .int), (cJ, .long)] [.ref h0, .int p0, .int p1] sz [(h0, .inr (10, [.ref h1, .ref h2, .ref h3, .ref h4, .ref h5, .ref h6, .ref h7, .ref h8, .ref h9, .ref h10, .ref h11, .ref h12, .ref h13, .int 0, .int (-1), .int 0, .int 0])), (h5, .inr (1, [.ref h14, .ref h15, .ref h16, .int 0, .int 0]))]) (va_Qi (fun (_ : Int32) (_ : Unit) => False) (fun (_ : Unit) (_ : State) => True) (va_A [] sz)) (vx_X (fun (_ : Unit) => True) (fun E _ _ => E = zEx) (va_A [] sz)) 1 6 (va_A [] sz) := by
  refine vx_ofW (cc := cX10_bride) (maxL := 3) (ret := (some .int)) (by decide) rfl ?_
  intro p e s m args below meth c s₁ B hml htab hv
  obtain ⟨⟨rfl, hsz, hP, hK, hT⟩, hG⟩ := hv
  have hx := B.exec
  have hb := B.bytes
  have hr := B.returns
  have hts : ∀ w ∈ wA, w.before _ s = true := fun w h => atoms_spec (ws := .code yX10_bride cX10_bride 3 (some .int) :: wA) B.pre w (List.mem_cons_of_mem _ h)
  have hown : s.vm.findClass RX10 = some m.cls := findClass_of_methodNamed B.named
  have hlocks := B.notSynchronized
  subst hsz
  have hD : va_D (va_A [] s.heap.size) [] := zD0
  generalize hAe : va_A [] s.heap.size = A at hD hG ⊢
  have hA : ∀ q : Nat, s.heap.size ≤ q → A q := fun q h => by rw [← hAe]; exact Or.inr h
  have hl := lv_entry ([.ref h0, .int p0, .int p1]) (n := 3) (Nat.le_of_ble_eq_true rfl)
  rw [lg_entry_eq]
  generalize (lg_sl ([.ref h0, .int p0, .int p1]) ++ List.replicate (3 - (lg_sl ([.ref h0, .int p0, .int p1])).length) Slot.unset).toArray = ls at hl ⊢
  have hl : lv_has ls 3 [(0, .ref h0), (1, .int p0), (2, .int p1)] := hl
  refine zstart (fun H hH => ?_)
  rw [← hH] at hP
  have hS : va_S A s.heap H [] := by rw [hH]; exact va_S.rf
  refine lv_aload_n hx hb dX10_bride_0 rfl (lv_at hl 0 rfl) ?_
  refine lv_iload_n hx hb dX10_bride_1 rfl (lv_at hl 1 rfl) ?_
  have hPc := hP.sub (ws' := [(h0, .inr (10, [.ref h1, .ref h2, .ref h3, .ref h4, .ref h5, .ref h6, .ref h7, .ref h8, .ref h9, .ref h10, .ref h11, .ref h12, .ref h13, .int 0, .int (-1), .int 0, .int 0])), (h5, .inr (1, [.ref h14, .ref h15, .ref h16, .int 0, .int 0]))]) [0, 1] rfl
  have hDc := hT.sub (ws' := [(h0, .inr (10, [.ref h1, .ref h2, .ref h3, .ref h4, .ref h5, .ref h6, .ref h7, .ref h8, .ref h9, .ref h10, .ref h11, .ref h12, .ref h13, .int 0, .int (-1), .int 0, .int 0])), (h5, .inr (1, [.ref h14, .ref h15, .ref h16, .int 0, .int 0]))]) [0, 1] (by decide) rfl
  have hFc := zfr hS hA
  refine va_calli (va_runV (As := [.int p0]) (rest := []) ⟨hx, hb, hml, hown, hts⟩ (c_X10_isBride l dC dI cI cJ h0 h1 h2 h3 h4 h5 h6 h7 h8 h9 h10 h11 h12 h13 h14 h15 h16 H.size p0) (cwV 1 hts (zgV qw625 qw627 qw12 qw98 qw628) rfl rfl rfl hd_X10_isBride ⟨Nat.le_of_ble_eq_true rfl, Nat.le_of_ble_eq_true rfl⟩) (zPV hPc hK hDc (va_recv hK hP (ci := 10) (q0 := 0) rfl rfl)) rfl rfl hl.1 rfl (lv_room (Nat.le_of_ble_eq_true rfl)) dX10_bride_2 ⟨Nat.le_of_ble_eq_true rfl, Nat.le_of_ble_eq_true rfl⟩) hS (fun q _ h => hFc q h) hFc (fun r_1 u t H locs ht hvm hw hB hz1 hk1 hS => ?_)
  have hP := zkeep hP hk1
  have hw : r_1 = 0 := hw
  subst hw
  refine lv_if_eq (tgt := 17) hx hb dX10_bride_5 (by decide) (fun _ => ?_) (fun c => absurd (by decide) c)
  exact vx_throw0 (own := RX10) (cls := zEx) (names := zEn) (ik := 158) (ic := 160) hx hb hl0 hown (by decide +kernel) (by decide +kernel) (hts _ qw1059) (hts _ qw116) (vx_hat (fun w h => hts w (zxg w h)) zxb (zG_words hG)) zxo hG.2.1 hG.2.2 hS (by rw [hml]; exact hl.1) dX10_bride_17 dX10_bride_20 dX10_bride_21 dX10_bride_24 (fun x h => absurd (htab x h) id) (by decide) (by decide) (Nat.le_of_ble_eq_true rfl) (Nat.le_of_ble_eq_true rfl) hlocks (fun t ha hz hk => ⟨(), trivial, rfl, Nat.le_trans hS.1 hz, fun q h1 h2 => (hk q (Nat.lt_of_lt_of_le h1 hS.1)).trans (hS.2.1 q h1 h2)⟩) hS.2.2 (Nat.le_of_ble_eq_true rfl) (Nat.le_of_ble_eq_true rfl)
set_option maxHeartbeats 4000000 in
set_option maxRecDepth 100000 in
theorem c_L_bride (l : Launch) (hl0 : l.stackTraces = false) (dC : Nat → ClassId) (dI : Nat → Nat → Nat) (cI cJ : ClassId) (h0 h1 h2 h3 h4 h5 h6 h7 h8 h9 h10 h11 h12 h13 h14 h15 h16 h17 : Nat) (sz : Nat) (p0 p1 : Int32) : Met l yL_bride (.codeWith yL_bride cL_bride 5 (some .int) [(0, 10, 13, 13)] :: wA) ({ frames := 7, cells := 1, slots := 6, locals := 112 }) (zPG (dC, dI) [(cI, .int), (cJ, .long)] [.ref h0, .int p0, .int p1, .ref h17] sz [(h0, .inr (10, [.ref h1, .ref h2, .ref h3, .ref h4, .ref h5, .ref h6, .ref h7, .ref h8, .ref h9, .ref h10, .ref h11, .ref h12, .ref h13, .int 0, .int (-1), .int 0, .int 0])), (h5, .inr (1, [.ref h14, .ref h15, .ref h16, .int 0, .int 0]))]) (va_Qi (fun (r : Int32) (_ : Unit) => r = 1) (fun (_ : Unit) (_ : State) => True) (va_A [] sz)) 1 6 (va_A [] sz) := by
  refine va_MetW (cc := cL_bride) (maxL := 5) (ret := (some .int)) (hh := [(0, 10, 13, 13)]) (by decide) rfl ?_
  intro p e s m args below meth c s₁ B hml hv
  obtain ⟨⟨rfl, hsz, hP, hK, hT⟩, hG⟩ := hv
  have hx := B.exec
  have hb := B.bytes
  have hr := B.returns
  have htab := vx_table (x := yL_bride) (hh := [(0, 10, 13, 13)]) B (atoms_spec (ws := .codeWith yL_bride cL_bride 5 (some .int) [(0, 10, 13, 13)] :: wA) B.pre _ List.mem_cons_self)
  have hts : ∀ w ∈ wA, w.before _ s = true := fun w h => atoms_spec (ws := .codeWith yL_bride cL_bride 5 (some .int) [(0, 10, 13, 13)] :: wA) B.pre w (List.mem_cons_of_mem _ h)
  have hown : s.vm.findClass RL = some m.cls := findClass_of_methodNamed B.named
  have hlocks := B.notSynchronized
  subst hsz
  have hD : va_D (va_A [] s.heap.size) [] := zD0
  generalize hAe : va_A [] s.heap.size = A at hD hG ⊢
  have hA : ∀ q : Nat, s.heap.size ≤ q → A q := fun q h => by rw [← hAe]; exact Or.inr h
  have hl := lv_entry ([.ref h0, .int p0, .int p1, .ref h17]) (n := 5) (Nat.le_of_ble_eq_true rfl)
  rw [lg_entry_eq]
  generalize (lg_sl ([.ref h0, .int p0, .int p1, .ref h17]) ++ List.replicate (5 - (lg_sl ([.ref h0, .int p0, .int p1, .ref h17])).length) Slot.unset).toArray = ls at hl ⊢
  have hl : lv_has ls 5 [(0, .ref h0), (1, .int p0), (2, .int p1), (3, .ref h17)] := hl
  refine zstart (fun H hH => ?_)
  rw [← hH] at hP
  have hS : va_S A s.heap H [] := by rw [hH]; exact va_S.rf
  refine lv_aload_n hx hb dL_bride_0 rfl (lv_at hl 3 rfl) ?_
  refine lv_iconst (v := 0) hx hb dL_bride_1 (by decide) ?_
  refine lv_aload_n hx hb dL_bride_2 rfl (lv_at hl 0 rfl) ?_
  refine lv_iload_n hx hb dL_bride_3 rfl (lv_at hl 1 rfl) ?_
  refine lv_iload_n hx hb dL_bride_4 rfl (lv_at hl 2 rfl) ?_
  have hFc := zfr hS hA
  refine vx_calli (vx_runV (As := [.int p0, .int p1]) (rest := [.int 0, .ref h17]) ⟨hx, hb, hml, hown, hts⟩ (c_X10_bride l hl0 dC dI cI cJ h0 h1 h2 h3 h4 h5 h6 h7 h8 h9 h10 h11 h12 h13 h14 h15 h16 H.size p0 p1) (cwV 2 hts (zgV qw1055 qw1056 qw1057 qw98 qw1058) rfl rfl rfl hd_X10_bride ⟨Nat.le_of_ble_eq_true rfl, Nat.le_of_ble_eq_true rfl⟩) (zPGV hP hK hT (va_recv hK hP (ci := 10) (q0 := 0) rfl rfl) (zG_call hG hS hFc)) rfl rfl hl.1 rfl (lv_room (Nat.le_of_ble_eq_true rfl)) dL_bride_5 ⟨Nat.le_of_ble_eq_true rfl, Nat.le_of_ble_eq_true rfl⟩) hS (fun q _ h => hFc q h) hFc (fun q _ h => hFc q h) (fun E ce q9 u t H locs ht hvm hw hB hz1 hk1 hS hce hcv hcl => ?_) (fun r u t H locs ht hvm hw hB hz1 hk1 hS => hw.elim)
  have hE : E = zEx := hB
  subst hE
  refine vx_catch hown [] ⟨0, 10, 13, 13⟩ [] htab (fun z h => by cases h) (by decide) (by decide) (hts _ qw1054) (hG.1.2.2.2.use rfl) hce hcv hcl ?_
  refine W.widen (k := 1) (n := 6) (Nat.le_of_ble_eq_true rfl) (Nat.le_of_ble_eq_true rfl) ?_
  refine lv_astore (lv' := [(4, .ref q9), (0, .ref h0), (1, .int p0), (2, .int p1), (3, .ref h17)]) hx hb dL_bride_13 hl (by decide) rfl (fun ls hl => ?_)
  refine lv_iconst (v := 1) hx hb dL_bride_15 (by decide) ?_
  exact W.iret (v := 1) hx hb hr (fun t ht hW => ⟨⟨1, (), rfl, rfl, trivial⟩, hS.F ht⟩) hS.2.2 dL_bride_16
