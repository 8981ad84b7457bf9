def zEx : String := "java/util/NoSuchElementException"
def zEn : List String := ["java/lang/RuntimeException", "java/lang/Exception"]
def zB0 : List Cond := [.declares ⟨"java/lang/RuntimeException", "<init>", "()V"⟩, .declares ⟨"java/lang/Exception", "<init>", "()V"⟩, .declares ⟨"java/lang/Throwable", "<init>", "()V"⟩, .castable zEx zEx]
set_option maxRecDepth 20000 in
theorem zxg0 : ∀ w ∈ (vx_at0 RX10 160 zEx zEn).filter goodWord, w ∈ lw_tbl := by decide +kernel
theorem zxg : ∀ w ∈ (vx_at0 RX10 160 zEx zEn).filter goodWord, w ∈ wA := fun w h => List.mem_filter.mpr ⟨zxg0 w h, (List.mem_filter.mp h).2⟩
set_option maxRecDepth 20000 in
theorem zxb : ∀ w ∈ (vx_at0 RX10 160 zEx zEn).filter (fun w => !goodWord w), w ∈ zB0 := by decide +kernel
set_option maxRecDepth 20000 in
theorem zxo : ∀ w ∈ Cond.classLink RX10 158 zEx :: Cond.initialized zEx :: vx_at0 RX10 160 zEx zEn, vx_ot w = true := by decide +kernel
/-- what a throw needs beside the good words -/
def zG (A : Nat → Prop) (U : State) : Prop := (va_Nw (.declares ⟨"java/lang/RuntimeException", "<init>", "()V"⟩) U ∧ va_Nw (.declares ⟨"java/lang/Exception", "<init>", "()V"⟩) U ∧ va_Nw (.declares ⟨"java/lang/Throwable", "<init>", "()V"⟩) U ∧ va_Nw (.castable zEx zEx) U) ∧ vx_Zq Bundle.tN "UNASSIGNED_STACK" Bundle.steD A U U.heap ∧ vx_Zq Bundle.tN "SUPPRESSED_SENTINEL" Bundle.listD A U U.heap
theorem zG_words {A : Nat → Prop} {s : State} {args : Array Value} (h : zG A s) : ∀ w ∈ zB0, w.before args s = true := by
  obtain ⟨⟨h1, h2, h3, h4⟩, -⟩ := h
  exact vx_c (h1.use rfl) (vx_c (h2.use rfl) (vx_c (h3.use rfl) (vx_c (h4.use rfl) vx_n)))
theorem zG_call {A B : Nat → Prop} {s : State} {H : Heap} {locs : List Loc} (hG : zG A s) (hS : va_S A s.heap H locs) (hB : ∀ q, B q → A q) : ∀ U : State, U.heap = H → s.WarmedH U.vm → zG B U := by
  intro U hU hW
  obtain ⟨⟨h1, h2, h3, h4⟩, h5, h6⟩ := hG
  refine ⟨⟨h1.warmD hW, h2.warmD hW, h3.warmD hW, h4.warmC hW⟩, ?_, ?_⟩
  · rw [hU]
    exact ((h5.kept hS.2.1).narrow hB).moved hW.alike
  · rw [hU]
    exact ((h6.kept hS.2.1).narrow hB).moved hW.alike
def zPG (D : va_G) (ts : List (ClassId × FieldType)) (av : List Value) (sz : Nat) (ws : va_W) (A : Nat → Prop) : Array Value → State → Prop := fun v U => zP D ts av sz ws v U ∧ zG A U
theorem zPGb {D : va_G} {ts : List (ClassId × FieldType)} {av : List Value} {sz : Nat} {ws : va_W} {A : Nat → Prop} : FrameBlind (zPG D ts av sz ws A) := fun a U g mk q => by
  obtain ⟨q1, ⟨h1, h2, h3, h4⟩, h5, h6⟩ := q
  exact ⟨zPb a U g mk q1, ⟨h1.same (u := U) rfl rfl, h2.same (u := U) rfl rfl, h3.same (u := U) rfl rfl, h4.same (u := U) rfl rfl⟩, h5.moved (Vm.Alike.refl U.vm), h6.moved (Vm.Alike.refl U.vm)⟩
theorem zPGV {D : va_G} {ts : List (ClassId × FieldType)} {As : List Value} {ws : va_W} {s : State} {H : Heap} {A B : Nat → Prop} {C : String} {b : Addr} (hP : va_P D vwCl ws H) (hK : va_K D vwCl ts s) (hD : va_D A ws) (hr : ∃ cell : Cell, H[b]? = some cell ∧ cell.vm.isStatics = false ∧ s.vm.findClass C = some cell.cls) (hG : ∀ U : State, U.heap = H → s.WarmedH U.vm → zG B U) : PreV s H C b (zPG D ts (.ref b :: As) H.size ws B) As :=
  ⟨zPGb, hr, fun U hU hW => ⟨(zPV hP hK hD hr).2.2 U hU hW, hG U hU hW⟩⟩
theorem zPGS {D : va_G} {ts : List (ClassId × FieldType)} {As : List Value} {ws : va_W} {s : State} {H : Heap} {A B : Nat → Prop} (hP : va_P D vwCl ws H) (hK : va_K D vwCl ts s) (hD : va_D A ws) (hG : ∀ U : State, U.heap = H → s.WarmedH U.vm → zG B U) : PreS s H (zPG D ts As H.size ws B) As :=
  ⟨zPGb, fun U hU hW => ⟨(zPS hP hK hD).2 U hU hW, hG U hU hW⟩⟩
set_option maxHeartbeats 4000000 in
set_option maxRecDepth 100000 in
theorem c_X10_bride (l : Launch) (hl0 : l.stackTraces = false) (dC : Nat → ClassId) (dI : Nat → Nat → Nat) (cI cJ : ClassId) (h0 : Nat) (p0 : Int32) (p1 : Int32) (h0_tape : Value) (h0_courtReader : Value) (h0_lawReader : Value) (h0_draft : Value) (aC : Nat) (h0_laws : Value) (g0 : Nat) (h0_kept : Value) (h0_acts : Value) (h0_studio : Value) (h0_mind : Value) (h0_draws : Value) (h0_refused : Value) (h0_lawCount : Value) (h0_lawThatHolds : Value) (h0_bribery : Value) (h0_hasImage : Value) (aR : Nat) (aB : Nat) (aP : Nat) (nb : Int32) (np : Int32) (fb : Nat → Int32) (gY : Nat) (g0_fears : Value) (g0_portraits : Value) (g0_painted : Value) (glt : Int32) (gsh : Int32) (g0_wed : Value) (g0_purse : Value) (g0_month : Value) (gfY : Nat → Int32) (sz : Nat) (n_nb : 0 ≤ nb.toInt ∧ nb.toInt ≤ 6) : vx_Met l yX10_bride (.code yX10_bride cX10_bride 3 (some .int) :: wA) ({ frames := 7, cells := 1, slots := 6, locals := 110 }) (zPG (dC, dI) [(cI, .int), (cJ, .long)] [.ref h0, .int p0, .int p1] sz [(h0, .inr (10, [h0_tape, h0_courtReader, h0_lawReader, h0_draft, .ref aC, h0_laws, .ref g0, h0_kept, h0_acts, h0_studio, h0_mind, h0_draws, h0_refused, h0_lawCount, h0_lawThatHolds, h0_bribery, h0_hasImage])), (aC, .inr (1, [.ref aR, .ref aB, .ref aP, .int nb, .int np])), (aB, .inl (cI, 24, .inl fb)), (g0, .inr (7, [.ref gY, g0_fears, g0_portraits, g0_painted, .int glt, .int gsh, g0_wed, g0_purse, g0_month])), (gY, .inl (cI, 6, .inl gfY))] (va_A [] sz)) (va_Qi (fun (r : Int32) (_ : Unit) => sQ_bri nb.toInt p0 p1 ∧ ∀ (kc : zK3) (S : zS), zBrA nb.toInt fb gfY glt gsh kc S → r = sV_bri kc S p0 p1) (fun (_ : Unit) (_ : State) => True) (va_A [] sz)) (vx_X (fun (_ : Unit) => ¬ sQ_bri nb.toInt p0 p1) (fun E _ _ => E = zEx) (va_A [] sz)) 1 6 (va_A [] sz) := by
  refine vx_ofW (cc := cX10_bride) (maxL := 3) (ret := (some .int)) (by decide) rfl ?_
  intro p e s m args below meth c s₁ B hml htab hv
  obtain ⟨⟨hargs, hsz, hP, hK, hT⟩, hG⟩ := hv
  have hx := B.exec
  have hb := B.bytes
  have hr := B.returns
  have hts : ∀ w ∈ wA, w.before args s = true := fun w h => atoms_spec (ws := .code yX10_bride cX10_bride 3 (some .int) :: wA) B.pre w (List.mem_cons_of_mem _ h)
  have hown : s.vm.findClass RX10 = some m.cls := findClass_of_methodNamed B.named
  have hlocks := B.notSynchronized
  subst hsz
  have hD : va_D (va_A [] s.heap.size) [] := zD0
  generalize hAe : va_A [] s.heap.size = A at hD hG ⊢
  have hA : ∀ q : Nat, s.heap.size ≤ q → A q := fun q h => by rw [← hAe]; exact Or.inr h
  have hl := lv_entry ([.ref h0, .int p0, .int p1]) (n := 3) (Nat.le_of_ble_eq_true rfl)
  rw [show entryFrame m args 3 = entryFrame m ([.ref h0, .int p0, .int p1] : List Value).toArray 3 by rw [hargs], lg_entry_eq]
  generalize (lg_sl ([.ref h0, .int p0, .int p1]) ++ List.replicate (3 - (lg_sl ([.ref h0, .int p0, .int p1])).length) Slot.unset).toArray = ls at hl ⊢
  have hl : lv_has ls 3 [(0, .ref h0), (1, .int p0), (2, .int p1)] := hl
  refine zstart (fun H hH => ?_)
  rw [← hH] at hP
  have hS : va_S A s.heap H [] := by rw [hH]; exact va_S.rf
  generalize ([] : List Loc) = locs at hS ⊢
  refine zgen (fun R Q hR hQ => ?_)
  refine lv_aload_n hx hb dX10_bride_0 rfl (lv_at hl 0 rfl) ?_
  refine lv_iload_n hx hb dX10_bride_1 rfl (lv_at hl 1 rfl) ?_
  have hPc := hP.sub (ws' := [(h0, .inr (10, [h0_tape, h0_courtReader, h0_lawReader, h0_draft, .ref aC, h0_laws, .ref g0, h0_kept, h0_acts, h0_studio, h0_mind, h0_draws, h0_refused, h0_lawCount, h0_lawThatHolds, h0_bribery, h0_hasImage])), (aC, .inr (1, [.ref aR, .ref aB, .ref aP, .int nb, .int np]))]) [0, 1] rfl
  have hDc := hT.sub (ws' := [(h0, .inr (10, [h0_tape, h0_courtReader, h0_lawReader, h0_draft, .ref aC, h0_laws, .ref g0, h0_kept, h0_acts, h0_studio, h0_mind, h0_draws, h0_refused, h0_lawCount, h0_lawThatHolds, h0_bribery, h0_hasImage])), (aC, .inr (1, [.ref aR, .ref aB, .ref aP, .int nb, .int np]))]) [0, 1] (by decide) rfl
  have hFc := zfr hS hA
  refine va_calli (va_runV (As := [.int p0]) (rest := []) ⟨hx, hb, hml, hown, hts⟩ (g_X10_isBride l dC dI cI cJ h0 p0 h0_tape h0_courtReader h0_lawReader h0_draft aC h0_laws (.ref g0) h0_kept h0_acts h0_studio h0_mind h0_draws h0_refused h0_lawCount h0_lawThatHolds h0_bribery h0_hasImage aR aB aP nb np H.size (by omega)) (cwV 1 hts (zgV qw625 qw627 qw12 qw98 qw628) rfl rfl rfl hd_X10_isBride ⟨by rw [hR]; exact Nat.le_of_ble_eq_true rfl, by rw [hR]; exact Nat.le_of_ble_eq_true rfl⟩) (zPV hPc hK hDc (va_recv (q := (RX10, TX10, 17)) hK hP (ci := 10) (q0 := 0) rfl rfl)) rfl rfl hl.1 rfl (lv_room (Nat.le_of_ble_eq_true rfl)) dX10_bride_2 ⟨Nat.zero_le _, Nat.zero_le _⟩) hS (fun q _ h => hFc q h) hFc (fun v2 u2 t H locs ht hvm hw hB hz1 hk1 hS => ?_)
  have hP := zkeep hP hk1
  obtain ⟨f2_0, f2_1, f2_2, f2_3⟩ : (0 ≤ v2.toInt) ∧ (v2.toInt ≤ 1) ∧ (¬ v2.toInt = 0 → (0 ≤ p0.toInt ∧ p0.toInt < nb.toInt)) ∧ (v2.toInt = 0 → ¬ (0 ≤ p0.toInt ∧ p0.toInt < nb.toInt)) := hw
  refine lv_if_eq (tgt := 17) hx hb dX10_bride_5 (by decide) (fun c5 => ?_) (fun c5 => ?_)
  · have c5 : v2.toInt = 0 := z5 rfl (by decide) c5
    subst hR
    rw [hQ]
    exact vx_throw0 (own := RX10) (cls := zEx) (names := zEn) (ik := 158) (ic := 160) hx hb hl0 hown (by decide +kernel) (by decide +kernel) (hts _ qw1059) (hts _ qw116) (vx_hat (fun w h => hts w (zxg w h)) zxb (zG_words hG)) zxo hG.2.1 hG.2.2 hS (by rw [hml]; exact hl.1) dX10_bride_17 dX10_bride_20 dX10_bride_21 dX10_bride_24 (fun x h => absurd (htab x h) id) (by decide) (by decide) (Nat.le_of_ble_eq_true rfl) (Nat.le_of_ble_eq_true rfl) hlocks (fun t ha hz hk => ⟨(), (by unfold sQ_bri; omega), rfl, Nat.le_trans hS.1 hz, fun q h1 h2 => (hk q (Nat.lt_of_lt_of_le h1 hS.1)).trans (hS.2.1 q h1 h2)⟩) hS.2.2 (Nat.le_of_ble_eq_true rfl) (Nat.le_of_ble_eq_true rfl)
  · have c5 : ¬ v2.toInt = 0 := z6 rfl (by decide) c5
    refine lv_iload_n hx hb dX10_bride_8 rfl (lv_at hl 2 rfl) ?_
    refine lv_if_lt (tgt := 17) hx hb dX10_bride_9 (by decide) (fun c9 => ?_) (fun c9 => ?_)
    · have c9 : p1.toInt < 0 := z1 rfl (by decide) c9
      subst hR
      rw [hQ]
      exact vx_throw0 (own := RX10) (cls := zEx) (names := zEn) (ik := 158) (ic := 160) hx hb hl0 hown (by decide +kernel) (by decide +kernel) (hts _ qw1059) (hts _ qw116) (vx_hat (fun w h => hts w (zxg w h)) zxb (zG_words hG)) zxo hG.2.1 hG.2.2 hS (by rw [hml]; exact hl.1) dX10_bride_17 dX10_bride_20 dX10_bride_21 dX10_bride_24 (fun x h => absurd (htab x h) id) (by decide) (by decide) (Nat.le_of_ble_eq_true rfl) (Nat.le_of_ble_eq_true rfl) hlocks (fun t ha hz hk => ⟨(), (by unfold sQ_bri; omega), rfl, Nat.le_trans hS.1 hz, fun q h1 h2 => (hk q (Nat.lt_of_lt_of_le h1 hS.1)).trans (hS.2.1 q h1 h2)⟩) hS.2.2 (Nat.le_of_ble_eq_true rfl) (Nat.le_of_ble_eq_true rfl)
    · have c9 : 0 ≤ p1.toInt := z2 rfl (by decide) c9
      refine lv_iload_n hx hb dX10_bride_12 rfl (lv_at hl 2 rfl) ?_
      refine lv_iconst (v := 5) hx hb dX10_bride_13 (by decide) ?_
      refine lv_icmp_le (tgt := 25) hx hb dX10_bride_14 (by decide) (fun c14 => ?_) (fun c14 => ?_)
      · have c14 : p1.toInt ≤ 5 := z3 rfl (by decide) c14
        refine lv_iload_n hx hb dX10_bride_25 rfl (lv_at hl 2 rfl) ?_
        rcases (show (p1.toInt < 0 ∨ 4 < p1.toInt) ∨ p1.toInt = 0 ∨ p1.toInt = 1 ∨ p1.toInt = 2 ∨ p1.toInt = 3 ∨ p1.toInt = 4 by omega) with c26 | c26 | c26 | c26 | c26 | c26
        · refine lv_tableOut (tgt := 109) hx hb dX10_bride_26 c26 (by decide) ?_
          refine lv_aload_n hx hb dX10_bride_109 rfl (lv_at hl 0 rfl) ?_
          refine va_get (D := (dC, dI)) (ci := 10) (v := .ref g0) (C := RX10) (T := TX10) (N := 17) hx hb hts iX10 hown hK hP 0 rfl rfl 6 (by decide) (hts _ qw362) (fun _ h9 => h9) rfl dX10_bride_110 ?_
          refine va_get (D := (dC, dI)) (ci := 7) (v := .int gsh) (C := RX7) (T := TX7) (N := 9) hx hb hts iX7 hown hK hP 3 rfl rfl 5 (by decide) (hts _ qw235) (fun _ h9 => h9) rfl dX10_bride_113 ?_
          refine lv_iload_n hx hb dX10_bride_116 rfl (lv_at hl 1 rfl) ?_
          have hPc : va_P (dC, dI) vwCl [] H := zP0
          have hDc : va_D (fun _ => True) [] := zD0
          have hFc := zfr hS hA
          refine va_calli (va_runS (As := [.int gsh, .int p0]) (rest := []) ⟨hx, hb, hml, hown, hts⟩ (g_X10_bit l dC dI cI cJ gsh p0 H.size) (cwS 2 hts (zgS qw729 qw453 qw98 qw454) rfl rfl rfl hd_X10_bit ⟨by rw [hR]; exact Nat.le_of_ble_eq_true rfl, by rw [hR]; exact Nat.le_of_ble_eq_true rfl⟩) (zPS hPc hK hDc) rfl rfl hl.1 rfl (lv_room (Nat.le_of_ble_eq_true rfl)) dX10_bride_117 ⟨Nat.zero_le _, Nat.zero_le _⟩) hS (fun q _ h => hFc q h) hFc (fun v117 u117 t H locs ht hvm hw hB hz1 hk1 hS => ?_)
          have hP := zkeep hP hk1
          obtain ⟨f117_0, f117_1, f117_2⟩ : (0 ≤ v117.toInt) ∧ (v117.toInt ≤ 1) ∧ (v117 = cBt gsh p0) := hw
          have F117 := f117_2
          refine W.widen (k := 1) (n := 6) (Nat.le_of_ble_eq_true rfl) (Nat.le_of_ble_eq_true rfl) ?_
          rw [hQ]
          exact vx_ret (W.iret (v := v117) hx hb hr (fun t ht hW => ⟨⟨v117, (), rfl, ⟨(by unfold sQ_bri; omega), fun kc S hA => by unfold sV_bri; rw [if_neg (by omega), if_neg (by omega), if_neg (by omega), if_neg (by omega), if_neg (by omega)]; rw [hA.2.2.2]; exact F117⟩, trivial⟩, hS.F ht⟩) hS.2.2 dX10_bride_120)
        · refine lv_tableIn (off := 34) (tgt := 60) hx hb dX10_bride_26 (by omega) (by omega) (by rw [c26]; rfl) (by decide) ?_
          refine lv_aload_n hx hb dX10_bride_60 rfl (lv_at hl 0 rfl) ?_
          refine va_get (D := (dC, dI)) (ci := 10) (v := .ref aC) (C := RX10) (T := TX10) (N := 17) hx hb hts iX10 hown hK hP 0 rfl rfl 4 (by decide) (hts _ qw360) (fun _ h9 => h9) rfl dX10_bride_61 ?_
          refine lv_iload_n hx hb dX10_bride_64 rfl (lv_at hl 1 rfl) ?_
          have hPc := hP.sub (ws' := [(aC, .inr (1, [.ref aR, .ref aB, .ref aP, .int nb, .int np])), (aB, .inl (cI, 24, .inl fb))]) [1, 2] rfl
          have hDc := hT.sub (ws' := [(aC, .inr (1, [.ref aR, .ref aB, .ref aP, .int nb, .int np])), (aB, .inl (cI, 24, .inl fb))]) [1, 2] (by decide) rfl
          have hFc := zfr hS hA
          refine va_calli (va_runV (As := [.int p0]) (rest := []) ⟨hx, hb, hml, hown, hts⟩ (g_X1_faceOf l dC dI cI cJ aC p0 aR aB aP nb np fb H.size (by omega)) (cwV 1 hts (zgV qw702 qw703 qw704 qw102 qw705) rfl rfl rfl hd_X1_faceOf ⟨by rw [hR]; exact Nat.le_of_ble_eq_true rfl, by rw [hR]; exact Nat.le_of_ble_eq_true rfl⟩) (zPV hPc hK hDc (va_recv (q := (RX1, TX1, 5)) hK hP (ci := 1) (q0 := 1) rfl rfl)) rfl rfl hl.1 rfl (lv_room (Nat.le_of_ble_eq_true rfl)) dX10_bride_65 ⟨Nat.zero_le _, Nat.zero_le _⟩) hS (fun q _ h => hFc q h) hFc (fun v65 u65 t H locs ht hvm hw hB hz1 hk1 hS => ?_)
          have hP := zkeep hP hk1
          have f65_0 : (v65 = fb (4 * p0.toInt.toNat)) := hw
          have F65 := f65_0
          refine W.widen (k := 1) (n := 6) (Nat.le_of_ble_eq_true rfl) (Nat.le_of_ble_eq_true rfl) ?_
          rw [hQ]
          exact vx_ret (W.iret (v := v65) hx hb hr (fun t ht hW => ⟨⟨v65, (), rfl, ⟨(by unfold sQ_bri; omega), fun kc S hA => by unfold sV_bri; rw [if_pos (by omega)]; rw [F65]; exact hA.1 _ (by omega)⟩, trivial⟩, hS.F ht⟩) hS.2.2 dX10_bride_68)
        · refine lv_tableIn (off := 43) (tgt := 69) hx hb dX10_bride_26 (by omega) (by omega) (by rw [c26]; rfl) (by decide) ?_
          refine lv_aload_n hx hb dX10_bride_69 rfl (lv_at hl 0 rfl) ?_
          refine va_get (D := (dC, dI)) (ci := 10) (v := .ref aC) (C := RX10) (T := TX10) (N := 17) hx hb hts iX10 hown hK hP 0 rfl rfl 4 (by decide) (hts _ qw360) (fun _ h9 => h9) rfl dX10_bride_70 ?_
          refine lv_iload_n hx hb dX10_bride_73 rfl (lv_at hl 1 rfl) ?_
          have hPc := hP.sub (ws' := [(aC, .inr (1, [.ref aR, .ref aB, .ref aP, .int nb, .int np])), (aB, .inl (cI, 24, .inl fb))]) [1, 2] rfl
          have hDc := hT.sub (ws' := [(aC, .inr (1, [.ref aR, .ref aB, .ref aP, .int nb, .int np])), (aB, .inl (cI, 24, .inl fb))]) [1, 2] (by decide) rfl
          have hFc := zfr hS hA
          refine va_calli (va_runV (As := [.int p0]) (rest := []) ⟨hx, hb, hml, hown, hts⟩ (g_X1_dowryOf l dC dI cI cJ aC p0 aR aB aP nb np fb H.size (by omega)) (cwV 1 hts (zgV qw738 qw739 qw740 qw102 qw741) rfl rfl rfl hd_X1_dowryOf ⟨by rw [hR]; exact Nat.le_of_ble_eq_true rfl, by rw [hR]; exact Nat.le_of_ble_eq_true rfl⟩) (zPV hPc hK hDc (va_recv (q := (RX1, TX1, 5)) hK hP (ci := 1) (q0 := 1) rfl rfl)) rfl rfl hl.1 rfl (lv_room (Nat.le_of_ble_eq_true rfl)) dX10_bride_74 ⟨Nat.zero_le _, Nat.zero_le _⟩) hS (fun q _ h => hFc q h) hFc (fun v74 u74 t H locs ht hvm hw hB hz1 hk1 hS => ?_)
          have hP := zkeep hP hk1
          have f74_0 : (v74 = fb (4 * p0.toInt.toNat + 1)) := hw
          have F74 := f74_0
          refine W.widen (k := 1) (n := 6) (Nat.le_of_ble_eq_true rfl) (Nat.le_of_ble_eq_true rfl) ?_
          rw [hQ]
          exact vx_ret (W.iret (v := v74) hx hb hr (fun t ht hW => ⟨⟨v74, (), rfl, ⟨(by unfold sQ_bri; omega), fun kc S hA => by unfold sV_bri; rw [if_neg (by omega), if_pos (by omega)]; rw [F74]; exact hA.1 _ (by omega)⟩, trivial⟩, hS.F ht⟩) hS.2.2 dX10_bride_77)
        · refine lv_tableIn (off := 52) (tgt := 78) hx hb dX10_bride_26 (by omega) (by omega) (by rw [c26]; rfl) (by decide) ?_
          refine lv_aload_n hx hb dX10_bride_78 rfl (lv_at hl 0 rfl) ?_
          refine va_get (D := (dC, dI)) (ci := 10) (v := .ref aC) (C := RX10) (T := TX10) (N := 17) hx hb hts iX10 hown hK hP 0 rfl rfl 4 (by decide) (hts _ qw360) (fun _ h9 => h9) rfl dX10_bride_79 ?_
          refine lv_iload_n hx hb dX10_bride_82 rfl (lv_at hl 1 rfl) ?_
          have hPc := hP.sub (ws' := [(aC, .inr (1, [.ref aR, .ref aB, .ref aP, .int nb, .int np])), (aB, .inl (cI, 24, .inl fb))]) [1, 2] rfl
          have hDc := hT.sub (ws' := [(aC, .inr (1, [.ref aR, .ref aB, .ref aP, .int nb, .int np])), (aB, .inl (cI, 24, .inl fb))]) [1, 2] (by decide) rfl
          have hFc := zfr hS hA
          refine va_calli (va_runV (As := [.int p0]) (rest := []) ⟨hx, hb, hml, hown, hts⟩ (g_X1_wartsOf l dC dI cI cJ aC p0 aR aB aP nb np fb H.size (by omega)) (cwV 1 hts (zgV qw1120 qw663 qw664 qw102 qw665) rfl rfl rfl hd_X1_wartsOf ⟨by rw [hR]; exact Nat.le_of_ble_eq_true rfl, by rw [hR]; exact Nat.le_of_ble_eq_true rfl⟩) (zPV hPc hK hDc (va_recv (q := (RX1, TX1, 5)) hK hP (ci := 1) (q0 := 1) rfl rfl)) rfl rfl hl.1 rfl (lv_room (Nat.le_of_ble_eq_true rfl)) dX10_bride_83 ⟨Nat.zero_le _, Nat.zero_le _⟩) hS (fun q _ h => hFc q h) hFc (fun v83 u83 t H locs ht hvm hw hB hz1 hk1 hS => ?_)
          have hP := zkeep hP hk1
          have f83_0 : (v83 = fb (4 * p0.toInt.toNat + 2)) := hw
          have F83 := f83_0
          refine W.widen (k := 1) (n := 6) (Nat.le_of_ble_eq_true rfl) (Nat.le_of_ble_eq_true rfl) ?_
          rw [hQ]
          exact vx_ret (W.iret (v := v83) hx hb hr (fun t ht hW => ⟨⟨v83, (), rfl, ⟨(by unfold sQ_bri; omega), fun kc S hA => by unfold sV_bri; rw [if_neg (by omega), if_neg (by omega), if_pos (by omega)]; rw [F83]; exact hA.1 _ (by omega)⟩, trivial⟩, hS.F ht⟩) hS.2.2 dX10_bride_86)
        · refine lv_tableIn (off := 61) (tgt := 87) hx hb dX10_bride_26 (by omega) (by omega) (by rw [c26]; rfl) (by decide) ?_
          refine lv_aload_n hx hb dX10_bride_87 rfl (lv_at hl 0 rfl) ?_
          refine va_get (D := (dC, dI)) (ci := 10) (v := .ref g0) (C := RX10) (T := TX10) (N := 17) hx hb hts iX10 hown hK hP 0 rfl rfl 6 (by decide) (hts _ qw362) (fun _ h9 => h9) rfl dX10_bride_88 ?_
          refine va_get (D := (dC, dI)) (ci := 7) (v := .ref gY) (C := RX7) (T := TX7) (N := 9) hx hb hts iX7 hown hK hP 3 rfl rfl 0 (by decide) (hts _ qw222) (fun _ h9 => h9) rfl dX10_bride_91 ?_
          refine lv_iload_n hx hb dX10_bride_94 rfl (lv_at hl 1 rfl) ?_
          refine va_iald hx hb hK hP 4 0 rfl rfl (vp_in_iff.mpr ⟨by omega, by omega⟩) dX10_bride_95 ?_
          refine lv_topi (fun v95 e95 => ?_)
          refine W.widen (k := 1) (n := 6) (Nat.le_of_ble_eq_true rfl) (Nat.le_of_ble_eq_true rfl) ?_
          rw [hQ]
          exact vx_ret (W.iret (v := v95) hx hb hr (fun t ht hW => ⟨⟨v95, (), rfl, ⟨(by unfold sQ_bri; omega), fun kc S hA => by unfold sV_bri; rw [if_neg (by omega), if_neg (by omega), if_neg (by omega), if_pos (by omega)]; exact (zIxN (n := p0.toInt.toNat) e95 (by omega)).trans (hA.2.1 _ (by omega))⟩, trivial⟩, hS.F ht⟩) hS.2.2 dX10_bride_96)
        · refine lv_tableIn (off := 71) (tgt := 97) hx hb dX10_bride_26 (by omega) (by omega) (by rw [c26]; rfl) (by decide) ?_
          refine lv_aload_n hx hb dX10_bride_97 rfl (lv_at hl 0 rfl) ?_
          refine va_get (D := (dC, dI)) (ci := 10) (v := .ref g0) (C := RX10) (T := TX10) (N := 17) hx hb hts iX10 hown hK hP 0 rfl rfl 6 (by decide) (hts _ qw362) (fun _ h9 => h9) rfl dX10_bride_98 ?_
          refine va_get (D := (dC, dI)) (ci := 7) (v := .int glt) (C := RX7) (T := TX7) (N := 9) hx hb hts iX7 hown hK hP 3 rfl rfl 4 (by decide) (hts _ qw232) (fun _ h9 => h9) rfl dX10_bride_101 ?_
          refine lv_iload_n hx hb dX10_bride_104 rfl (lv_at hl 1 rfl) ?_
          have hPc : va_P (dC, dI) vwCl [] H := zP0
          have hDc : va_D (fun _ => True) [] := zD0
          have hFc := zfr hS hA
          refine va_calli (va_runS (As := [.int glt, .int p0]) (rest := []) ⟨hx, hb, hml, hown, hts⟩ (g_X10_bit l dC dI cI cJ glt p0 H.size) (cwS 2 hts (zgS qw729 qw453 qw98 qw454) rfl rfl rfl hd_X10_bit ⟨by rw [hR]; exact Nat.le_of_ble_eq_true rfl, by rw [hR]; exact Nat.le_of_ble_eq_true rfl⟩) (zPS hPc hK hDc) rfl rfl hl.1 rfl (lv_room (Nat.le_of_ble_eq_true rfl)) dX10_bride_105 ⟨Nat.zero_le _, Nat.zero_le _⟩) hS (fun q _ h => hFc q h) hFc (fun v105 u105 t H locs ht hvm hw hB hz1 hk1 hS => ?_)
          have hP := zkeep hP hk1
          obtain ⟨f105_0, f105_1, f105_2⟩ : (0 ≤ v105.toInt) ∧ (v105.toInt ≤ 1) ∧ (v105 = cBt glt p0) := hw
          have F105 := f105_2
          refine W.widen (k := 1) (n := 6) (Nat.le_of_ble_eq_true rfl) (Nat.le_of_ble_eq_true rfl) ?_
          rw [hQ]
          exact vx_ret (W.iret (v := v105) hx hb hr (fun t ht hW => ⟨⟨v105, (), rfl, ⟨(by unfold sQ_bri; omega), fun kc S hA => by unfold sV_bri; rw [if_neg (by omega), if_neg (by omega), if_neg (by omega), if_neg (by omega), if_pos (by omega)]; rw [hA.2.2.1]; exact F105⟩, trivial⟩, hS.F ht⟩) hS.2.2 dX10_bride_108)
      · have c14 : 5 < p1.toInt := z4 rfl (by decide) c14
        subst hR
        rw [hQ]
        exact vx_throw0 (own := RX10) (cls := zEx) (names := zEn) (ik := 158) (ic := 160) hx hb hl0 hown (by decide +kernel) (by decide +kernel) (hts _ qw1059) (hts _ qw116) (vx_hat (fun w h => hts w (zxg w h)) zxb (zG_words hG)) zxo hG.2.1 hG.2.2 hS (by rw [hml]; exact hl.1) dX10_bride_17 dX10_bride_20 dX10_bride_21 dX10_bride_24 (fun x h => absurd (htab x h) id) (by decide) (by decide) (Nat.le_of_ble_eq_true rfl) (Nat.le_of_ble_eq_true rfl) hlocks (fun t ha hz hk => ⟨(), (by unfold sQ_bri; omega), rfl, Nat.le_trans hS.1 hz, fun q h1 h2 => (hk q (Nat.lt_of_lt_of_le h1 hS.1)).trans (hS.2.1 q h1 h2)⟩) hS.2.2 (Nat.le_of_ble_eq_true rfl) (Nat.le_of_ble_eq_true rfl)
set_option maxHeartbeats 4000000 in
set_option maxRecDepth 100000 in
theorem c_L_bride (l : Launch) (hl0 : l.stackTraces = false) (dC : Nat → ClassId) (dI : Nat → Nat → Nat) (cI cJ : ClassId) (h0 : Nat) (p0 : Int32) (p1 : Int32) (o0 : Nat) (h0_tape : Value) (h0_courtReader : Value) (h0_lawReader : Value) (h0_draft : Value) (aC : Nat) (h0_laws : Value) (g0 : Nat) (h0_kept : Value) (h0_acts : Value) (h0_studio : Value) (h0_mind : Value) (h0_draws : Value) (h0_refused : Value) (h0_lawCount : Value) (h0_lawThatHolds : Value) (h0_bribery : Value) (h0_hasImage : Value) (aR : Nat) (aB : Nat) (aP : Nat) (nb : Int32) (np : Int32) (fb : Nat → Int32) (gY : Nat) (g0_fears : Value) (g0_portraits : Value) (g0_painted : Value) (glt : Int32) (gsh : Int32) (g0_wed : Value) (g0_purse : Value) (g0_month : Value) (gfY : Nat → Int32) (fo : Nat → Int64) (sz : Nat) (n_nb : 0 ≤ nb.toInt ∧ nb.toInt ≤ 6) : Met l yL_bride (.codeWith yL_bride cL_bride 5 (some .int) [(0, 10, 13, 13)] :: wA) ({ frames := 8, cells := 1, slots := 6, locals := 150 }) (zPG (dC, dI) [(cI, .int), (cJ, .long)] [.ref h0, .int p0, .int p1, .ref o0] sz [(h0, .inr (10, [h0_tape, h0_courtReader, h0_lawReader, h0_draft, .ref aC, h0_laws, .ref g0, h0_kept, h0_acts, h0_studio, h0_mind, h0_draws, h0_refused, h0_lawCount, h0_lawThatHolds, h0_bribery, h0_hasImage])), (aC, .inr (1, [.ref aR, .ref aB, .ref aP, .int nb, .int np])), (aB, .inl (cI, 24, .inl fb)), (g0, .inr (7, [.ref gY, g0_fears, g0_portraits, g0_painted, .int glt, .int gsh, g0_wed, g0_purse, g0_month])), (gY, .inl (cI, 6, .inl gfY)), (o0, .inl (cJ, 1, .inr (.inl fo)))] (va_A [(h0, .inr (10, [h0_tape, h0_courtReader, h0_lawReader, h0_draft, .ref aC, h0_laws, .ref g0, h0_kept, h0_acts, h0_studio, h0_mind, h0_draws, h0_refused, h0_lawCount, h0_lawThatHolds, h0_bribery, h0_hasImage])), (aC, .inr (1, [.ref aR, .ref aB, .ref aP, .int nb, .int np])), (aB, .inl (cI, 24, .inl fb)), (g0, .inr (7, [.ref gY, g0_fears, g0_portraits, g0_painted, .int glt, .int gsh, g0_wed, g0_purse, g0_month])), (gY, .inl (cI, 6, .inl gfY)), (o0, .inl (cJ, 1, .inr (.inl fo)))] sz)) (va_Qi (fun (r : Int32) (u : Nat → Int64) => (r.toInt = 0 ∧ sQ_bri nb.toInt p0 p1 ∧ ∀ (kc : zK3) (S : zS), zBrA nb.toInt fb gfY glt gsh kc S → u 0 = (sV_bri kc S p0 p1).toInt64) ∨ (r.toInt = 1 ∧ ¬ sQ_bri nb.toInt p0 p1)) (fun (u : Nat → Int64) (t : State) => va_P (dC, dI) vwCl [(h0, .inr (10, [h0_tape, h0_courtReader, h0_lawReader, h0_draft, .ref aC, h0_laws, .ref g0, h0_kept, h0_acts, h0_studio, h0_mind, h0_draws, h0_refused, h0_lawCount, h0_lawThatHolds, h0_bribery, h0_hasImage])), (aC, .inr (1, [.ref aR, .ref aB, .ref aP, .int nb, .int np])), (aB, .inl (cI, 24, .inl fb)), (g0, .inr (7, [.ref gY, g0_fears, g0_portraits, g0_painted, .int glt, .int gsh, g0_wed, g0_purse, g0_month])), (gY, .inl (cI, 6, .inl gfY)), (o0, .inl (cJ, 1, .inr (.inl u)))] t.heap ∧ va_D (va_A [(h0, .inr (10, [h0_tape, h0_courtReader, h0_lawReader, h0_draft, .ref aC, h0_laws, .ref g0, h0_kept, h0_acts, h0_studio, h0_mind, h0_draws, h0_refused, h0_lawCount, h0_lawThatHolds, h0_bribery, h0_hasImage])), (aC, .inr (1, [.ref aR, .ref aB, .ref aP, .int nb, .int np])), (aB, .inl (cI, 24, .inl fb)), (g0, .inr (7, [.ref gY, g0_fears, g0_portraits, g0_painted, .int glt, .int gsh, g0_wed, g0_purse, g0_month])), (gY, .inl (cI, 6, .inl gfY)), (o0, .inl (cJ, 1, .inr (.inl fo)))] sz) [(h0, .inr (10, [h0_tape, h0_courtReader, h0_lawReader, h0_draft, .ref aC, h0_laws, .ref g0, h0_kept, h0_acts, h0_studio, h0_mind, h0_draws, h0_refused, h0_lawCount, h0_lawThatHolds, h0_bribery, h0_hasImage])), (aC, .inr (1, [.ref aR, .ref aB, .ref aP, .int nb, .int np])), (aB, .inl (cI, 24, .inl fb)), (g0, .inr (7, [.ref gY, g0_fears, g0_portraits, g0_painted, .int glt, .int gsh, g0_wed, g0_purse, g0_month])), (gY, .inl (cI, 6, .inl gfY)), (o0, .inl (cJ, 1, .inr (.inl u)))]) (va_A [(h0, .inr (10, [h0_tape, h0_courtReader, h0_lawReader, h0_draft, .ref aC, h0_laws, .ref g0, h0_kept, h0_acts, h0_studio, h0_mind, h0_draws, h0_refused, h0_lawCount, h0_lawThatHolds, h0_bribery, h0_hasImage])), (aC, .inr (1, [.ref aR, .ref aB, .ref aP, .int nb, .int np])), (aB, .inl (cI, 24, .inl fb)), (g0, .inr (7, [.ref gY, g0_fears, g0_portraits, g0_painted, .int glt, .int gsh, g0_wed, g0_purse, g0_month])), (gY, .inl (cI, 6, .inl gfY)), (o0, .inl (cJ, 1, .inr (.inl fo)))] sz)) 1 6 (va_A [(h0, .inr (10, [h0_tape, h0_courtReader, h0_lawReader, h0_draft, .ref aC, h0_laws, .ref g0, h0_kept, h0_acts, h0_studio, h0_mind, h0_draws, h0_refused, h0_lawCount, h0_lawThatHolds, h0_bribery, h0_hasImage])), (aC, .inr (1, [.ref aR, .ref aB, .ref aP, .int nb, .int np])), (aB, .inl (cI, 24, .inl fb)), (g0, .inr (7, [.ref gY, g0_fears, g0_portraits, g0_painted, .int glt, .int gsh, g0_wed, g0_purse, g0_month])), (gY, .inl (cI, 6, .inl gfY)), (o0, .inl (cJ, 1, .inr (.inl fo)))] sz) := by
  refine va_MetW (cc := cL_bride) (maxL := 5) (ret := (some .int)) (hh := [(0, 10, 13, 13)]) (by decide) rfl ?_
  intro p e s m args below meth c s₁ B hml hv
  obtain ⟨⟨hargs, hsz, hP, hK, hT⟩, hG⟩ := hv
  have hx := B.exec
  have hb := B.bytes
  have hr := B.returns
  have htab := vx_table (x := yL_bride) (hh := [(0, 10, 13, 13)]) B (atoms_spec (ws := .codeWith yL_bride cL_bride 5 (some .int) [(0, 10, 13, 13)] :: wA) B.pre _ List.mem_cons_self)
  have hts : ∀ w ∈ wA, w.before args s = true := fun w h => atoms_spec (ws := .codeWith yL_bride cL_bride 5 (some .int) [(0, 10, 13, 13)] :: wA) B.pre w (List.mem_cons_of_mem _ h)
  have hown : s.vm.findClass RL = some m.cls := findClass_of_methodNamed B.named
  have hlocks := B.notSynchronized
  subst hsz
  have hD := hT.self (sz := s.heap.size)
  generalize hAe : va_A [(h0, .inr (10, [h0_tape, h0_courtReader, h0_lawReader, h0_draft, .ref aC, h0_laws, .ref g0, h0_kept, h0_acts, h0_studio, h0_mind, h0_draws, h0_refused, h0_lawCount, h0_lawThatHolds, h0_bribery, h0_hasImage])), (aC, .inr (1, [.ref aR, .ref aB, .ref aP, .int nb, .int np])), (aB, .inl (cI, 24, .inl fb)), (g0, .inr (7, [.ref gY, g0_fears, g0_portraits, g0_painted, .int glt, .int gsh, g0_wed, g0_purse, g0_month])), (gY, .inl (cI, 6, .inl gfY)), (o0, .inl (cJ, 1, .inr (.inl fo)))] s.heap.size = A at hD hG ⊢
  have hA : ∀ q : Nat, s.heap.size ≤ q → A q := fun q h => by rw [← hAe]; exact Or.inr h
  have hl := lv_entry ([.ref h0, .int p0, .int p1, .ref o0]) (n := 5) (Nat.le_of_ble_eq_true rfl)
  rw [show entryFrame m args 5 = entryFrame m ([.ref h0, .int p0, .int p1, .ref o0] : List Value).toArray 5 by rw [hargs], lg_entry_eq]
  generalize (lg_sl ([.ref h0, .int p0, .int p1, .ref o0]) ++ List.replicate (5 - (lg_sl ([.ref h0, .int p0, .int p1, .ref o0])).length) Slot.unset).toArray = ls at hl ⊢
  have hl : lv_has ls 5 [(0, .ref h0), (1, .int p0), (2, .int p1), (3, .ref o0)] := hl
  refine zstart (fun H hH => ?_)
  rw [← hH] at hP
  have hS : va_S A s.heap H [] := by rw [hH]; exact va_S.rf
  generalize ([] : List Loc) = locs at hS ⊢
  refine lv_aload_n hx hb dL_bride_0 rfl (lv_at hl 3 rfl) ?_
  refine lv_iconst (v := 0) hx hb dL_bride_1 (by decide) ?_
  refine lv_aload_n hx hb dL_bride_2 rfl (lv_at hl 0 rfl) ?_
  refine lv_iload_n hx hb dL_bride_3 rfl (lv_at hl 1 rfl) ?_
  refine lv_iload_n hx hb dL_bride_4 rfl (lv_at hl 2 rfl) ?_
  have hPc := hP.sub (ws' := [(h0, .inr (10, [h0_tape, h0_courtReader, h0_lawReader, h0_draft, .ref aC, h0_laws, .ref g0, h0_kept, h0_acts, h0_studio, h0_mind, h0_draws, h0_refused, h0_lawCount, h0_lawThatHolds, h0_bribery, h0_hasImage])), (aC, .inr (1, [.ref aR, .ref aB, .ref aP, .int nb, .int np])), (aB, .inl (cI, 24, .inl fb)), (g0, .inr (7, [.ref gY, g0_fears, g0_portraits, g0_painted, .int glt, .int gsh, g0_wed, g0_purse, g0_month])), (gY, .inl (cI, 6, .inl gfY))]) [0, 1, 2, 3, 4] rfl
  have hDc := hD.sub (ws' := [(h0, .inr (10, [h0_tape, h0_courtReader, h0_lawReader, h0_draft, .ref aC, h0_laws, .ref g0, h0_kept, h0_acts, h0_studio, h0_mind, h0_draws, h0_refused, h0_lawCount, h0_lawThatHolds, h0_bribery, h0_hasImage])), (aC, .inr (1, [.ref aR, .ref aB, .ref aP, .int nb, .int np])), (aB, .inl (cI, 24, .inl fb)), (g0, .inr (7, [.ref gY, g0_fears, g0_portraits, g0_painted, .int glt, .int gsh, g0_wed, g0_purse, g0_month])), (gY, .inl (cI, 6, .inl gfY))]) [0, 1, 2, 3, 4] (by decide) rfl
  have hFc := zfr hS hA
  refine vx_calli (vx_runV (As := [.int p0, .int p1]) (rest := [.int 0, .ref o0]) ⟨hx, hb, hml, hown, hts⟩ (c_X10_bride l hl0 dC dI cI cJ h0 p0 p1 h0_tape h0_courtReader h0_lawReader h0_draft aC h0_laws g0 h0_kept h0_acts h0_studio h0_mind h0_draws h0_refused h0_lawCount h0_lawThatHolds h0_bribery h0_hasImage aR aB aP nb np fb gY g0_fears g0_portraits g0_painted glt gsh g0_wed g0_purse g0_month gfY H.size n_nb) (cwV 2 hts (zgV qw1055 qw1056 qw1057 qw98 qw1058) rfl rfl rfl hd_X10_bride ⟨Nat.le_of_ble_eq_true rfl, Nat.le_of_ble_eq_true rfl⟩) (zPGV hPc hK hDc (va_recv (q := (RX10, TX10, 17)) hK hP (ci := 10) (q0 := 0) rfl rfl) (zG_call hG hS hFc)) rfl rfl hl.1 rfl (lv_room (Nat.le_of_ble_eq_true rfl)) dL_bride_5 ⟨Nat.le_of_ble_eq_true rfl, Nat.le_of_ble_eq_true rfl⟩) hS (fun q _ h => hFc q h) hFc (fun q _ h => hFc q h) (fun E ce q9 u t H locs ht hvm hw hB hz1 hk1 hS hce hcv hcl => ?_) (fun r u t H locs ht hvm hw hB hz1 hk1 hS => ?_)
  · have hE : E = zEx := hB
    subst hE
    have hP := zkeep hP hk1
    refine vx_catch hown [] ⟨0, 10, 13, 13⟩ [] htab (fun z h => by cases h) (by decide) (by decide) (hts _ qw1054) (hG.1.2.2.2.use rfl) hce hcv hcl ?_
    refine W.widen (k := 1) (n := 6) (Nat.le_of_ble_eq_true rfl) (Nat.le_of_ble_eq_true rfl) ?_
    refine lv_astore (lv' := [(4, .ref q9), (0, .ref h0), (1, .int p0), (2, .int p1), (3, .ref o0)]) hx hb dL_bride_13 hl (by decide) rfl (fun ls hl => ?_)
    refine lv_iconst (v := 1) hx hb dL_bride_15 (by decide) ?_
    exact W.iret (v := 1) hx hb hr (fun t ht hW => ⟨⟨1, fo, rfl, Or.inr ⟨by decide, hw⟩, by rw [ht]; exact hP, hD⟩, hS.F ht⟩) hS.2.2 dL_bride_16
  · have hP := zkeep hP hk1
    refine W.widen (k := 1) (n := 6) (Nat.le_of_ble_eq_true rfl) (Nat.le_of_ble_eq_true rfl) ?_
    refine lv_i2l hx hb dL_bride_8 rfl ?_
    refine lv_topl (fun v8 e8 => ?_)
    refine va_last hx hb hK hP hD hS 5 1 rfl rfl (by unfold vp_in; decide) dL_bride_9 (fun H locs hP hD hS => ?_)
    obtain ⟨g9, e9⟩ : ∃ g : Nat → Int64, g = vp_updL fo (0 : Int32).toNatClampNeg v8 := ⟨_, rfl⟩
    rw [← e9] at hP hD
    have hP : va_P (dC, dI) vwCl [(h0, .inr (10, [h0_tape, h0_courtReader, h0_lawReader, h0_draft, .ref aC, h0_laws, .ref g0, h0_kept, h0_acts, h0_studio, h0_mind, h0_draws, h0_refused, h0_lawCount, h0_lawThatHolds, h0_bribery, h0_hasImage])), (aC, .inr (1, [.ref aR, .ref aB, .ref aP, .int nb, .int np])), (aB, .inl (cI, 24, .inl fb)), (g0, .inr (7, [.ref gY, g0_fears, g0_portraits, g0_painted, .int glt, .int gsh, g0_wed, g0_purse, g0_month])), (gY, .inl (cI, 6, .inl gfY)), (o0, .inl (cJ, 1, .inr (.inl g9)))] H := hP
    have hD : va_D A [(h0, .inr (10, [h0_tape, h0_courtReader, h0_lawReader, h0_draft, .ref aC, h0_laws, .ref g0, h0_kept, h0_acts, h0_studio, h0_mind, h0_draws, h0_refused, h0_lawCount, h0_lawThatHolds, h0_bribery, h0_hasImage])), (aC, .inr (1, [.ref aR, .ref aB, .ref aP, .int nb, .int np])), (aB, .inl (cI, 24, .inl fb)), (g0, .inr (7, [.ref gY, g0_fears, g0_portraits, g0_painted, .int glt, .int gsh, g0_wed, g0_purse, g0_month])), (gY, .inl (cI, 6, .inl gfY)), (o0, .inl (cJ, 1, .inr (.inl g9)))] := hD
    refine lv_goto (tgt := 17) hx hb dL_bride_10 (by decide) ?_
    refine lv_iconst (v := 0) hx hb dL_bride_17 (by decide) ?_
    exact W.iret (v := 0) hx hb hr (fun t ht hW => ⟨⟨0, g9, rfl, Or.inl ⟨by decide, hw.1, fun kc S hA9 => by have z := hw.2 kc S hA9; rw [← z, e9]; exact (zul_s (k := (0 : Int32).toNatClampNeg)).trans e8⟩, by rw [ht]; exact hP, hD⟩, hS.F ht⟩) hS.2.2 dL_bride_18
