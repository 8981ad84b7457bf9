set_option maxHeartbeats 4000000 in
set_option maxRecDepth 100000 in
theorem c_X10_end (l : Launch) (dC : Nat → ClassId) (dI : Nat → Nat → Nat) (cI cJ : ClassId) (h0 h1 h2 h3 h4 h5 h6 h7 h8 h9 h10 h11 h12 h13 h14 : Nat) (sz : Nat) (p0 : Int32) : Met l yX10_end (.code yX10_end cX10_end 2 (some .boolean) :: wA) ({ frames := 0, cells := 0, slots := 0, locals := 0 }) (zP (dC, dI) [(cI, .int), (cJ, .long)] [.ref h0, .int p0] sz [(h0, .inr (10, [.ref h1, .ref h2, .ref h3, .ref h4, .ref h5, .ref h6, .ref h7, .ref h8, .ref h9, .ref h10, .ref h11, .ref h12, .ref h13, .int 0, .int (-1), .int 0, .int 0])), (h1, .inr (9, [.ref h14, .int 0, .int 0]))]) (va_Qi (fun (r : Int32) (_ : Unit) => (p0 < 0 ∧ r = 0) ∨ (¬ p0 < 0 ∧ p0 ≤ 0 ∧ r = 1) ∨ (¬ p0 < 0 ∧ ¬ p0 ≤ 0 ∧ r = 0)) (fun (_ : Unit) (_ : State) => True) (va_A [(h0, .inr (10, [.ref h1, .ref h2, .ref h3, .ref h4, .ref h5, .ref h6, .ref h7, .ref h8, .ref h9, .ref h10, .ref h11, .ref h12, .ref h13, .int 0, .int (-1), .int 0, .int 0])), (h1, .inr (9, [.ref h14, .int 0, .int 0]))] sz)) 0 0 (va_A [(h0, .inr (10, [.ref h1, .ref h2, .ref h3, .ref h4, .ref h5, .ref h6, .ref h7, .ref h8, .ref h9, .ref h10, .ref h11, .ref h12, .ref h13, .int 0, .int (-1), .int 0, .int 0])), (h1, .inr (9, [.ref h14, .int 0, .int 0]))] sz) := by
  refine Met.ofW (cc := cX10_end) (maxL := 2) (ret := (some .boolean)) (by decide) rfl ?_
  intro p e s m args below meth c s₁ B hml hv
  obtain ⟨rfl, hsz, hP, hK, hT⟩ := hv
  have hx := B.exec
  have hb := B.bytes
  have hr := B.returns
  have hts : ∀ w ∈ wA, w.before _ s = true := fun w h => atoms_spec (ws := .code yX10_end cX10_end 2 (some .boolean) :: wA) B.pre w (List.mem_cons_of_mem _ h)
  have hown : s.vm.findClass RX10 = some m.cls := findClass_of_methodNamed B.named
  have hlocks := B.notSynchronized
  subst hsz
  have hD := hT.self (sz := s.heap.size)
  generalize hAe : va_A [(h0, .inr (10, [.ref h1, .ref h2, .ref h3, .ref h4, .ref h5, .ref h6, .ref h7, .ref h8, .ref h9, .ref h10, .ref h11, .ref h12, .ref h13, .int 0, .int (-1), .int 0, .int 0])), (h1, .inr (9, [.ref h14, .int 0, .int 0]))] s.heap.size = A at hD ⊢
  have hA : ∀ q : Nat, s.heap.size ≤ q → A q := fun q h => by rw [← hAe]; exact Or.inr h
  have hl := lv_entry ([.ref h0, .int p0]) (n := 2) (Nat.le_of_ble_eq_true rfl)
  rw [lg_entry_eq]
  generalize (lg_sl ([.ref h0, .int p0]) ++ List.replicate (2 - (lg_sl ([.ref h0, .int p0])).length) Slot.unset).toArray = ls at hl ⊢
  have hl : lv_has ls 2 [(0, .ref h0), (1, .int p0)] := hl
  refine zstart (fun H hH => ?_)
  rw [← hH] at hP
  have hS : va_S A s.heap H [] := by rw [hH]; exact va_S.rf
  refine lv_iload_n hx hb dX10_end_0 rfl (lv_at hl 1 rfl) ?_
  refine lv_if_lt (tgt := 15) hx hb dX10_end_1 (by decide) (fun c_1 => ?_) (fun c_1 => ?_)
  · have i_1 : p0.toInt < 0 := z1 rfl (by decide) c_1
    refine lv_iconst (v := 0) hx hb dX10_end_15 (by decide) ?_
    exact W.zret (v := 0) (ty := .boolean) hx hb hr rfl (fun t ht hW => ⟨⟨0, (), rfl, Or.inl ⟨c_1, rfl⟩, trivial⟩, hS.F ht⟩) hS.2.2 dX10_end_16
  · have i_1 : 0 ≤ p0.toInt := z2 rfl (by decide) c_1
    refine lv_iload_n hx hb dX10_end_4 rfl (lv_at hl 1 rfl) ?_
    refine lv_aload_n hx hb dX10_end_5 rfl (lv_at hl 0 rfl) ?_
    refine va_get (D := (dC, dI)) (ci := 10) (v := .ref h1) (C := RX10) (T := TX10) (N := 17) hx hb hts iX10 hown hK hP 0 rfl rfl 0 (by decide) (hts _ qw356) (fun _ h9 => h9) rfl dX10_end_6 ?_
    refine va_get (D := (dC, dI)) (ci := 9) (v := .int 0) (C := RX9) (T := TX9) (N := 3) hx hb hts iX9 hown hK hP 1 rfl rfl 1 (by decide) (hts _ qw133) (fun _ h9 => h9) rfl dX10_end_9 ?_
    refine lv_icmp_le (tgt := 17) hx hb dX10_end_12 (by decide) (fun c_2 => ?_) (fun c_2 => ?_)
    · have i_2 : p0.toInt ≤ 0 := z3 rfl (by decide) c_2
      refine lv_aload_n hx hb dX10_end_17 rfl (lv_at hl 0 rfl) ?_
      refine va_get (D := (dC, dI)) (ci := 10) (v := .ref h1) (C := RX10) (T := TX10) (N := 17) hx hb hts iX10 hown hK hP 0 rfl rfl 0 (by decide) (hts _ qw356) (fun _ h9 => h9) rfl dX10_end_18 ?_
      refine lv_iload_n hx hb dX10_end_21 rfl (lv_at hl 1 rfl) ?_
      refine va_put (D := (dC, dI)) (ci := 9) (v := .int p0) (ty := .int) (C := RX9) (T := TX9) (N := 3) hx hb hts iX9 tyX9 tyX9_ok nmX9 hown hK hP hD hS 1 rfl rfl 1 (by decide) (hts _ qw133) (fun _ h9 => h9) rfl (by decide +kernel) rfl rfl (Nat.le_of_ble_eq_true rfl) dX10_end_22 (fun H locs hP hD hS => ?_)
      have hP : va_P (dC, dI) vwCl [(h0, .inr (10, [.ref h1, .ref h2, .ref h3, .ref h4, .ref h5, .ref h6, .ref h7, .ref h8, .ref h9, .ref h10, .ref h11, .ref h12, .ref h13, .int 0, .int (-1), .int 0, .int 0])), (h1, .inr (9, [.ref h14, .int p0, .int 0]))] H := hP
      have hD : va_D A [(h0, .inr (10, [.ref h1, .ref h2, .ref h3, .ref h4, .ref h5, .ref h6, .ref h7, .ref h8, .ref h9, .ref h10, .ref h11, .ref h12, .ref h13, .int 0, .int (-1), .int 0, .int 0])), (h1, .inr (9, [.ref h14, .int p0, .int 0]))] := hD
      refine lv_iconst (v := 1) hx hb dX10_end_25 (by decide) ?_
      exact W.zret (v := 1) (ty := .boolean) hx hb hr rfl (fun t ht hW => ⟨⟨1, (), rfl, Or.inr (Or.inl ⟨c_1, c_2, rfl⟩), trivial⟩, hS.F ht⟩) hS.2.2 dX10_end_26
    · have i_2 : 0 < p0.toInt := z4 rfl (by decide) c_2
      refine lv_iconst (v := 0) hx hb dX10_end_15 (by decide) ?_
      exact W.zret (v := 0) (ty := .boolean) hx hb hr rfl (fun t ht hW => ⟨⟨0, (), rfl, Or.inr (Or.inr (⟨c_1, c_2, rfl⟩)), trivial⟩, hS.F ht⟩) hS.2.2 dX10_end_16
set_option maxHeartbeats 4000000 in
set_option maxRecDepth 100000 in
theorem c_X10_hasCourt (l : Launch) (dC : Nat → ClassId) (dI : Nat → Nat → Nat) (cI cJ : ClassId) (h0 h1 h2 h3 h4 h5 h6 h7 h8 h9 h10 h11 h12 h13 h14 h15 h16 : Nat) (sz : Nat) : Met l yX10_hasCourt (.code yX10_hasCourt cX10_hasCourt 1 (some .boolean) :: wA) ({ frames := 0, cells := 0, slots := 0, locals := 0 }) (zP (dC, dI) [(cI, .int), (cJ, .long)] [.ref h0] sz [(h0, .inr (10, [.ref h1, .ref h2, .ref h3, .ref h4, .ref h5, .ref h6, .ref h7, .ref h8, .ref h9, .ref h10, .ref h11, .ref h12, .ref h13, .int 0, .int (-1), .int 0, .int 0])), (h5, .inr (1, [.ref h14, .ref h15, .ref h16, .int 0, .int 0]))]) (va_Qi (fun (r : Int32) (_ : Unit) => r = 0) (fun (_ : Unit) (_ : State) => True) (va_A [] sz)) 0 0 (va_A [] sz) := by
  refine Met.ofW (cc := cX10_hasCourt) (maxL := 1) (ret := (some .boolean)) (by decide) rfl ?_
  intro p e s m args below meth c s₁ B hml hv
  obtain ⟨rfl, hsz, hP, hK, hT⟩ := hv
  have hx := B.exec
  have hb := B.bytes
  have hr := B.returns
  have hts : ∀ w ∈ wA, w.before _ s = true := fun w h => atoms_spec (ws := .code yX10_hasCourt cX10_hasCourt 1 (some .boolean) :: wA) B.pre w (List.mem_cons_of_mem _ h)
  have hown : s.vm.findClass RX10 = some m.cls := findClass_of_methodNamed B.named
  have hlocks := B.notSynchronized
  subst hsz
  have hD : va_D (va_A [] s.heap.size) [] := zD0
  generalize hAe : va_A [] s.heap.size = A at hD ⊢
  have hA : ∀ q : Nat, s.heap.size ≤ q → A q := fun q h => by rw [← hAe]; exact Or.inr h
  have hl := lv_entry ([.ref h0]) (n := 1) (Nat.le_of_ble_eq_true rfl)
  rw [lg_entry_eq]
  generalize (lg_sl ([.ref h0]) ++ List.replicate (1 - (lg_sl ([.ref h0])).length) Slot.unset).toArray = ls at hl ⊢
  have hl : lv_has ls 1 [(0, .ref h0)] := hl
  refine zstart (fun H hH => ?_)
  rw [← hH] at hP
  have hS : va_S A s.heap H [] := by rw [hH]; exact va_S.rf
  refine lv_aload_n hx hb dX10_hasCourt_0 rfl (lv_at hl 0 rfl) ?_
  refine va_get (D := (dC, dI)) (ci := 10) (v := .ref h5) (C := RX10) (T := TX10) (N := 17) hx hb hts iX10 hown hK hP 0 rfl rfl 4 (by decide) (hts _ qw360) (fun _ h9 => h9) rfl dX10_hasCourt_1 ?_
  refine va_get (D := (dC, dI)) (ci := 1) (v := .int 0) (C := RX1) (T := TX1) (N := 5) hx hb hts iX1 hown hK hP 1 rfl rfl 3 (by decide) (hts _ qw195) (fun _ h9 => h9) rfl dX10_hasCourt_4 ?_
  refine lv_if_le (tgt := 14) hx hb dX10_hasCourt_7 (by decide) (fun _ => ?_) (fun c => absurd (by decide) c)
  refine lv_iconst (v := 0) hx hb dX10_hasCourt_14 (by decide) ?_
  exact W.zret (v := 0) (ty := .boolean) hx hb hr rfl (fun t ht hW => ⟨⟨0, (), rfl, rfl, trivial⟩, hS.F ht⟩) hS.2.2 dX10_hasCourt_15
set_option maxHeartbeats 4000000 in
set_option maxRecDepth 100000 in
theorem c_X10_rule (l : Launch) (dC : Nat → ClassId) (dI : Nat → Nat → Nat) (cI cJ : ClassId) (h0 h1 h2 h3 h4 h5 h6 h7 h8 h9 h10 h11 h12 h13 h14 h15 h16 : Nat) (sz : Nat) (p0 : Int32) : Met l yX10_rule (.code yX10_rule cX10_rule 2 (some .int) :: wA) ({ frames := 1, cells := 0, slots := 0, locals := 20 }) (zP (dC, dI) [(cI, .int), (cJ, .long)] [.ref h0, .int p0] sz [(h0, .inr (10, [.ref h1, .ref h2, .ref h3, .ref h4, .ref h5, .ref h6, .ref h7, .ref h8, .ref h9, .ref h10, .ref h11, .ref h12, .ref h13, .int 0, .int (-1), .int 0, .int 0])), (h5, .inr (1, [.ref h14, .ref h15, .ref h16, .int 0, .int 0]))]) (va_Qi (fun (r : Int32) (_ : Unit) => r = (-1)) (fun (_ : Unit) (_ : State) => True) (va_A [] sz)) 0 0 (va_A [] sz) := by
  refine Met.ofW (cc := cX10_rule) (maxL := 2) (ret := (some .int)) (by decide) rfl ?_
  intro p e s m args below meth c s₁ B hml hv
  obtain ⟨rfl, hsz, hP, hK, hT⟩ := hv
  have hx := B.exec
  have hb := B.bytes
  have hr := B.returns
  have hts : ∀ w ∈ wA, w.before _ s = true := fun w h => atoms_spec (ws := .code yX10_rule cX10_rule 2 (some .int) :: wA) B.pre w (List.mem_cons_of_mem _ h)
  have hown : s.vm.findClass RX10 = some m.cls := findClass_of_methodNamed B.named
  have hlocks := B.notSynchronized
  subst hsz
  have hD : va_D (va_A [] s.heap.size) [] := zD0
  generalize hAe : va_A [] s.heap.size = A at hD ⊢
  have hA : ∀ q : Nat, s.heap.size ≤ q → A q := fun q h => by rw [← hAe]; exact Or.inr h
  have hl := lv_entry ([.ref h0, .int p0]) (n := 2) (Nat.le_of_ble_eq_true rfl)
  rw [lg_entry_eq]
  generalize (lg_sl ([.ref h0, .int p0]) ++ List.replicate (2 - (lg_sl ([.ref h0, .int p0])).length) Slot.unset).toArray = ls at hl ⊢
  have hl : lv_has ls 2 [(0, .ref h0), (1, .int p0)] := hl
  refine zstart (fun H hH => ?_)
  rw [← hH] at hP
  have hS : va_S A s.heap H [] := by rw [hH]; exact va_S.rf
  refine lv_aload_n hx hb dX10_rule_0 rfl (lv_at hl 0 rfl) ?_
  have hPc := hP.sub (ws' := [(h0, .inr (10, [.ref h1, .ref h2, .ref h3, .ref h4, .ref h5, .ref h6, .ref h7, .ref h8, .ref h9, .ref h10, .ref h11, .ref h12, .ref h13, .int 0, .int (-1), .int 0, .int 0])), (h5, .inr (1, [.ref h14, .ref h15, .ref h16, .int 0, .int 0]))]) [0, 1] rfl
  have hDc := hT.sub (ws' := [(h0, .inr (10, [.ref h1, .ref h2, .ref h3, .ref h4, .ref h5, .ref h6, .ref h7, .ref h8, .ref h9, .ref h10, .ref h11, .ref h12, .ref h13, .int 0, .int (-1), .int 0, .int 0])), (h5, .inr (1, [.ref h14, .ref h15, .ref h16, .int 0, .int 0]))]) [0, 1] (by decide) rfl
  have hFc := zfr hS hA
  refine va_calli (va_runV (As := []) (rest := []) ⟨hx, hb, hml, hown, hts⟩ (c_X10_hasCourt l dC dI cI cJ h0 h1 h2 h3 h4 h5 h6 h7 h8 h9 h10 h11 h12 h13 h14 h15 h16 H.size) (cwV 0 hts (zgV qw584 qw586 qw10 qw98 qw587) rfl rfl rfl hd_X10_hasCourt ⟨Nat.le_of_ble_eq_true rfl, Nat.le_of_ble_eq_true rfl⟩) (zPV hPc hK hDc (va_recv hK hP (ci := 10) (q0 := 0) rfl rfl)) rfl rfl hl.1 rfl (lv_room (Nat.le_of_ble_eq_true rfl)) dX10_rule_1 ⟨Nat.le_of_ble_eq_true rfl, Nat.le_of_ble_eq_true rfl⟩) hS (fun q _ h => hFc q h) hFc (fun r_1 u t H locs ht hvm hw hB hz1 hk1 hS => ?_)
  have hP := zkeep hP hk1
  have hw : r_1 = 0 := hw
  subst hw
  refine lv_if_ne (tgt := 9) hx hb dX10_rule_4 (by decide) (fun c => absurd (by decide) c) (fun _ => ?_)
  refine lv_iconst (v := (-1)) hx hb dX10_rule_7 (by decide) ?_
  exact W.iret (v := ((-1))) hx hb hr (fun t ht hW => ⟨⟨(-1), (), rfl, rfl, trivial⟩, hS.F ht⟩) hS.2.2 dX10_rule_8
set_option maxHeartbeats 4000000 in
set_option maxRecDepth 100000 in
theorem c_X10_isPainter (l : Launch) (dC : Nat → ClassId) (dI : Nat → Nat → Nat) (cI cJ : ClassId) (h0 h1 h2 h3 h4 h5 h6 h7 h8 h9 h10 h11 h12 h13 h14 h15 h16 : Nat) (sz : Nat) (p0 : Int32) : Met l yX10_isPainter (.code yX10_isPainter cX10_isPainter 2 (some .boolean) :: wA) ({ frames := 0, cells := 0, slots := 0, locals := 0 }) (zP (dC, dI) [(cI, .int), (cJ, .long)] [.ref h0, .int p0] sz [(h0, .inr (10, [.ref h1, .ref h2, .ref h3, .ref h4, .ref h5, .ref h6, .ref h7, .ref h8, .ref h9, .ref h10, .ref h11, .ref h12, .ref h13, .int 0, .int (-1), .int 0, .int 0])), (h5, .inr (1, [.ref h14, .ref h15, .ref h16, .int 0, .int 0]))]) (va_Qi (fun (r : Int32) (_ : Unit) => r = 0) (fun (_ : Unit) (_ : State) => True) (va_A [] sz)) 0 0 (va_A [] sz) := by
  refine Met.ofW (cc := cX10_isPainter) (maxL := 2) (ret := (some .boolean)) (by decide) rfl ?_
  intro p e s m args below meth c s₁ B hml hv
  obtain ⟨rfl, hsz, hP, hK, hT⟩ := hv
  have hx := B.exec
  have hb := B.bytes
  have hr := B.returns
  have hts : ∀ w ∈ wA, w.before _ s = true := fun w h => atoms_spec (ws := .code yX10_isPainter cX10_isPainter 2 (some .boolean) :: wA) B.pre w (List.mem_cons_of_mem _ h)
  have hown : s.vm.findClass RX10 = some m.cls := findClass_of_methodNamed B.named
  have hlocks := B.notSynchronized
  subst hsz
  have hD : va_D (va_A [] s.heap.size) [] := zD0
  generalize hAe : va_A [] s.heap.size = A at hD ⊢
  have hA : ∀ q : Nat, s.heap.size ≤ q → A q := fun q h => by rw [← hAe]; exact Or.inr h
  have hl := lv_entry ([.ref h0, .int p0]) (n := 2) (Nat.le_of_ble_eq_true rfl)
  rw [lg_entry_eq]
  generalize (lg_sl ([.ref h0, .int p0]) ++ List.replicate (2 - (lg_sl ([.ref h0, .int p0])).length) Slot.unset).toArray = ls at hl ⊢
  have hl : lv_has ls 2 [(0, .ref h0), (1, .int p0)] := hl
  refine zstart (fun H hH => ?_)
  rw [← hH] at hP
  have hS : va_S A s.heap H [] := by rw [hH]; exact va_S.rf
  refine lv_iload_n hx hb dX10_isPainter_0 rfl (lv_at hl 1 rfl) ?_
  refine lv_if_lt (tgt := 19) hx hb dX10_isPainter_1 (by decide) (fun c_1 => ?_) (fun c_1 => ?_)
  · have i_1 : p0.toInt < 0 := z1 rfl (by decide) c_1
    refine lv_iconst (v := 0) hx hb dX10_isPainter_19 (by decide) ?_
    exact W.zret (v := 0) (ty := .boolean) hx hb hr rfl (fun t ht hW => ⟨⟨0, (), rfl, rfl, trivial⟩, hS.F ht⟩) hS.2.2 dX10_isPainter_20
  · have i_1 : 0 ≤ p0.toInt := z2 rfl (by decide) c_1
    refine lv_iload_n hx hb dX10_isPainter_4 rfl (lv_at hl 1 rfl) ?_
    refine lv_aload_n hx hb dX10_isPainter_5 rfl (lv_at hl 0 rfl) ?_
    refine va_get (D := (dC, dI)) (ci := 10) (v := .ref h5) (C := RX10) (T := TX10) (N := 17) hx hb hts iX10 hown hK hP 0 rfl rfl 4 (by decide) (hts _ qw360) (fun _ h9 => h9) rfl dX10_isPainter_6 ?_
    refine va_get (D := (dC, dI)) (ci := 1) (v := .int 0) (C := RX1) (T := TX1) (N := 5) hx hb hts iX1 hown hK hP 1 rfl rfl 4 (by decide) (hts _ qw200) (fun _ h9 => h9) rfl dX10_isPainter_9 ?_
    refine lv_icmp_ge (tgt := 19) hx hb dX10_isPainter_12 (by decide) (fun c_2 => ?_) (fun c_2 => by exfalso; have i_2 : p0.toInt < 0 := z4 (by decide) rfl c_2; omega)
    have i_2 : 0 ≤ p0.toInt := z3 (by decide) rfl c_2
    refine lv_iconst (v := 0) hx hb dX10_isPainter_19 (by decide) ?_
    exact W.zret (v := 0) (ty := .boolean) hx hb hr rfl (fun t ht hW => ⟨⟨0, (), rfl, rfl, trivial⟩, hS.F ht⟩) hS.2.2 dX10_isPainter_20
set_option maxHeartbeats 4000000 in
set_option maxRecDepth 100000 in
theorem c_X10_painter (l : Launch) (dC : Nat → ClassId) (dI : Nat → Nat → Nat) (cI cJ : ClassId) (h0 h1 h2 h3 h4 h5 h6 h7 h8 h9 h10 h11 h12 h13 h14 h15 h16 : Nat) (sz : Nat) (p0 : Int32) (p1 : Int32) : Met l yX10_painter (.code yX10_painter cX10_painter 3 (some .int) :: wA) ({ frames := 1, cells := 0, slots := 0, locals := 21 }) (zP (dC, dI) [(cI, .int), (cJ, .long)] [.ref h0, .int p0, .int p1] sz [(h0, .inr (10, [.ref h1, .ref h2, .ref h3, .ref h4, .ref h5, .ref h6, .ref h7, .ref h8, .ref h9, .ref h10, .ref h11, .ref h12, .ref h13, .int 0, .int (-1), .int 0, .int 0])), (h5, .inr (1, [.ref h14, .ref h15, .ref h16, .int 0, .int 0]))]) (va_Qi (fun (r : Int32) (_ : Unit) => r = (-1)) (fun (_ : Unit) (_ : State) => True) (va_A [] sz)) 0 0 (va_A [] sz) := by
  refine Met.ofW (cc := cX10_painter) (maxL := 3) (ret := (some .int)) (by decide) rfl ?_
  intro p e s m args below meth c s₁ B hml hv
  obtain ⟨rfl, hsz, hP, hK, hT⟩ := hv
  have hx := B.exec
  have hb := B.bytes
  have hr := B.returns
  have hts : ∀ w ∈ wA, w.before _ s = true := fun w h => atoms_spec (ws := .code yX10_painter cX10_painter 3 (some .int) :: wA) B.pre w (List.mem_cons_of_mem _ h)
  have hown : s.vm.findClass RX10 = some m.cls := findClass_of_methodNamed B.named
  have hlocks := B.notSynchronized
  subst hsz
  have hD : va_D (va_A [] s.heap.size) [] := zD0
  generalize hAe : va_A [] s.heap.size = A at hD ⊢
  have hA : ∀ q : Nat, s.heap.size ≤ q → A q := fun q h => by rw [← hAe]; exact Or.inr h
  have hl := lv_entry ([.ref h0, .int p0, .int p1]) (n := 3) (Nat.le_of_ble_eq_true rfl)
  rw [lg_entry_eq]
  generalize (lg_sl ([.ref h0, .int p0, .int p1]) ++ List.replicate (3 - (lg_sl ([.ref h0, .int p0, .int p1])).length) Slot.unset).toArray = ls at hl ⊢
  have hl : lv_has ls 3 [(0, .ref h0), (1, .int p0), (2, .int p1)] := hl
  refine zstart (fun H hH => ?_)
  rw [← hH] at hP
  have hS : va_S A s.heap H [] := by rw [hH]; exact va_S.rf
  refine lv_aload_n hx hb dX10_painter_0 rfl (lv_at hl 0 rfl) ?_
  refine lv_iload_n hx hb dX10_painter_1 rfl (lv_at hl 1 rfl) ?_
  have hPc := hP.sub (ws' := [(h0, .inr (10, [.ref h1, .ref h2, .ref h3, .ref h4, .ref h5, .ref h6, .ref h7, .ref h8, .ref h9, .ref h10, .ref h11, .ref h12, .ref h13, .int 0, .int (-1), .int 0, .int 0])), (h5, .inr (1, [.ref h14, .ref h15, .ref h16, .int 0, .int 0]))]) [0, 1] rfl
  have hDc := hT.sub (ws' := [(h0, .inr (10, [.ref h1, .ref h2, .ref h3, .ref h4, .ref h5, .ref h6, .ref h7, .ref h8, .ref h9, .ref h10, .ref h11, .ref h12, .ref h13, .int 0, .int (-1), .int 0, .int 0])), (h5, .inr (1, [.ref h14, .ref h15, .ref h16, .int 0, .int 0]))]) [0, 1] (by decide) rfl
  have hFc := zfr hS hA
  refine va_calli (va_runV (As := [.int p0]) (rest := []) ⟨hx, hb, hml, hown, hts⟩ (c_X10_isPainter l dC dI cI cJ h0 h1 h2 h3 h4 h5 h6 h7 h8 h9 h10 h11 h12 h13 h14 h15 h16 H.size p0) (cwV 1 hts (zgV qw600 qw602 qw11 qw98 qw603) rfl rfl rfl hd_X10_isPainter ⟨Nat.le_of_ble_eq_true rfl, Nat.le_of_ble_eq_true rfl⟩) (zPV hPc hK hDc (va_recv hK hP (ci := 10) (q0 := 0) rfl rfl)) rfl rfl hl.1 rfl (lv_room (Nat.le_of_ble_eq_true rfl)) dX10_painter_2 ⟨Nat.le_of_ble_eq_true rfl, Nat.le_of_ble_eq_true rfl⟩) hS (fun q _ h => hFc q h) hFc (fun r_1 u t H locs ht hvm hw hB hz1 hk1 hS => ?_)
  have hP := zkeep hP hk1
  have hw : r_1 = 0 := hw
  subst hw
  refine lv_if_ne (tgt := 10) hx hb dX10_painter_5 (by decide) (fun c => absurd (by decide) c) (fun _ => ?_)
  refine lv_iconst (v := (-1)) hx hb dX10_painter_8 (by decide) ?_
  exact W.iret (v := ((-1))) hx hb hr (fun t ht hW => ⟨⟨(-1), (), rfl, rfl, trivial⟩, hS.F ht⟩) hS.2.2 dX10_painter_9
set_option maxHeartbeats 4000000 in
set_option maxRecDepth 100000 in
theorem c_X10_law (l : Launch) (dC : Nat → ClassId) (dI : Nat → Nat → Nat) (cI cJ : ClassId) (h0 h1 h2 h3 h4 h5 h6 h7 h8 h9 h10 h11 h12 h13 h14 h15 h16 h17 : Nat) (sz : Nat) (p0 : Int32) : Met l yX10_law (.code yX10_law cX10_law 2 (some .boolean) :: wA) ({ frames := 0, cells := 0, slots := 0, locals := 0 }) (zP (dC, dI) [(cI, .int), (cJ, .long)] [.ref h0, .int p0] sz [(h0, .inr (10, [.ref h1, .ref h2, .ref h3, .ref h4, .ref h5, .ref h6, .ref h7, .ref h8, .ref h9, .ref h10, .ref h11, .ref h12, .ref h13, .int 0, .int (-1), .int 0, .int 0])), (h10, .inr (8, [.ref h14, .ref h15, .ref h5, .ref h7, .ref h16, .ref h17, .null]))]) (va_Qi (fun (r : Int32) (_ : Unit) => (p0 < (-1) ∧ r = 0) ∨ (¬ p0 < (-1) ∧ p0 < 0 ∧ r = 1) ∨ (¬ p0 < (-1) ∧ ¬ p0 < 0 ∧ r = 0)) (fun (_ : Unit) (_ : State) => True) (va_A [(h0, .inr (10, [.ref h1, .ref h2, .ref h3, .ref h4, .ref h5, .ref h6, .ref h7, .ref h8, .ref h9, .ref h10, .ref h11, .ref h12, .ref h13, .int 0, .int (-1), .int 0, .int 0])), (h10, .inr (8, [.ref h14, .ref h15, .ref h5, .ref h7, .ref h16, .ref h17, .null]))] sz)) 0 0 (va_A [(h0, .inr (10, [.ref h1, .ref h2, .ref h3, .ref h4, .ref h5, .ref h6, .ref h7, .ref h8, .ref h9, .ref h10, .ref h11, .ref h12, .ref h13, .int 0, .int (-1), .int 0, .int 0])), (h10, .inr (8, [.ref h14, .ref h15, .ref h5, .ref h7, .ref h16, .ref h17, .null]))] sz) := by
  refine Met.ofW (cc := cX10_law) (maxL := 2) (ret := (some .boolean)) (by decide) rfl ?_
  intro p e s m args below meth c s₁ B hml hv
  obtain ⟨rfl, hsz, hP, hK, hT⟩ := hv
  have hx := B.exec
  have hb := B.bytes
  have hr := B.returns
  have hts : ∀ w ∈ wA, w.before _ s = true := fun w h => atoms_spec (ws := .code yX10_law cX10_law 2 (some .boolean) :: wA) B.pre w (List.mem_cons_of_mem _ h)
  have hown : s.vm.findClass RX10 = some m.cls := findClass_of_methodNamed B.named
  have hlocks := B.notSynchronized
  subst hsz
  have hD := hT.self (sz := s.heap.size)
  generalize hAe : va_A [(h0, .inr (10, [.ref h1, .ref h2, .ref h3, .ref h4, .ref h5, .ref h6, .ref h7, .ref h8, .ref h9, .ref h10, .ref h11, .ref h12, .ref h13, .int 0, .int (-1), .int 0, .int 0])), (h10, .inr (8, [.ref h14, .ref h15, .ref h5, .ref h7, .ref h16, .ref h17, .null]))] s.heap.size = A at hD ⊢
  have hA : ∀ q : Nat, s.heap.size ≤ q → A q := fun q h => by rw [← hAe]; exact Or.inr h
  have hl := lv_entry ([.ref h0, .int p0]) (n := 2) (Nat.le_of_ble_eq_true rfl)
  rw [lg_entry_eq]
  generalize (lg_sl ([.ref h0, .int p0]) ++ List.replicate (2 - (lg_sl ([.ref h0, .int p0])).length) Slot.unset).toArray = ls at hl ⊢
  have hl : lv_has ls 2 [(0, .ref h0), (1, .int p0)] := hl
  refine zstart (fun H hH => ?_)
  rw [← hH] at hP
  have hS : va_S A s.heap H [] := by rw [hH]; exact va_S.rf
  refine lv_iload_n hx hb dX10_law_0 rfl (lv_at hl 1 rfl) ?_
  refine lv_iconst (v := (-1)) hx hb dX10_law_1 (by decide) ?_
  refine lv_icmp_lt (tgt := 13) hx hb dX10_law_2 (by decide) (fun c_1 => ?_) (fun c_1 => ?_)
  · have i_1 : p0.toInt < (-1) := z1 rfl (by decide) c_1
    refine lv_iconst (v := 0) hx hb dX10_law_13 (by decide) ?_
    exact W.zret (v := 0) (ty := .boolean) hx hb hr rfl (fun t ht hW => ⟨⟨0, (), rfl, Or.inl ⟨c_1, rfl⟩, trivial⟩, hS.F ht⟩) hS.2.2 dX10_law_14
  · have i_1 : (-1) ≤ p0.toInt := z2 rfl (by decide) c_1
    refine lv_iload_n hx hb dX10_law_5 rfl (lv_at hl 1 rfl) ?_
    refine lv_aload_n hx hb dX10_law_6 rfl (lv_at hl 0 rfl) ?_
    refine va_get (D := (dC, dI)) (ci := 10) (v := .int 0) (C := RX10) (T := TX10) (N := 17) hx hb hts iX10 hown hK hP 0 rfl rfl 13 (by decide) (hts _ qw369) (fun _ h9 => h9) rfl dX10_law_7 ?_
    refine lv_icmp_lt (tgt := 15) hx hb dX10_law_10 (by decide) (fun c_2 => ?_) (fun c_2 => ?_)
    · have i_2 : p0.toInt < 0 := z1 rfl (by decide) c_2
      refine lv_aload_n hx hb dX10_law_15 rfl (lv_at hl 0 rfl) ?_
      refine lv_iload_n hx hb dX10_law_16 rfl (lv_at hl 1 rfl) ?_
      refine va_put (D := (dC, dI)) (ci := 10) (v := .int p0) (ty := .int) (C := RX10) (T := TX10) (N := 17) hx hb hts iX10 tyX10 tyX10_ok nmX10 hown hK hP hD hS 0 rfl rfl 14 (by decide) (hts _ qw370) (fun _ h9 => h9) rfl (by decide +kernel) rfl rfl (Nat.le_of_ble_eq_true rfl) dX10_law_17 (fun H locs hP hD hS => ?_)
      have hP : va_P (dC, dI) vwCl [(h0, .inr (10, [.ref h1, .ref h2, .ref h3, .ref h4, .ref h5, .ref h6, .ref h7, .ref h8, .ref h9, .ref h10, .ref h11, .ref h12, .ref h13, .int 0, .int p0, .int 0, .int 0])), (h10, .inr (8, [.ref h14, .ref h15, .ref h5, .ref h7, .ref h16, .ref h17, .null]))] H := hP
      have hD : va_D A [(h0, .inr (10, [.ref h1, .ref h2, .ref h3, .ref h4, .ref h5, .ref h6, .ref h7, .ref h8, .ref h9, .ref h10, .ref h11, .ref h12, .ref h13, .int 0, .int p0, .int 0, .int 0])), (h10, .inr (8, [.ref h14, .ref h15, .ref h5, .ref h7, .ref h16, .ref h17, .null]))] := hD
      refine lv_aload_n hx hb dX10_law_20 rfl (lv_at hl 0 rfl) ?_
      refine va_get (D := (dC, dI)) (ci := 10) (v := .ref h10) (C := RX10) (T := TX10) (N := 17) hx hb hts iX10 hown hK hP 0 rfl rfl 9 (by decide) (hts _ qw365) (fun _ h9 => h9) rfl dX10_law_21 ?_
      refine lv_iload_n hx hb dX10_law_24 rfl (lv_at hl 1 rfl) ?_
      refine lv_iconst (v := (-1)) hx hb dX10_law_25 (by decide) ?_
      refine lv_icmp_ne (tgt := 33) hx hb dX10_law_26 (by decide) (fun c_3 => by exfalso; have i_3 : ¬ p0.toInt = (-1) := z6 rfl (by decide) c_3; omega) (fun c_3 => ?_)
      have i_3 : p0.toInt = (-1) := z5 rfl (by decide) c_3
      refine lv_null hx hb dX10_law_29 ?_
      refine lv_goto (tgt := 39) hx hb dX10_law_30 (by decide) ?_
      refine va_put (D := (dC, dI)) (ci := 8) (v := .null) (ty := .object "NinePortraits$Law") (C := RX8) (T := TX8) (N := 7) hx hb hts iX8 tyX8 tyX8_ok nmX8 hown hK hP hD hS 1 rfl rfl 6 (by decide) (hts _ qw294) (fun _ h9 => h9) rfl (by decide +kernel) rfl rfl (Nat.le_of_ble_eq_true rfl) dX10_law_39 (fun H locs hP hD hS => ?_)
      have hP : va_P (dC, dI) vwCl [(h0, .inr (10, [.ref h1, .ref h2, .ref h3, .ref h4, .ref h5, .ref h6, .ref h7, .ref h8, .ref h9, .ref h10, .ref h11, .ref h12, .ref h13, .int 0, .int p0, .int 0, .int 0])), (h10, .inr (8, [.ref h14, .ref h15, .ref h5, .ref h7, .ref h16, .ref h17, .null]))] H := hP
      have hD : va_D A [(h0, .inr (10, [.ref h1, .ref h2, .ref h3, .ref h4, .ref h5, .ref h6, .ref h7, .ref h8, .ref h9, .ref h10, .ref h11, .ref h12, .ref h13, .int 0, .int p0, .int 0, .int 0])), (h10, .inr (8, [.ref h14, .ref h15, .ref h5, .ref h7, .ref h16, .ref h17, .null]))] := hD
      refine lv_iconst (v := 1) hx hb dX10_law_42 (by decide) ?_
      exact W.zret (v := 1) (ty := .boolean) hx hb hr rfl (fun t ht hW => ⟨⟨1, (), rfl, Or.inr (Or.inl ⟨c_1, c_2, rfl⟩), trivial⟩, hS.F ht⟩) hS.2.2 dX10_law_43
    · have i_2 : 0 ≤ p0.toInt := z2 rfl (by decide) c_2
      refine lv_iconst (v := 0) hx hb dX10_law_13 (by decide) ?_
      exact W.zret (v := 0) (ty := .boolean) hx hb hr rfl (fun t ht hW => ⟨⟨0, (), rfl, Or.inr (Or.inr (⟨c_1, c_2, rfl⟩)), trivial⟩, hS.F ht⟩) hS.2.2 dX10_law_14
set_option maxHeartbeats 4000000 in
set_option maxRecDepth 100000 in
theorem c_X10_flattery (l : Launch) (dC : Nat → ClassId) (dI : Nat → Nat → Nat) (cI cJ : ClassId) (h0 h1 h2 h3 h4 h5 h6 h7 h8 h9 h10 h11 h12 h13 h14 h15 h16 : Nat) (sz : Nat) (p0 : Int32) (p1 : Int32) : Met l yX10_flattery (.code yX10_flattery cX10_flattery 3 (some .int) :: wA) ({ frames := 1, cells := 0, slots := 0, locals := 21 }) (zP (dC, dI) [(cI, .int), (cJ, .long)] [.ref h0, .int p0, .int p1] sz [(h0, .inr (10, [.ref h1, .ref h2, .ref h3, .ref h4, .ref h5, .ref h6, .ref h7, .ref h8, .ref h9, .ref h10, .ref h11, .ref h12, .ref h13, .int 0, .int (-1), .int 0, .int 0])), (h5, .inr (1, [.ref h14, .ref h15, .ref h16, .int 0, .int 0]))]) (va_Qi (fun (r : Int32) (_ : Unit) => r = (-1)) (fun (_ : Unit) (_ : State) => True) (va_A [] sz)) 0 0 (va_A [] sz) := by
  refine Met.ofW (cc := cX10_flattery) (maxL := 3) (ret := (some .int)) (by decide) rfl ?_
  intro p e s m args below meth c s₁ B hml hv
  obtain ⟨rfl, hsz, hP, hK, hT⟩ := hv
  have hx := B.exec
  have hb := B.bytes
  have hr := B.returns
  have hts : ∀ w ∈ wA, w.before _ s = true := fun w h => atoms_spec (ws := .code yX10_flattery cX10_flattery 3 (some .int) :: wA) B.pre w (List.mem_cons_of_mem _ h)
  have hown : s.vm.findClass RX10 = some m.cls := findClass_of_methodNamed B.named
  have hlocks := B.notSynchronized
  subst hsz
  have hD : va_D (va_A [] s.heap.size) [] := zD0
  generalize hAe : va_A [] s.heap.size = A at hD ⊢
  have hA : ∀ q : Nat, s.heap.size ≤ q → A q := fun q h => by rw [← hAe]; exact Or.inr h
  have hl := lv_entry ([.ref h0, .int p0, .int p1]) (n := 3) (Nat.le_of_ble_eq_true rfl)
  rw [lg_entry_eq]
  generalize (lg_sl ([.ref h0, .int p0, .int p1]) ++ List.replicate (3 - (lg_sl ([.ref h0, .int p0, .int p1])).length) Slot.unset).toArray = ls at hl ⊢
  have hl : lv_has ls 3 [(0, .ref h0), (1, .int p0), (2, .int p1)] := hl
  refine zstart (fun H hH => ?_)
  rw [← hH] at hP
  have hS : va_S A s.heap H [] := by rw [hH]; exact va_S.rf
  refine lv_aload_n hx hb dX10_flattery_0 rfl (lv_at hl 0 rfl) ?_
  refine lv_iload_n hx hb dX10_flattery_1 rfl (lv_at hl 1 rfl) ?_
  have hPc := hP.sub (ws' := [(h0, .inr (10, [.ref h1, .ref h2, .ref h3, .ref h4, .ref h5, .ref h6, .ref h7, .ref h8, .ref h9, .ref h10, .ref h11, .ref h12, .ref h13, .int 0, .int (-1), .int 0, .int 0])), (h5, .inr (1, [.ref h14, .ref h15, .ref h16, .int 0, .int 0]))]) [0, 1] rfl
  have hDc := hT.sub (ws' := [(h0, .inr (10, [.ref h1, .ref h2, .ref h3, .ref h4, .ref h5, .ref h6, .ref h7, .ref h8, .ref h9, .ref h10, .ref h11, .ref h12, .ref h13, .int 0, .int (-1), .int 0, .int 0])), (h5, .inr (1, [.ref h14, .ref h15, .ref h16, .int 0, .int 0]))]) [0, 1] (by decide) rfl
  have hFc := zfr hS hA
  refine va_calli (va_runV (As := [.int p0]) (rest := []) ⟨hx, hb, hml, hown, hts⟩ (c_X10_isPainter l dC dI cI cJ h0 h1 h2 h3 h4 h5 h6 h7 h8 h9 h10 h11 h12 h13 h14 h15 h16 H.size p0) (cwV 1 hts (zgV qw600 qw602 qw11 qw98 qw603) rfl rfl rfl hd_X10_isPainter ⟨Nat.le_of_ble_eq_true rfl, Nat.le_of_ble_eq_true rfl⟩) (zPV hPc hK hDc (va_recv hK hP (ci := 10) (q0 := 0) rfl rfl)) rfl rfl hl.1 rfl (lv_room (Nat.le_of_ble_eq_true rfl)) dX10_flattery_2 ⟨Nat.le_of_ble_eq_true rfl, Nat.le_of_ble_eq_true rfl⟩) hS (fun q _ h => hFc q h) hFc (fun r_1 u t H locs ht hvm hw hB hz1 hk1 hS => ?_)
  have hP := zkeep hP hk1
  have hw : r_1 = 0 := hw
  subst hw
  refine lv_if_eq (tgt := 16) hx hb dX10_flattery_5 (by decide) (fun _ => ?_) (fun c => absurd (by decide) c)
  refine lv_iconst (v := (-1)) hx hb dX10_flattery_16 (by decide) ?_
  exact W.iret (v := ((-1))) hx hb hr (fun t ht hW => ⟨⟨(-1), (), rfl, rfl, trivial⟩, hS.F ht⟩) hS.2.2 dX10_flattery_17
set_option maxHeartbeats 4000000 in
set_option maxRecDepth 100000 in
theorem c_X10_shown (l : Launch) (dC : Nat → ClassId) (dI : Nat → Nat → Nat) (cI cJ : ClassId) (h0 h1 h2 h3 h4 h5 h6 h7 h8 h9 h10 h11 h12 h13 h14 h15 h16 : Nat) (sz : Nat) (p0 : Int32) (p1 : Int32) (p2 : Int32) : Met l yX10_shown (.code yX10_shown cX10_shown 4 (some .int) :: wA) ({ frames := 1, cells := 0, slots := 0, locals := 21 }) (zP (dC, dI) [(cI, .int), (cJ, .long)] [.ref h0, .int p0, .int p1, .int p2] sz [(h0, .inr (10, [.ref h1, .ref h2, .ref h3, .ref h4, .ref h5, .ref h6, .ref h7, .ref h8, .ref h9, .ref h10, .ref h11, .ref h12, .ref h13, .int 0, .int (-1), .int 0, .int 0])), (h5, .inr (1, [.ref h14, .ref h15, .ref h16, .int 0, .int 0]))]) (va_Qi (fun (r : Int32) (_ : Unit) => r = (-1)) (fun (_ : Unit) (_ : State) => True) (va_A [] sz)) 0 0 (va_A [] sz) := by
  refine Met.ofW (cc := cX10_shown) (maxL := 4) (ret := (some .int)) (by decide) rfl ?_
  intro p e s m args below meth c s₁ B hml hv
  obtain ⟨rfl, hsz, hP, hK, hT⟩ := hv
  have hx := B.exec
  have hb := B.bytes
  have hr := B.returns
  have hts : ∀ w ∈ wA, w.before _ s = true := fun w h => atoms_spec (ws := .code yX10_shown cX10_shown 4 (some .int) :: wA) B.pre w (List.mem_cons_of_mem _ h)
  have hown : s.vm.findClass RX10 = some m.cls := findClass_of_methodNamed B.named
  have hlocks := B.notSynchronized
  subst hsz
  have hD : va_D (va_A [] s.heap.size) [] := zD0
  generalize hAe : va_A [] s.heap.size = A at hD ⊢
  have hA : ∀ q : Nat, s.heap.size ≤ q → A q := fun q h => by rw [← hAe]; exact Or.inr h
  have hl := lv_entry ([.ref h0, .int p0, .int p1, .int p2]) (n := 4) (Nat.le_of_ble_eq_true rfl)
  rw [lg_entry_eq]
  generalize (lg_sl ([.ref h0, .int p0, .int p1, .int p2]) ++ List.replicate (4 - (lg_sl ([.ref h0, .int p0, .int p1, .int p2])).length) Slot.unset).toArray = ls at hl ⊢
  have hl : lv_has ls 4 [(0, .ref h0), (1, .int p0), (2, .int p1), (3, .int p2)] := hl
  refine zstart (fun H hH => ?_)
  rw [← hH] at hP
  have hS : va_S A s.heap H [] := by rw [hH]; exact va_S.rf
  refine lv_aload_n hx hb dX10_shown_0 rfl (lv_at hl 0 rfl) ?_
  refine lv_iload_n hx hb dX10_shown_1 rfl (lv_at hl 1 rfl) ?_
  have hPc := hP.sub (ws' := [(h0, .inr (10, [.ref h1, .ref h2, .ref h3, .ref h4, .ref h5, .ref h6, .ref h7, .ref h8, .ref h9, .ref h10, .ref h11, .ref h12, .ref h13, .int 0, .int (-1), .int 0, .int 0])), (h5, .inr (1, [.ref h14, .ref h15, .ref h16, .int 0, .int 0]))]) [0, 1] rfl
  have hDc := hT.sub (ws' := [(h0, .inr (10, [.ref h1, .ref h2, .ref h3, .ref h4, .ref h5, .ref h6, .ref h7, .ref h8, .ref h9, .ref h10, .ref h11, .ref h12, .ref h13, .int 0, .int (-1), .int 0, .int 0])), (h5, .inr (1, [.ref h14, .ref h15, .ref h16, .int 0, .int 0]))]) [0, 1] (by decide) rfl
  have hFc := zfr hS hA
  refine va_calli (va_runV (As := [.int p0]) (rest := []) ⟨hx, hb, hml, hown, hts⟩ (c_X10_isPainter l dC dI cI cJ h0 h1 h2 h3 h4 h5 h6 h7 h8 h9 h10 h11 h12 h13 h14 h15 h16 H.size p0) (cwV 1 hts (zgV qw600 qw602 qw11 qw98 qw603) rfl rfl rfl hd_X10_isPainter ⟨Nat.le_of_ble_eq_true rfl, Nat.le_of_ble_eq_true rfl⟩) (zPV hPc hK hDc (va_recv hK hP (ci := 10) (q0 := 0) rfl rfl)) rfl rfl hl.1 rfl (lv_room (Nat.le_of_ble_eq_true rfl)) dX10_shown_2 ⟨Nat.le_of_ble_eq_true rfl, Nat.le_of_ble_eq_true rfl⟩) hS (fun q _ h => hFc q h) hFc (fun r_1 u t H locs ht hvm hw hB hz1 hk1 hS => ?_)
  have hP := zkeep hP hk1
  have hw : r_1 = 0 := hw
  subst hw
  refine lv_if_eq (tgt := 23) hx hb dX10_shown_5 (by decide) (fun _ => ?_) (fun c => absurd (by decide) c)
  refine lv_iconst (v := (-1)) hx hb dX10_shown_23 (by decide) ?_
  exact W.iret (v := ((-1))) hx hb hr (fun t ht hW => ⟨⟨(-1), (), rfl, rfl, trivial⟩, hS.F ht⟩) hS.2.2 dX10_shown_24
set_option maxHeartbeats 4000000 in
set_option maxRecDepth 100000 in
theorem c_X10_refuse (l : Launch) (dC : Nat → ClassId) (dI : Nat → Nat → Nat) (cI cJ : ClassId) (h0 h1 h2 h3 h4 h5 h6 h7 h8 h9 h10 h11 h12 h13 : Nat) (sz : Nat) : Met l yX10_refuse (.code yX10_refuse cX10_refuse 2 (some .int) :: wA) ({ frames := 0, cells := 0, slots := 0, locals := 0 }) (zP (dC, dI) [(cI, .int), (cJ, .long)] [.ref h0, .int 0] sz [(h0, .inr (10, [.ref h1, .ref h2, .ref h3, .ref h4, .ref h5, .ref h6, .ref h7, .ref h8, .ref h9, .ref h10, .ref h11, .ref h12, .ref h13, .int 0, .int (-1), .int 0, .int 0])), (h13, .inl (cI, 5, .inl (fun _ => 0)))]) (va_Qi (fun (r : Int32) (_ : Unit) => r = (-1)) (fun (_ : Unit) (t : State) => va_P (dC, dI) vwCl [(h0, .inr (10, [.ref h1, .ref h2, .ref h3, .ref h4, .ref h5, .ref h6, .ref h7, .ref h8, .ref h9, .ref h10, .ref h11, .ref h12, .ref h13, .int 0, .int (-1), .int 0, .int 0])), (h13, .inl (cI, 5, .inl (upd (fun _ => 0) 0 1)))] t.heap ∧ va_D (va_A [(h0, .inr (10, [.ref h1, .ref h2, .ref h3, .ref h4, .ref h5, .ref h6, .ref h7, .ref h8, .ref h9, .ref h10, .ref h11, .ref h12, .ref h13, .int 0, .int (-1), .int 0, .int 0])), (h13, .inl (cI, 5, .inl (fun _ => 0)))] sz) [(h0, .inr (10, [.ref h1, .ref h2, .ref h3, .ref h4, .ref h5, .ref h6, .ref h7, .ref h8, .ref h9, .ref h10, .ref h11, .ref h12, .ref h13, .int 0, .int (-1), .int 0, .int 0])), (h13, .inl (cI, 5, .inl (upd (fun _ => 0) 0 1)))]) (va_A [(h0, .inr (10, [.ref h1, .ref h2, .ref h3, .ref h4, .ref h5, .ref h6, .ref h7, .ref h8, .ref h9, .ref h10, .ref h11, .ref h12, .ref h13, .int 0, .int (-1), .int 0, .int 0])), (h13, .inl (cI, 5, .inl (fun _ => 0)))] sz)) 0 0 (va_A [(h0, .inr (10, [.ref h1, .ref h2, .ref h3, .ref h4, .ref h5, .ref h6, .ref h7, .ref h8, .ref h9, .ref h10, .ref h11, .ref h12, .ref h13, .int 0, .int (-1), .int 0, .int 0])), (h13, .inl (cI, 5, .inl (fun _ => 0)))] sz) := by
  refine Met.ofW (cc := cX10_refuse) (maxL := 2) (ret := (some .int)) (by decide) rfl ?_
  intro p e s m args below meth c s₁ B hml hv
  obtain ⟨rfl, hsz, hP, hK, hT⟩ := hv
  have hx := B.exec
  have hb := B.bytes
  have hr := B.returns
  have hts : ∀ w ∈ wA, w.before _ s = true := fun w h => atoms_spec (ws := .code yX10_refuse cX10_refuse 2 (some .int) :: wA) B.pre w (List.mem_cons_of_mem _ h)
  have hown : s.vm.findClass RX10 = some m.cls := findClass_of_methodNamed B.named
  have hlocks := B.notSynchronized
  subst hsz
  have hD := hT.self (sz := s.heap.size)
  generalize hAe : va_A [(h0, .inr (10, [.ref h1, .ref h2, .ref h3, .ref h4, .ref h5, .ref h6, .ref h7, .ref h8, .ref h9, .ref h10, .ref h11, .ref h12, .ref h13, .int 0, .int (-1), .int 0, .int 0])), (h13, .inl (cI, 5, .inl (fun _ => 0)))] s.heap.size = A at hD ⊢
  have hA : ∀ q : Nat, s.heap.size ≤ q → A q := fun q h => by rw [← hAe]; exact Or.inr h
  have hl := lv_entry ([.ref h0, .int 0]) (n := 2) (Nat.le_of_ble_eq_true rfl)
  rw [lg_entry_eq]
  generalize (lg_sl ([.ref h0, .int 0]) ++ List.replicate (2 - (lg_sl ([.ref h0, .int 0])).length) Slot.unset).toArray = ls at hl ⊢
  have hl : lv_has ls 2 [(0, .ref h0), (1, .int 0)] := hl
  refine zstart (fun H hH => ?_)
  rw [← hH] at hP
  have hS : va_S A s.heap H [] := by rw [hH]; exact va_S.rf
  refine lv_aload_n hx hb dX10_refuse_0 rfl (lv_at hl 0 rfl) ?_
  refine va_get (D := (dC, dI)) (ci := 10) (v := .ref h13) (C := RX10) (T := TX10) (N := 17) hx hb hts iX10 hown hK hP 0 rfl rfl 12 (by decide) (hts _ qw368) (fun _ h9 => h9) rfl dX10_refuse_1 ?_
  refine lv_iload_n hx hb dX10_refuse_4 rfl (lv_at hl 1 rfl) ?_
  refine lv_dup2_11 hx hb dX10_refuse_5 rfl rfl ?_
  refine va_iald hx hb hK hP 1 0 rfl rfl (by unfold vp_in; decide) dX10_refuse_6 ?_
  refine lv_topi (fun v_1 ev_1 => ?_)
  obtain rfl : v_1 = 0 := ev_1.trans rfl
  refine lv_iconst (v := 1) hx hb dX10_refuse_7 (by decide) ?_
  refine lv_iadd hx hb dX10_refuse_8 ?_
  refine lv_topi (fun v_2 ev_2 => ?_)
  obtain rfl : v_2 = 1 := ev_2.trans (by decide)
  refine va_iast hx hb hK hP hD hS 1 0 rfl rfl (by unfold vp_in; decide) dX10_refuse_9 (fun H locs hP hD hS => ?_)
  have hP : va_P (dC, dI) vwCl [(h0, .inr (10, [.ref h1, .ref h2, .ref h3, .ref h4, .ref h5, .ref h6, .ref h7, .ref h8, .ref h9, .ref h10, .ref h11, .ref h12, .ref h13, .int 0, .int (-1), .int 0, .int 0])), (h13, .inl (cI, 5, .inl (upd (fun _ => 0) 0 1)))] H := hP
  have hD : va_D A [(h0, .inr (10, [.ref h1, .ref h2, .ref h3, .ref h4, .ref h5, .ref h6, .ref h7, .ref h8, .ref h9, .ref h10, .ref h11, .ref h12, .ref h13, .int 0, .int (-1), .int 0, .int 0])), (h13, .inl (cI, 5, .inl (upd (fun _ => 0) 0 1)))] := hD
  refine lv_iconst (v := (-1)) hx hb dX10_refuse_10 (by decide) ?_
  exact W.iret (v := ((-1))) hx hb hr (fun t ht hW => ⟨⟨(-1), (), rfl, rfl, ⟨by rw [ht]; exact hP, hD⟩⟩, hS.F ht⟩) hS.2.2 dX10_refuse_11
set_option maxHeartbeats 4000000 in
set_option maxRecDepth 100000 in
theorem c_X10_paint (l : Launch) (dC : Nat → ClassId) (dI : Nat → Nat → Nat) (cI cJ : ClassId) (h0 h1 h2 h3 h4 h5 h6 h7 h8 h9 h10 h11 h12 h13 h14 h15 h16 : Nat) (sz : Nat) (p0 : Int32) (p1 : Int32) : Met l yX10_paint (.code yX10_paint cX10_paint 3 (some .int) :: wA) ({ frames := 1, cells := 0, slots := 0, locals := 21 }) (zP (dC, dI) [(cI, .int), (cJ, .long)] [.ref h0, .int p0, .int p1] sz [(h0, .inr (10, [.ref h1, .ref h2, .ref h3, .ref h4, .ref h5, .ref h6, .ref h7, .ref h8, .ref h9, .ref h10, .ref h11, .ref h12, .ref h13, .int 0, .int (-1), .int 0, .int 0])), (h5, .inr (1, [.ref h14, .ref h15, .ref h16, .int 0, .int 0])), (h13, .inl (cI, 5, .inl (fun _ => 0)))]) (va_Qi (fun (r : Int32) (_ : Unit) => r = (-1)) (fun (_ : Unit) (t : State) => va_P (dC, dI) vwCl [(h5, .inr (1, [.ref h14, .ref h15, .ref h16, .int 0, .int 0])), (h0, .inr (10, [.ref h1, .ref h2, .ref h3, .ref h4, .ref h5, .ref h6, .ref h7, .ref h8, .ref h9, .ref h10, .ref h11, .ref h12, .ref h13, .int 0, .int (-1), .int 0, .int 0])), (h13, .inl (cI, 5, .inl (upd (fun _ => 0) 0 1)))] t.heap ∧ va_D (va_A [(h0, .inr (10, [.ref h1, .ref h2, .ref h3, .ref h4, .ref h5, .ref h6, .ref h7, .ref h8, .ref h9, .ref h10, .ref h11, .ref h12, .ref h13, .int 0, .int (-1), .int 0, .int 0])), (h5, .inr (1, [.ref h14, .ref h15, .ref h16, .int 0, .int 0])), (h13, .inl (cI, 5, .inl (fun _ => 0)))] sz) [(h5, .inr (1, [.ref h14, .ref h15, .ref h16, .int 0, .int 0])), (h0, .inr (10, [.ref h1, .ref h2, .ref h3, .ref h4, .ref h5, .ref h6, .ref h7, .ref h8, .ref h9, .ref h10, .ref h11, .ref h12, .ref h13, .int 0, .int (-1), .int 0, .int 0])), (h13, .inl (cI, 5, .inl (upd (fun _ => 0) 0 1)))]) (va_A [(h0, .inr (10, [.ref h1, .ref h2, .ref h3, .ref h4, .ref h5, .ref h6, .ref h7, .ref h8, .ref h9, .ref h10, .ref h11, .ref h12, .ref h13, .int 0, .int (-1), .int 0, .int 0])), (h5, .inr (1, [.ref h14, .ref h15, .ref h16, .int 0, .int 0])), (h13, .inl (cI, 5, .inl (fun _ => 0)))] sz)) 0 0 (va_A [(h0, .inr (10, [.ref h1, .ref h2, .ref h3, .ref h4, .ref h5, .ref h6, .ref h7, .ref h8, .ref h9, .ref h10, .ref h11, .ref h12, .ref h13, .int 0, .int (-1), .int 0, .int 0])), (h5, .inr (1, [.ref h14, .ref h15, .ref h16, .int 0, .int 0])), (h13, .inl (cI, 5, .inl (fun _ => 0)))] sz) := by
  refine Met.ofW (cc := cX10_paint) (maxL := 3) (ret := (some .int)) (by decide) rfl ?_
  intro p e s m args below meth c s₁ B hml hv
  obtain ⟨rfl, hsz, hP, hK, hT⟩ := hv
  have hx := B.exec
  have hb := B.bytes
  have hr := B.returns
  have hts : ∀ w ∈ wA, w.before _ s = true := fun w h => atoms_spec (ws := .code yX10_paint cX10_paint 3 (some .int) :: wA) B.pre w (List.mem_cons_of_mem _ h)
  have hown : s.vm.findClass RX10 = some m.cls := findClass_of_methodNamed B.named
  have hlocks := B.notSynchronized
  subst hsz
  have hD := hT.self (sz := s.heap.size)
  generalize hAe : va_A [(h0, .inr (10, [.ref h1, .ref h2, .ref h3, .ref h4, .ref h5, .ref h6, .ref h7, .ref h8, .ref h9, .ref h10, .ref h11, .ref h12, .ref h13, .int 0, .int (-1), .int 0, .int 0])), (h5, .inr (1, [.ref h14, .ref h15, .ref h16, .int 0, .int 0])), (h13, .inl (cI, 5, .inl (fun _ => 0)))] s.heap.size = A at hD ⊢
  have hA : ∀ q : Nat, s.heap.size ≤ q → A q := fun q h => by rw [← hAe]; exact Or.inr h
  have hl := lv_entry ([.ref h0, .int p0, .int p1]) (n := 3) (Nat.le_of_ble_eq_true rfl)
  rw [lg_entry_eq]
  generalize (lg_sl ([.ref h0, .int p0, .int p1]) ++ List.replicate (3 - (lg_sl ([.ref h0, .int p0, .int p1])).length) Slot.unset).toArray = ls at hl ⊢
  have hl : lv_has ls 3 [(0, .ref h0), (1, .int p0), (2, .int p1)] := hl
  refine zstart (fun H hH => ?_)
  rw [← hH] at hP
  have hS : va_S A s.heap H [] := by rw [hH]; exact va_S.rf
  refine lv_aload_n hx hb dX10_paint_0 rfl (lv_at hl 0 rfl) ?_
  refine lv_iload_n hx hb dX10_paint_1 rfl (lv_at hl 1 rfl) ?_
  have hPc := hP.sub (ws' := [(h0, .inr (10, [.ref h1, .ref h2, .ref h3, .ref h4, .ref h5, .ref h6, .ref h7, .ref h8, .ref h9, .ref h10, .ref h11, .ref h12, .ref h13, .int 0, .int (-1), .int 0, .int 0])), (h5, .inr (1, [.ref h14, .ref h15, .ref h16, .int 0, .int 0]))]) [0, 1] rfl
  have hDc := hD.sub (ws' := [(h0, .inr (10, [.ref h1, .ref h2, .ref h3, .ref h4, .ref h5, .ref h6, .ref h7, .ref h8, .ref h9, .ref h10, .ref h11, .ref h12, .ref h13, .int 0, .int (-1), .int 0, .int 0])), (h5, .inr (1, [.ref h14, .ref h15, .ref h16, .int 0, .int 0]))]) [0, 1] (by decide) rfl
  have hFc := zfr hS hA
  refine va_calli (va_runV (As := [.int p0]) (rest := []) ⟨hx, hb, hml, hown, hts⟩ (c_X10_isPainter l dC dI cI cJ h0 h1 h2 h3 h4 h5 h6 h7 h8 h9 h10 h11 h12 h13 h14 h15 h16 H.size p0) (cwV 1 hts (zgV qw600 qw602 qw11 qw98 qw603) rfl rfl rfl hd_X10_isPainter ⟨Nat.le_of_ble_eq_true rfl, Nat.le_of_ble_eq_true rfl⟩) (zPV hPc hK hDc (va_recv hK hP (ci := 10) (q0 := 0) rfl rfl)) rfl rfl hl.1 rfl (lv_room (Nat.le_of_ble_eq_true rfl)) dX10_paint_2 ⟨Nat.le_of_ble_eq_true rfl, Nat.le_of_ble_eq_true rfl⟩) hS (fun q _ h => hFc q h) hFc (fun r_1 u t H locs ht hvm hw hB hz1 hk1 hS => ?_)
  have hP := zkeep hP hk1
  have hw : r_1 = 0 := hw
  subst hw
  refine lv_if_eq (tgt := 16) hx hb dX10_paint_5 (by decide) (fun _ => ?_) (fun c => absurd (by decide) c)
  refine lv_aload_n hx hb dX10_paint_16 rfl (lv_at hl 0 rfl) ?_
  refine lv_iconst (v := 0) hx hb dX10_paint_17 (by decide) ?_
  have hPc := hP.sub (ws' := [(h0, .inr (10, [.ref h1, .ref h2, .ref h3, .ref h4, .ref h5, .ref h6, .ref h7, .ref h8, .ref h9, .ref h10, .ref h11, .ref h12, .ref h13, .int 0, .int (-1), .int 0, .int 0])), (h13, .inl (cI, 5, .inl (fun _ => 0)))]) [0, 2] rfl
  have hDc := hD.sub (ws' := [(h0, .inr (10, [.ref h1, .ref h2, .ref h3, .ref h4, .ref h5, .ref h6, .ref h7, .ref h8, .ref h9, .ref h10, .ref h11, .ref h12, .ref h13, .int 0, .int (-1), .int 0, .int 0])), (h13, .inl (cI, 5, .inl (fun _ => 0)))]) [0, 2] (by decide) rfl
  have hFc := va_free (wc := [(h0, .inr (10, [.ref h1, .ref h2, .ref h3, .ref h4, .ref h5, .ref h6, .ref h7, .ref h8, .ref h9, .ref h10, .ref h11, .ref h12, .ref h13, .int 0, .int (-1), .int 0, .int 0])), (h13, .inl (cI, 5, .inl (fun _ => 0)))]) hD hS hA [0, 2] rfl
  refine va_calli (va_runV (As := [.int 0]) (rest := []) ⟨hx, hb, hml, hown, hts⟩ (c_X10_refuse l dC dI cI cJ h0 h1 h2 h3 h4 h5 h6 h7 h8 h9 h10 h11 h12 h13 H.size) (cwV 1 hts (zgV qw684 qw686 qw13 qw98 qw687) rfl rfl rfl hd_X10_refuse ⟨Nat.le_of_ble_eq_true rfl, Nat.le_of_ble_eq_true rfl⟩) (zPV hPc hK hDc (va_recv hK hP (ci := 10) (q0 := 0) rfl rfl)) rfl rfl hl.1 rfl (lv_room (Nat.le_of_ble_eq_true rfl)) dX10_paint_18 ⟨Nat.le_of_ble_eq_true rfl, Nat.le_of_ble_eq_true rfl⟩) hS (fun q _ h => hFc q h) hFc (fun r_2 u t H locs ht hvm hw hB hz1 hk1 hS => ?_)
  obtain ⟨hP1, hD1⟩ := hB
  rw [ht] at hP1
  obtain ⟨hP, hD⟩ := va_join (wr := [(h5, .inr (1, [.ref h14, .ref h15, .ref h16, .int 0, .int 0]))]) (w1 := [(h0, .inr (10, [.ref h1, .ref h2, .ref h3, .ref h4, .ref h5, .ref h6, .ref h7, .ref h8, .ref h9, .ref h10, .ref h11, .ref h12, .ref h13, .int 0, .int (-1), .int 0, .int 0])), (h13, .inl (cI, 5, .inl (upd (fun _ => 0) 0 1)))]) hP hD [0, 2] [1] rfl rfl (by decide) (by decide) hk1 hFc hP1 hD1
  have hP : va_P (dC, dI) vwCl [(h5, .inr (1, [.ref h14, .ref h15, .ref h16, .int 0, .int 0])), (h0, .inr (10, [.ref h1, .ref h2, .ref h3, .ref h4, .ref h5, .ref h6, .ref h7, .ref h8, .ref h9, .ref h10, .ref h11, .ref h12, .ref h13, .int 0, .int (-1), .int 0, .int 0])), (h13, .inl (cI, 5, .inl (upd (fun _ => 0) 0 1)))] H := hP
  have hD : va_D A [(h5, .inr (1, [.ref h14, .ref h15, .ref h16, .int 0, .int 0])), (h0, .inr (10, [.ref h1, .ref h2, .ref h3, .ref h4, .ref h5, .ref h6, .ref h7, .ref h8, .ref h9, .ref h10, .ref h11, .ref h12, .ref h13, .int 0, .int (-1), .int 0, .int 0])), (h13, .inl (cI, 5, .inl (upd (fun _ => 0) 0 1)))] := hD
  have hw : r_2 = (-1) := hw
  subst hw
  exact W.iret (v := ((-1))) hx hb hr (fun t ht hW => ⟨⟨(-1), (), rfl, rfl, ⟨by rw [ht]; exact hP, hD⟩⟩, hS.F ht⟩) hS.2.2 dX10_paint_21
set_option maxHeartbeats 4000000 in
set_option maxRecDepth 100000 in
theorem c_X10_isBride (l : Launch) (dC : Nat → ClassId) (dI : Nat → Nat → Nat) (cI cJ : ClassId) (h0 h1 h2 h3 h4 h5 h6 h7 h8 h9 h10 h11 h12 h13 h14 h15 h16 : Nat) (sz : Nat) (p0 : Int32) : Met l yX10_isBride (.code yX10_isBride cX10_isBride 2 (some .boolean) :: wA) ({ frames := 0, cells := 0, slots := 0, locals := 0 }) (zP (dC, dI) [(cI, .int), (cJ, .long)] [.ref h0, .int p0] sz [(h0, .inr (10, [.ref h1, .ref h2, .ref h3, .ref h4, .ref h5, .ref h6, .ref h7, .ref h8, .ref h9, .ref h10, .ref h11, .ref h12, .ref h13, .int 0, .int (-1), .int 0, .int 0])), (h5, .inr (1, [.ref h14, .ref h15, .ref h16, .int 0, .int 0]))]) (va_Qi (fun (r : Int32) (_ : Unit) => r = 0) (fun (_ : Unit) (_ : State) => True) (va_A [] sz)) 0 0 (va_A [] sz) := by
  refine Met.ofW (cc := cX10_isBride) (maxL := 2) (ret := (some .boolean)) (by decide) rfl ?_
  intro p e s m args below meth c s₁ B hml hv
  obtain ⟨rfl, hsz, hP, hK, hT⟩ := hv
  have hx := B.exec
  have hb := B.bytes
  have hr := B.returns
  have hts : ∀ w ∈ wA, w.before _ s = true := fun w h => atoms_spec (ws := .code yX10_isBride cX10_isBride 2 (some .boolean) :: wA) B.pre w (List.mem_cons_of_mem _ h)
  have hown : s.vm.findClass RX10 = some m.cls := findClass_of_methodNamed B.named
  have hlocks := B.notSynchronized
  subst hsz
  have hD : va_D (va_A [] s.heap.size) [] := zD0
  generalize hAe : va_A [] s.heap.size = A at hD ⊢
  have hA : ∀ q : Nat, s.heap.size ≤ q → A q := fun q h => by rw [← hAe]; exact Or.inr h
  have hl := lv_entry ([.ref h0, .int p0]) (n := 2) (Nat.le_of_ble_eq_true rfl)
  rw [lg_entry_eq]
  generalize (lg_sl ([.ref h0, .int p0]) ++ List.replicate (2 - (lg_sl ([.ref h0, .int p0])).length) Slot.unset).toArray = ls at hl ⊢
  have hl : lv_has ls 2 [(0, .ref h0), (1, .int p0)] := hl
  refine zstart (fun H hH => ?_)
  rw [← hH] at hP
  have hS : va_S A s.heap H [] := by rw [hH]; exact va_S.rf
  refine lv_iload_n hx hb dX10_isBride_0 rfl (lv_at hl 1 rfl) ?_
  refine lv_if_lt (tgt := 19) hx hb dX10_isBride_1 (by decide) (fun c_1 => ?_) (fun c_1 => ?_)
  · have i_1 : p0.toInt < 0 := z1 rfl (by decide) c_1
    refine lv_iconst (v := 0) hx hb dX10_isBride_19 (by decide) ?_
    exact W.zret (v := 0) (ty := .boolean) hx hb hr rfl (fun t ht hW => ⟨⟨0, (), rfl, rfl, trivial⟩, hS.F ht⟩) hS.2.2 dX10_isBride_20
  · have i_1 : 0 ≤ p0.toInt := z2 rfl (by decide) c_1
    refine lv_iload_n hx hb dX10_isBride_4 rfl (lv_at hl 1 rfl) ?_
    refine lv_aload_n hx hb dX10_isBride_5 rfl (lv_at hl 0 rfl) ?_
    refine va_get (D := (dC, dI)) (ci := 10) (v := .ref h5) (C := RX10) (T := TX10) (N := 17) hx hb hts iX10 hown hK hP 0 rfl rfl 4 (by decide) (hts _ qw360) (fun _ h9 => h9) rfl dX10_isBride_6 ?_
    refine va_get (D := (dC, dI)) (ci := 1) (v := .int 0) (C := RX1) (T := TX1) (N := 5) hx hb hts iX1 hown hK hP 1 rfl rfl 3 (by decide) (hts _ qw195) (fun _ h9 => h9) rfl dX10_isBride_9 ?_
    refine lv_icmp_ge (tgt := 19) hx hb dX10_isBride_12 (by decide) (fun c_2 => ?_) (fun c_2 => by exfalso; have i_2 : p0.toInt < 0 := z4 (by decide) rfl c_2; omega)
    have i_2 : 0 ≤ p0.toInt := z3 (by decide) rfl c_2
    refine lv_iconst (v := 0) hx hb dX10_isBride_19 (by decide) ?_
    exact W.zret (v := 0) (ty := .boolean) hx hb hr rfl (fun t ht hW => ⟨⟨0, (), rfl, rfl, trivial⟩, hS.F ht⟩) hS.2.2 dX10_isBride_20
set_option maxHeartbeats 4000000 in
set_option maxRecDepth 100000 in
theorem c_X10_pay (l : Launch) (dC : Nat → ClassId) (dI : Nat → Nat → Nat) (cI cJ : ClassId) (h0 h1 h2 h3 h4 h5 h6 h7 h8 h9 h10 h11 h12 h13 h14 h15 h16 : Nat) (sz : Nat) (p0 : Int32) (p1 : Int32) : Met l yX10_pay (.code yX10_pay cX10_pay 3 (some .int) :: wA) ({ frames := 1, cells := 0, slots := 0, locals := 21 }) (zP (dC, dI) [(cI, .int), (cJ, .long)] [.ref h0, .int p0, .int p1] sz [(h0, .inr (10, [.ref h1, .ref h2, .ref h3, .ref h4, .ref h5, .ref h6, .ref h7, .ref h8, .ref h9, .ref h10, .ref h11, .ref h12, .ref h13, .int 0, .int (-1), .int 0, .int 0])), (h5, .inr (1, [.ref h14, .ref h15, .ref h16, .int 0, .int 0])), (h13, .inl (cI, 5, .inl (fun _ => 0)))]) (va_Qi (fun (r : Int32) (_ : Unit) => r = (-1)) (fun (_ : Unit) (t : State) => va_P (dC, dI) vwCl [(h5, .inr (1, [.ref h14, .ref h15, .ref h16, .int 0, .int 0])), (h0, .inr (10, [.ref h1, .ref h2, .ref h3, .ref h4, .ref h5, .ref h6, .ref h7, .ref h8, .ref h9, .ref h10, .ref h11, .ref h12, .ref h13, .int 0, .int (-1), .int 0, .int 0])), (h13, .inl (cI, 5, .inl (upd (fun _ => 0) 0 1)))] t.heap ∧ va_D (va_A [(h0, .inr (10, [.ref h1, .ref h2, .ref h3, .ref h4, .ref h5, .ref h6, .ref h7, .ref h8, .ref h9, .ref h10, .ref h11, .ref h12, .ref h13, .int 0, .int (-1), .int 0, .int 0])), (h5, .inr (1, [.ref h14, .ref h15, .ref h16, .int 0, .int 0])), (h13, .inl (cI, 5, .inl (fun _ => 0)))] sz) [(h5, .inr (1, [.ref h14, .ref h15, .ref h16, .int 0, .int 0])), (h0, .inr (10, [.ref h1, .ref h2, .ref h3, .ref h4, .ref h5, .ref h6, .ref h7, .ref h8, .ref h9, .ref h10, .ref h11, .ref h12, .ref h13, .int 0, .int (-1), .int 0, .int 0])), (h13, .inl (cI, 5, .inl (upd (fun _ => 0) 0 1)))]) (va_A [(h0, .inr (10, [.ref h1, .ref h2, .ref h3, .ref h4, .ref h5, .ref h6, .ref h7, .ref h8, .ref h9, .ref h10, .ref h11, .ref h12, .ref h13, .int 0, .int (-1), .int 0, .int 0])), (h5, .inr (1, [.ref h14, .ref h15, .ref h16, .int 0, .int 0])), (h13, .inl (cI, 5, .inl (fun _ => 0)))] sz)) 0 0 (va_A [(h0, .inr (10, [.ref h1, .ref h2, .ref h3, .ref h4, .ref h5, .ref h6, .ref h7, .ref h8, .ref h9, .ref h10, .ref h11, .ref h12, .ref h13, .int 0, .int (-1), .int 0, .int 0])), (h5, .inr (1, [.ref h14, .ref h15, .ref h16, .int 0, .int 0])), (h13, .inl (cI, 5, .inl (fun _ => 0)))] sz) := by
  refine Met.ofW (cc := cX10_pay) (maxL := 3) (ret := (some .int)) (by decide) rfl ?_
  intro p e s m args below meth c s₁ B hml hv
  obtain ⟨rfl, hsz, hP, hK, hT⟩ := hv
  have hx := B.exec
  have hb := B.bytes
  have hr := B.returns
  have hts : ∀ w ∈ wA, w.before _ s = true := fun w h => atoms_spec (ws := .code yX10_pay cX10_pay 3 (some .int) :: wA) B.pre w (List.mem_cons_of_mem _ h)
  have hown : s.vm.findClass RX10 = some m.cls := findClass_of_methodNamed B.named
  have hlocks := B.notSynchronized
  subst hsz
  have hD := hT.self (sz := s.heap.size)
  generalize hAe : va_A [(h0, .inr (10, [.ref h1, .ref h2, .ref h3, .ref h4, .ref h5, .ref h6, .ref h7, .ref h8, .ref h9, .ref h10, .ref h11, .ref h12, .ref h13, .int 0, .int (-1), .int 0, .int 0])), (h5, .inr (1, [.ref h14, .ref h15, .ref h16, .int 0, .int 0])), (h13, .inl (cI, 5, .inl (fun _ => 0)))] s.heap.size = A at hD ⊢
  have hA : ∀ q : Nat, s.heap.size ≤ q → A q := fun q h => by rw [← hAe]; exact Or.inr h
  have hl := lv_entry ([.ref h0, .int p0, .int p1]) (n := 3) (Nat.le_of_ble_eq_true rfl)
  rw [lg_entry_eq]
  generalize (lg_sl ([.ref h0, .int p0, .int p1]) ++ List.replicate (3 - (lg_sl ([.ref h0, .int p0, .int p1])).length) Slot.unset).toArray = ls at hl ⊢
  have hl : lv_has ls 3 [(0, .ref h0), (1, .int p0), (2, .int p1)] := hl
  refine zstart (fun H hH => ?_)
  rw [← hH] at hP
  have hS : va_S A s.heap H [] := by rw [hH]; exact va_S.rf
  refine lv_aload_n hx hb dX10_pay_0 rfl (lv_at hl 0 rfl) ?_
  refine lv_iload_n hx hb dX10_pay_1 rfl (lv_at hl 1 rfl) ?_
  have hPc := hP.sub (ws' := [(h0, .inr (10, [.ref h1, .ref h2, .ref h3, .ref h4, .ref h5, .ref h6, .ref h7, .ref h8, .ref h9, .ref h10, .ref h11, .ref h12, .ref h13, .int 0, .int (-1), .int 0, .int 0])), (h5, .inr (1, [.ref h14, .ref h15, .ref h16, .int 0, .int 0]))]) [0, 1] rfl
  have hDc := hD.sub (ws' := [(h0, .inr (10, [.ref h1, .ref h2, .ref h3, .ref h4, .ref h5, .ref h6, .ref h7, .ref h8, .ref h9, .ref h10, .ref h11, .ref h12, .ref h13, .int 0, .int (-1), .int 0, .int 0])), (h5, .inr (1, [.ref h14, .ref h15, .ref h16, .int 0, .int 0]))]) [0, 1] (by decide) rfl
  have hFc := zfr hS hA
  refine va_calli (va_runV (As := [.int p0]) (rest := []) ⟨hx, hb, hml, hown, hts⟩ (c_X10_isBride l dC dI cI cJ h0 h1 h2 h3 h4 h5 h6 h7 h8 h9 h10 h11 h12 h13 h14 h15 h16 H.size p0) (cwV 1 hts (zgV qw625 qw627 qw12 qw98 qw628) rfl rfl rfl hd_X10_isBride ⟨Nat.le_of_ble_eq_true rfl, Nat.le_of_ble_eq_true rfl⟩) (zPV hPc hK hDc (va_recv hK hP (ci := 10) (q0 := 0) rfl rfl)) rfl rfl hl.1 rfl (lv_room (Nat.le_of_ble_eq_true rfl)) dX10_pay_2 ⟨Nat.le_of_ble_eq_true rfl, Nat.le_of_ble_eq_true rfl⟩) hS (fun q _ h => hFc q h) hFc (fun r_1 u t H locs ht hvm hw hB hz1 hk1 hS => ?_)
  have hP := zkeep hP hk1
  have hw : r_1 = 0 := hw
  subst hw
  refine lv_if_ne (tgt := 14) hx hb dX10_pay_5 (by decide) (fun c => absurd (by decide) c) (fun _ => ?_)
  refine lv_aload_n hx hb dX10_pay_8 rfl (lv_at hl 0 rfl) ?_
  refine lv_iconst (v := 0) hx hb dX10_pay_9 (by decide) ?_
  have hPc := hP.sub (ws' := [(h0, .inr (10, [.ref h1, .ref h2, .ref h3, .ref h4, .ref h5, .ref h6, .ref h7, .ref h8, .ref h9, .ref h10, .ref h11, .ref h12, .ref h13, .int 0, .int (-1), .int 0, .int 0])), (h13, .inl (cI, 5, .inl (fun _ => 0)))]) [0, 2] rfl
  have hDc := hD.sub (ws' := [(h0, .inr (10, [.ref h1, .ref h2, .ref h3, .ref h4, .ref h5, .ref h6, .ref h7, .ref h8, .ref h9, .ref h10, .ref h11, .ref h12, .ref h13, .int 0, .int (-1), .int 0, .int 0])), (h13, .inl (cI, 5, .inl (fun _ => 0)))]) [0, 2] (by decide) rfl
  have hFc := va_free (wc := [(h0, .inr (10, [.ref h1, .ref h2, .ref h3, .ref h4, .ref h5, .ref h6, .ref h7, .ref h8, .ref h9, .ref h10, .ref h11, .ref h12, .ref h13, .int 0, .int (-1), .int 0, .int 0])), (h13, .inl (cI, 5, .inl (fun _ => 0)))]) hD hS hA [0, 2] rfl
  refine va_calli (va_runV (As := [.int 0]) (rest := []) ⟨hx, hb, hml, hown, hts⟩ (c_X10_refuse l dC dI cI cJ h0 h1 h2 h3 h4 h5 h6 h7 h8 h9 h10 h11 h12 h13 H.size) (cwV 1 hts (zgV qw684 qw686 qw13 qw98 qw687) rfl rfl rfl hd_X10_refuse ⟨Nat.le_of_ble_eq_true rfl, Nat.le_of_ble_eq_true rfl⟩) (zPV hPc hK hDc (va_recv hK hP (ci := 10) (q0 := 0) rfl rfl)) rfl rfl hl.1 rfl (lv_room (Nat.le_of_ble_eq_true rfl)) dX10_pay_10 ⟨Nat.le_of_ble_eq_true rfl, Nat.le_of_ble_eq_true rfl⟩) hS (fun q _ h => hFc q h) hFc (fun r_2 u t H locs ht hvm hw hB hz1 hk1 hS => ?_)
  obtain ⟨hP1, hD1⟩ := hB
  rw [ht] at hP1
  obtain ⟨hP, hD⟩ := va_join (wr := [(h5, .inr (1, [.ref h14, .ref h15, .ref h16, .int 0, .int 0]))]) (w1 := [(h0, .inr (10, [.ref h1, .ref h2, .ref h3, .ref h4, .ref h5, .ref h6, .ref h7, .ref h8, .ref h9, .ref h10, .ref h11, .ref h12, .ref h13, .int 0, .int (-1), .int 0, .int 0])), (h13, .inl (cI, 5, .inl (upd (fun _ => 0) 0 1)))]) hP hD [0, 2] [1] rfl rfl (by decide) (by decide) hk1 hFc hP1 hD1
  have hP : va_P (dC, dI) vwCl [(h5, .inr (1, [.ref h14, .ref h15, .ref h16, .int 0, .int 0])), (h0, .inr (10, [.ref h1, .ref h2, .ref h3, .ref h4, .ref h5, .ref h6, .ref h7, .ref h8, .ref h9, .ref h10, .ref h11, .ref h12, .ref h13, .int 0, .int (-1), .int 0, .int 0])), (h13, .inl (cI, 5, .inl (upd (fun _ => 0) 0 1)))] H := hP
  have hD : va_D A [(h5, .inr (1, [.ref h14, .ref h15, .ref h16, .int 0, .int 0])), (h0, .inr (10, [.ref h1, .ref h2, .ref h3, .ref h4, .ref h5, .ref h6, .ref h7, .ref h8, .ref h9, .ref h10, .ref h11, .ref h12, .ref h13, .int 0, .int (-1), .int 0, .int 0])), (h13, .inl (cI, 5, .inl (upd (fun _ => 0) 0 1)))] := hD
  have hw : r_2 = (-1) := hw
  subst hw
  exact W.iret (v := ((-1))) hx hb hr (fun t ht hW => ⟨⟨(-1), (), rfl, rfl, ⟨by rw [ht]; exact hP, hD⟩⟩, hS.F ht⟩) hS.2.2 dX10_pay_13
set_option maxHeartbeats 4000000 in
set_option maxRecDepth 100000 in
theorem c_X10_threaten (l : Launch) (dC : Nat → ClassId) (dI : Nat → Nat → Nat) (cI cJ : ClassId) (h0 h1 h2 h3 h4 h5 h6 h7 h8 h9 h10 h11 h12 h13 h14 h15 h16 : Nat) (sz : Nat) (p0 : Int32) : Met l yX10_threaten (.code yX10_threaten cX10_threaten 2 (some .int) :: wA) ({ frames := 1, cells := 0, slots := 0, locals := 21 }) (zP (dC, dI) [(cI, .int), (cJ, .long)] [.ref h0, .int p0] sz [(h0, .inr (10, [.ref h1, .ref h2, .ref h3, .ref h4, .ref h5, .ref h6, .ref h7, .ref h8, .ref h9, .ref h10, .ref h11, .ref h12, .ref h13, .int 0, .int (-1), .int 0, .int 0])), (h5, .inr (1, [.ref h14, .ref h15, .ref h16, .int 0, .int 0])), (h13, .inl (cI, 5, .inl (fun _ => 0)))]) (va_Qi (fun (r : Int32) (_ : Unit) => r = (-1)) (fun (_ : Unit) (t : State) => va_P (dC, dI) vwCl [(h5, .inr (1, [.ref h14, .ref h15, .ref h16, .int 0, .int 0])), (h0, .inr (10, [.ref h1, .ref h2, .ref h3, .ref h4, .ref h5, .ref h6, .ref h7, .ref h8, .ref h9, .ref h10, .ref h11, .ref h12, .ref h13, .int 0, .int (-1), .int 0, .int 0])), (h13, .inl (cI, 5, .inl (upd (fun _ => 0) 0 1)))] t.heap ∧ va_D (va_A [(h0, .inr (10, [.ref h1, .ref h2, .ref h3, .ref h4, .ref h5, .ref h6, .ref h7, .ref h8, .ref h9, .ref h10, .ref h11, .ref h12, .ref h13, .int 0, .int (-1), .int 0, .int 0])), (h5, .inr (1, [.ref h14, .ref h15, .ref h16, .int 0, .int 0])), (h13, .inl (cI, 5, .inl (fun _ => 0)))] sz) [(h5, .inr (1, [.ref h14, .ref h15, .ref h16, .int 0, .int 0])), (h0, .inr (10, [.ref h1, .ref h2, .ref h3, .ref h4, .ref h5, .ref h6, .ref h7, .ref h8, .ref h9, .ref h10, .ref h11, .ref h12, .ref h13, .int 0, .int (-1), .int 0, .int 0])), (h13, .inl (cI, 5, .inl (upd (fun _ => 0) 0 1)))]) (va_A [(h0, .inr (10, [.ref h1, .ref h2, .ref h3, .ref h4, .ref h5, .ref h6, .ref h7, .ref h8, .ref h9, .ref h10, .ref h11, .ref h12, .ref h13, .int 0, .int (-1), .int 0, .int 0])), (h5, .inr (1, [.ref h14, .ref h15, .ref h16, .int 0, .int 0])), (h13, .inl (cI, 5, .inl (fun _ => 0)))] sz)) 0 0 (va_A [(h0, .inr (10, [.ref h1, .ref h2, .ref h3, .ref h4, .ref h5, .ref h6, .ref h7, .ref h8, .ref h9, .ref h10, .ref h11, .ref h12, .ref h13, .int 0, .int (-1), .int 0, .int 0])), (h5, .inr (1, [.ref h14, .ref h15, .ref h16, .int 0, .int 0])), (h13, .inl (cI, 5, .inl (fun _ => 0)))] sz) := by
  refine Met.ofW (cc := cX10_threaten) (maxL := 2) (ret := (some .int)) (by decide) rfl ?_
  intro p e s m args below meth c s₁ B hml hv
  obtain ⟨rfl, hsz, hP, hK, hT⟩ := hv
  have hx := B.exec
  have hb := B.bytes
  have hr := B.returns
  have hts : ∀ w ∈ wA, w.before _ s = true := fun w h => atoms_spec (ws := .code yX10_threaten cX10_threaten 2 (some .int) :: wA) B.pre w (List.mem_cons_of_mem _ h)
  have hown : s.vm.findClass RX10 = some m.cls := findClass_of_methodNamed B.named
  have hlocks := B.notSynchronized
  subst hsz
  have hD := hT.self (sz := s.heap.size)
  generalize hAe : va_A [(h0, .inr (10, [.ref h1, .ref h2, .ref h3, .ref h4, .ref h5, .ref h6, .ref h7, .ref h8, .ref h9, .ref h10, .ref h11, .ref h12, .ref h13, .int 0, .int (-1), .int 0, .int 0])), (h5, .inr (1, [.ref h14, .ref h15, .ref h16, .int 0, .int 0])), (h13, .inl (cI, 5, .inl (fun _ => 0)))] s.heap.size = A at hD ⊢
  have hA : ∀ q : Nat, s.heap.size ≤ q → A q := fun q h => by rw [← hAe]; exact Or.inr h
  have hl := lv_entry ([.ref h0, .int p0]) (n := 2) (Nat.le_of_ble_eq_true rfl)
  rw [lg_entry_eq]
  generalize (lg_sl ([.ref h0, .int p0]) ++ List.replicate (2 - (lg_sl ([.ref h0, .int p0])).length) Slot.unset).toArray = ls at hl ⊢
  have hl : lv_has ls 2 [(0, .ref h0), (1, .int p0)] := hl
  refine zstart (fun H hH => ?_)
  rw [← hH] at hP
  have hS : va_S A s.heap H [] := by rw [hH]; exact va_S.rf
  refine lv_aload_n hx hb dX10_threaten_0 rfl (lv_at hl 0 rfl) ?_
  refine lv_iload_n hx hb dX10_threaten_1 rfl (lv_at hl 1 rfl) ?_
  have hPc := hP.sub (ws' := [(h0, .inr (10, [.ref h1, .ref h2, .ref h3, .ref h4, .ref h5, .ref h6, .ref h7, .ref h8, .ref h9, .ref h10, .ref h11, .ref h12, .ref h13, .int 0, .int (-1), .int 0, .int 0])), (h5, .inr (1, [.ref h14, .ref h15, .ref h16, .int 0, .int 0]))]) [0, 1] rfl
  have hDc := hD.sub (ws' := [(h0, .inr (10, [.ref h1, .ref h2, .ref h3, .ref h4, .ref h5, .ref h6, .ref h7, .ref h8, .ref h9, .ref h10, .ref h11, .ref h12, .ref h13, .int 0, .int (-1), .int 0, .int 0])), (h5, .inr (1, [.ref h14, .ref h15, .ref h16, .int 0, .int 0]))]) [0, 1] (by decide) rfl
  have hFc := zfr hS hA
  refine va_calli (va_runV (As := [.int p0]) (rest := []) ⟨hx, hb, hml, hown, hts⟩ (c_X10_isPainter l dC dI cI cJ h0 h1 h2 h3 h4 h5 h6 h7 h8 h9 h10 h11 h12 h13 h14 h15 h16 H.size p0) (cwV 1 hts (zgV qw600 qw602 qw11 qw98 qw603) rfl rfl rfl hd_X10_isPainter ⟨Nat.le_of_ble_eq_true rfl, Nat.le_of_ble_eq_true rfl⟩) (zPV hPc hK hDc (va_recv hK hP (ci := 10) (q0 := 0) rfl rfl)) rfl rfl hl.1 rfl (lv_room (Nat.le_of_ble_eq_true rfl)) dX10_threaten_2 ⟨Nat.le_of_ble_eq_true rfl, Nat.le_of_ble_eq_true rfl⟩) hS (fun q _ h => hFc q h) hFc (fun r_1 u t H locs ht hvm hw hB hz1 hk1 hS => ?_)
  have hP := zkeep hP hk1
  have hw : r_1 = 0 := hw
  subst hw
  refine lv_if_ne (tgt := 14) hx hb dX10_threaten_5 (by decide) (fun c => absurd (by decide) c) (fun _ => ?_)
  refine lv_aload_n hx hb dX10_threaten_8 rfl (lv_at hl 0 rfl) ?_
  refine lv_iconst (v := 0) hx hb dX10_threaten_9 (by decide) ?_
  have hPc := hP.sub (ws' := [(h0, .inr (10, [.ref h1, .ref h2, .ref h3, .ref h4, .ref h5, .ref h6, .ref h7, .ref h8, .ref h9, .ref h10, .ref h11, .ref h12, .ref h13, .int 0, .int (-1), .int 0, .int 0])), (h13, .inl (cI, 5, .inl (fun _ => 0)))]) [0, 2] rfl
  have hDc := hD.sub (ws' := [(h0, .inr (10, [.ref h1, .ref h2, .ref h3, .ref h4, .ref h5, .ref h6, .ref h7, .ref h8, .ref h9, .ref h10, .ref h11, .ref h12, .ref h13, .int 0, .int (-1), .int 0, .int 0])), (h13, .inl (cI, 5, .inl (fun _ => 0)))]) [0, 2] (by decide) rfl
  have hFc := va_free (wc := [(h0, .inr (10, [.ref h1, .ref h2, .ref h3, .ref h4, .ref h5, .ref h6, .ref h7, .ref h8, .ref h9, .ref h10, .ref h11, .ref h12, .ref h13, .int 0, .int (-1), .int 0, .int 0])), (h13, .inl (cI, 5, .inl (fun _ => 0)))]) hD hS hA [0, 2] rfl
  refine va_calli (va_runV (As := [.int 0]) (rest := []) ⟨hx, hb, hml, hown, hts⟩ (c_X10_refuse l dC dI cI cJ h0 h1 h2 h3 h4 h5 h6 h7 h8 h9 h10 h11 h12 h13 H.size) (cwV 1 hts (zgV qw684 qw686 qw13 qw98 qw687) rfl rfl rfl hd_X10_refuse ⟨Nat.le_of_ble_eq_true rfl, Nat.le_of_ble_eq_true rfl⟩) (zPV hPc hK hDc (va_recv hK hP (ci := 10) (q0 := 0) rfl rfl)) rfl rfl hl.1 rfl (lv_room (Nat.le_of_ble_eq_true rfl)) dX10_threaten_10 ⟨Nat.le_of_ble_eq_true rfl, Nat.le_of_ble_eq_true rfl⟩) hS (fun q _ h => hFc q h) hFc (fun r_2 u t H locs ht hvm hw hB hz1 hk1 hS => ?_)
  obtain ⟨hP1, hD1⟩ := hB
  rw [ht] at hP1
  obtain ⟨hP, hD⟩ := va_join (wr := [(h5, .inr (1, [.ref h14, .ref h15, .ref h16, .int 0, .int 0]))]) (w1 := [(h0, .inr (10, [.ref h1, .ref h2, .ref h3, .ref h4, .ref h5, .ref h6, .ref h7, .ref h8, .ref h9, .ref h10, .ref h11, .ref h12, .ref h13, .int 0, .int (-1), .int 0, .int 0])), (h13, .inl (cI, 5, .inl (upd (fun _ => 0) 0 1)))]) hP hD [0, 2] [1] rfl rfl (by decide) (by decide) hk1 hFc hP1 hD1
  have hP : va_P (dC, dI) vwCl [(h5, .inr (1, [.ref h14, .ref h15, .ref h16, .int 0, .int 0])), (h0, .inr (10, [.ref h1, .ref h2, .ref h3, .ref h4, .ref h5, .ref h6, .ref h7, .ref h8, .ref h9, .ref h10, .ref h11, .ref h12, .ref h13, .int 0, .int (-1), .int 0, .int 0])), (h13, .inl (cI, 5, .inl (upd (fun _ => 0) 0 1)))] H := hP
  have hD : va_D A [(h5, .inr (1, [.ref h14, .ref h15, .ref h16, .int 0, .int 0])), (h0, .inr (10, [.ref h1, .ref h2, .ref h3, .ref h4, .ref h5, .ref h6, .ref h7, .ref h8, .ref h9, .ref h10, .ref h11, .ref h12, .ref h13, .int 0, .int (-1), .int 0, .int 0])), (h13, .inl (cI, 5, .inl (upd (fun _ => 0) 0 1)))] := hD
  have hw : r_2 = (-1) := hw
  subst hw
  exact W.iret (v := ((-1))) hx hb hr (fun t ht hW => ⟨⟨(-1), (), rfl, rfl, ⟨by rw [ht]; exact hP, hD⟩⟩, hS.F ht⟩) hS.2.2 dX10_threaten_13
set_option maxHeartbeats 4000000 in
set_option maxRecDepth 100000 in
theorem c_X10_paysToHear (l : Launch) (dC : Nat → ClassId) (dI : Nat → Nat → Nat) (cI cJ : ClassId) (h0 h1 h2 h3 h4 h5 h6 h7 h8 h9 h10 h11 h12 h13 h14 h15 h16 : Nat) (sz : Nat) (p0 : Int32) : Met l yX10_paysToHear (.code yX10_paysToHear cX10_paysToHear 5 (some .boolean) :: wA) ({ frames := 1, cells := 0, slots := 0, locals := 21 }) (zP (dC, dI) [(cI, .int), (cJ, .long)] [.ref h0, .int p0, .int 0, .int 2] sz [(h0, .inr (10, [.ref h1, .ref h2, .ref h3, .ref h4, .ref h5, .ref h6, .ref h7, .ref h8, .ref h9, .ref h10, .ref h11, .ref h12, .ref h13, .int 0, .int (-1), .int 0, .int 0])), (h5, .inr (1, [.ref h14, .ref h15, .ref h16, .int 0, .int 0])), (h13, .inl (cI, 5, .inl (fun _ => 0)))]) (va_Qi (fun (r : Int32) (_ : Unit) => r = 0) (fun (_ : Unit) (t : State) => va_P (dC, dI) vwCl [(h5, .inr (1, [.ref h14, .ref h15, .ref h16, .int 0, .int 0])), (h0, .inr (10, [.ref h1, .ref h2, .ref h3, .ref h4, .ref h5, .ref h6, .ref h7, .ref h8, .ref h9, .ref h10, .ref h11, .ref h12, .ref h13, .int 0, .int (-1), .int 0, .int 0])), (h13, .inl (cI, 5, .inl (upd (fun _ => 0) 0 1)))] t.heap ∧ va_D (va_A [(h0, .inr (10, [.ref h1, .ref h2, .ref h3, .ref h4, .ref h5, .ref h6, .ref h7, .ref h8, .ref h9, .ref h10, .ref h11, .ref h12, .ref h13, .int 0, .int (-1), .int 0, .int 0])), (h5, .inr (1, [.ref h14, .ref h15, .ref h16, .int 0, .int 0])), (h13, .inl (cI, 5, .inl (fun _ => 0)))] sz) [(h5, .inr (1, [.ref h14, .ref h15, .ref h16, .int 0, .int 0])), (h0, .inr (10, [.ref h1, .ref h2, .ref h3, .ref h4, .ref h5, .ref h6, .ref h7, .ref h8, .ref h9, .ref h10, .ref h11, .ref h12, .ref h13, .int 0, .int (-1), .int 0, .int 0])), (h13, .inl (cI, 5, .inl (upd (fun _ => 0) 0 1)))]) (va_A [(h0, .inr (10, [.ref h1, .ref h2, .ref h3, .ref h4, .ref h5, .ref h6, .ref h7, .ref h8, .ref h9, .ref h10, .ref h11, .ref h12, .ref h13, .int 0, .int (-1), .int 0, .int 0])), (h5, .inr (1, [.ref h14, .ref h15, .ref h16, .int 0, .int 0])), (h13, .inl (cI, 5, .inl (fun _ => 0)))] sz)) 0 0 (va_A [(h0, .inr (10, [.ref h1, .ref h2, .ref h3, .ref h4, .ref h5, .ref h6, .ref h7, .ref h8, .ref h9, .ref h10, .ref h11, .ref h12, .ref h13, .int 0, .int (-1), .int 0, .int 0])), (h5, .inr (1, [.ref h14, .ref h15, .ref h16, .int 0, .int 0])), (h13, .inl (cI, 5, .inl (fun _ => 0)))] sz) := by
  refine Met.ofW (cc := cX10_paysToHear) (maxL := 5) (ret := (some .boolean)) (by decide) rfl ?_
  intro p e s m args below meth c s₁ B hml hv
  obtain ⟨rfl, hsz, hP, hK, hT⟩ := hv
  have hx := B.exec
  have hb := B.bytes
  have hr := B.returns
  have hts : ∀ w ∈ wA, w.before _ s = true := fun w h => atoms_spec (ws := .code yX10_paysToHear cX10_paysToHear 5 (some .boolean) :: wA) B.pre w (List.mem_cons_of_mem _ h)
  have hown : s.vm.findClass RX10 = some m.cls := findClass_of_methodNamed B.named
  have hlocks := B.notSynchronized
  subst hsz
  have hD := hT.self (sz := s.heap.size)
  generalize hAe : va_A [(h0, .inr (10, [.ref h1, .ref h2, .ref h3, .ref h4, .ref h5, .ref h6, .ref h7, .ref h8, .ref h9, .ref h10, .ref h11, .ref h12, .ref h13, .int 0, .int (-1), .int 0, .int 0])), (h5, .inr (1, [.ref h14, .ref h15, .ref h16, .int 0, .int 0])), (h13, .inl (cI, 5, .inl (fun _ => 0)))] s.heap.size = A at hD ⊢
  have hA : ∀ q : Nat, s.heap.size ≤ q → A q := fun q h => by rw [← hAe]; exact Or.inr h
  have hl := lv_entry ([.ref h0, .int p0, .int 0, .int 2]) (n := 5) (Nat.le_of_ble_eq_true rfl)
  rw [lg_entry_eq]
  generalize (lg_sl ([.ref h0, .int p0, .int 0, .int 2]) ++ List.replicate (5 - (lg_sl ([.ref h0, .int p0, .int 0, .int 2])).length) Slot.unset).toArray = ls at hl ⊢
  have hl : lv_has ls 5 [(0, .ref h0), (1, .int p0), (2, .int 0), (3, .int 2)] := hl
  refine zstart (fun H hH => ?_)
  rw [← hH] at hP
  have hS : va_S A s.heap H [] := by rw [hH]; exact va_S.rf
  refine lv_iconst (v := (-1)) hx hb dX10_paysToHear_0 (by decide) ?_
  refine lv_istore (lv' := [(4, .int (-1)), (0, .ref h0), (1, .int p0), (2, .int 0), (3, .int 2)]) hx hb dX10_paysToHear_1 hl (by decide) rfl (fun ls hl => ?_)
  refine lv_aload_n hx hb dX10_paysToHear_3 rfl (lv_at hl 1 rfl) ?_
  refine lv_iload_n hx hb dX10_paysToHear_4 rfl (lv_at hl 2 rfl) ?_
  have hPc := hP.sub (ws' := [(h0, .inr (10, [.ref h1, .ref h2, .ref h3, .ref h4, .ref h5, .ref h6, .ref h7, .ref h8, .ref h9, .ref h10, .ref h11, .ref h12, .ref h13, .int 0, .int (-1), .int 0, .int 0])), (h5, .inr (1, [.ref h14, .ref h15, .ref h16, .int 0, .int 0]))]) [0, 1] rfl
  have hDc := hD.sub (ws' := [(h0, .inr (10, [.ref h1, .ref h2, .ref h3, .ref h4, .ref h5, .ref h6, .ref h7, .ref h8, .ref h9, .ref h10, .ref h11, .ref h12, .ref h13, .int 0, .int (-1), .int 0, .int 0])), (h5, .inr (1, [.ref h14, .ref h15, .ref h16, .int 0, .int 0]))]) [0, 1] (by decide) rfl
  have hFc := zfr hS hA
  refine va_calli (va_runV (As := [.int p0]) (rest := []) ⟨hx, hb, hml, hown, hts⟩ (c_X10_isBride l dC dI cI cJ h0 h1 h2 h3 h4 h5 h6 h7 h8 h9 h10 h11 h12 h13 h14 h15 h16 H.size p0) (cwV 1 hts (zgV qw625 qw627 qw12 qw98 qw628) rfl rfl rfl hd_X10_isBride ⟨Nat.le_of_ble_eq_true rfl, Nat.le_of_ble_eq_true rfl⟩) (zPV hPc hK hDc (va_recv hK hP (ci := 10) (q0 := 0) rfl rfl)) rfl rfl hl.1 rfl (lv_room (Nat.le_of_ble_eq_true rfl)) dX10_paysToHear_5 ⟨Nat.le_of_ble_eq_true rfl, Nat.le_of_ble_eq_true rfl⟩) hS (fun q _ h => hFc q h) hFc (fun r_1 u t H locs ht hvm hw hB hz1 hk1 hS => ?_)
  have hP := zkeep hP hk1
  have hw : r_1 = 0 := hw
  subst hw
  refine lv_if_ne (tgt := 17) hx hb dX10_paysToHear_8 (by decide) (fun c => absurd (by decide) c) (fun _ => ?_)
  refine lv_iconst (v := 0) hx hb dX10_paysToHear_11 (by decide) ?_
  refine lv_istore (lv' := [(4, .int 0), (0, .ref h0), (1, .int p0), (2, .int 0), (3, .int 2)]) hx hb dX10_paysToHear_12 hl (by decide) rfl (fun ls hl => ?_)
  refine lv_goto (tgt := 46) hx hb dX10_paysToHear_14 (by decide) ?_
  refine lv_iload hx hb dX10_paysToHear_46 (lv_at hl 0 rfl) ?_
  refine lv_iconst (v := (-1)) hx hb dX10_paysToHear_48 (by decide) ?_
  refine lv_icmp_eq (tgt := 61) hx hb dX10_paysToHear_49 (by decide) (fun c => absurd c (by decide)) (fun _ => ?_)
  refine lv_aload_n hx hb dX10_paysToHear_52 rfl (lv_at hl 1 rfl) ?_
  refine lv_iload hx hb dX10_paysToHear_53 (lv_at hl 0 rfl) ?_
  have hPc := hP.sub (ws' := [(h0, .inr (10, [.ref h1, .ref h2, .ref h3, .ref h4, .ref h5, .ref h6, .ref h7, .ref h8, .ref h9, .ref h10, .ref h11, .ref h12, .ref h13, .int 0, .int (-1), .int 0, .int 0])), (h13, .inl (cI, 5, .inl (fun _ => 0)))]) [0, 2] rfl
  have hDc := hD.sub (ws' := [(h0, .inr (10, [.ref h1, .ref h2, .ref h3, .ref h4, .ref h5, .ref h6, .ref h7, .ref h8, .ref h9, .ref h10, .ref h11, .ref h12, .ref h13, .int 0, .int (-1), .int 0, .int 0])), (h13, .inl (cI, 5, .inl (fun _ => 0)))]) [0, 2] (by decide) rfl
  have hFc := va_free (wc := [(h0, .inr (10, [.ref h1, .ref h2, .ref h3, .ref h4, .ref h5, .ref h6, .ref h7, .ref h8, .ref h9, .ref h10, .ref h11, .ref h12, .ref h13, .int 0, .int (-1), .int 0, .int 0])), (h13, .inl (cI, 5, .inl (fun _ => 0)))]) hD hS hA [0, 2] rfl
  refine va_calli (va_runV (As := [.int 0]) (rest := []) ⟨hx, hb, hml, hown, hts⟩ (c_X10_refuse l dC dI cI cJ h0 h1 h2 h3 h4 h5 h6 h7 h8 h9 h10 h11 h12 h13 H.size) (cwV 1 hts (zgV qw684 qw686 qw13 qw98 qw687) rfl rfl rfl hd_X10_refuse ⟨Nat.le_of_ble_eq_true rfl, Nat.le_of_ble_eq_true rfl⟩) (zPV hPc hK hDc (va_recv hK hP (ci := 10) (q0 := 0) rfl rfl)) rfl rfl hl.1 rfl (lv_room (Nat.le_of_ble_eq_true rfl)) dX10_paysToHear_55 ⟨Nat.le_of_ble_eq_true rfl, Nat.le_of_ble_eq_true rfl⟩) hS (fun q _ h => hFc q h) hFc (fun r_2 u t H locs ht hvm hw hB hz1 hk1 hS => ?_)
  obtain ⟨hP1, hD1⟩ := hB
  rw [ht] at hP1
  obtain ⟨hP, hD⟩ := va_join (wr := [(h5, .inr (1, [.ref h14, .ref h15, .ref h16, .int 0, .int 0]))]) (w1 := [(h0, .inr (10, [.ref h1, .ref h2, .ref h3, .ref h4, .ref h5, .ref h6, .ref h7, .ref h8, .ref h9, .ref h10, .ref h11, .ref h12, .ref h13, .int 0, .int (-1), .int 0, .int 0])), (h13, .inl (cI, 5, .inl (upd (fun _ => 0) 0 1)))]) hP hD [0, 2] [1] rfl rfl (by decide) (by decide) hk1 hFc hP1 hD1
  have hP : va_P (dC, dI) vwCl [(h5, .inr (1, [.ref h14, .ref h15, .ref h16, .int 0, .int 0])), (h0, .inr (10, [.ref h1, .ref h2, .ref h3, .ref h4, .ref h5, .ref h6, .ref h7, .ref h8, .ref h9, .ref h10, .ref h11, .ref h12, .ref h13, .int 0, .int (-1), .int 0, .int 0])), (h13, .inl (cI, 5, .inl (upd (fun _ => 0) 0 1)))] H := hP
  have hD : va_D A [(h5, .inr (1, [.ref h14, .ref h15, .ref h16, .int 0, .int 0])), (h0, .inr (10, [.ref h1, .ref h2, .ref h3, .ref h4, .ref h5, .ref h6, .ref h7, .ref h8, .ref h9, .ref h10, .ref h11, .ref h12, .ref h13, .int 0, .int (-1), .int 0, .int 0])), (h13, .inl (cI, 5, .inl (upd (fun _ => 0) 0 1)))] := hD
  have hw : r_2 = (-1) := hw
  subst hw
  refine lv_pop hx hb dX10_paysToHear_58 rfl ?_
  refine lv_iconst (v := 0) hx hb dX10_paysToHear_59 (by decide) ?_
  exact W.zret (v := 0) (ty := .boolean) hx hb hr rfl (fun t ht hW => ⟨⟨0, (), rfl, rfl, ⟨by rw [ht]; exact hP, hD⟩⟩, hS.F ht⟩) hS.2.2 dX10_paysToHear_60
set_option maxHeartbeats 4000000 in
set_option maxRecDepth 100000 in
theorem c_X10_letter (l : Launch) (dC : Nat → ClassId) (dI : Nat → Nat → Nat) (cI cJ : ClassId) (h0 h1 h2 h3 h4 h5 h6 h7 h8 h9 h10 h11 h12 h13 h14 h15 h16 h17 h18 h19 : Nat) (sz : Nat) (p0 : Int32) : Met l yX10_letter (.code yX10_letter cX10_letter 2 (some .int) :: wA) ({ frames := 2, cells := 0, slots := 0, locals := 45 }) (zP (dC, dI) [(cI, .int), (cJ, .long)] [.ref h0, .int p0] sz [(h0, .inr (10, [.ref h1, .ref h2, .ref h3, .ref h4, .ref h5, .ref h6, .ref h7, .ref h8, .ref h9, .ref h10, .ref h11, .ref h12, .ref h13, .int 0, .int (-1), .int 0, .int 0])), (h5, .inr (1, [.ref h14, .ref h15, .ref h16, .int 0, .int 0])), (h7, .inr (7, [.ref h17, .ref h18, .ref h19, .int 0, .int 0, .int 0, .int (-1), .int 0, .int 0])), (h13, .inl (cI, 5, .inl (fun _ => 0)))]) (va_Qi (fun (r : Int32) (_ : Unit) => r = (-1)) (fun (_ : Unit) (t : State) => va_P (dC, dI) vwCl [(h7, .inr (7, [.ref h17, .ref h18, .ref h19, .int 0, .int 0, .int 0, .int (-1), .int 0, .int 0])), (h5, .inr (1, [.ref h14, .ref h15, .ref h16, .int 0, .int 0])), (h0, .inr (10, [.ref h1, .ref h2, .ref h3, .ref h4, .ref h5, .ref h6, .ref h7, .ref h8, .ref h9, .ref h10, .ref h11, .ref h12, .ref h13, .int 0, .int (-1), .int 0, .int 0])), (h13, .inl (cI, 5, .inl (upd (fun _ => 0) 0 1)))] t.heap ∧ va_D (va_A [(h0, .inr (10, [.ref h1, .ref h2, .ref h3, .ref h4, .ref h5, .ref h6, .ref h7, .ref h8, .ref h9, .ref h10, .ref h11, .ref h12, .ref h13, .int 0, .int (-1), .int 0, .int 0])), (h5, .inr (1, [.ref h14, .ref h15, .ref h16, .int 0, .int 0])), (h7, .inr (7, [.ref h17, .ref h18, .ref h19, .int 0, .int 0, .int 0, .int (-1), .int 0, .int 0])), (h13, .inl (cI, 5, .inl (fun _ => 0)))] sz) [(h7, .inr (7, [.ref h17, .ref h18, .ref h19, .int 0, .int 0, .int 0, .int (-1), .int 0, .int 0])), (h5, .inr (1, [.ref h14, .ref h15, .ref h16, .int 0, .int 0])), (h0, .inr (10, [.ref h1, .ref h2, .ref h3, .ref h4, .ref h5, .ref h6, .ref h7, .ref h8, .ref h9, .ref h10, .ref h11, .ref h12, .ref h13, .int 0, .int (-1), .int 0, .int 0])), (h13, .inl (cI, 5, .inl (upd (fun _ => 0) 0 1)))]) (va_A [(h0, .inr (10, [.ref h1, .ref h2, .ref h3, .ref h4, .ref h5, .ref h6, .ref h7, .ref h8, .ref h9, .ref h10, .ref h11, .ref h12, .ref h13, .int 0, .int (-1), .int 0, .int 0])), (h5, .inr (1, [.ref h14, .ref h15, .ref h16, .int 0, .int 0])), (h7, .inr (7, [.ref h17, .ref h18, .ref h19, .int 0, .int 0, .int 0, .int (-1), .int 0, .int 0])), (h13, .inl (cI, 5, .inl (fun _ => 0)))] sz)) 0 0 (va_A [(h0, .inr (10, [.ref h1, .ref h2, .ref h3, .ref h4, .ref h5, .ref h6, .ref h7, .ref h8, .ref h9, .ref h10, .ref h11, .ref h12, .ref h13, .int 0, .int (-1), .int 0, .int 0])), (h5, .inr (1, [.ref h14, .ref h15, .ref h16, .int 0, .int 0])), (h7, .inr (7, [.ref h17, .ref h18, .ref h19, .int 0, .int 0, .int 0, .int (-1), .int 0, .int 0])), (h13, .inl (cI, 5, .inl (fun _ => 0)))] sz) := by
  refine Met.ofW (cc := cX10_letter) (maxL := 2) (ret := (some .int)) (by decide) rfl ?_
  intro p e s m args below meth c s₁ B hml hv
  obtain ⟨rfl, hsz, hP, hK, hT⟩ := hv
  have hx := B.exec
  have hb := B.bytes
  have hr := B.returns
  have hts : ∀ w ∈ wA, w.before _ s = true := fun w h => atoms_spec (ws := .code yX10_letter cX10_letter 2 (some .int) :: wA) B.pre w (List.mem_cons_of_mem _ h)
  have hown : s.vm.findClass RX10 = some m.cls := findClass_of_methodNamed B.named
  have hlocks := B.notSynchronized
  subst hsz
  have hD := hT.self (sz := s.heap.size)
  generalize hAe : va_A [(h0, .inr (10, [.ref h1, .ref h2, .ref h3, .ref h4, .ref h5, .ref h6, .ref h7, .ref h8, .ref h9, .ref h10, .ref h11, .ref h12, .ref h13, .int 0, .int (-1), .int 0, .int 0])), (h5, .inr (1, [.ref h14, .ref h15, .ref h16, .int 0, .int 0])), (h7, .inr (7, [.ref h17, .ref h18, .ref h19, .int 0, .int 0, .int 0, .int (-1), .int 0, .int 0])), (h13, .inl (cI, 5, .inl (fun _ => 0)))] s.heap.size = A at hD ⊢
  have hA : ∀ q : Nat, s.heap.size ≤ q → A q := fun q h => by rw [← hAe]; exact Or.inr h
  have hl := lv_entry ([.ref h0, .int p0]) (n := 2) (Nat.le_of_ble_eq_true rfl)
  rw [lg_entry_eq]
  generalize (lg_sl ([.ref h0, .int p0]) ++ List.replicate (2 - (lg_sl ([.ref h0, .int p0])).length) Slot.unset).toArray = ls at hl ⊢
  have hl : lv_has ls 2 [(0, .ref h0), (1, .int p0)] := hl
  refine zstart (fun H hH => ?_)
  rw [← hH] at hP
  have hS : va_S A s.heap H [] := by rw [hH]; exact va_S.rf
  refine lv_aload_n hx hb dX10_letter_0 rfl (lv_at hl 0 rfl) ?_
  refine lv_iload_n hx hb dX10_letter_1 rfl (lv_at hl 1 rfl) ?_
  refine lv_aload_n hx hb dX10_letter_2 rfl (lv_at hl 0 rfl) ?_
  refine va_get (D := (dC, dI)) (ci := 10) (v := .ref h7) (C := RX10) (T := TX10) (N := 17) hx hb hts iX10 hown hK hP 0 rfl rfl 6 (by decide) (hts _ qw362) (fun _ h9 => h9) rfl dX10_letter_3 ?_
  refine va_get (D := (dC, dI)) (ci := 7) (v := .int 0) (C := RX7) (T := TX7) (N := 9) hx hb hts iX7 hown hK hP 2 rfl rfl 4 (by decide) (hts _ qw232) (fun _ h9 => h9) rfl dX10_letter_6 ?_
  refine lv_iconst (v := 2) hx hb dX10_letter_9 (by decide) ?_
  have hPc := hP.sub (ws' := [(h0, .inr (10, [.ref h1, .ref h2, .ref h3, .ref h4, .ref h5, .ref h6, .ref h7, .ref h8, .ref h9, .ref h10, .ref h11, .ref h12, .ref h13, .int 0, .int (-1), .int 0, .int 0])), (h5, .inr (1, [.ref h14, .ref h15, .ref h16, .int 0, .int 0])), (h13, .inl (cI, 5, .inl (fun _ => 0)))]) [0, 1, 3] rfl
  have hDc := hD.sub (ws' := [(h0, .inr (10, [.ref h1, .ref h2, .ref h3, .ref h4, .ref h5, .ref h6, .ref h7, .ref h8, .ref h9, .ref h10, .ref h11, .ref h12, .ref h13, .int 0, .int (-1), .int 0, .int 0])), (h5, .inr (1, [.ref h14, .ref h15, .ref h16, .int 0, .int 0])), (h13, .inl (cI, 5, .inl (fun _ => 0)))]) [0, 1, 3] (by decide) rfl
  have hFc := va_free (wc := [(h0, .inr (10, [.ref h1, .ref h2, .ref h3, .ref h4, .ref h5, .ref h6, .ref h7, .ref h8, .ref h9, .ref h10, .ref h11, .ref h12, .ref h13, .int 0, .int (-1), .int 0, .int 0])), (h5, .inr (1, [.ref h14, .ref h15, .ref h16, .int 0, .int 0])), (h13, .inl (cI, 5, .inl (fun _ => 0)))]) hD hS hA [0, 1, 3] rfl
  refine va_calli (va_runV (As := [.int p0, .int 0, .int 2]) (rest := []) ⟨hx, hb, hml, hown, hts⟩ (c_X10_paysToHear l dC dI cI cJ h0 h1 h2 h3 h4 h5 h6 h7 h8 h9 h10 h11 h12 h13 h14 h15 h16 H.size p0) (cwV 3 hts (zgV qw725 qw727 qw15 qw98 qw728) rfl rfl rfl hd_X10_paysToHear ⟨Nat.le_of_ble_eq_true rfl, Nat.le_of_ble_eq_true rfl⟩) (zPV hPc hK hDc (va_recv hK hP (ci := 10) (q0 := 0) rfl rfl)) rfl rfl hl.1 rfl (lv_room (Nat.le_of_ble_eq_true rfl)) dX10_letter_10 ⟨Nat.le_of_ble_eq_true rfl, Nat.le_of_ble_eq_true rfl⟩) hS (fun q _ h => hFc q h) hFc (fun r_1 u t H locs ht hvm hw hB hz1 hk1 hS => ?_)
  obtain ⟨hP1, hD1⟩ := hB
  rw [ht] at hP1
  obtain ⟨hP, hD⟩ := va_join (wr := [(h7, .inr (7, [.ref h17, .ref h18, .ref h19, .int 0, .int 0, .int 0, .int (-1), .int 0, .int 0]))]) (w1 := [(h5, .inr (1, [.ref h14, .ref h15, .ref h16, .int 0, .int 0])), (h0, .inr (10, [.ref h1, .ref h2, .ref h3, .ref h4, .ref h5, .ref h6, .ref h7, .ref h8, .ref h9, .ref h10, .ref h11, .ref h12, .ref h13, .int 0, .int (-1), .int 0, .int 0])), (h13, .inl (cI, 5, .inl (upd (fun _ => 0) 0 1)))]) hP hD [0, 1, 3] [2] rfl rfl (by decide) (by decide) hk1 hFc hP1 hD1
  have hP : va_P (dC, dI) vwCl [(h7, .inr (7, [.ref h17, .ref h18, .ref h19, .int 0, .int 0, .int 0, .int (-1), .int 0, .int 0])), (h5, .inr (1, [.ref h14, .ref h15, .ref h16, .int 0, .int 0])), (h0, .inr (10, [.ref h1, .ref h2, .ref h3, .ref h4, .ref h5, .ref h6, .ref h7, .ref h8, .ref h9, .ref h10, .ref h11, .ref h12, .ref h13, .int 0, .int (-1), .int 0, .int 0])), (h13, .inl (cI, 5, .inl (upd (fun _ => 0) 0 1)))] H := hP
  have hD : va_D A [(h7, .inr (7, [.ref h17, .ref h18, .ref h19, .int 0, .int 0, .int 0, .int (-1), .int 0, .int 0])), (h5, .inr (1, [.ref h14, .ref h15, .ref h16, .int 0, .int 0])), (h0, .inr (10, [.ref h1, .ref h2, .ref h3, .ref h4, .ref h5, .ref h6, .ref h7, .ref h8, .ref h9, .ref h10, .ref h11, .ref h12, .ref h13, .int 0, .int (-1), .int 0, .int 0])), (h13, .inl (cI, 5, .inl (upd (fun _ => 0) 0 1)))] := hD
  have hw : r_1 = 0 := hw
  subst hw
  refine lv_if_ne (tgt := 18) hx hb dX10_letter_13 (by decide) (fun c => absurd (by decide) c) (fun _ => ?_)
  refine lv_iconst (v := (-1)) hx hb dX10_letter_16 (by decide) ?_
  exact W.iret (v := ((-1))) hx hb hr (fun t ht hW => ⟨⟨(-1), (), rfl, rfl, ⟨by rw [ht]; exact hP, hD⟩⟩, hS.F ht⟩) hS.2.2 dX10_letter_17
set_option maxHeartbeats 4000000 in
set_option maxRecDepth 100000 in
theorem c_X10_paysToHear_1 (l : Launch) (dC : Nat → ClassId) (dI : Nat → Nat → Nat) (cI cJ : ClassId) (h0 h1 h2 h3 h4 h5 h6 h7 h8 h9 h10 h11 h12 h13 h14 h15 h16 : Nat) (sz : Nat) (p0 : Int32) : Met l yX10_paysToHear (.code yX10_paysToHear cX10_paysToHear 5 (some .boolean) :: wA) ({ frames := 1, cells := 0, slots := 0, locals := 21 }) (zP (dC, dI) [(cI, .int), (cJ, .long)] [.ref h0, .int p0, .int 0, .int 1] sz [(h0, .inr (10, [.ref h1, .ref h2, .ref h3, .ref h4, .ref h5, .ref h6, .ref h7, .ref h8, .ref h9, .ref h10, .ref h11, .ref h12, .ref h13, .int 0, .int (-1), .int 0, .int 0])), (h5, .inr (1, [.ref h14, .ref h15, .ref h16, .int 0, .int 0])), (h13, .inl (cI, 5, .inl (fun _ => 0)))]) (va_Qi (fun (r : Int32) (_ : Unit) => r = 0) (fun (_ : Unit) (t : State) => va_P (dC, dI) vwCl [(h5, .inr (1, [.ref h14, .ref h15, .ref h16, .int 0, .int 0])), (h0, .inr (10, [.ref h1, .ref h2, .ref h3, .ref h4, .ref h5, .ref h6, .ref h7, .ref h8, .ref h9, .ref h10, .ref h11, .ref h12, .ref h13, .int 0, .int (-1), .int 0, .int 0])), (h13, .inl (cI, 5, .inl (upd (fun _ => 0) 0 1)))] t.heap ∧ va_D (va_A [(h0, .inr (10, [.ref h1, .ref h2, .ref h3, .ref h4, .ref h5, .ref h6, .ref h7, .ref h8, .ref h9, .ref h10, .ref h11, .ref h12, .ref h13, .int 0, .int (-1), .int 0, .int 0])), (h5, .inr (1, [.ref h14, .ref h15, .ref h16, .int 0, .int 0])), (h13, .inl (cI, 5, .inl (fun _ => 0)))] sz) [(h5, .inr (1, [.ref h14, .ref h15, .ref h16, .int 0, .int 0])), (h0, .inr (10, [.ref h1, .ref h2, .ref h3, .ref h4, .ref h5, .ref h6, .ref h7, .ref h8, .ref h9, .ref h10, .ref h11, .ref h12, .ref h13, .int 0, .int (-1), .int 0, .int 0])), (h13, .inl (cI, 5, .inl (upd (fun _ => 0) 0 1)))]) (va_A [(h0, .inr (10, [.ref h1, .ref h2, .ref h3, .ref h4, .ref h5, .ref h6, .ref h7, .ref h8, .ref h9, .ref h10, .ref h11, .ref h12, .ref h13, .int 0, .int (-1), .int 0, .int 0])), (h5, .inr (1, [.ref h14, .ref h15, .ref h16, .int 0, .int 0])), (h13, .inl (cI, 5, .inl (fun _ => 0)))] sz)) 0 0 (va_A [(h0, .inr (10, [.ref h1, .ref h2, .ref h3, .ref h4, .ref h5, .ref h6, .ref h7, .ref h8, .ref h9, .ref h10, .ref h11, .ref h12, .ref h13, .int 0, .int (-1), .int 0, .int 0])), (h5, .inr (1, [.ref h14, .ref h15, .ref h16, .int 0, .int 0])), (h13, .inl (cI, 5, .inl (fun _ => 0)))] sz) := by
  refine Met.ofW (cc := cX10_paysToHear) (maxL := 5) (ret := (some .boolean)) (by decide) rfl ?_
  intro p e s m args below meth c s₁ B hml hv
  obtain ⟨rfl, hsz, hP, hK, hT⟩ := hv
  have hx := B.exec
  have hb := B.bytes
  have hr := B.returns
  have hts : ∀ w ∈ wA, w.before _ s = true := fun w h => atoms_spec (ws := .code yX10_paysToHear cX10_paysToHear 5 (some .boolean) :: wA) B.pre w (List.mem_cons_of_mem _ h)
  have hown : s.vm.findClass RX10 = some m.cls := findClass_of_methodNamed B.named
  have hlocks := B.notSynchronized
  subst hsz
  have hD := hT.self (sz := s.heap.size)
  generalize hAe : va_A [(h0, .inr (10, [.ref h1, .ref h2, .ref h3, .ref h4, .ref h5, .ref h6, .ref h7, .ref h8, .ref h9, .ref h10, .ref h11, .ref h12, .ref h13, .int 0, .int (-1), .int 0, .int 0])), (h5, .inr (1, [.ref h14, .ref h15, .ref h16, .int 0, .int 0])), (h13, .inl (cI, 5, .inl (fun _ => 0)))] s.heap.size = A at hD ⊢
  have hA : ∀ q : Nat, s.heap.size ≤ q → A q := fun q h => by rw [← hAe]; exact Or.inr h
  have hl := lv_entry ([.ref h0, .int p0, .int 0, .int 1]) (n := 5) (Nat.le_of_ble_eq_true rfl)
  rw [lg_entry_eq]
  generalize (lg_sl ([.ref h0, .int p0, .int 0, .int 1]) ++ List.replicate (5 - (lg_sl ([.ref h0, .int p0, .int 0, .int 1])).length) Slot.unset).toArray = ls at hl ⊢
  have hl : lv_has ls 5 [(0, .ref h0), (1, .int p0), (2, .int 0), (3, .int 1)] := hl
  refine zstart (fun H hH => ?_)
  rw [← hH] at hP
  have hS : va_S A s.heap H [] := by rw [hH]; exact va_S.rf
  refine lv_iconst (v := (-1)) hx hb dX10_paysToHear_0 (by decide) ?_
  refine lv_istore (lv' := [(4, .int (-1)), (0, .ref h0), (1, .int p0), (2, .int 0), (3, .int 1)]) hx hb dX10_paysToHear_1 hl (by decide) rfl (fun ls hl => ?_)
  refine lv_aload_n hx hb dX10_paysToHear_3 rfl (lv_at hl 1 rfl) ?_
  refine lv_iload_n hx hb dX10_paysToHear_4 rfl (lv_at hl 2 rfl) ?_
  have hPc := hP.sub (ws' := [(h0, .inr (10, [.ref h1, .ref h2, .ref h3, .ref h4, .ref h5, .ref h6, .ref h7, .ref h8, .ref h9, .ref h10, .ref h11, .ref h12, .ref h13, .int 0, .int (-1), .int 0, .int 0])), (h5, .inr (1, [.ref h14, .ref h15, .ref h16, .int 0, .int 0]))]) [0, 1] rfl
  have hDc := hD.sub (ws' := [(h0, .inr (10, [.ref h1, .ref h2, .ref h3, .ref h4, .ref h5, .ref h6, .ref h7, .ref h8, .ref h9, .ref h10, .ref h11, .ref h12, .ref h13, .int 0, .int (-1), .int 0, .int 0])), (h5, .inr (1, [.ref h14, .ref h15, .ref h16, .int 0, .int 0]))]) [0, 1] (by decide) rfl
  have hFc := zfr hS hA
  refine va_calli (va_runV (As := [.int p0]) (rest := []) ⟨hx, hb, hml, hown, hts⟩ (c_X10_isBride l dC dI cI cJ h0 h1 h2 h3 h4 h5 h6 h7 h8 h9 h10 h11 h12 h13 h14 h15 h16 H.size p0) (cwV 1 hts (zgV qw625 qw627 qw12 qw98 qw628) rfl rfl rfl hd_X10_isBride ⟨Nat.le_of_ble_eq_true rfl, Nat.le_of_ble_eq_true rfl⟩) (zPV hPc hK hDc (va_recv hK hP (ci := 10) (q0 := 0) rfl rfl)) rfl rfl hl.1 rfl (lv_room (Nat.le_of_ble_eq_true rfl)) dX10_paysToHear_5 ⟨Nat.le_of_ble_eq_true rfl, Nat.le_of_ble_eq_true rfl⟩) hS (fun q _ h => hFc q h) hFc (fun r_1 u t H locs ht hvm hw hB hz1 hk1 hS => ?_)
  have hP := zkeep hP hk1
  have hw : r_1 = 0 := hw
  subst hw
  refine lv_if_ne (tgt := 17) hx hb dX10_paysToHear_8 (by decide) (fun c => absurd (by decide) c) (fun _ => ?_)
  refine lv_iconst (v := 0) hx hb dX10_paysToHear_11 (by decide) ?_
  refine lv_istore (lv' := [(4, .int 0), (0, .ref h0), (1, .int p0), (2, .int 0), (3, .int 1)]) hx hb dX10_paysToHear_12 hl (by decide) rfl (fun ls hl => ?_)
  refine lv_goto (tgt := 46) hx hb dX10_paysToHear_14 (by decide) ?_
  refine lv_iload hx hb dX10_paysToHear_46 (lv_at hl 0 rfl) ?_
  refine lv_iconst (v := (-1)) hx hb dX10_paysToHear_48 (by decide) ?_
  refine lv_icmp_eq (tgt := 61) hx hb dX10_paysToHear_49 (by decide) (fun c => absurd c (by decide)) (fun _ => ?_)
  refine lv_aload_n hx hb dX10_paysToHear_52 rfl (lv_at hl 1 rfl) ?_
  refine lv_iload hx hb dX10_paysToHear_53 (lv_at hl 0 rfl) ?_
  have hPc := hP.sub (ws' := [(h0, .inr (10, [.ref h1, .ref h2, .ref h3, .ref h4, .ref h5, .ref h6, .ref h7, .ref h8, .ref h9, .ref h10, .ref h11, .ref h12, .ref h13, .int 0, .int (-1), .int 0, .int 0])), (h13, .inl (cI, 5, .inl (fun _ => 0)))]) [0, 2] rfl
  have hDc := hD.sub (ws' := [(h0, .inr (10, [.ref h1, .ref h2, .ref h3, .ref h4, .ref h5, .ref h6, .ref h7, .ref h8, .ref h9, .ref h10, .ref h11, .ref h12, .ref h13, .int 0, .int (-1), .int 0, .int 0])), (h13, .inl (cI, 5, .inl (fun _ => 0)))]) [0, 2] (by decide) rfl
  have hFc := va_free (wc := [(h0, .inr (10, [.ref h1, .ref h2, .ref h3, .ref h4, .ref h5, .ref h6, .ref h7, .ref h8, .ref h9, .ref h10, .ref h11, .ref h12, .ref h13, .int 0, .int (-1), .int 0, .int 0])), (h13, .inl (cI, 5, .inl (fun _ => 0)))]) hD hS hA [0, 2] rfl
  refine va_calli (va_runV (As := [.int 0]) (rest := []) ⟨hx, hb, hml, hown, hts⟩ (c_X10_refuse l dC dI cI cJ h0 h1 h2 h3 h4 h5 h6 h7 h8 h9 h10 h11 h12 h13 H.size) (cwV 1 hts (zgV qw684 qw686 qw13 qw98 qw687) rfl rfl rfl hd_X10_refuse ⟨Nat.le_of_ble_eq_true rfl, Nat.le_of_ble_eq_true rfl⟩) (zPV hPc hK hDc (va_recv hK hP (ci := 10) (q0 := 0) rfl rfl)) rfl rfl hl.1 rfl (lv_room (Nat.le_of_ble_eq_true rfl)) dX10_paysToHear_55 ⟨Nat.le_of_ble_eq_true rfl, Nat.le_of_ble_eq_true rfl⟩) hS (fun q _ h => hFc q h) hFc (fun r_2 u t H locs ht hvm hw hB hz1 hk1 hS => ?_)
  obtain ⟨hP1, hD1⟩ := hB
  rw [ht] at hP1
  obtain ⟨hP, hD⟩ := va_join (wr := [(h5, .inr (1, [.ref h14, .ref h15, .ref h16, .int 0, .int 0]))]) (w1 := [(h0, .inr (10, [.ref h1, .ref h2, .ref h3, .ref h4, .ref h5, .ref h6, .ref h7, .ref h8, .ref h9, .ref h10, .ref h11, .ref h12, .ref h13, .int 0, .int (-1), .int 0, .int 0])), (h13, .inl (cI, 5, .inl (upd (fun _ => 0) 0 1)))]) hP hD [0, 2] [1] rfl rfl (by decide) (by decide) hk1 hFc hP1 hD1
  have hP : va_P (dC, dI) vwCl [(h5, .inr (1, [.ref h14, .ref h15, .ref h16, .int 0, .int 0])), (h0, .inr (10, [.ref h1, .ref h2, .ref h3, .ref h4, .ref h5, .ref h6, .ref h7, .ref h8, .ref h9, .ref h10, .ref h11, .ref h12, .ref h13, .int 0, .int (-1), .int 0, .int 0])), (h13, .inl (cI, 5, .inl (upd (fun _ => 0) 0 1)))] H := hP
  have hD : va_D A [(h5, .inr (1, [.ref h14, .ref h15, .ref h16, .int 0, .int 0])), (h0, .inr (10, [.ref h1, .ref h2, .ref h3, .ref h4, .ref h5, .ref h6, .ref h7, .ref h8, .ref h9, .ref h10, .ref h11, .ref h12, .ref h13, .int 0, .int (-1), .int 0, .int 0])), (h13, .inl (cI, 5, .inl (upd (fun _ => 0) 0 1)))] := hD
  have hw : r_2 = (-1) := hw
  subst hw
  refine lv_pop hx hb dX10_paysToHear_58 rfl ?_
  refine lv_iconst (v := 0) hx hb dX10_paysToHear_59 (by decide) ?_
  exact W.zret (v := 0) (ty := .boolean) hx hb hr rfl (fun t ht hW => ⟨⟨0, (), rfl, rfl, ⟨by rw [ht]; exact hP, hD⟩⟩, hS.F ht⟩) hS.2.2 dX10_paysToHear_60
set_option maxHeartbeats 4000000 in
set_option maxRecDepth 100000 in
theorem c_X10_shoe (l : Launch) (dC : Nat → ClassId) (dI : Nat → Nat → Nat) (cI cJ : ClassId) (h0 h1 h2 h3 h4 h5 h6 h7 h8 h9 h10 h11 h12 h13 h14 h15 h16 h17 h18 h19 : Nat) (sz : Nat) (p0 : Int32) : Met l yX10_shoe (.code yX10_shoe cX10_shoe 2 (some .int) :: wA) ({ frames := 2, cells := 0, slots := 0, locals := 45 }) (zP (dC, dI) [(cI, .int), (cJ, .long)] [.ref h0, .int p0] sz [(h0, .inr (10, [.ref h1, .ref h2, .ref h3, .ref h4, .ref h5, .ref h6, .ref h7, .ref h8, .ref h9, .ref h10, .ref h11, .ref h12, .ref h13, .int 0, .int (-1), .int 0, .int 0])), (h5, .inr (1, [.ref h14, .ref h15, .ref h16, .int 0, .int 0])), (h7, .inr (7, [.ref h17, .ref h18, .ref h19, .int 0, .int 0, .int 0, .int (-1), .int 0, .int 0])), (h13, .inl (cI, 5, .inl (fun _ => 0)))]) (va_Qi (fun (r : Int32) (_ : Unit) => r = (-1)) (fun (_ : Unit) (t : State) => va_P (dC, dI) vwCl [(h7, .inr (7, [.ref h17, .ref h18, .ref h19, .int 0, .int 0, .int 0, .int (-1), .int 0, .int 0])), (h5, .inr (1, [.ref h14, .ref h15, .ref h16, .int 0, .int 0])), (h0, .inr (10, [.ref h1, .ref h2, .ref h3, .ref h4, .ref h5, .ref h6, .ref h7, .ref h8, .ref h9, .ref h10, .ref h11, .ref h12, .ref h13, .int 0, .int (-1), .int 0, .int 0])), (h13, .inl (cI, 5, .inl (upd (fun _ => 0) 0 1)))] t.heap ∧ va_D (va_A [(h0, .inr (10, [.ref h1, .ref h2, .ref h3, .ref h4, .ref h5, .ref h6, .ref h7, .ref h8, .ref h9, .ref h10, .ref h11, .ref h12, .ref h13, .int 0, .int (-1), .int 0, .int 0])), (h5, .inr (1, [.ref h14, .ref h15, .ref h16, .int 0, .int 0])), (h7, .inr (7, [.ref h17, .ref h18, .ref h19, .int 0, .int 0, .int 0, .int (-1), .int 0, .int 0])), (h13, .inl (cI, 5, .inl (fun _ => 0)))] sz) [(h7, .inr (7, [.ref h17, .ref h18, .ref h19, .int 0, .int 0, .int 0, .int (-1), .int 0, .int 0])), (h5, .inr (1, [.ref h14, .ref h15, .ref h16, .int 0, .int 0])), (h0, .inr (10, [.ref h1, .ref h2, .ref h3, .ref h4, .ref h5, .ref h6, .ref h7, .ref h8, .ref h9, .ref h10, .ref h11, .ref h12, .ref h13, .int 0, .int (-1), .int 0, .int 0])), (h13, .inl (cI, 5, .inl (upd (fun _ => 0) 0 1)))]) (va_A [(h0, .inr (10, [.ref h1, .ref h2, .ref h3, .ref h4, .ref h5, .ref h6, .ref h7, .ref h8, .ref h9, .ref h10, .ref h11, .ref h12, .ref h13, .int 0, .int (-1), .int 0, .int 0])), (h5, .inr (1, [.ref h14, .ref h15, .ref h16, .int 0, .int 0])), (h7, .inr (7, [.ref h17, .ref h18, .ref h19, .int 0, .int 0, .int 0, .int (-1), .int 0, .int 0])), (h13, .inl (cI, 5, .inl (fun _ => 0)))] sz)) 0 0 (va_A [(h0, .inr (10, [.ref h1, .ref h2, .ref h3, .ref h4, .ref h5, .ref h6, .ref h7, .ref h8, .ref h9, .ref h10, .ref h11, .ref h12, .ref h13, .int 0, .int (-1), .int 0, .int 0])), (h5, .inr (1, [.ref h14, .ref h15, .ref h16, .int 0, .int 0])), (h7, .inr (7, [.ref h17, .ref h18, .ref h19, .int 0, .int 0, .int 0, .int (-1), .int 0, .int 0])), (h13, .inl (cI, 5, .inl (fun _ => 0)))] sz) := by
  refine Met.ofW (cc := cX10_shoe) (maxL := 2) (ret := (some .int)) (by decide) rfl ?_
  intro p e s m args below meth c s₁ B hml hv
  obtain ⟨rfl, hsz, hP, hK, hT⟩ := hv
  have hx := B.exec
  have hb := B.bytes
  have hr := B.returns
  have hts : ∀ w ∈ wA, w.before _ s = true := fun w h => atoms_spec (ws := .code yX10_shoe cX10_shoe 2 (some .int) :: wA) B.pre w (List.mem_cons_of_mem _ h)
  have hown : s.vm.findClass RX10 = some m.cls := findClass_of_methodNamed B.named
  have hlocks := B.notSynchronized
  subst hsz
  have hD := hT.self (sz := s.heap.size)
  generalize hAe : va_A [(h0, .inr (10, [.ref h1, .ref h2, .ref h3, .ref h4, .ref h5, .ref h6, .ref h7, .ref h8, .ref h9, .ref h10, .ref h11, .ref h12, .ref h13, .int 0, .int (-1), .int 0, .int 0])), (h5, .inr (1, [.ref h14, .ref h15, .ref h16, .int 0, .int 0])), (h7, .inr (7, [.ref h17, .ref h18, .ref h19, .int 0, .int 0, .int 0, .int (-1), .int 0, .int 0])), (h13, .inl (cI, 5, .inl (fun _ => 0)))] s.heap.size = A at hD ⊢
  have hA : ∀ q : Nat, s.heap.size ≤ q → A q := fun q h => by rw [← hAe]; exact Or.inr h
  have hl := lv_entry ([.ref h0, .int p0]) (n := 2) (Nat.le_of_ble_eq_true rfl)
  rw [lg_entry_eq]
  generalize (lg_sl ([.ref h0, .int p0]) ++ List.replicate (2 - (lg_sl ([.ref h0, .int p0])).length) Slot.unset).toArray = ls at hl ⊢
  have hl : lv_has ls 2 [(0, .ref h0), (1, .int p0)] := hl
  refine zstart (fun H hH => ?_)
  rw [← hH] at hP
  have hS : va_S A s.heap H [] := by rw [hH]; exact va_S.rf
  refine lv_aload_n hx hb dX10_shoe_0 rfl (lv_at hl 0 rfl) ?_
  refine lv_iload_n hx hb dX10_shoe_1 rfl (lv_at hl 1 rfl) ?_
  refine lv_aload_n hx hb dX10_shoe_2 rfl (lv_at hl 0 rfl) ?_
  refine va_get (D := (dC, dI)) (ci := 10) (v := .ref h7) (C := RX10) (T := TX10) (N := 17) hx hb hts iX10 hown hK hP 0 rfl rfl 6 (by decide) (hts _ qw362) (fun _ h9 => h9) rfl dX10_shoe_3 ?_
  refine va_get (D := (dC, dI)) (ci := 7) (v := .int 0) (C := RX7) (T := TX7) (N := 9) hx hb hts iX7 hown hK hP 2 rfl rfl 5 (by decide) (hts _ qw235) (fun _ h9 => h9) rfl dX10_shoe_6 ?_
  refine lv_iconst (v := 1) hx hb dX10_shoe_9 (by decide) ?_
  have hPc := hP.sub (ws' := [(h0, .inr (10, [.ref h1, .ref h2, .ref h3, .ref h4, .ref h5, .ref h6, .ref h7, .ref h8, .ref h9, .ref h10, .ref h11, .ref h12, .ref h13, .int 0, .int (-1), .int 0, .int 0])), (h5, .inr (1, [.ref h14, .ref h15, .ref h16, .int 0, .int 0])), (h13, .inl (cI, 5, .inl (fun _ => 0)))]) [0, 1, 3] rfl
  have hDc := hD.sub (ws' := [(h0, .inr (10, [.ref h1, .ref h2, .ref h3, .ref h4, .ref h5, .ref h6, .ref h7, .ref h8, .ref h9, .ref h10, .ref h11, .ref h12, .ref h13, .int 0, .int (-1), .int 0, .int 0])), (h5, .inr (1, [.ref h14, .ref h15, .ref h16, .int 0, .int 0])), (h13, .inl (cI, 5, .inl (fun _ => 0)))]) [0, 1, 3] (by decide) rfl
  have hFc := va_free (wc := [(h0, .inr (10, [.ref h1, .ref h2, .ref h3, .ref h4, .ref h5, .ref h6, .ref h7, .ref h8, .ref h9, .ref h10, .ref h11, .ref h12, .ref h13, .int 0, .int (-1), .int 0, .int 0])), (h5, .inr (1, [.ref h14, .ref h15, .ref h16, .int 0, .int 0])), (h13, .inl (cI, 5, .inl (fun _ => 0)))]) hD hS hA [0, 1, 3] rfl
  refine va_calli (va_runV (As := [.int p0, .int 0, .int 1]) (rest := []) ⟨hx, hb, hml, hown, hts⟩ (c_X10_paysToHear_1 l dC dI cI cJ h0 h1 h2 h3 h4 h5 h6 h7 h8 h9 h10 h11 h12 h13 h14 h15 h16 H.size p0) (cwV 3 hts (zgV qw725 qw727 qw15 qw98 qw728) rfl rfl rfl hd_X10_paysToHear ⟨Nat.le_of_ble_eq_true rfl, Nat.le_of_ble_eq_true rfl⟩) (zPV hPc hK hDc (va_recv hK hP (ci := 10) (q0 := 0) rfl rfl)) rfl rfl hl.1 rfl (lv_room (Nat.le_of_ble_eq_true rfl)) dX10_shoe_10 ⟨Nat.le_of_ble_eq_true rfl, Nat.le_of_ble_eq_true rfl⟩) hS (fun q _ h => hFc q h) hFc (fun r_1 u t H locs ht hvm hw hB hz1 hk1 hS => ?_)
  obtain ⟨hP1, hD1⟩ := hB
  rw [ht] at hP1
  obtain ⟨hP, hD⟩ := va_join (wr := [(h7, .inr (7, [.ref h17, .ref h18, .ref h19, .int 0, .int 0, .int 0, .int (-1), .int 0, .int 0]))]) (w1 := [(h5, .inr (1, [.ref h14, .ref h15, .ref h16, .int 0, .int 0])), (h0, .inr (10, [.ref h1, .ref h2, .ref h3, .ref h4, .ref h5, .ref h6, .ref h7, .ref h8, .ref h9, .ref h10, .ref h11, .ref h12, .ref h13, .int 0, .int (-1), .int 0, .int 0])), (h13, .inl (cI, 5, .inl (upd (fun _ => 0) 0 1)))]) hP hD [0, 1, 3] [2] rfl rfl (by decide) (by decide) hk1 hFc hP1 hD1
  have hP : va_P (dC, dI) vwCl [(h7, .inr (7, [.ref h17, .ref h18, .ref h19, .int 0, .int 0, .int 0, .int (-1), .int 0, .int 0])), (h5, .inr (1, [.ref h14, .ref h15, .ref h16, .int 0, .int 0])), (h0, .inr (10, [.ref h1, .ref h2, .ref h3, .ref h4, .ref h5, .ref h6, .ref h7, .ref h8, .ref h9, .ref h10, .ref h11, .ref h12, .ref h13, .int 0, .int (-1), .int 0, .int 0])), (h13, .inl (cI, 5, .inl (upd (fun _ => 0) 0 1)))] H := hP
  have hD : va_D A [(h7, .inr (7, [.ref h17, .ref h18, .ref h19, .int 0, .int 0, .int 0, .int (-1), .int 0, .int 0])), (h5, .inr (1, [.ref h14, .ref h15, .ref h16, .int 0, .int 0])), (h0, .inr (10, [.ref h1, .ref h2, .ref h3, .ref h4, .ref h5, .ref h6, .ref h7, .ref h8, .ref h9, .ref h10, .ref h11, .ref h12, .ref h13, .int 0, .int (-1), .int 0, .int 0])), (h13, .inl (cI, 5, .inl (upd (fun _ => 0) 0 1)))] := hD
  have hw : r_1 = 0 := hw
  subst hw
  refine lv_if_ne (tgt := 18) hx hb dX10_shoe_13 (by decide) (fun c => absurd (by decide) c) (fun _ => ?_)
  refine lv_iconst (v := (-1)) hx hb dX10_shoe_16 (by decide) ?_
  exact W.iret (v := ((-1))) hx hb hr (fun t ht hW => ⟨⟨(-1), (), rfl, rfl, ⟨by rw [ht]; exact hP, hD⟩⟩, hS.F ht⟩) hS.2.2 dX10_shoe_17
set_option maxHeartbeats 4000000 in
set_option maxRecDepth 100000 in
theorem c_X10_wed (l : Launch) (dC : Nat → ClassId) (dI : Nat → Nat → Nat) (cI cJ : ClassId) (h0 h1 h2 h3 h4 h5 h6 h7 h8 h9 h10 h11 h12 h13 h14 h15 h16 : Nat) (sz : Nat) (p0 : Int32) : Met l yX10_wed (.code yX10_wed cX10_wed 2 (some .int) :: wA) ({ frames := 1, cells := 0, slots := 0, locals := 21 }) (zP (dC, dI) [(cI, .int), (cJ, .long)] [.ref h0, .int p0] sz [(h0, .inr (10, [.ref h1, .ref h2, .ref h3, .ref h4, .ref h5, .ref h6, .ref h7, .ref h8, .ref h9, .ref h10, .ref h11, .ref h12, .ref h13, .int 0, .int (-1), .int 0, .int 0])), (h5, .inr (1, [.ref h14, .ref h15, .ref h16, .int 0, .int 0])), (h13, .inl (cI, 5, .inl (fun _ => 0)))]) (va_Qi (fun (r : Int32) (_ : Unit) => r = (-1)) (fun (_ : Unit) (t : State) => va_P (dC, dI) vwCl [(h5, .inr (1, [.ref h14, .ref h15, .ref h16, .int 0, .int 0])), (h0, .inr (10, [.ref h1, .ref h2, .ref h3, .ref h4, .ref h5, .ref h6, .ref h7, .ref h8, .ref h9, .ref h10, .ref h11, .ref h12, .ref h13, .int 0, .int (-1), .int 0, .int 0])), (h13, .inl (cI, 5, .inl (upd (fun _ => 0) 0 1)))] t.heap ∧ va_D (va_A [(h0, .inr (10, [.ref h1, .ref h2, .ref h3, .ref h4, .ref h5, .ref h6, .ref h7, .ref h8, .ref h9, .ref h10, .ref h11, .ref h12, .ref h13, .int 0, .int (-1), .int 0, .int 0])), (h5, .inr (1, [.ref h14, .ref h15, .ref h16, .int 0, .int 0])), (h13, .inl (cI, 5, .inl (fun _ => 0)))] sz) [(h5, .inr (1, [.ref h14, .ref h15, .ref h16, .int 0, .int 0])), (h0, .inr (10, [.ref h1, .ref h2, .ref h3, .ref h4, .ref h5, .ref h6, .ref h7, .ref h8, .ref h9, .ref h10, .ref h11, .ref h12, .ref h13, .int 0, .int (-1), .int 0, .int 0])), (h13, .inl (cI, 5, .inl (upd (fun _ => 0) 0 1)))]) (va_A [(h0, .inr (10, [.ref h1, .ref h2, .ref h3, .ref h4, .ref h5, .ref h6, .ref h7, .ref h8, .ref h9, .ref h10, .ref h11, .ref h12, .ref h13, .int 0, .int (-1), .int 0, .int 0])), (h5, .inr (1, [.ref h14, .ref h15, .ref h16, .int 0, .int 0])), (h13, .inl (cI, 5, .inl (fun _ => 0)))] sz)) 0 0 (va_A [(h0, .inr (10, [.ref h1, .ref h2, .ref h3, .ref h4, .ref h5, .ref h6, .ref h7, .ref h8, .ref h9, .ref h10, .ref h11, .ref h12, .ref h13, .int 0, .int (-1), .int 0, .int 0])), (h5, .inr (1, [.ref h14, .ref h15, .ref h16, .int 0, .int 0])), (h13, .inl (cI, 5, .inl (fun _ => 0)))] sz) := by
  refine Met.ofW (cc := cX10_wed) (maxL := 2) (ret := (some .int)) (by decide) rfl ?_
  intro p e s m args below meth c s₁ B hml hv
  obtain ⟨rfl, hsz, hP, hK, hT⟩ := hv
  have hx := B.exec
  have hb := B.bytes
  have hr := B.returns
  have hts : ∀ w ∈ wA, w.before _ s = true := fun w h => atoms_spec (ws := .code yX10_wed cX10_wed 2 (some .int) :: wA) B.pre w (List.mem_cons_of_mem _ h)
  have hown : s.vm.findClass RX10 = some m.cls := findClass_of_methodNamed B.named
  have hlocks := B.notSynchronized
  subst hsz
  have hD := hT.self (sz := s.heap.size)
  generalize hAe : va_A [(h0, .inr (10, [.ref h1, .ref h2, .ref h3, .ref h4, .ref h5, .ref h6, .ref h7, .ref h8, .ref h9, .ref h10, .ref h11, .ref h12, .ref h13, .int 0, .int (-1), .int 0, .int 0])), (h5, .inr (1, [.ref h14, .ref h15, .ref h16, .int 0, .int 0])), (h13, .inl (cI, 5, .inl (fun _ => 0)))] s.heap.size = A at hD ⊢
  have hA : ∀ q : Nat, s.heap.size ≤ q → A q := fun q h => by rw [← hAe]; exact Or.inr h
  have hl := lv_entry ([.ref h0, .int p0]) (n := 2) (Nat.le_of_ble_eq_true rfl)
  rw [lg_entry_eq]
  generalize (lg_sl ([.ref h0, .int p0]) ++ List.replicate (2 - (lg_sl ([.ref h0, .int p0])).length) Slot.unset).toArray = ls at hl ⊢
  have hl : lv_has ls 2 [(0, .ref h0), (1, .int p0)] := hl
  refine zstart (fun H hH => ?_)
  rw [← hH] at hP
  have hS : va_S A s.heap H [] := by rw [hH]; exact va_S.rf
  refine lv_aload_n hx hb dX10_wed_0 rfl (lv_at hl 0 rfl) ?_
  refine lv_iload_n hx hb dX10_wed_1 rfl (lv_at hl 1 rfl) ?_
  have hPc := hP.sub (ws' := [(h0, .inr (10, [.ref h1, .ref h2, .ref h3, .ref h4, .ref h5, .ref h6, .ref h7, .ref h8, .ref h9, .ref h10, .ref h11, .ref h12, .ref h13, .int 0, .int (-1), .int 0, .int 0])), (h5, .inr (1, [.ref h14, .ref h15, .ref h16, .int 0, .int 0]))]) [0, 1] rfl
  have hDc := hD.sub (ws' := [(h0, .inr (10, [.ref h1, .ref h2, .ref h3, .ref h4, .ref h5, .ref h6, .ref h7, .ref h8, .ref h9, .ref h10, .ref h11, .ref h12, .ref h13, .int 0, .int (-1), .int 0, .int 0])), (h5, .inr (1, [.ref h14, .ref h15, .ref h16, .int 0, .int 0]))]) [0, 1] (by decide) rfl
  have hFc := zfr hS hA
  refine va_calli (va_runV (As := [.int p0]) (rest := []) ⟨hx, hb, hml, hown, hts⟩ (c_X10_isBride l dC dI cI cJ h0 h1 h2 h3 h4 h5 h6 h7 h8 h9 h10 h11 h12 h13 h14 h15 h16 H.size p0) (cwV 1 hts (zgV qw625 qw627 qw12 qw98 qw628) rfl rfl rfl hd_X10_isBride ⟨Nat.le_of_ble_eq_true rfl, Nat.le_of_ble_eq_true rfl⟩) (zPV hPc hK hDc (va_recv hK hP (ci := 10) (q0 := 0) rfl rfl)) rfl rfl hl.1 rfl (lv_room (Nat.le_of_ble_eq_true rfl)) dX10_wed_2 ⟨Nat.le_of_ble_eq_true rfl, Nat.le_of_ble_eq_true rfl⟩) hS (fun q _ h => hFc q h) hFc (fun r_1 u t H locs ht hvm hw hB hz1 hk1 hS => ?_)
  have hP := zkeep hP hk1
  have hw : r_1 = 0 := hw
  subst hw
  refine lv_if_ne (tgt := 14) hx hb dX10_wed_5 (by decide) (fun c => absurd (by decide) c) (fun _ => ?_)
  refine lv_aload_n hx hb dX10_wed_8 rfl (lv_at hl 0 rfl) ?_
  refine lv_iconst (v := 0) hx hb dX10_wed_9 (by decide) ?_
  have hPc := hP.sub (ws' := [(h0, .inr (10, [.ref h1, .ref h2, .ref h3, .ref h4, .ref h5, .ref h6, .ref h7, .ref h8, .ref h9, .ref h10, .ref h11, .ref h12, .ref h13, .int 0, .int (-1), .int 0, .int 0])), (h13, .inl (cI, 5, .inl (fun _ => 0)))]) [0, 2] rfl
  have hDc := hD.sub (ws' := [(h0, .inr (10, [.ref h1, .ref h2, .ref h3, .ref h4, .ref h5, .ref h6, .ref h7, .ref h8, .ref h9, .ref h10, .ref h11, .ref h12, .ref h13, .int 0, .int (-1), .int 0, .int 0])), (h13, .inl (cI, 5, .inl (fun _ => 0)))]) [0, 2] (by decide) rfl
  have hFc := va_free (wc := [(h0, .inr (10, [.ref h1, .ref h2, .ref h3, .ref h4, .ref h5, .ref h6, .ref h7, .ref h8, .ref h9, .ref h10, .ref h11, .ref h12, .ref h13, .int 0, .int (-1), .int 0, .int 0])), (h13, .inl (cI, 5, .inl (fun _ => 0)))]) hD hS hA [0, 2] rfl
  refine va_calli (va_runV (As := [.int 0]) (rest := []) ⟨hx, hb, hml, hown, hts⟩ (c_X10_refuse l dC dI cI cJ h0 h1 h2 h3 h4 h5 h6 h7 h8 h9 h10 h11 h12 h13 H.size) (cwV 1 hts (zgV qw684 qw686 qw13 qw98 qw687) rfl rfl rfl hd_X10_refuse ⟨Nat.le_of_ble_eq_true rfl, Nat.le_of_ble_eq_true rfl⟩) (zPV hPc hK hDc (va_recv hK hP (ci := 10) (q0 := 0) rfl rfl)) rfl rfl hl.1 rfl (lv_room (Nat.le_of_ble_eq_true rfl)) dX10_wed_10 ⟨Nat.le_of_ble_eq_true rfl, Nat.le_of_ble_eq_true rfl⟩) hS (fun q _ h => hFc q h) hFc (fun r_2 u t H locs ht hvm hw hB hz1 hk1 hS => ?_)
  obtain ⟨hP1, hD1⟩ := hB
  rw [ht] at hP1
  obtain ⟨hP, hD⟩ := va_join (wr := [(h5, .inr (1, [.ref h14, .ref h15, .ref h16, .int 0, .int 0]))]) (w1 := [(h0, .inr (10, [.ref h1, .ref h2, .ref h3, .ref h4, .ref h5, .ref h6, .ref h7, .ref h8, .ref h9, .ref h10, .ref h11, .ref h12, .ref h13, .int 0, .int (-1), .int 0, .int 0])), (h13, .inl (cI, 5, .inl (upd (fun _ => 0) 0 1)))]) hP hD [0, 2] [1] rfl rfl (by decide) (by decide) hk1 hFc hP1 hD1
  have hP : va_P (dC, dI) vwCl [(h5, .inr (1, [.ref h14, .ref h15, .ref h16, .int 0, .int 0])), (h0, .inr (10, [.ref h1, .ref h2, .ref h3, .ref h4, .ref h5, .ref h6, .ref h7, .ref h8, .ref h9, .ref h10, .ref h11, .ref h12, .ref h13, .int 0, .int (-1), .int 0, .int 0])), (h13, .inl (cI, 5, .inl (upd (fun _ => 0) 0 1)))] H := hP
  have hD : va_D A [(h5, .inr (1, [.ref h14, .ref h15, .ref h16, .int 0, .int 0])), (h0, .inr (10, [.ref h1, .ref h2, .ref h3, .ref h4, .ref h5, .ref h6, .ref h7, .ref h8, .ref h9, .ref h10, .ref h11, .ref h12, .ref h13, .int 0, .int (-1), .int 0, .int 0])), (h13, .inl (cI, 5, .inl (upd (fun _ => 0) 0 1)))] := hD
  have hw : r_2 = (-1) := hw
  subst hw
  exact W.iret (v := ((-1))) hx hb hr (fun t ht hW => ⟨⟨(-1), (), rfl, rfl, ⟨by rw [ht]; exact hP, hD⟩⟩, hS.F ht⟩) hS.2.2 dX10_wed_13
set_option maxHeartbeats 4000000 in
set_option maxRecDepth 100000 in
theorem c_X10_annul (l : Launch) (dC : Nat → ClassId) (dI : Nat → Nat → Nat) (cI cJ : ClassId) (h0 h1 h2 h3 h4 h5 h6 h7 h8 h9 h10 h11 h12 h13 h14 h15 h16 : Nat) (sz : Nat) : Met l yX10_annul (.code yX10_annul cX10_annul 2 (some .int) :: wA) ({ frames := 1, cells := 0, slots := 0, locals := 21 }) (zP (dC, dI) [(cI, .int), (cJ, .long)] [.ref h0] sz [(h0, .inr (10, [.ref h1, .ref h2, .ref h3, .ref h4, .ref h5, .ref h6, .ref h7, .ref h8, .ref h9, .ref h10, .ref h11, .ref h12, .ref h13, .int 0, .int (-1), .int 0, .int 0])), (h5, .inr (1, [.ref h14, .ref h15, .ref h16, .int 0, .int 0])), (h13, .inl (cI, 5, .inl (fun _ => 0)))]) (va_Qi (fun (r : Int32) (_ : Unit) => r = (-1)) (fun (_ : Unit) (t : State) => va_P (dC, dI) vwCl [(h5, .inr (1, [.ref h14, .ref h15, .ref h16, .int 0, .int 0])), (h0, .inr (10, [.ref h1, .ref h2, .ref h3, .ref h4, .ref h5, .ref h6, .ref h7, .ref h8, .ref h9, .ref h10, .ref h11, .ref h12, .ref h13, .int 0, .int (-1), .int 0, .int 0])), (h13, .inl (cI, 5, .inl (upd (fun _ => 0) 0 1)))] t.heap ∧ va_D (va_A [(h0, .inr (10, [.ref h1, .ref h2, .ref h3, .ref h4, .ref h5, .ref h6, .ref h7, .ref h8, .ref h9, .ref h10, .ref h11, .ref h12, .ref h13, .int 0, .int (-1), .int 0, .int 0])), (h5, .inr (1, [.ref h14, .ref h15, .ref h16, .int 0, .int 0])), (h13, .inl (cI, 5, .inl (fun _ => 0)))] sz) [(h5, .inr (1, [.ref h14, .ref h15, .ref h16, .int 0, .int 0])), (h0, .inr (10, [.ref h1, .ref h2, .ref h3, .ref h4, .ref h5, .ref h6, .ref h7, .ref h8, .ref h9, .ref h10, .ref h11, .ref h12, .ref h13, .int 0, .int (-1), .int 0, .int 0])), (h13, .inl (cI, 5, .inl (upd (fun _ => 0) 0 1)))]) (va_A [(h0, .inr (10, [.ref h1, .ref h2, .ref h3, .ref h4, .ref h5, .ref h6, .ref h7, .ref h8, .ref h9, .ref h10, .ref h11, .ref h12, .ref h13, .int 0, .int (-1), .int 0, .int 0])), (h5, .inr (1, [.ref h14, .ref h15, .ref h16, .int 0, .int 0])), (h13, .inl (cI, 5, .inl (fun _ => 0)))] sz)) 0 0 (va_A [(h0, .inr (10, [.ref h1, .ref h2, .ref h3, .ref h4, .ref h5, .ref h6, .ref h7, .ref h8, .ref h9, .ref h10, .ref h11, .ref h12, .ref h13, .int 0, .int (-1), .int 0, .int 0])), (h5, .inr (1, [.ref h14, .ref h15, .ref h16, .int 0, .int 0])), (h13, .inl (cI, 5, .inl (fun _ => 0)))] sz) := by
  refine Met.ofW (cc := cX10_annul) (maxL := 2) (ret := (some .int)) (by decide) rfl ?_
  intro p e s m args below meth c s₁ B hml hv
  obtain ⟨rfl, hsz, hP, hK, hT⟩ := hv
  have hx := B.exec
  have hb := B.bytes
  have hr := B.returns
  have hts : ∀ w ∈ wA, w.before _ s = true := fun w h => atoms_spec (ws := .code yX10_annul cX10_annul 2 (some .int) :: wA) B.pre w (List.mem_cons_of_mem _ h)
  have hown : s.vm.findClass RX10 = some m.cls := findClass_of_methodNamed B.named
  have hlocks := B.notSynchronized
  subst hsz
  have hD := hT.self (sz := s.heap.size)
  generalize hAe : va_A [(h0, .inr (10, [.ref h1, .ref h2, .ref h3, .ref h4, .ref h5, .ref h6, .ref h7, .ref h8, .ref h9, .ref h10, .ref h11, .ref h12, .ref h13, .int 0, .int (-1), .int 0, .int 0])), (h5, .inr (1, [.ref h14, .ref h15, .ref h16, .int 0, .int 0])), (h13, .inl (cI, 5, .inl (fun _ => 0)))] s.heap.size = A at hD ⊢
  have hA : ∀ q : Nat, s.heap.size ≤ q → A q := fun q h => by rw [← hAe]; exact Or.inr h
  have hl := lv_entry ([.ref h0]) (n := 2) (Nat.le_of_ble_eq_true rfl)
  rw [lg_entry_eq]
  generalize (lg_sl ([.ref h0]) ++ List.replicate (2 - (lg_sl ([.ref h0])).length) Slot.unset).toArray = ls at hl ⊢
  have hl : lv_has ls 2 [(0, .ref h0)] := hl
  refine zstart (fun H hH => ?_)
  rw [← hH] at hP
  have hS : va_S A s.heap H [] := by rw [hH]; exact va_S.rf
  refine lv_aload_n hx hb dX10_annul_0 rfl (lv_at hl 0 rfl) ?_
  have hPc := hP.sub (ws' := [(h0, .inr (10, [.ref h1, .ref h2, .ref h3, .ref h4, .ref h5, .ref h6, .ref h7, .ref h8, .ref h9, .ref h10, .ref h11, .ref h12, .ref h13, .int 0, .int (-1), .int 0, .int 0])), (h5, .inr (1, [.ref h14, .ref h15, .ref h16, .int 0, .int 0]))]) [0, 1] rfl
  have hDc := hD.sub (ws' := [(h0, .inr (10, [.ref h1, .ref h2, .ref h3, .ref h4, .ref h5, .ref h6, .ref h7, .ref h8, .ref h9, .ref h10, .ref h11, .ref h12, .ref h13, .int 0, .int (-1), .int 0, .int 0])), (h5, .inr (1, [.ref h14, .ref h15, .ref h16, .int 0, .int 0]))]) [0, 1] (by decide) rfl
  have hFc := zfr hS hA
  refine va_calli (va_runV (As := []) (rest := []) ⟨hx, hb, hml, hown, hts⟩ (c_X10_hasCourt l dC dI cI cJ h0 h1 h2 h3 h4 h5 h6 h7 h8 h9 h10 h11 h12 h13 h14 h15 h16 H.size) (cwV 0 hts (zgV qw584 qw586 qw10 qw98 qw587) rfl rfl rfl hd_X10_hasCourt ⟨Nat.le_of_ble_eq_true rfl, Nat.le_of_ble_eq_true rfl⟩) (zPV hPc hK hDc (va_recv hK hP (ci := 10) (q0 := 0) rfl rfl)) rfl rfl hl.1 rfl (lv_room (Nat.le_of_ble_eq_true rfl)) dX10_annul_1 ⟨Nat.le_of_ble_eq_true rfl, Nat.le_of_ble_eq_true rfl⟩) hS (fun q _ h => hFc q h) hFc (fun r_1 u t H locs ht hvm hw hB hz1 hk1 hS => ?_)
  have hP := zkeep hP hk1
  have hw : r_1 = 0 := hw
  subst hw
  refine lv_if_ne (tgt := 13) hx hb dX10_annul_4 (by decide) (fun c => absurd (by decide) c) (fun _ => ?_)
  refine lv_aload_n hx hb dX10_annul_7 rfl (lv_at hl 0 rfl) ?_
  refine lv_iconst (v := 0) hx hb dX10_annul_8 (by decide) ?_
  have hPc := hP.sub (ws' := [(h0, .inr (10, [.ref h1, .ref h2, .ref h3, .ref h4, .ref h5, .ref h6, .ref h7, .ref h8, .ref h9, .ref h10, .ref h11, .ref h12, .ref h13, .int 0, .int (-1), .int 0, .int 0])), (h13, .inl (cI, 5, .inl (fun _ => 0)))]) [0, 2] rfl
  have hDc := hD.sub (ws' := [(h0, .inr (10, [.ref h1, .ref h2, .ref h3, .ref h4, .ref h5, .ref h6, .ref h7, .ref h8, .ref h9, .ref h10, .ref h11, .ref h12, .ref h13, .int 0, .int (-1), .int 0, .int 0])), (h13, .inl (cI, 5, .inl (fun _ => 0)))]) [0, 2] (by decide) rfl
  have hFc := va_free (wc := [(h0, .inr (10, [.ref h1, .ref h2, .ref h3, .ref h4, .ref h5, .ref h6, .ref h7, .ref h8, .ref h9, .ref h10, .ref h11, .ref h12, .ref h13, .int 0, .int (-1), .int 0, .int 0])), (h13, .inl (cI, 5, .inl (fun _ => 0)))]) hD hS hA [0, 2] rfl
  refine va_calli (va_runV (As := [.int 0]) (rest := []) ⟨hx, hb, hml, hown, hts⟩ (c_X10_refuse l dC dI cI cJ h0 h1 h2 h3 h4 h5 h6 h7 h8 h9 h10 h11 h12 h13 H.size) (cwV 1 hts (zgV qw684 qw686 qw13 qw98 qw687) rfl rfl rfl hd_X10_refuse ⟨Nat.le_of_ble_eq_true rfl, Nat.le_of_ble_eq_true rfl⟩) (zPV hPc hK hDc (va_recv hK hP (ci := 10) (q0 := 0) rfl rfl)) rfl rfl hl.1 rfl (lv_room (Nat.le_of_ble_eq_true rfl)) dX10_annul_9 ⟨Nat.le_of_ble_eq_true rfl, Nat.le_of_ble_eq_true rfl⟩) hS (fun q _ h => hFc q h) hFc (fun r_2 u t H locs ht hvm hw hB hz1 hk1 hS => ?_)
  obtain ⟨hP1, hD1⟩ := hB
  rw [ht] at hP1
  obtain ⟨hP, hD⟩ := va_join (wr := [(h5, .inr (1, [.ref h14, .ref h15, .ref h16, .int 0, .int 0]))]) (w1 := [(h0, .inr (10, [.ref h1, .ref h2, .ref h3, .ref h4, .ref h5, .ref h6, .ref h7, .ref h8, .ref h9, .ref h10, .ref h11, .ref h12, .ref h13, .int 0, .int (-1), .int 0, .int 0])), (h13, .inl (cI, 5, .inl (upd (fun _ => 0) 0 1)))]) hP hD [0, 2] [1] rfl rfl (by decide) (by decide) hk1 hFc hP1 hD1
  have hP : va_P (dC, dI) vwCl [(h5, .inr (1, [.ref h14, .ref h15, .ref h16, .int 0, .int 0])), (h0, .inr (10, [.ref h1, .ref h2, .ref h3, .ref h4, .ref h5, .ref h6, .ref h7, .ref h8, .ref h9, .ref h10, .ref h11, .ref h12, .ref h13, .int 0, .int (-1), .int 0, .int 0])), (h13, .inl (cI, 5, .inl (upd (fun _ => 0) 0 1)))] H := hP
  have hD : va_D A [(h5, .inr (1, [.ref h14, .ref h15, .ref h16, .int 0, .int 0])), (h0, .inr (10, [.ref h1, .ref h2, .ref h3, .ref h4, .ref h5, .ref h6, .ref h7, .ref h8, .ref h9, .ref h10, .ref h11, .ref h12, .ref h13, .int 0, .int (-1), .int 0, .int 0])), (h13, .inl (cI, 5, .inl (upd (fun _ => 0) 0 1)))] := hD
  have hw : r_2 = (-1) := hw
  subst hw
  exact W.iret (v := ((-1))) hx hb hr (fun t ht hW => ⟨⟨(-1), (), rfl, rfl, ⟨by rw [ht]; exact hP, hD⟩⟩, hS.F ht⟩) hS.2.2 dX10_annul_12
set_option maxHeartbeats 4000000 in
set_option maxRecDepth 100000 in
theorem c_X10_months (l : Launch) (dC : Nat → ClassId) (dI : Nat → Nat → Nat) (cI cJ : ClassId) (h0 h1 h2 h3 h4 h5 h6 h7 h8 h9 h10 h11 h12 h13 h14 h15 h16 : Nat) (sz : Nat) (p0 : Int32) : Met l yX10_months (.code yX10_months cX10_months 3 (some .int) :: wA) ({ frames := 1, cells := 0, slots := 0, locals := 21 }) (zP (dC, dI) [(cI, .int), (cJ, .long)] [.ref h0, .int p0] sz [(h0, .inr (10, [.ref h1, .ref h2, .ref h3, .ref h4, .ref h5, .ref h6, .ref h7, .ref h8, .ref h9, .ref h10, .ref h11, .ref h12, .ref h13, .int 0, .int (-1), .int 0, .int 0])), (h5, .inr (1, [.ref h14, .ref h15, .ref h16, .int 0, .int 0])), (h13, .inl (cI, 5, .inl (fun _ => 0)))]) (va_Qi (fun (r : Int32) (_ : Unit) => r = (-1)) (fun (_ : Unit) (t : State) => va_P (dC, dI) vwCl [(h5, .inr (1, [.ref h14, .ref h15, .ref h16, .int 0, .int 0])), (h0, .inr (10, [.ref h1, .ref h2, .ref h3, .ref h4, .ref h5, .ref h6, .ref h7, .ref h8, .ref h9, .ref h10, .ref h11, .ref h12, .ref h13, .int 0, .int (-1), .int 0, .int 0])), (h13, .inl (cI, 5, .inl (upd (fun _ => 0) 0 1)))] t.heap ∧ va_D (va_A [(h0, .inr (10, [.ref h1, .ref h2, .ref h3, .ref h4, .ref h5, .ref h6, .ref h7, .ref h8, .ref h9, .ref h10, .ref h11, .ref h12, .ref h13, .int 0, .int (-1), .int 0, .int 0])), (h5, .inr (1, [.ref h14, .ref h15, .ref h16, .int 0, .int 0])), (h13, .inl (cI, 5, .inl (fun _ => 0)))] sz) [(h5, .inr (1, [.ref h14, .ref h15, .ref h16, .int 0, .int 0])), (h0, .inr (10, [.ref h1, .ref h2, .ref h3, .ref h4, .ref h5, .ref h6, .ref h7, .ref h8, .ref h9, .ref h10, .ref h11, .ref h12, .ref h13, .int 0, .int (-1), .int 0, .int 0])), (h13, .inl (cI, 5, .inl (upd (fun _ => 0) 0 1)))]) (va_A [(h0, .inr (10, [.ref h1, .ref h2, .ref h3, .ref h4, .ref h5, .ref h6, .ref h7, .ref h8, .ref h9, .ref h10, .ref h11, .ref h12, .ref h13, .int 0, .int (-1), .int 0, .int 0])), (h5, .inr (1, [.ref h14, .ref h15, .ref h16, .int 0, .int 0])), (h13, .inl (cI, 5, .inl (fun _ => 0)))] sz)) 0 0 (va_A [(h0, .inr (10, [.ref h1, .ref h2, .ref h3, .ref h4, .ref h5, .ref h6, .ref h7, .ref h8, .ref h9, .ref h10, .ref h11, .ref h12, .ref h13, .int 0, .int (-1), .int 0, .int 0])), (h5, .inr (1, [.ref h14, .ref h15, .ref h16, .int 0, .int 0])), (h13, .inl (cI, 5, .inl (fun _ => 0)))] sz) := by
  refine Met.ofW (cc := cX10_months) (maxL := 3) (ret := (some .int)) (by decide) rfl ?_
  intro p e s m args below meth c s₁ B hml hv
  obtain ⟨rfl, hsz, hP, hK, hT⟩ := hv
  have hx := B.exec
  have hb := B.bytes
  have hr := B.returns
  have hts : ∀ w ∈ wA, w.before _ s = true := fun w h => atoms_spec (ws := .code yX10_months cX10_months 3 (some .int) :: wA) B.pre w (List.mem_cons_of_mem _ h)
  have hown : s.vm.findClass RX10 = some m.cls := findClass_of_methodNamed B.named
  have hlocks := B.notSynchronized
  subst hsz
  have hD := hT.self (sz := s.heap.size)
  generalize hAe : va_A [(h0, .inr (10, [.ref h1, .ref h2, .ref h3, .ref h4, .ref h5, .ref h6, .ref h7, .ref h8, .ref h9, .ref h10, .ref h11, .ref h12, .ref h13, .int 0, .int (-1), .int 0, .int 0])), (h5, .inr (1, [.ref h14, .ref h15, .ref h16, .int 0, .int 0])), (h13, .inl (cI, 5, .inl (fun _ => 0)))] s.heap.size = A at hD ⊢
  have hA : ∀ q : Nat, s.heap.size ≤ q → A q := fun q h => by rw [← hAe]; exact Or.inr h
  have hl := lv_entry ([.ref h0, .int p0]) (n := 3) (Nat.le_of_ble_eq_true rfl)
  rw [lg_entry_eq]
  generalize (lg_sl ([.ref h0, .int p0]) ++ List.replicate (3 - (lg_sl ([.ref h0, .int p0])).length) Slot.unset).toArray = ls at hl ⊢
  have hl : lv_has ls 3 [(0, .ref h0), (1, .int p0)] := hl
  refine zstart (fun H hH => ?_)
  rw [← hH] at hP
  have hS : va_S A s.heap H [] := by rw [hH]; exact va_S.rf
  refine lv_aload_n hx hb dX10_months_0 rfl (lv_at hl 0 rfl) ?_
  have hPc := hP.sub (ws' := [(h0, .inr (10, [.ref h1, .ref h2, .ref h3, .ref h4, .ref h5, .ref h6, .ref h7, .ref h8, .ref h9, .ref h10, .ref h11, .ref h12, .ref h13, .int 0, .int (-1), .int 0, .int 0])), (h5, .inr (1, [.ref h14, .ref h15, .ref h16, .int 0, .int 0]))]) [0, 1] rfl
  have hDc := hD.sub (ws' := [(h0, .inr (10, [.ref h1, .ref h2, .ref h3, .ref h4, .ref h5, .ref h6, .ref h7, .ref h8, .ref h9, .ref h10, .ref h11, .ref h12, .ref h13, .int 0, .int (-1), .int 0, .int 0])), (h5, .inr (1, [.ref h14, .ref h15, .ref h16, .int 0, .int 0]))]) [0, 1] (by decide) rfl
  have hFc := zfr hS hA
  refine va_calli (va_runV (As := []) (rest := []) ⟨hx, hb, hml, hown, hts⟩ (c_X10_hasCourt l dC dI cI cJ h0 h1 h2 h3 h4 h5 h6 h7 h8 h9 h10 h11 h12 h13 h14 h15 h16 H.size) (cwV 0 hts (zgV qw584 qw586 qw10 qw98 qw587) rfl rfl rfl hd_X10_hasCourt ⟨Nat.le_of_ble_eq_true rfl, Nat.le_of_ble_eq_true rfl⟩) (zPV hPc hK hDc (va_recv hK hP (ci := 10) (q0 := 0) rfl rfl)) rfl rfl hl.1 rfl (lv_room (Nat.le_of_ble_eq_true rfl)) dX10_months_1 ⟨Nat.le_of_ble_eq_true rfl, Nat.le_of_ble_eq_true rfl⟩) hS (fun q _ h => hFc q h) hFc (fun r_1 u t H locs ht hvm hw hB hz1 hk1 hS => ?_)
  have hP := zkeep hP hk1
  have hw : r_1 = 0 := hw
  subst hw
  refine lv_if_ne (tgt := 13) hx hb dX10_months_4 (by decide) (fun c => absurd (by decide) c) (fun _ => ?_)
  refine lv_aload_n hx hb dX10_months_7 rfl (lv_at hl 0 rfl) ?_
  refine lv_iconst (v := 0) hx hb dX10_months_8 (by decide) ?_
  have hPc := hP.sub (ws' := [(h0, .inr (10, [.ref h1, .ref h2, .ref h3, .ref h4, .ref h5, .ref h6, .ref h7, .ref h8, .ref h9, .ref h10, .ref h11, .ref h12, .ref h13, .int 0, .int (-1), .int 0, .int 0])), (h13, .inl (cI, 5, .inl (fun _ => 0)))]) [0, 2] rfl
  have hDc := hD.sub (ws' := [(h0, .inr (10, [.ref h1, .ref h2, .ref h3, .ref h4, .ref h5, .ref h6, .ref h7, .ref h8, .ref h9, .ref h10, .ref h11, .ref h12, .ref h13, .int 0, .int (-1), .int 0, .int 0])), (h13, .inl (cI, 5, .inl (fun _ => 0)))]) [0, 2] (by decide) rfl
  have hFc := va_free (wc := [(h0, .inr (10, [.ref h1, .ref h2, .ref h3, .ref h4, .ref h5, .ref h6, .ref h7, .ref h8, .ref h9, .ref h10, .ref h11, .ref h12, .ref h13, .int 0, .int (-1), .int 0, .int 0])), (h13, .inl (cI, 5, .inl (fun _ => 0)))]) hD hS hA [0, 2] rfl
  refine va_calli (va_runV (As := [.int 0]) (rest := []) ⟨hx, hb, hml, hown, hts⟩ (c_X10_refuse l dC dI cI cJ h0 h1 h2 h3 h4 h5 h6 h7 h8 h9 h10 h11 h12 h13 H.size) (cwV 1 hts (zgV qw684 qw686 qw13 qw98 qw687) rfl rfl rfl hd_X10_refuse ⟨Nat.le_of_ble_eq_true rfl, Nat.le_of_ble_eq_true rfl⟩) (zPV hPc hK hDc (va_recv hK hP (ci := 10) (q0 := 0) rfl rfl)) rfl rfl hl.1 rfl (lv_room (Nat.le_of_ble_eq_true rfl)) dX10_months_9 ⟨Nat.le_of_ble_eq_true rfl, Nat.le_of_ble_eq_true rfl⟩) hS (fun q _ h => hFc q h) hFc (fun r_2 u t H locs ht hvm hw hB hz1 hk1 hS => ?_)
  obtain ⟨hP1, hD1⟩ := hB
  rw [ht] at hP1
  obtain ⟨hP, hD⟩ := va_join (wr := [(h5, .inr (1, [.ref h14, .ref h15, .ref h16, .int 0, .int 0]))]) (w1 := [(h0, .inr (10, [.ref h1, .ref h2, .ref h3, .ref h4, .ref h5, .ref h6, .ref h7, .ref h8, .ref h9, .ref h10, .ref h11, .ref h12, .ref h13, .int 0, .int (-1), .int 0, .int 0])), (h13, .inl (cI, 5, .inl (upd (fun _ => 0) 0 1)))]) hP hD [0, 2] [1] rfl rfl (by decide) (by decide) hk1 hFc hP1 hD1
  have hP : va_P (dC, dI) vwCl [(h5, .inr (1, [.ref h14, .ref h15, .ref h16, .int 0, .int 0])), (h0, .inr (10, [.ref h1, .ref h2, .ref h3, .ref h4, .ref h5, .ref h6, .ref h7, .ref h8, .ref h9, .ref h10, .ref h11, .ref h12, .ref h13, .int 0, .int (-1), .int 0, .int 0])), (h13, .inl (cI, 5, .inl (upd (fun _ => 0) 0 1)))] H := hP
  have hD : va_D A [(h5, .inr (1, [.ref h14, .ref h15, .ref h16, .int 0, .int 0])), (h0, .inr (10, [.ref h1, .ref h2, .ref h3, .ref h4, .ref h5, .ref h6, .ref h7, .ref h8, .ref h9, .ref h10, .ref h11, .ref h12, .ref h13, .int 0, .int (-1), .int 0, .int 0])), (h13, .inl (cI, 5, .inl (upd (fun _ => 0) 0 1)))] := hD
  have hw : r_2 = (-1) := hw
  subst hw
  exact W.iret (v := ((-1))) hx hb hr (fun t ht hW => ⟨⟨(-1), (), rfl, rfl, ⟨by rw [ht]; exact hP, hD⟩⟩, hS.F ht⟩) hS.2.2 dX10_months_12
set_option maxHeartbeats 4000000 in
set_option maxRecDepth 100000 in
theorem c_X10_isDigit (l : Launch) (dC : Nat → ClassId) (dI : Nat → Nat → Nat) (cI cJ : ClassId) (sz : Nat) (p0 : Int32) : Met l yX10_isDigit (.code yX10_isDigit cX10_isDigit 1 (some .boolean) :: wA) ({ frames := 0, cells := 0, slots := 0, locals := 0 }) (zP (dC, dI) [(cI, .int), (cJ, .long)] [.int p0] sz []) (va_Qi (fun (r : Int32) (_ : Unit) => (p0 < 0 ∧ r = 0) ∨ (¬ p0 < 0 ∧ 9 < p0 ∧ r = 0) ∨ (¬ p0 < 0 ∧ ¬ 9 < p0 ∧ r = 1)) (fun (_ : Unit) (_ : State) => True) (va_A [] sz)) 0 0 (va_A [] sz) := by
  refine Met.ofW (cc := cX10_isDigit) (maxL := 1) (ret := (some .boolean)) (by decide) rfl ?_
  intro p e s m args below meth c s₁ B hml hv
  obtain ⟨rfl, hsz, hP, hK, hT⟩ := hv
  have hx := B.exec
  have hb := B.bytes
  have hr := B.returns
  have hts : ∀ w ∈ wA, w.before _ s = true := fun w h => atoms_spec (ws := .code yX10_isDigit cX10_isDigit 1 (some .boolean) :: wA) B.pre w (List.mem_cons_of_mem _ h)
  have hown : s.vm.findClass RX10 = some m.cls := findClass_of_methodNamed B.named
  have hlocks := B.notSynchronized
  subst hsz
  have hD : va_D (va_A [] s.heap.size) [] := zD0
  generalize hAe : va_A [] s.heap.size = A at hD ⊢
  have hA : ∀ q : Nat, s.heap.size ≤ q → A q := fun q h => by rw [← hAe]; exact Or.inr h
  have hl := lv_entry ([.int p0]) (n := 1) (Nat.le_of_ble_eq_true rfl)
  rw [lg_entry_eq]
  generalize (lg_sl ([.int p0]) ++ List.replicate (1 - (lg_sl ([.int p0])).length) Slot.unset).toArray = ls at hl ⊢
  have hl : lv_has ls 1 [(0, .int p0)] := hl
  refine zstart (fun H hH => ?_)
  rw [← hH] at hP
  have hS : va_S A s.heap H [] := by rw [hH]; exact va_S.rf
  refine lv_iload_n hx hb dX10_isDigit_0 rfl (lv_at hl 0 rfl) ?_
  refine lv_if_lt (tgt := 14) hx hb dX10_isDigit_1 (by decide) (fun c_1 => ?_) (fun c_1 => ?_)
  · have i_1 : p0.toInt < 0 := z1 rfl (by decide) c_1
    refine lv_iconst (v := 0) hx hb dX10_isDigit_14 (by decide) ?_
    exact W.zret (v := 0) (ty := .boolean) hx hb hr rfl (fun t ht hW => ⟨⟨0, (), rfl, Or.inl ⟨c_1, rfl⟩, trivial⟩, hS.F ht⟩) hS.2.2 dX10_isDigit_15
  · have i_1 : 0 ≤ p0.toInt := z2 rfl (by decide) c_1
    refine lv_iload_n hx hb dX10_isDigit_4 rfl (lv_at hl 0 rfl) ?_
    refine lv_bipush (v := 9) hx hb dX10_isDigit_5 (by decide) ?_
    refine lv_icmp_gt (tgt := 14) hx hb dX10_isDigit_7 (by decide) (fun c_2 => ?_) (fun c_2 => ?_)
    · have i_2 : 9 < p0.toInt := z1 (by decide) rfl c_2
      refine lv_iconst (v := 0) hx hb dX10_isDigit_14 (by decide) ?_
      exact W.zret (v := 0) (ty := .boolean) hx hb hr rfl (fun t ht hW => ⟨⟨0, (), rfl, Or.inr (Or.inl ⟨c_1, c_2, rfl⟩), trivial⟩, hS.F ht⟩) hS.2.2 dX10_isDigit_15
    · have i_2 : p0.toInt ≤ 9 := z2 (by decide) rfl c_2
      refine lv_iconst (v := 1) hx hb dX10_isDigit_10 (by decide) ?_
      refine lv_goto (tgt := 15) hx hb dX10_isDigit_11 (by decide) ?_
      exact W.zret (v := 1) (ty := .boolean) hx hb hr rfl (fun t ht hW => ⟨⟨1, (), rfl, Or.inr (Or.inr (⟨c_1, c_2, rfl⟩)), trivial⟩, hS.F ht⟩) hS.2.2 dX10_isDigit_15
set_option maxHeartbeats 4000000 in
set_option maxRecDepth 100000 in
theorem c_X10_bribes (l : Launch) (dC : Nat → ClassId) (dI : Nat → Nat → Nat) (cI cJ : ClassId) (h0 h1 h2 h3 h4 h5 h6 h7 h8 h9 h10 h11 h12 h13 : Nat) (sz : Nat) (p0 : Int32) : Met l yX10_bribes (.code yX10_bribes cX10_bribes 2 (some .boolean) :: wA) ({ frames := 1, cells := 0, slots := 0, locals := 20 }) (zP (dC, dI) [(cI, .int), (cJ, .long)] [.ref h0, .int p0] sz [(h0, .inr (10, [.ref h1, .ref h2, .ref h3, .ref h4, .ref h5, .ref h6, .ref h7, .ref h8, .ref h9, .ref h10, .ref h11, .ref h12, .ref h13, .int 0, .int (-1), .int 0, .int 0]))]) (va_Qi (fun (r : Int32) (_ : Unit) => (p0 < 0 ∧ r = 0) ∨ (¬ p0 < 0 ∧ 9 < p0 ∧ r = 0) ∨ (¬ p0 < 0 ∧ ¬ 9 < p0 ∧ ¬ p0 = 0 ∧ r = 1) ∨ (¬ p0 < 0 ∧ ¬ 9 < p0 ∧ p0 = 0 ∧ r = 0)) (fun (_ : Unit) (_ : State) => True) (va_A [(h0, .inr (10, [.ref h1, .ref h2, .ref h3, .ref h4, .ref h5, .ref h6, .ref h7, .ref h8, .ref h9, .ref h10, .ref h11, .ref h12, .ref h13, .int 0, .int (-1), .int 0, .int 0]))] sz)) 0 0 (va_A [(h0, .inr (10, [.ref h1, .ref h2, .ref h3, .ref h4, .ref h5, .ref h6, .ref h7, .ref h8, .ref h9, .ref h10, .ref h11, .ref h12, .ref h13, .int 0, .int (-1), .int 0, .int 0]))] sz) := by
  refine Met.ofW (cc := cX10_bribes) (maxL := 2) (ret := (some .boolean)) (by decide) rfl ?_
  intro p e s m args below meth c s₁ B hml hv
  obtain ⟨rfl, hsz, hP, hK, hT⟩ := hv
  have hx := B.exec
  have hb := B.bytes
  have hr := B.returns
  have hts : ∀ w ∈ wA, w.before _ s = true := fun w h => atoms_spec (ws := .code yX10_bribes cX10_bribes 2 (some .boolean) :: wA) B.pre w (List.mem_cons_of_mem _ h)
  have hown : s.vm.findClass RX10 = some m.cls := findClass_of_methodNamed B.named
  have hlocks := B.notSynchronized
  subst hsz
  have hD := hT.self (sz := s.heap.size)
  generalize hAe : va_A [(h0, .inr (10, [.ref h1, .ref h2, .ref h3, .ref h4, .ref h5, .ref h6, .ref h7, .ref h8, .ref h9, .ref h10, .ref h11, .ref h12, .ref h13, .int 0, .int (-1), .int 0, .int 0]))] s.heap.size = A at hD ⊢
  have hA : ∀ q : Nat, s.heap.size ≤ q → A q := fun q h => by rw [← hAe]; exact Or.inr h
  have hl := lv_entry ([.ref h0, .int p0]) (n := 2) (Nat.le_of_ble_eq_true rfl)
  rw [lg_entry_eq]
  generalize (lg_sl ([.ref h0, .int p0]) ++ List.replicate (2 - (lg_sl ([.ref h0, .int p0])).length) Slot.unset).toArray = ls at hl ⊢
  have hl : lv_has ls 2 [(0, .ref h0), (1, .int p0)] := hl
  refine zstart (fun H hH => ?_)
  rw [← hH] at hP
  have hS : va_S A s.heap H [] := by rw [hH]; exact va_S.rf
  refine lv_iload_n hx hb dX10_bribes_0 rfl (lv_at hl 1 rfl) ?_
  have hPc : va_P (dC, dI) vwCl [] H := zP0
  have hDc : va_D (fun _ => True) [] := zD0
  have hFc := zfr hS hA
  refine va_calli (va_runS (As := [.int p0]) (rest := []) ⟨hx, hb, hml, hown, hts⟩ (c_X10_isDigit l dC dI cI cJ H.size p0) (cwS 1 hts (zgS qw714 qw715 qw98 qw716) rfl rfl rfl hd_X10_isDigit ⟨Nat.le_of_ble_eq_true rfl, Nat.le_of_ble_eq_true rfl⟩) (zPS hPc hK hDc) rfl rfl hl.1 rfl (lv_room (Nat.le_of_ble_eq_true rfl)) dX10_bribes_1 ⟨Nat.le_of_ble_eq_true rfl, Nat.le_of_ble_eq_true rfl⟩) hS (fun q _ h => hFc q h) hFc (fun r_1 u t H locs ht hvm hw hB hz1 hk1 hS => ?_)
  have hP := zkeep hP hk1
  rcases hw with ⟨c_1_0, rfl⟩ | ⟨c_1_0, c_1_1, rfl⟩ | ⟨c_1_0, c_1_1, rfl⟩
  · skip
    have i_1_0 : p0.toInt < 0 := z1 rfl (by decide) c_1_0
    refine lv_if_eq (tgt := 15) hx hb dX10_bribes_4 (by decide) (fun _ => ?_) (fun c => absurd (by decide) c)
    refine lv_iconst (v := 0) hx hb dX10_bribes_15 (by decide) ?_
    exact W.zret (v := 0) (ty := .boolean) hx hb hr rfl (fun t ht hW => ⟨⟨0, (), rfl, Or.inl ⟨c_1_0, rfl⟩, trivial⟩, hS.F ht⟩) hS.2.2 dX10_bribes_16
  · skip
    have i_1_0 : 0 ≤ p0.toInt := z2 rfl (by decide) c_1_0
    have i_1_1 : 9 < p0.toInt := z1 (by decide) rfl c_1_1
    refine lv_if_eq (tgt := 15) hx hb dX10_bribes_4 (by decide) (fun _ => ?_) (fun c => absurd (by decide) c)
    refine lv_iconst (v := 0) hx hb dX10_bribes_15 (by decide) ?_
    exact W.zret (v := 0) (ty := .boolean) hx hb hr rfl (fun t ht hW => ⟨⟨0, (), rfl, Or.inr (Or.inl ⟨c_1_0, c_1_1, rfl⟩), trivial⟩, hS.F ht⟩) hS.2.2 dX10_bribes_16
  · skip
    have i_1_0 : 0 ≤ p0.toInt := z2 rfl (by decide) c_1_0
    have i_1_1 : p0.toInt ≤ 9 := z2 (by decide) rfl c_1_1
    refine lv_if_eq (tgt := 15) hx hb dX10_bribes_4 (by decide) (fun c => absurd c (by decide)) (fun _ => ?_)
    refine lv_iload_n hx hb dX10_bribes_7 rfl (lv_at hl 1 rfl) ?_
    refine lv_aload_n hx hb dX10_bribes_8 rfl (lv_at hl 0 rfl) ?_
    refine va_get (D := (dC, dI)) (ci := 10) (v := .int 0) (C := RX10) (T := TX10) (N := 17) hx hb hts iX10 hown hK hP 0 rfl rfl 15 (by decide) (hts _ qw371) (fun _ h9 => h9) rfl dX10_bribes_9 ?_
    refine lv_icmp_ne (tgt := 17) hx hb dX10_bribes_12 (by decide) (fun c_2 => ?_) (fun c_2 => ?_)
    · have i_2 : ¬ p0.toInt = 0 := z6 rfl (by decide) c_2
      refine lv_aload_n hx hb dX10_bribes_17 rfl (lv_at hl 0 rfl) ?_
      refine lv_iload_n hx hb dX10_bribes_18 rfl (lv_at hl 1 rfl) ?_
      refine va_put (D := (dC, dI)) (ci := 10) (v := .int p0) (ty := .int) (C := RX10) (T := TX10) (N := 17) hx hb hts iX10 tyX10 tyX10_ok nmX10 hown hK hP hD hS 0 rfl rfl 15 (by decide) (hts _ qw371) (fun _ h9 => h9) rfl (by decide +kernel) rfl rfl (Nat.le_of_ble_eq_true rfl) dX10_bribes_19 (fun H locs hP hD hS => ?_)
      have hP : va_P (dC, dI) vwCl [(h0, .inr (10, [.ref h1, .ref h2, .ref h3, .ref h4, .ref h5, .ref h6, .ref h7, .ref h8, .ref h9, .ref h10, .ref h11, .ref h12, .ref h13, .int 0, .int (-1), .int p0, .int 0]))] H := hP
      have hD : va_D A [(h0, .inr (10, [.ref h1, .ref h2, .ref h3, .ref h4, .ref h5, .ref h6, .ref h7, .ref h8, .ref h9, .ref h10, .ref h11, .ref h12, .ref h13, .int 0, .int (-1), .int p0, .int 0]))] := hD
      refine lv_iconst (v := 1) hx hb dX10_bribes_22 (by decide) ?_
      exact W.zret (v := 1) (ty := .boolean) hx hb hr rfl (fun t ht hW => ⟨⟨1, (), rfl, Or.inr (Or.inr (Or.inl ⟨c_1_0, c_1_1, c_2, rfl⟩)), trivial⟩, hS.F ht⟩) hS.2.2 dX10_bribes_23
    · have i_2 : p0.toInt = 0 := z5 rfl (by decide) c_2
      refine lv_iconst (v := 0) hx hb dX10_bribes_15 (by decide) ?_
      exact W.zret (v := 0) (ty := .boolean) hx hb hr rfl (fun t ht hW => ⟨⟨0, (), rfl, Or.inr (Or.inr (Or.inr (⟨c_1_0, c_1_1, c_2, rfl⟩))), trivial⟩, hS.F ht⟩) hS.2.2 dX10_bribes_16
set_option maxHeartbeats 4000000 in
set_option maxRecDepth 100000 in
theorem c_X10_decades (l : Launch) (dC : Nat → ClassId) (dI : Nat → Nat → Nat) (cI cJ : ClassId) (h0 h1 h2 h3 h4 h5 h6 h7 h8 h9 h10 h11 h12 h13 h14 h15 h16 : Nat) (sz : Nat) (p0 : Int32) (p1 : Int64) : Met l yX10_decades (.code yX10_decades cX10_decades 5 (some .int) :: wA) ({ frames := 1, cells := 0, slots := 0, locals := 20 }) (zP (dC, dI) [(cI, .int), (cJ, .long)] [.ref h0, .int p0, .long p1] sz [(h0, .inr (10, [.ref h1, .ref h2, .ref h3, .ref h4, .ref h5, .ref h6, .ref h7, .ref h8, .ref h9, .ref h10, .ref h11, .ref h12, .ref h13, .int 0, .int (-1), .int 0, .int 0])), (h5, .inr (1, [.ref h14, .ref h15, .ref h16, .int 0, .int 0]))]) (va_Qi (fun (r : Int32) (_ : Unit) => r = (-1)) (fun (_ : Unit) (_ : State) => True) (va_A [] sz)) 0 0 (va_A [] sz) := by
  refine Met.ofW (cc := cX10_decades) (maxL := 5) (ret := (some .int)) (by decide) rfl ?_
  intro p e s m args below meth c s₁ B hml hv
  obtain ⟨rfl, hsz, hP, hK, hT⟩ := hv
  have hx := B.exec
  have hb := B.bytes
  have hr := B.returns
  have hts : ∀ w ∈ wA, w.before _ s = true := fun w h => atoms_spec (ws := .code yX10_decades cX10_decades 5 (some .int) :: wA) B.pre w (List.mem_cons_of_mem _ h)
  have hown : s.vm.findClass RX10 = some m.cls := findClass_of_methodNamed B.named
  have hlocks := B.notSynchronized
  subst hsz
  have hD : va_D (va_A [] s.heap.size) [] := zD0
  generalize hAe : va_A [] s.heap.size = A at hD ⊢
  have hA : ∀ q : Nat, s.heap.size ≤ q → A q := fun q h => by rw [← hAe]; exact Or.inr h
  have hl := lv_entry ([.ref h0, .int p0, .long p1]) (n := 5) (Nat.le_of_ble_eq_true rfl)
  rw [lg_entry_eq]
  generalize (lg_sl ([.ref h0, .int p0, .long p1]) ++ List.replicate (5 - (lg_sl ([.ref h0, .int p0, .long p1])).length) Slot.unset).toArray = ls at hl ⊢
  have hl : lv_has ls 5 [(0, .ref h0), (1, .int p0), (2, .long p1)] := hl
  refine zstart (fun H hH => ?_)
  rw [← hH] at hP
  have hS : va_S A s.heap H [] := by rw [hH]; exact va_S.rf
  refine lv_aload_n hx hb dX10_decades_0 rfl (lv_at hl 0 rfl) ?_
  have hPc := hP.sub (ws' := [(h0, .inr (10, [.ref h1, .ref h2, .ref h3, .ref h4, .ref h5, .ref h6, .ref h7, .ref h8, .ref h9, .ref h10, .ref h11, .ref h12, .ref h13, .int 0, .int (-1), .int 0, .int 0])), (h5, .inr (1, [.ref h14, .ref h15, .ref h16, .int 0, .int 0]))]) [0, 1] rfl
  have hDc := hT.sub (ws' := [(h0, .inr (10, [.ref h1, .ref h2, .ref h3, .ref h4, .ref h5, .ref h6, .ref h7, .ref h8, .ref h9, .ref h10, .ref h11, .ref h12, .ref h13, .int 0, .int (-1), .int 0, .int 0])), (h5, .inr (1, [.ref h14, .ref h15, .ref h16, .int 0, .int 0]))]) [0, 1] (by decide) rfl
  have hFc := zfr hS hA
  refine va_calli (va_runV (As := []) (rest := []) ⟨hx, hb, hml, hown, hts⟩ (c_X10_hasCourt l dC dI cI cJ h0 h1 h2 h3 h4 h5 h6 h7 h8 h9 h10 h11 h12 h13 h14 h15 h16 H.size) (cwV 0 hts (zgV qw584 qw586 qw10 qw98 qw587) rfl rfl rfl hd_X10_hasCourt ⟨Nat.le_of_ble_eq_true rfl, Nat.le_of_ble_eq_true rfl⟩) (zPV hPc hK hDc (va_recv hK hP (ci := 10) (q0 := 0) rfl rfl)) rfl rfl hl.1 rfl (lv_room (Nat.le_of_ble_eq_true rfl)) dX10_decades_1 ⟨Nat.le_of_ble_eq_true rfl, Nat.le_of_ble_eq_true rfl⟩) hS (fun q _ h => hFc q h) hFc (fun r_1 u t H locs ht hvm hw hB hz1 hk1 hS => ?_)
  have hP := zkeep hP hk1
  have hw : r_1 = 0 := hw
  subst hw
  refine lv_if_eq (tgt := 33) hx hb dX10_decades_4 (by decide) (fun _ => ?_) (fun c => absurd (by decide) c)
  refine lv_iconst (v := (-1)) hx hb dX10_decades_33 (by decide) ?_
  exact W.iret (v := ((-1))) hx hb hr (fun t ht hW => ⟨⟨(-1), (), rfl, rfl, trivial⟩, hS.F ht⟩) hS.2.2 dX10_decades_34
set_option maxHeartbeats 4000000 in
set_option maxRecDepth 100000 in
theorem c_X10_status (l : Launch) (dC : Nat → ClassId) (dI : Nat → Nat → Nat) (cI cJ : ClassId) (h0 h1 h2 h3 h4 h5 h6 h7 h8 h9 h10 h11 h12 h13 : Nat) (sz : Nat) (p0 : Int32) : Met l yX10_status (.code yX10_status cX10_status 2 (some .int) :: wA) ({ frames := 0, cells := 0, slots := 0, locals := 0 }) (zP (dC, dI) [(cI, .int), (cJ, .long)] [.ref h0, .int p0] sz [(h0, .inr (10, [.ref h1, .ref h2, .ref h3, .ref h4, .ref h5, .ref h6, .ref h7, .ref h8, .ref h9, .ref h10, .ref h11, .ref h12, .ref h13, .int 0, .int (-1), .int 0, .int 0])), (h13, .inl (cI, 5, .inl (fun _ => 0)))]) (va_Qi (fun (r : Int32) (_ : Unit) => (p0 < 0 ∧ r = (-1)) ∨ (¬ p0 < 0 ∧ p0 < 5 ∧ r = 0) ∨ (¬ p0 < 0 ∧ ¬ p0 < 5 ∧ r = (-1))) (fun (_ : Unit) (_ : State) => True) (va_A [] sz)) 0 0 (va_A [] sz) := by
  refine Met.ofW (cc := cX10_status) (maxL := 2) (ret := (some .int)) (by decide) rfl ?_
  intro p e s m args below meth c s₁ B hml hv
  obtain ⟨rfl, hsz, hP, hK, hT⟩ := hv
  have hx := B.exec
  have hb := B.bytes
  have hr := B.returns
  have hts : ∀ w ∈ wA, w.before _ s = true := fun w h => atoms_spec (ws := .code yX10_status cX10_status 2 (some .int) :: wA) B.pre w (List.mem_cons_of_mem _ h)
  have hown : s.vm.findClass RX10 = some m.cls := findClass_of_methodNamed B.named
  have hlocks := B.notSynchronized
  subst hsz
  have hD : va_D (va_A [] s.heap.size) [] := zD0
  generalize hAe : va_A [] s.heap.size = A at hD ⊢
  have hA : ∀ q : Nat, s.heap.size ≤ q → A q := fun q h => by rw [← hAe]; exact Or.inr h
  have hl := lv_entry ([.ref h0, .int p0]) (n := 2) (Nat.le_of_ble_eq_true rfl)
  rw [lg_entry_eq]
  generalize (lg_sl ([.ref h0, .int p0]) ++ List.replicate (2 - (lg_sl ([.ref h0, .int p0])).length) Slot.unset).toArray = ls at hl ⊢
  have hl : lv_has ls 2 [(0, .ref h0), (1, .int p0)] := hl
  refine zstart (fun H hH => ?_)
  rw [← hH] at hP
  have hS : va_S A s.heap H [] := by rw [hH]; exact va_S.rf
  refine lv_iload_n hx hb dX10_status_0 rfl (lv_at hl 1 rfl) ?_
  refine lv_if_lt (tgt := 9) hx hb dX10_status_1 (by decide) (fun c_1 => ?_) (fun c_1 => ?_)
  · have i_1 : p0.toInt < 0 := z1 rfl (by decide) c_1
    refine lv_iconst (v := (-1)) hx hb dX10_status_9 (by decide) ?_
    refine lv_goto (tgt := 19) hx hb dX10_status_10 (by decide) ?_
    exact W.iret (v := ((-1))) hx hb hr (fun t ht hW => ⟨⟨(-1), (), rfl, Or.inl ⟨c_1, rfl⟩, trivial⟩, hS.F ht⟩) hS.2.2 dX10_status_19
  · have i_1 : 0 ≤ p0.toInt := z2 rfl (by decide) c_1
    refine lv_iload_n hx hb dX10_status_4 rfl (lv_at hl 1 rfl) ?_
    refine lv_iconst (v := 5) hx hb dX10_status_5 (by decide) ?_
    refine lv_icmp_lt (tgt := 13) hx hb dX10_status_6 (by decide) (fun c_2 => ?_) (fun c_2 => ?_)
    · have i_2 : p0.toInt < 5 := z1 rfl (by decide) c_2
      refine lv_aload_n hx hb dX10_status_13 rfl (lv_at hl 0 rfl) ?_
      refine va_get (D := (dC, dI)) (ci := 10) (v := .ref h13) (C := RX10) (T := TX10) (N := 17) hx hb hts iX10 hown hK hP 0 rfl rfl 12 (by decide) (hts _ qw368) (fun _ h9 => h9) rfl dX10_status_14 ?_
      refine lv_iload_n hx hb dX10_status_17 rfl (lv_at hl 1 rfl) ?_
      refine va_iald hx hb hK hP 1 0 rfl rfl (vp_in_iff.mpr ⟨by omega, by omega⟩) dX10_status_18 ?_
      refine lv_topi (fun v_3 ev_3 => ?_)
      obtain rfl : v_3 = 0 := ev_3.trans rfl
      exact W.iret (v := 0) hx hb hr (fun t ht hW => ⟨⟨0, (), rfl, Or.inr (Or.inl ⟨c_1, c_2, rfl⟩), trivial⟩, hS.F ht⟩) hS.2.2 dX10_status_19
    · have i_2 : 5 ≤ p0.toInt := z2 rfl (by decide) c_2
      refine lv_iconst (v := (-1)) hx hb dX10_status_9 (by decide) ?_
      refine lv_goto (tgt := 19) hx hb dX10_status_10 (by decide) ?_
      exact W.iret (v := ((-1))) hx hb hr (fun t ht hW => ⟨⟨(-1), (), rfl, Or.inr (Or.inr (⟨c_1, c_2, rfl⟩)), trivial⟩, hS.F ht⟩) hS.2.2 dX10_status_19
set_option maxHeartbeats 4000000 in
set_option maxRecDepth 100000 in
theorem c_X0_takeBack (l : Launch) (dC : Nat → ClassId) (dI : Nat → Nat → Nat) (cI cJ : ClassId) (h0 h1 h2 : Nat) (sz : Nat) : Met l yX0_takeBack (.code yX0_takeBack cX0_takeBack 2 (some .boolean) :: wA) ({ frames := 0, cells := 0, slots := 0, locals := 0 }) (zP (dC, dI) [(cI, .int), (cJ, .long)] [.ref h0, .ref h1] sz [(h0, .inr (0, [.ref h2, .int 0, .int 0]))]) (va_Qi (fun (r : Int32) (_ : Unit) => r = 0) (fun (_ : Unit) (_ : State) => True) (va_A [] sz)) 0 0 (va_A [] sz) := by
  refine Met.ofW (cc := cX0_takeBack) (maxL := 2) (ret := (some .boolean)) (by decide) rfl ?_
  intro p e s m args below meth c s₁ B hml hv
  obtain ⟨rfl, hsz, hP, hK, hT⟩ := hv
  have hx := B.exec
  have hb := B.bytes
  have hr := B.returns
  have hts : ∀ w ∈ wA, w.before _ s = true := fun w h => atoms_spec (ws := .code yX0_takeBack cX0_takeBack 2 (some .boolean) :: wA) B.pre w (List.mem_cons_of_mem _ h)
  have hown : s.vm.findClass RX0 = some m.cls := findClass_of_methodNamed B.named
  have hlocks := B.notSynchronized
  subst hsz
  have hD : va_D (va_A [] s.heap.size) [] := zD0
  generalize hAe : va_A [] s.heap.size = A at hD ⊢
  have hA : ∀ q : Nat, s.heap.size ≤ q → A q := fun q h => by rw [← hAe]; exact Or.inr h
  have hl := lv_entry ([.ref h0, .ref h1]) (n := 2) (Nat.le_of_ble_eq_true rfl)
  rw [lg_entry_eq]
  generalize (lg_sl ([.ref h0, .ref h1]) ++ List.replicate (2 - (lg_sl ([.ref h0, .ref h1])).length) Slot.unset).toArray = ls at hl ⊢
  have hl : lv_has ls 2 [(0, .ref h0), (1, .ref h1)] := hl
  refine zstart (fun H hH => ?_)
  rw [← hH] at hP
  have hS : va_S A s.heap H [] := by rw [hH]; exact va_S.rf
  refine lv_aload_n hx hb dX0_takeBack_0 rfl (lv_at hl 0 rfl) ?_
  refine va_get (D := (dC, dI)) (ci := 0) (v := .int 0) (C := RX0) (T := TX0) (N := 3) hx hb hts iX0 hown hK hP 0 rfl rfl 2 (by decide) (hts _ qw270) (fun _ h9 => h9) rfl dX0_takeBack_1 ?_
  refine lv_if_ne (tgt := 9) hx hb dX0_takeBack_4 (by decide) (fun c => absurd (by decide) c) (fun _ => ?_)
  refine lv_iconst (v := 0) hx hb dX0_takeBack_7 (by decide) ?_
  exact W.zret (v := 0) (ty := .boolean) hx hb hr rfl (fun t ht hW => ⟨⟨0, (), rfl, rfl, trivial⟩, hS.F ht⟩) hS.2.2 dX0_takeBack_8
set_option maxHeartbeats 4000000 in
set_option maxRecDepth 100000 in
theorem c_X10_undo (l : Launch) (dC : Nat → ClassId) (dI : Nat → Nat → Nat) (cI cJ : ClassId) (h0 h1 h2 h3 h4 h5 h6 h7 h8 h9 h10 h11 h12 h13 h14 : Nat) (sz : Nat) : Met l yX10_undo (.code yX10_undo cX10_undo 1 (some .int) :: wA) ({ frames := 1, cells := 0, slots := 0, locals := 21 }) (zP (dC, dI) [(cI, .int), (cJ, .long)] [.ref h0] sz [(h0, .inr (10, [.ref h1, .ref h2, .ref h3, .ref h4, .ref h5, .ref h6, .ref h7, .ref h8, .ref h9, .ref h10, .ref h11, .ref h12, .ref h13, .int 0, .int (-1), .int 0, .int 0])), (h9, .inr (0, [.ref h14, .int 0, .int 0]))]) (va_Qi (fun (r : Int32) (_ : Unit) => r = (-1)) (fun (_ : Unit) (_ : State) => True) (va_A [] sz)) 0 0 (va_A [] sz) := by
  refine Met.ofW (cc := cX10_undo) (maxL := 1) (ret := (some .int)) (by decide) rfl ?_
  intro p e s m args below meth c s₁ B hml hv
  obtain ⟨rfl, hsz, hP, hK, hT⟩ := hv
  have hx := B.exec
  have hb := B.bytes
  have hr := B.returns
  have hts : ∀ w ∈ wA, w.before _ s = true := fun w h => atoms_spec (ws := .code yX10_undo cX10_undo 1 (some .int) :: wA) B.pre w (List.mem_cons_of_mem _ h)
  have hown : s.vm.findClass RX10 = some m.cls := findClass_of_methodNamed B.named
  have hlocks := B.notSynchronized
  subst hsz
  have hD : va_D (va_A [] s.heap.size) [] := zD0
  generalize hAe : va_A [] s.heap.size = A at hD ⊢
  have hA : ∀ q : Nat, s.heap.size ≤ q → A q := fun q h => by rw [← hAe]; exact Or.inr h
  have hl := lv_entry ([.ref h0]) (n := 1) (Nat.le_of_ble_eq_true rfl)
  rw [lg_entry_eq]
  generalize (lg_sl ([.ref h0]) ++ List.replicate (1 - (lg_sl ([.ref h0])).length) Slot.unset).toArray = ls at hl ⊢
  have hl : lv_has ls 1 [(0, .ref h0)] := hl
  refine zstart (fun H hH => ?_)
  rw [← hH] at hP
  have hS : va_S A s.heap H [] := by rw [hH]; exact va_S.rf
  refine lv_aload_n hx hb dX10_undo_0 rfl (lv_at hl 0 rfl) ?_
  refine va_get (D := (dC, dI)) (ci := 10) (v := .ref h9) (C := RX10) (T := TX10) (N := 17) hx hb hts iX10 hown hK hP 0 rfl rfl 8 (by decide) (hts _ qw364) (fun _ h9 => h9) rfl dX10_undo_1 ?_
  refine lv_aload_n hx hb dX10_undo_4 rfl (lv_at hl 0 rfl) ?_
  refine va_get (D := (dC, dI)) (ci := 10) (v := .ref h7) (C := RX10) (T := TX10) (N := 17) hx hb hts iX10 hown hK hP 0 rfl rfl 6 (by decide) (hts _ qw362) (fun _ h9 => h9) rfl dX10_undo_5 ?_
  have hPc := hP.sub (ws' := [(h9, .inr (0, [.ref h14, .int 0, .int 0]))]) [1] rfl
  have hDc := hT.sub (ws' := [(h9, .inr (0, [.ref h14, .int 0, .int 0]))]) [1] (by decide) rfl
  have hFc := zfr hS hA
  refine va_calli (va_runV (As := [.ref h7]) (rest := []) ⟨hx, hb, hml, hown, hts⟩ (c_X0_takeBack l dC dI cI cJ h9 h7 h14 H.size) (cwV 1 hts (zgV qw802 qw803 qw804 qw104 qw805) rfl rfl rfl hd_X0_takeBack ⟨Nat.le_of_ble_eq_true rfl, Nat.le_of_ble_eq_true rfl⟩) (zPV hPc hK hDc (va_recv hK hP (ci := 0) (q0 := 1) rfl rfl)) rfl rfl hl.1 rfl (lv_room (Nat.le_of_ble_eq_true rfl)) dX10_undo_8 ⟨Nat.le_of_ble_eq_true rfl, Nat.le_of_ble_eq_true rfl⟩) hS (fun q _ h => hFc q h) hFc (fun r_1 u t H locs ht hvm hw hB hz1 hk1 hS => ?_)
  have hP := zkeep hP hk1
  have hw : r_1 = 0 := hw
  subst hw
  refine lv_if_eq (tgt := 24) hx hb dX10_undo_11 (by decide) (fun _ => ?_) (fun c => absurd (by decide) c)
  refine lv_iconst (v := (-1)) hx hb dX10_undo_24 (by decide) ?_
  exact W.iret (v := ((-1))) hx hb hr (fun t ht hW => ⟨⟨(-1), (), rfl, rfl, trivial⟩, hS.F ht⟩) hS.2.2 dX10_undo_25
set_option maxHeartbeats 4000000 in
set_option maxRecDepth 100000 in
theorem c_X10_portrait (l : Launch) (dC : Nat → ClassId) (dI : Nat → Nat → Nat) (cI cJ : ClassId) (h0 h1 h2 h3 h4 h5 h6 h7 h8 h9 h10 h11 h12 h13 h14 h15 h16 : Nat) (sz : Nat) (p0 : Int32) (p1 : Int32) : Met l yX10_portrait (.code yX10_portrait cX10_portrait 3 (some .int) :: wA) ({ frames := 0, cells := 0, slots := 0, locals := 0 }) (zP (dC, dI) [(cI, .int), (cJ, .long)] [.ref h0, .int p0, .int p1] sz [(h0, .inr (10, [.ref h1, .ref h2, .ref h3, .ref h4, .ref h5, .ref h6, .ref h7, .ref h8, .ref h9, .ref h10, .ref h11, .ref h12, .ref h13, .int 0, .int (-1), .int 0, .int 0])), (h7, .inr (7, [.ref h14, .ref h15, .ref h16, .int 0, .int 0, .int 0, .int (-1), .int 0, .int 0]))]) (va_Qi (fun (r : Int32) (_ : Unit) => r = (-1)) (fun (_ : Unit) (_ : State) => True) (va_A [] sz)) 0 0 (va_A [] sz) := by
  refine Met.ofW (cc := cX10_portrait) (maxL := 3) (ret := (some .int)) (by decide) rfl ?_
  intro p e s m args below meth c s₁ B hml hv
  obtain ⟨rfl, hsz, hP, hK, hT⟩ := hv
  have hx := B.exec
  have hb := B.bytes
  have hr := B.returns
  have hts : ∀ w ∈ wA, w.before _ s = true := fun w h => atoms_spec (ws := .code yX10_portrait cX10_portrait 3 (some .int) :: wA) B.pre w (List.mem_cons_of_mem _ h)
  have hown : s.vm.findClass RX10 = some m.cls := findClass_of_methodNamed B.named
  have hlocks := B.notSynchronized
  subst hsz
  have hD : va_D (va_A [] s.heap.size) [] := zD0
  generalize hAe : va_A [] s.heap.size = A at hD ⊢
  have hA : ∀ q : Nat, s.heap.size ≤ q → A q := fun q h => by rw [← hAe]; exact Or.inr h
  have hl := lv_entry ([.ref h0, .int p0, .int p1]) (n := 3) (Nat.le_of_ble_eq_true rfl)
  rw [lg_entry_eq]
  generalize (lg_sl ([.ref h0, .int p0, .int p1]) ++ List.replicate (3 - (lg_sl ([.ref h0, .int p0, .int p1])).length) Slot.unset).toArray = ls at hl ⊢
  have hl : lv_has ls 3 [(0, .ref h0), (1, .int p0), (2, .int p1)] := hl
  refine zstart (fun H hH => ?_)
  rw [← hH] at hP
  have hS : va_S A s.heap H [] := by rw [hH]; exact va_S.rf
  refine lv_iload_n hx hb dX10_portrait_0 rfl (lv_at hl 1 rfl) ?_
  refine lv_if_lt (tgt := 24) hx hb dX10_portrait_1 (by decide) (fun c_1 => ?_) (fun c_1 => ?_)
  · have i_1 : p0.toInt < 0 := z1 rfl (by decide) c_1
    refine lv_iconst (v := (-1)) hx hb dX10_portrait_24 (by decide) ?_
    exact W.iret (v := ((-1))) hx hb hr (fun t ht hW => ⟨⟨(-1), (), rfl, rfl, trivial⟩, hS.F ht⟩) hS.2.2 dX10_portrait_25
  · have i_1 : 0 ≤ p0.toInt := z2 rfl (by decide) c_1
    refine lv_iload_n hx hb dX10_portrait_4 rfl (lv_at hl 1 rfl) ?_
    refine lv_aload_n hx hb dX10_portrait_5 rfl (lv_at hl 0 rfl) ?_
    refine va_get (D := (dC, dI)) (ci := 10) (v := .ref h7) (C := RX10) (T := TX10) (N := 17) hx hb hts iX10 hown hK hP 0 rfl rfl 6 (by decide) (hts _ qw362) (fun _ h9 => h9) rfl dX10_portrait_6 ?_
    refine va_get (D := (dC, dI)) (ci := 7) (v := .int 0) (C := RX7) (T := TX7) (N := 9) hx hb hts iX7 hown hK hP 1 rfl rfl 3 (by decide) (hts _ qw229) (fun _ h9 => h9) rfl dX10_portrait_9 ?_
    refine lv_icmp_ge (tgt := 24) hx hb dX10_portrait_12 (by decide) (fun c_2 => ?_) (fun c_2 => by exfalso; have i_2 : p0.toInt < 0 := z4 (by decide) rfl c_2; omega)
    have i_2 : 0 ≤ p0.toInt := z3 (by decide) rfl c_2
    refine lv_iconst (v := (-1)) hx hb dX10_portrait_24 (by decide) ?_
    exact W.iret (v := ((-1))) hx hb hr (fun t ht hW => ⟨⟨(-1), (), rfl, rfl, trivial⟩, hS.F ht⟩) hS.2.2 dX10_portrait_25
set_option maxHeartbeats 4000000 in
set_option maxRecDepth 100000 in
theorem c_X10_fits (l : Launch) (dC : Nat → ClassId) (dI : Nat → Nat → Nat) (cI cJ : ClassId) (h0 h1 h2 h3 h4 h5 h6 h7 h8 h9 h10 h11 h12 h13 h14 h15 h16 : Nat) (sz : Nat) (p0 : Int32) : Met l yX10_fits (.code yX10_fits cX10_fits 2 (some .int) :: wA) ({ frames := 1, cells := 0, slots := 0, locals := 21 }) (zP (dC, dI) [(cI, .int), (cJ, .long)] [.ref h0, .int p0] sz [(h0, .inr (10, [.ref h1, .ref h2, .ref h3, .ref h4, .ref h5, .ref h6, .ref h7, .ref h8, .ref h9, .ref h10, .ref h11, .ref h12, .ref h13, .int 0, .int (-1), .int 0, .int 0])), (h5, .inr (1, [.ref h14, .ref h15, .ref h16, .int 0, .int 0]))]) (va_Qi (fun (r : Int32) (_ : Unit) => r = (-1)) (fun (_ : Unit) (_ : State) => True) (va_A [] sz)) 0 0 (va_A [] sz) := by
  refine Met.ofW (cc := cX10_fits) (maxL := 2) (ret := (some .int)) (by decide) rfl ?_
  intro p e s m args below meth c s₁ B hml hv
  obtain ⟨rfl, hsz, hP, hK, hT⟩ := hv
  have hx := B.exec
  have hb := B.bytes
  have hr := B.returns
  have hts : ∀ w ∈ wA, w.before _ s = true := fun w h => atoms_spec (ws := .code yX10_fits cX10_fits 2 (some .int) :: wA) B.pre w (List.mem_cons_of_mem _ h)
  have hown : s.vm.findClass RX10 = some m.cls := findClass_of_methodNamed B.named
  have hlocks := B.notSynchronized
  subst hsz
  have hD : va_D (va_A [] s.heap.size) [] := zD0
  generalize hAe : va_A [] s.heap.size = A at hD ⊢
  have hA : ∀ q : Nat, s.heap.size ≤ q → A q := fun q h => by rw [← hAe]; exact Or.inr h
  have hl := lv_entry ([.ref h0, .int p0]) (n := 2) (Nat.le_of_ble_eq_true rfl)
  rw [lg_entry_eq]
  generalize (lg_sl ([.ref h0, .int p0]) ++ List.replicate (2 - (lg_sl ([.ref h0, .int p0])).length) Slot.unset).toArray = ls at hl ⊢
  have hl : lv_has ls 2 [(0, .ref h0), (1, .int p0)] := hl
  refine zstart (fun H hH => ?_)
  rw [← hH] at hP
  have hS : va_S A s.heap H [] := by rw [hH]; exact va_S.rf
  refine lv_aload_n hx hb dX10_fits_0 rfl (lv_at hl 0 rfl) ?_
  refine lv_iload_n hx hb dX10_fits_1 rfl (lv_at hl 1 rfl) ?_
  have hPc := hP.sub (ws' := [(h0, .inr (10, [.ref h1, .ref h2, .ref h3, .ref h4, .ref h5, .ref h6, .ref h7, .ref h8, .ref h9, .ref h10, .ref h11, .ref h12, .ref h13, .int 0, .int (-1), .int 0, .int 0])), (h5, .inr (1, [.ref h14, .ref h15, .ref h16, .int 0, .int 0]))]) [0, 1] rfl
  have hDc := hT.sub (ws' := [(h0, .inr (10, [.ref h1, .ref h2, .ref h3, .ref h4, .ref h5, .ref h6, .ref h7, .ref h8, .ref h9, .ref h10, .ref h11, .ref h12, .ref h13, .int 0, .int (-1), .int 0, .int 0])), (h5, .inr (1, [.ref h14, .ref h15, .ref h16, .int 0, .int 0]))]) [0, 1] (by decide) rfl
  have hFc := zfr hS hA
  refine va_calli (va_runV (As := [.int p0]) (rest := []) ⟨hx, hb, hml, hown, hts⟩ (c_X10_isBride l dC dI cI cJ h0 h1 h2 h3 h4 h5 h6 h7 h8 h9 h10 h11 h12 h13 h14 h15 h16 H.size p0) (cwV 1 hts (zgV qw625 qw627 qw12 qw98 qw628) rfl rfl rfl hd_X10_isBride ⟨Nat.le_of_ble_eq_true rfl, Nat.le_of_ble_eq_true rfl⟩) (zPV hPc hK hDc (va_recv hK hP (ci := 10) (q0 := 0) rfl rfl)) rfl rfl hl.1 rfl (lv_room (Nat.le_of_ble_eq_true rfl)) dX10_fits_2 ⟨Nat.le_of_ble_eq_true rfl, Nat.le_of_ble_eq_true rfl⟩) hS (fun q _ h => hFc q h) hFc (fun r_1 u t H locs ht hvm hw hB hz1 hk1 hS => ?_)
  have hP := zkeep hP hk1
  have hw : r_1 = 0 := hw
  subst hw
  refine lv_if_eq (tgt := 19) hx hb dX10_fits_5 (by decide) (fun _ => ?_) (fun c => absurd (by decide) c)
  refine lv_iconst (v := (-1)) hx hb dX10_fits_19 (by decide) ?_
  exact W.iret (v := ((-1))) hx hb hr (fun t ht hW => ⟨⟨(-1), (), rfl, rfl, trivial⟩, hS.F ht⟩) hS.2.2 dX10_fits_20
set_option maxHeartbeats 4000000 in
set_option maxRecDepth 100000 in
theorem c_X10_belief (l : Launch) (dC : Nat → ClassId) (dI : Nat → Nat → Nat) (cI cJ : ClassId) (h0 h1 h2 h3 h4 h5 h6 h7 h8 h9 h10 h11 h12 h13 h14 h15 h16 : Nat) (sz : Nat) (p0 : Int32) (p1 : Int32) : Met l yX10_belief (.code yX10_belief cX10_belief 3 (some .int) :: wA) ({ frames := 1, cells := 0, slots := 0, locals := 21 }) (zP (dC, dI) [(cI, .int), (cJ, .long)] [.ref h0, .int p0, .int p1] sz [(h0, .inr (10, [.ref h1, .ref h2, .ref h3, .ref h4, .ref h5, .ref h6, .ref h7, .ref h8, .ref h9, .ref h10, .ref h11, .ref h12, .ref h13, .int 0, .int (-1), .int 0, .int 0])), (h5, .inr (1, [.ref h14, .ref h15, .ref h16, .int 0, .int 0]))]) (va_Qi (fun (r : Int32) (_ : Unit) => r = (-1)) (fun (_ : Unit) (_ : State) => True) (va_A [] sz)) 0 0 (va_A [] sz) := by
  refine Met.ofW (cc := cX10_belief) (maxL := 3) (ret := (some .int)) (by decide) rfl ?_
  intro p e s m args below meth c s₁ B hml hv
  obtain ⟨rfl, hsz, hP, hK, hT⟩ := hv
  have hx := B.exec
  have hb := B.bytes
  have hr := B.returns
  have hts : ∀ w ∈ wA, w.before _ s = true := fun w h => atoms_spec (ws := .code yX10_belief cX10_belief 3 (some .int) :: wA) B.pre w (List.mem_cons_of_mem _ h)
  have hown : s.vm.findClass RX10 = some m.cls := findClass_of_methodNamed B.named
  have hlocks := B.notSynchronized
  subst hsz
  have hD : va_D (va_A [] s.heap.size) [] := zD0
  generalize hAe : va_A [] s.heap.size = A at hD ⊢
  have hA : ∀ q : Nat, s.heap.size ≤ q → A q := fun q h => by rw [← hAe]; exact Or.inr h
  have hl := lv_entry ([.ref h0, .int p0, .int p1]) (n := 3) (Nat.le_of_ble_eq_true rfl)
  rw [lg_entry_eq]
  generalize (lg_sl ([.ref h0, .int p0, .int p1]) ++ List.replicate (3 - (lg_sl ([.ref h0, .int p0, .int p1])).length) Slot.unset).toArray = ls at hl ⊢
  have hl : lv_has ls 3 [(0, .ref h0), (1, .int p0), (2, .int p1)] := hl
  refine zstart (fun H hH => ?_)
  rw [← hH] at hP
  have hS : va_S A s.heap H [] := by rw [hH]; exact va_S.rf
  refine lv_aload_n hx hb dX10_belief_0 rfl (lv_at hl 0 rfl) ?_
  refine lv_iload_n hx hb dX10_belief_1 rfl (lv_at hl 1 rfl) ?_
  have hPc := hP.sub (ws' := [(h0, .inr (10, [.ref h1, .ref h2, .ref h3, .ref h4, .ref h5, .ref h6, .ref h7, .ref h8, .ref h9, .ref h10, .ref h11, .ref h12, .ref h13, .int 0, .int (-1), .int 0, .int 0])), (h5, .inr (1, [.ref h14, .ref h15, .ref h16, .int 0, .int 0]))]) [0, 1] rfl
  have hDc := hT.sub (ws' := [(h0, .inr (10, [.ref h1, .ref h2, .ref h3, .ref h4, .ref h5, .ref h6, .ref h7, .ref h8, .ref h9, .ref h10, .ref h11, .ref h12, .ref h13, .int 0, .int (-1), .int 0, .int 0])), (h5, .inr (1, [.ref h14, .ref h15, .ref h16, .int 0, .int 0]))]) [0, 1] (by decide) rfl
  have hFc := zfr hS hA
  refine va_calli (va_runV (As := [.int p0]) (rest := []) ⟨hx, hb, hml, hown, hts⟩ (c_X10_isBride l dC dI cI cJ h0 h1 h2 h3 h4 h5 h6 h7 h8 h9 h10 h11 h12 h13 h14 h15 h16 H.size p0) (cwV 1 hts (zgV qw625 qw627 qw12 qw98 qw628) rfl rfl rfl hd_X10_isBride ⟨Nat.le_of_ble_eq_true rfl, Nat.le_of_ble_eq_true rfl⟩) (zPV hPc hK hDc (va_recv hK hP (ci := 10) (q0 := 0) rfl rfl)) rfl rfl hl.1 rfl (lv_room (Nat.le_of_ble_eq_true rfl)) dX10_belief_2 ⟨Nat.le_of_ble_eq_true rfl, Nat.le_of_ble_eq_true rfl⟩) hS (fun q _ h => hFc q h) hFc (fun r_1 u t H locs ht hvm hw hB hz1 hk1 hS => ?_)
  have hP := zkeep hP hk1
  have hw : r_1 = 0 := hw
  subst hw
  refine lv_if_eq (tgt := 15) hx hb dX10_belief_5 (by decide) (fun _ => ?_) (fun c => absurd (by decide) c)
  refine lv_iconst (v := (-1)) hx hb dX10_belief_15 (by decide) ?_
  exact W.iret (v := ((-1))) hx hb hr (fun t ht hW => ⟨⟨(-1), (), rfl, rfl, trivial⟩, hS.F ht⟩) hS.2.2 dX10_belief_16
set_option maxHeartbeats 4000000 in
set_option maxRecDepth 100000 in
theorem c_X10_likely (l : Launch) (dC : Nat → ClassId) (dI : Nat → Nat → Nat) (cI cJ : ClassId) (h0 h1 h2 h3 h4 h5 h6 h7 h8 h9 h10 h11 h12 h13 h14 h15 h16 : Nat) (sz : Nat) (p0 : Int32) (p1 : Int32) : Met l yX10_likely (.code yX10_likely cX10_likely 3 (some .int) :: wA) ({ frames := 1, cells := 0, slots := 0, locals := 21 }) (zP (dC, dI) [(cI, .int), (cJ, .long)] [.ref h0, .int p0, .int p1] sz [(h0, .inr (10, [.ref h1, .ref h2, .ref h3, .ref h4, .ref h5, .ref h6, .ref h7, .ref h8, .ref h9, .ref h10, .ref h11, .ref h12, .ref h13, .int 0, .int (-1), .int 0, .int 0])), (h5, .inr (1, [.ref h14, .ref h15, .ref h16, .int 0, .int 0]))]) (va_Qi (fun (r : Int32) (_ : Unit) => r = (-1)) (fun (_ : Unit) (_ : State) => True) (va_A [] sz)) 0 0 (va_A [] sz) := by
  refine Met.ofW (cc := cX10_likely) (maxL := 3) (ret := (some .int)) (by decide) rfl ?_
  intro p e s m args below meth c s₁ B hml hv
  obtain ⟨rfl, hsz, hP, hK, hT⟩ := hv
  have hx := B.exec
  have hb := B.bytes
  have hr := B.returns
  have hts : ∀ w ∈ wA, w.before _ s = true := fun w h => atoms_spec (ws := .code yX10_likely cX10_likely 3 (some .int) :: wA) B.pre w (List.mem_cons_of_mem _ h)
  have hown : s.vm.findClass RX10 = some m.cls := findClass_of_methodNamed B.named
  have hlocks := B.notSynchronized
  subst hsz
  have hD : va_D (va_A [] s.heap.size) [] := zD0
  generalize hAe : va_A [] s.heap.size = A at hD ⊢
  have hA : ∀ q : Nat, s.heap.size ≤ q → A q := fun q h => by rw [← hAe]; exact Or.inr h
  have hl := lv_entry ([.ref h0, .int p0, .int p1]) (n := 3) (Nat.le_of_ble_eq_true rfl)
  rw [lg_entry_eq]
  generalize (lg_sl ([.ref h0, .int p0, .int p1]) ++ List.replicate (3 - (lg_sl ([.ref h0, .int p0, .int p1])).length) Slot.unset).toArray = ls at hl ⊢
  have hl : lv_has ls 3 [(0, .ref h0), (1, .int p0), (2, .int p1)] := hl
  refine zstart (fun H hH => ?_)
  rw [← hH] at hP
  have hS : va_S A s.heap H [] := by rw [hH]; exact va_S.rf
  refine lv_aload_n hx hb dX10_likely_0 rfl (lv_at hl 0 rfl) ?_
  refine lv_iload_n hx hb dX10_likely_1 rfl (lv_at hl 1 rfl) ?_
  have hPc := hP.sub (ws' := [(h0, .inr (10, [.ref h1, .ref h2, .ref h3, .ref h4, .ref h5, .ref h6, .ref h7, .ref h8, .ref h9, .ref h10, .ref h11, .ref h12, .ref h13, .int 0, .int (-1), .int 0, .int 0])), (h5, .inr (1, [.ref h14, .ref h15, .ref h16, .int 0, .int 0]))]) [0, 1] rfl
  have hDc := hT.sub (ws' := [(h0, .inr (10, [.ref h1, .ref h2, .ref h3, .ref h4, .ref h5, .ref h6, .ref h7, .ref h8, .ref h9, .ref h10, .ref h11, .ref h12, .ref h13, .int 0, .int (-1), .int 0, .int 0])), (h5, .inr (1, [.ref h14, .ref h15, .ref h16, .int 0, .int 0]))]) [0, 1] (by decide) rfl
  have hFc := zfr hS hA
  refine va_calli (va_runV (As := [.int p0]) (rest := []) ⟨hx, hb, hml, hown, hts⟩ (c_X10_isBride l dC dI cI cJ h0 h1 h2 h3 h4 h5 h6 h7 h8 h9 h10 h11 h12 h13 h14 h15 h16 H.size p0) (cwV 1 hts (zgV qw625 qw627 qw12 qw98 qw628) rfl rfl rfl hd_X10_isBride ⟨Nat.le_of_ble_eq_true rfl, Nat.le_of_ble_eq_true rfl⟩) (zPV hPc hK hDc (va_recv hK hP (ci := 10) (q0 := 0) rfl rfl)) rfl rfl hl.1 rfl (lv_room (Nat.le_of_ble_eq_true rfl)) dX10_likely_2 ⟨Nat.le_of_ble_eq_true rfl, Nat.le_of_ble_eq_true rfl⟩) hS (fun q _ h => hFc q h) hFc (fun r_1 u t H locs ht hvm hw hB hz1 hk1 hS => ?_)
  have hP := zkeep hP hk1
  have hw : r_1 = 0 := hw
  subst hw
  refine lv_if_eq (tgt := 17) hx hb dX10_likely_5 (by decide) (fun _ => ?_) (fun c => absurd (by decide) c)
  refine lv_iconst (v := (-1)) hx hb dX10_likely_17 (by decide) ?_
  exact W.iret (v := ((-1))) hx hb hr (fun t ht hW => ⟨⟨(-1), (), rfl, rfl, trivial⟩, hS.F ht⟩) hS.2.2 dX10_likely_18
set_option maxHeartbeats 4000000 in
set_option maxRecDepth 100000 in
theorem c_X10_sure (l : Launch) (dC : Nat → ClassId) (dI : Nat → Nat → Nat) (cI cJ : ClassId) (h0 h1 h2 h3 h4 h5 h6 h7 h8 h9 h10 h11 h12 h13 h14 h15 h16 : Nat) (sz : Nat) (p0 : Int32) (p1 : Int32) : Met l yX10_sure (.code yX10_sure cX10_sure 3 (some .int) :: wA) ({ frames := 1, cells := 0, slots := 0, locals := 21 }) (zP (dC, dI) [(cI, .int), (cJ, .long)] [.ref h0, .int p0, .int p1] sz [(h0, .inr (10, [.ref h1, .ref h2, .ref h3, .ref h4, .ref h5, .ref h6, .ref h7, .ref h8, .ref h9, .ref h10, .ref h11, .ref h12, .ref h13, .int 0, .int (-1), .int 0, .int 0])), (h5, .inr (1, [.ref h14, .ref h15, .ref h16, .int 0, .int 0]))]) (va_Qi (fun (r : Int32) (_ : Unit) => r = (-1)) (fun (_ : Unit) (_ : State) => True) (va_A [] sz)) 0 0 (va_A [] sz) := by
  refine Met.ofW (cc := cX10_sure) (maxL := 3) (ret := (some .int)) (by decide) rfl ?_
  intro p e s m args below meth c s₁ B hml hv
  obtain ⟨rfl, hsz, hP, hK, hT⟩ := hv
  have hx := B.exec
  have hb := B.bytes
  have hr := B.returns
  have hts : ∀ w ∈ wA, w.before _ s = true := fun w h => atoms_spec (ws := .code yX10_sure cX10_sure 3 (some .int) :: wA) B.pre w (List.mem_cons_of_mem _ h)
  have hown : s.vm.findClass RX10 = some m.cls := findClass_of_methodNamed B.named
  have hlocks := B.notSynchronized
  subst hsz
  have hD : va_D (va_A [] s.heap.size) [] := zD0
  generalize hAe : va_A [] s.heap.size = A at hD ⊢
  have hA : ∀ q : Nat, s.heap.size ≤ q → A q := fun q h => by rw [← hAe]; exact Or.inr h
  have hl := lv_entry ([.ref h0, .int p0, .int p1]) (n := 3) (Nat.le_of_ble_eq_true rfl)
  rw [lg_entry_eq]
  generalize (lg_sl ([.ref h0, .int p0, .int p1]) ++ List.replicate (3 - (lg_sl ([.ref h0, .int p0, .int p1])).length) Slot.unset).toArray = ls at hl ⊢
  have hl : lv_has ls 3 [(0, .ref h0), (1, .int p0), (2, .int p1)] := hl
  refine zstart (fun H hH => ?_)
  rw [← hH] at hP
  have hS : va_S A s.heap H [] := by rw [hH]; exact va_S.rf
  refine lv_aload_n hx hb dX10_sure_0 rfl (lv_at hl 0 rfl) ?_
  refine lv_iload_n hx hb dX10_sure_1 rfl (lv_at hl 1 rfl) ?_
  have hPc := hP.sub (ws' := [(h0, .inr (10, [.ref h1, .ref h2, .ref h3, .ref h4, .ref h5, .ref h6, .ref h7, .ref h8, .ref h9, .ref h10, .ref h11, .ref h12, .ref h13, .int 0, .int (-1), .int 0, .int 0])), (h5, .inr (1, [.ref h14, .ref h15, .ref h16, .int 0, .int 0]))]) [0, 1] rfl
  have hDc := hT.sub (ws' := [(h0, .inr (10, [.ref h1, .ref h2, .ref h3, .ref h4, .ref h5, .ref h6, .ref h7, .ref h8, .ref h9, .ref h10, .ref h11, .ref h12, .ref h13, .int 0, .int (-1), .int 0, .int 0])), (h5, .inr (1, [.ref h14, .ref h15, .ref h16, .int 0, .int 0]))]) [0, 1] (by decide) rfl
  have hFc := zfr hS hA
  refine va_calli (va_runV (As := [.int p0]) (rest := []) ⟨hx, hb, hml, hown, hts⟩ (c_X10_isBride l dC dI cI cJ h0 h1 h2 h3 h4 h5 h6 h7 h8 h9 h10 h11 h12 h13 h14 h15 h16 H.size p0) (cwV 1 hts (zgV qw625 qw627 qw12 qw98 qw628) rfl rfl rfl hd_X10_isBride ⟨Nat.le_of_ble_eq_true rfl, Nat.le_of_ble_eq_true rfl⟩) (zPV hPc hK hDc (va_recv hK hP (ci := 10) (q0 := 0) rfl rfl)) rfl rfl hl.1 rfl (lv_room (Nat.le_of_ble_eq_true rfl)) dX10_sure_2 ⟨Nat.le_of_ble_eq_true rfl, Nat.le_of_ble_eq_true rfl⟩) hS (fun q _ h => hFc q h) hFc (fun r_1 u t H locs ht hvm hw hB hz1 hk1 hS => ?_)
  have hP := zkeep hP hk1
  have hw : r_1 = 0 := hw
  subst hw
  refine lv_if_eq (tgt := 20) hx hb dX10_sure_5 (by decide) (fun _ => ?_) (fun c => absurd (by decide) c)
  refine lv_iconst (v := (-1)) hx hb dX10_sure_20 (by decide) ?_
  exact W.iret (v := ((-1))) hx hb hr (fun t ht hW => ⟨⟨(-1), (), rfl, rfl, trivial⟩, hS.F ht⟩) hS.2.2 dX10_sure_21
set_option maxHeartbeats 4000000 in
set_option maxRecDepth 100000 in
theorem c_X10_next (l : Launch) (dC : Nat → ClassId) (dI : Nat → Nat → Nat) (cI cJ : ClassId) (h0 h1 h2 h3 h4 h5 h6 h7 h8 h9 h10 h11 h12 h13 h14 h15 h16 : Nat) (sz : Nat) (p0 : Int32) : Met l yX10_next (.code yX10_next cX10_next 2 (some .int) :: wA) ({ frames := 1, cells := 0, slots := 0, locals := 21 }) (zP (dC, dI) [(cI, .int), (cJ, .long)] [.ref h0, .int p0] sz [(h0, .inr (10, [.ref h1, .ref h2, .ref h3, .ref h4, .ref h5, .ref h6, .ref h7, .ref h8, .ref h9, .ref h10, .ref h11, .ref h12, .ref h13, .int 0, .int (-1), .int 0, .int 0])), (h5, .inr (1, [.ref h14, .ref h15, .ref h16, .int 0, .int 0]))]) (va_Qi (fun (r : Int32) (_ : Unit) => r = (-1)) (fun (_ : Unit) (_ : State) => True) (va_A [] sz)) 0 0 (va_A [] sz) := by
  refine Met.ofW (cc := cX10_next) (maxL := 2) (ret := (some .int)) (by decide) rfl ?_
  intro p e s m args below meth c s₁ B hml hv
  obtain ⟨rfl, hsz, hP, hK, hT⟩ := hv
  have hx := B.exec
  have hb := B.bytes
  have hr := B.returns
  have hts : ∀ w ∈ wA, w.before _ s = true := fun w h => atoms_spec (ws := .code yX10_next cX10_next 2 (some .int) :: wA) B.pre w (List.mem_cons_of_mem _ h)
  have hown : s.vm.findClass RX10 = some m.cls := findClass_of_methodNamed B.named
  have hlocks := B.notSynchronized
  subst hsz
  have hD : va_D (va_A [] s.heap.size) [] := zD0
  generalize hAe : va_A [] s.heap.size = A at hD ⊢
  have hA : ∀ q : Nat, s.heap.size ≤ q → A q := fun q h => by rw [← hAe]; exact Or.inr h
  have hl := lv_entry ([.ref h0, .int p0]) (n := 2) (Nat.le_of_ble_eq_true rfl)
  rw [lg_entry_eq]
  generalize (lg_sl ([.ref h0, .int p0]) ++ List.replicate (2 - (lg_sl ([.ref h0, .int p0])).length) Slot.unset).toArray = ls at hl ⊢
  have hl : lv_has ls 2 [(0, .ref h0), (1, .int p0)] := hl
  refine zstart (fun H hH => ?_)
  rw [← hH] at hP
  have hS : va_S A s.heap H [] := by rw [hH]; exact va_S.rf
  refine lv_aload_n hx hb dX10_next_0 rfl (lv_at hl 0 rfl) ?_
  refine lv_iload_n hx hb dX10_next_1 rfl (lv_at hl 1 rfl) ?_
  have hPc := hP.sub (ws' := [(h0, .inr (10, [.ref h1, .ref h2, .ref h3, .ref h4, .ref h5, .ref h6, .ref h7, .ref h8, .ref h9, .ref h10, .ref h11, .ref h12, .ref h13, .int 0, .int (-1), .int 0, .int 0])), (h5, .inr (1, [.ref h14, .ref h15, .ref h16, .int 0, .int 0]))]) [0, 1] rfl
  have hDc := hT.sub (ws' := [(h0, .inr (10, [.ref h1, .ref h2, .ref h3, .ref h4, .ref h5, .ref h6, .ref h7, .ref h8, .ref h9, .ref h10, .ref h11, .ref h12, .ref h13, .int 0, .int (-1), .int 0, .int 0])), (h5, .inr (1, [.ref h14, .ref h15, .ref h16, .int 0, .int 0]))]) [0, 1] (by decide) rfl
  have hFc := zfr hS hA
  refine va_calli (va_runV (As := [.int p0]) (rest := []) ⟨hx, hb, hml, hown, hts⟩ (c_X10_isBride l dC dI cI cJ h0 h1 h2 h3 h4 h5 h6 h7 h8 h9 h10 h11 h12 h13 h14 h15 h16 H.size p0) (cwV 1 hts (zgV qw625 qw627 qw12 qw98 qw628) rfl rfl rfl hd_X10_isBride ⟨Nat.le_of_ble_eq_true rfl, Nat.le_of_ble_eq_true rfl⟩) (zPV hPc hK hDc (va_recv hK hP (ci := 10) (q0 := 0) rfl rfl)) rfl rfl hl.1 rfl (lv_room (Nat.le_of_ble_eq_true rfl)) dX10_next_2 ⟨Nat.le_of_ble_eq_true rfl, Nat.le_of_ble_eq_true rfl⟩) hS (fun q _ h => hFc q h) hFc (fun r_1 u t H locs ht hvm hw hB hz1 hk1 hS => ?_)
  have hP := zkeep hP hk1
  have hw : r_1 = 0 := hw
  subst hw
  refine lv_if_eq (tgt := 19) hx hb dX10_next_5 (by decide) (fun _ => ?_) (fun c => absurd (by decide) c)
  refine lv_iconst (v := (-1)) hx hb dX10_next_19 (by decide) ?_
  exact W.iret (v := ((-1))) hx hb hr (fun t ht hW => ⟨⟨(-1), (), rfl, rfl, trivial⟩, hS.F ht⟩) hS.2.2 dX10_next_20
set_option maxHeartbeats 4000000 in
set_option maxRecDepth 100000 in
theorem c_X10_apart (l : Launch) (dC : Nat → ClassId) (dI : Nat → Nat → Nat) (cI cJ : ClassId) (h0 h1 h2 h3 h4 h5 h6 h7 h8 h9 h10 h11 h12 h13 h14 h15 h16 : Nat) (sz : Nat) (p0 : Int32) : Met l yX10_apart (.code yX10_apart cX10_apart 2 (some .int) :: wA) ({ frames := 1, cells := 0, slots := 0, locals := 21 }) (zP (dC, dI) [(cI, .int), (cJ, .long)] [.ref h0, .int p0] sz [(h0, .inr (10, [.ref h1, .ref h2, .ref h3, .ref h4, .ref h5, .ref h6, .ref h7, .ref h8, .ref h9, .ref h10, .ref h11, .ref h12, .ref h13, .int 0, .int (-1), .int 0, .int 0])), (h5, .inr (1, [.ref h14, .ref h15, .ref h16, .int 0, .int 0]))]) (va_Qi (fun (r : Int32) (_ : Unit) => r = (-1)) (fun (_ : Unit) (_ : State) => True) (va_A [] sz)) 0 0 (va_A [] sz) := by
  refine Met.ofW (cc := cX10_apart) (maxL := 2) (ret := (some .int)) (by decide) rfl ?_
  intro p e s m args below meth c s₁ B hml hv
  obtain ⟨rfl, hsz, hP, hK, hT⟩ := hv
  have hx := B.exec
  have hb := B.bytes
  have hr := B.returns
  have hts : ∀ w ∈ wA, w.before _ s = true := fun w h => atoms_spec (ws := .code yX10_apart cX10_apart 2 (some .int) :: wA) B.pre w (List.mem_cons_of_mem _ h)
  have hown : s.vm.findClass RX10 = some m.cls := findClass_of_methodNamed B.named
  have hlocks := B.notSynchronized
  subst hsz
  have hD : va_D (va_A [] s.heap.size) [] := zD0
  generalize hAe : va_A [] s.heap.size = A at hD ⊢
  have hA : ∀ q : Nat, s.heap.size ≤ q → A q := fun q h => by rw [← hAe]; exact Or.inr h
  have hl := lv_entry ([.ref h0, .int p0]) (n := 2) (Nat.le_of_ble_eq_true rfl)
  rw [lg_entry_eq]
  generalize (lg_sl ([.ref h0, .int p0]) ++ List.replicate (2 - (lg_sl ([.ref h0, .int p0])).length) Slot.unset).toArray = ls at hl ⊢
  have hl : lv_has ls 2 [(0, .ref h0), (1, .int p0)] := hl
  refine zstart (fun H hH => ?_)
  rw [← hH] at hP
  have hS : va_S A s.heap H [] := by rw [hH]; exact va_S.rf
  refine lv_aload_n hx hb dX10_apart_0 rfl (lv_at hl 0 rfl) ?_
  refine lv_iload_n hx hb dX10_apart_1 rfl (lv_at hl 1 rfl) ?_
  have hPc := hP.sub (ws' := [(h0, .inr (10, [.ref h1, .ref h2, .ref h3, .ref h4, .ref h5, .ref h6, .ref h7, .ref h8, .ref h9, .ref h10, .ref h11, .ref h12, .ref h13, .int 0, .int (-1), .int 0, .int 0])), (h5, .inr (1, [.ref h14, .ref h15, .ref h16, .int 0, .int 0]))]) [0, 1] rfl
  have hDc := hT.sub (ws' := [(h0, .inr (10, [.ref h1, .ref h2, .ref h3, .ref h4, .ref h5, .ref h6, .ref h7, .ref h8, .ref h9, .ref h10, .ref h11, .ref h12, .ref h13, .int 0, .int (-1), .int 0, .int 0])), (h5, .inr (1, [.ref h14, .ref h15, .ref h16, .int 0, .int 0]))]) [0, 1] (by decide) rfl
  have hFc := zfr hS hA
  refine va_calli (va_runV (As := [.int p0]) (rest := []) ⟨hx, hb, hml, hown, hts⟩ (c_X10_isBride l dC dI cI cJ h0 h1 h2 h3 h4 h5 h6 h7 h8 h9 h10 h11 h12 h13 h14 h15 h16 H.size p0) (cwV 1 hts (zgV qw625 qw627 qw12 qw98 qw628) rfl rfl rfl hd_X10_isBride ⟨Nat.le_of_ble_eq_true rfl, Nat.le_of_ble_eq_true rfl⟩) (zPV hPc hK hDc (va_recv hK hP (ci := 10) (q0 := 0) rfl rfl)) rfl rfl hl.1 rfl (lv_room (Nat.le_of_ble_eq_true rfl)) dX10_apart_2 ⟨Nat.le_of_ble_eq_true rfl, Nat.le_of_ble_eq_true rfl⟩) hS (fun q _ h => hFc q h) hFc (fun r_1 u t H locs ht hvm hw hB hz1 hk1 hS => ?_)
  have hP := zkeep hP hk1
  have hw : r_1 = 0 := hw
  subst hw
  refine lv_if_eq (tgt := 19) hx hb dX10_apart_5 (by decide) (fun _ => ?_) (fun c => absurd (by decide) c)
  refine lv_iconst (v := (-1)) hx hb dX10_apart_19 (by decide) ?_
  exact W.iret (v := ((-1))) hx hb hr (fun t ht hW => ⟨⟨(-1), (), rfl, rfl, trivial⟩, hS.F ht⟩) hS.2.2 dX10_apart_20
set_option maxHeartbeats 4000000 in
set_option maxRecDepth 100000 in
theorem c_X10_worth (l : Launch) (dC : Nat → ClassId) (dI : Nat → Nat → Nat) (cI cJ : ClassId) (h0 h1 h2 h3 h4 h5 h6 h7 h8 h9 h10 h11 h12 h13 h14 h15 h16 : Nat) (sz : Nat) (p0 : Int32) (p1 : Int32) : Met l yX10_worth (.code yX10_worth cX10_worth 3 (some .int) :: wA) ({ frames := 1, cells := 0, slots := 0, locals := 21 }) (zP (dC, dI) [(cI, .int), (cJ, .long)] [.ref h0, .int p0, .int p1] sz [(h0, .inr (10, [.ref h1, .ref h2, .ref h3, .ref h4, .ref h5, .ref h6, .ref h7, .ref h8, .ref h9, .ref h10, .ref h11, .ref h12, .ref h13, .int 0, .int (-1), .int 0, .int 0])), (h5, .inr (1, [.ref h14, .ref h15, .ref h16, .int 0, .int 0]))]) (va_Qi (fun (r : Int32) (_ : Unit) => r = (-1)) (fun (_ : Unit) (_ : State) => True) (va_A [] sz)) 0 0 (va_A [] sz) := by
  refine Met.ofW (cc := cX10_worth) (maxL := 3) (ret := (some .int)) (by decide) rfl ?_
  intro p e s m args below meth c s₁ B hml hv
  obtain ⟨rfl, hsz, hP, hK, hT⟩ := hv
  have hx := B.exec
  have hb := B.bytes
  have hr := B.returns
  have hts : ∀ w ∈ wA, w.before _ s = true := fun w h => atoms_spec (ws := .code yX10_worth cX10_worth 3 (some .int) :: wA) B.pre w (List.mem_cons_of_mem _ h)
  have hown : s.vm.findClass RX10 = some m.cls := findClass_of_methodNamed B.named
  have hlocks := B.notSynchronized
  subst hsz
  have hD : va_D (va_A [] s.heap.size) [] := zD0
  generalize hAe : va_A [] s.heap.size = A at hD ⊢
  have hA : ∀ q : Nat, s.heap.size ≤ q → A q := fun q h => by rw [← hAe]; exact Or.inr h
  have hl := lv_entry ([.ref h0, .int p0, .int p1]) (n := 3) (Nat.le_of_ble_eq_true rfl)
  rw [lg_entry_eq]
  generalize (lg_sl ([.ref h0, .int p0, .int p1]) ++ List.replicate (3 - (lg_sl ([.ref h0, .int p0, .int p1])).length) Slot.unset).toArray = ls at hl ⊢
  have hl : lv_has ls 3 [(0, .ref h0), (1, .int p0), (2, .int p1)] := hl
  refine zstart (fun H hH => ?_)
  rw [← hH] at hP
  have hS : va_S A s.heap H [] := by rw [hH]; exact va_S.rf
  refine lv_aload_n hx hb dX10_worth_0 rfl (lv_at hl 0 rfl) ?_
  refine lv_iload_n hx hb dX10_worth_1 rfl (lv_at hl 1 rfl) ?_
  have hPc := hP.sub (ws' := [(h0, .inr (10, [.ref h1, .ref h2, .ref h3, .ref h4, .ref h5, .ref h6, .ref h7, .ref h8, .ref h9, .ref h10, .ref h11, .ref h12, .ref h13, .int 0, .int (-1), .int 0, .int 0])), (h5, .inr (1, [.ref h14, .ref h15, .ref h16, .int 0, .int 0]))]) [0, 1] rfl
  have hDc := hT.sub (ws' := [(h0, .inr (10, [.ref h1, .ref h2, .ref h3, .ref h4, .ref h5, .ref h6, .ref h7, .ref h8, .ref h9, .ref h10, .ref h11, .ref h12, .ref h13, .int 0, .int (-1), .int 0, .int 0])), (h5, .inr (1, [.ref h14, .ref h15, .ref h16, .int 0, .int 0]))]) [0, 1] (by decide) rfl
  have hFc := zfr hS hA
  refine va_calli (va_runV (As := [.int p0]) (rest := []) ⟨hx, hb, hml, hown, hts⟩ (c_X10_isBride l dC dI cI cJ h0 h1 h2 h3 h4 h5 h6 h7 h8 h9 h10 h11 h12 h13 h14 h15 h16 H.size p0) (cwV 1 hts (zgV qw625 qw627 qw12 qw98 qw628) rfl rfl rfl hd_X10_isBride ⟨Nat.le_of_ble_eq_true rfl, Nat.le_of_ble_eq_true rfl⟩) (zPV hPc hK hDc (va_recv hK hP (ci := 10) (q0 := 0) rfl rfl)) rfl rfl hl.1 rfl (lv_room (Nat.le_of_ble_eq_true rfl)) dX10_worth_2 ⟨Nat.le_of_ble_eq_true rfl, Nat.le_of_ble_eq_true rfl⟩) hS (fun q _ h => hFc q h) hFc (fun r_1 u t H locs ht hvm hw hB hz1 hk1 hS => ?_)
  have hP := zkeep hP hk1
  have hw : r_1 = 0 := hw
  subst hw
  refine lv_if_eq (tgt := 27) hx hb dX10_worth_5 (by decide) (fun _ => ?_) (fun c => absurd (by decide) c)
  refine lv_iconst (v := (-1)) hx hb dX10_worth_27 (by decide) ?_
  exact W.iret (v := ((-1))) hx hb hr (fun t ht hW => ⟨⟨(-1), (), rfl, rfl, trivial⟩, hS.F ht⟩) hS.2.2 dX10_worth_28
set_option maxHeartbeats 4000000 in
set_option maxRecDepth 100000 in
theorem c_X10_chooses (l : Launch) (dC : Nat → ClassId) (dI : Nat → Nat → Nat) (cI cJ : ClassId) (h0 h1 h2 h3 h4 h5 h6 h7 h8 h9 h10 h11 h12 h13 h14 h15 h16 : Nat) (sz : Nat) (p0 : Int32) : Met l yX10_chooses (.code yX10_chooses cX10_chooses 2 (some .int) :: wA) ({ frames := 1, cells := 0, slots := 0, locals := 20 }) (zP (dC, dI) [(cI, .int), (cJ, .long)] [.ref h0, .int p0] sz [(h0, .inr (10, [.ref h1, .ref h2, .ref h3, .ref h4, .ref h5, .ref h6, .ref h7, .ref h8, .ref h9, .ref h10, .ref h11, .ref h12, .ref h13, .int 0, .int (-1), .int 0, .int 0])), (h5, .inr (1, [.ref h14, .ref h15, .ref h16, .int 0, .int 0]))]) (va_Qi (fun (r : Int32) (_ : Unit) => r = (-1)) (fun (_ : Unit) (_ : State) => True) (va_A [] sz)) 0 0 (va_A [] sz) := by
  refine Met.ofW (cc := cX10_chooses) (maxL := 2) (ret := (some .int)) (by decide) rfl ?_
  intro p e s m args below meth c s₁ B hml hv
  obtain ⟨rfl, hsz, hP, hK, hT⟩ := hv
  have hx := B.exec
  have hb := B.bytes
  have hr := B.returns
  have hts : ∀ w ∈ wA, w.before _ s = true := fun w h => atoms_spec (ws := .code yX10_chooses cX10_chooses 2 (some .int) :: wA) B.pre w (List.mem_cons_of_mem _ h)
  have hown : s.vm.findClass RX10 = some m.cls := findClass_of_methodNamed B.named
  have hlocks := B.notSynchronized
  subst hsz
  have hD : va_D (va_A [] s.heap.size) [] := zD0
  generalize hAe : va_A [] s.heap.size = A at hD ⊢
  have hA : ∀ q : Nat, s.heap.size ≤ q → A q := fun q h => by rw [← hAe]; exact Or.inr h
  have hl := lv_entry ([.ref h0, .int p0]) (n := 2) (Nat.le_of_ble_eq_true rfl)
  rw [lg_entry_eq]
  generalize (lg_sl ([.ref h0, .int p0]) ++ List.replicate (2 - (lg_sl ([.ref h0, .int p0])).length) Slot.unset).toArray = ls at hl ⊢
  have hl : lv_has ls 2 [(0, .ref h0), (1, .int p0)] := hl
  refine zstart (fun H hH => ?_)
  rw [← hH] at hP
  have hS : va_S A s.heap H [] := by rw [hH]; exact va_S.rf
  refine lv_aload_n hx hb dX10_chooses_0 rfl (lv_at hl 0 rfl) ?_
  have hPc := hP.sub (ws' := [(h0, .inr (10, [.ref h1, .ref h2, .ref h3, .ref h4, .ref h5, .ref h6, .ref h7, .ref h8, .ref h9, .ref h10, .ref h11, .ref h12, .ref h13, .int 0, .int (-1), .int 0, .int 0])), (h5, .inr (1, [.ref h14, .ref h15, .ref h16, .int 0, .int 0]))]) [0, 1] rfl
  have hDc := hT.sub (ws' := [(h0, .inr (10, [.ref h1, .ref h2, .ref h3, .ref h4, .ref h5, .ref h6, .ref h7, .ref h8, .ref h9, .ref h10, .ref h11, .ref h12, .ref h13, .int 0, .int (-1), .int 0, .int 0])), (h5, .inr (1, [.ref h14, .ref h15, .ref h16, .int 0, .int 0]))]) [0, 1] (by decide) rfl
  have hFc := zfr hS hA
  refine va_calli (va_runV (As := []) (rest := []) ⟨hx, hb, hml, hown, hts⟩ (c_X10_hasCourt l dC dI cI cJ h0 h1 h2 h3 h4 h5 h6 h7 h8 h9 h10 h11 h12 h13 h14 h15 h16 H.size) (cwV 0 hts (zgV qw584 qw586 qw10 qw98 qw587) rfl rfl rfl hd_X10_hasCourt ⟨Nat.le_of_ble_eq_true rfl, Nat.le_of_ble_eq_true rfl⟩) (zPV hPc hK hDc (va_recv hK hP (ci := 10) (q0 := 0) rfl rfl)) rfl rfl hl.1 rfl (lv_room (Nat.le_of_ble_eq_true rfl)) dX10_chooses_1 ⟨Nat.le_of_ble_eq_true rfl, Nat.le_of_ble_eq_true rfl⟩) hS (fun q _ h => hFc q h) hFc (fun r_1 u t H locs ht hvm hw hB hz1 hk1 hS => ?_)
  have hP := zkeep hP hk1
  have hw : r_1 = 0 := hw
  subst hw
  refine lv_if_eq (tgt := 16) hx hb dX10_chooses_4 (by decide) (fun _ => ?_) (fun c => absurd (by decide) c)
  refine lv_iconst (v := (-1)) hx hb dX10_chooses_16 (by decide) ?_
  exact W.iret (v := ((-1))) hx hb hr (fun t ht hW => ⟨⟨(-1), (), rfl, rfl, trivial⟩, hS.F ht⟩) hS.2.2 dX10_chooses_17
set_option maxHeartbeats 4000000 in
set_option maxRecDepth 100000 in
theorem c_X10_canPlay (l : Launch) (dC : Nat → ClassId) (dI : Nat → Nat → Nat) (cI cJ : ClassId) (h0 h1 h2 h3 h4 h5 h6 h7 h8 h9 h10 h11 h12 h13 h14 h15 h16 : Nat) (sz : Nat) (p0 : Int32) (p1 : Int32) (p2 : Int32) : Met l yX10_canPlay (.code yX10_canPlay cX10_canPlay 4 (some .boolean) :: wA) ({ frames := 1, cells := 0, slots := 0, locals := 21 }) (zP (dC, dI) [(cI, .int), (cJ, .long)] [.ref h0, .int p0, .int p1, .int p2] sz [(h0, .inr (10, [.ref h1, .ref h2, .ref h3, .ref h4, .ref h5, .ref h6, .ref h7, .ref h8, .ref h9, .ref h10, .ref h11, .ref h12, .ref h13, .int 0, .int (-1), .int 0, .int 0])), (h5, .inr (1, [.ref h14, .ref h15, .ref h16, .int 0, .int 0]))]) (va_Qi (fun (r : Int32) (_ : Unit) => r = 0) (fun (_ : Unit) (_ : State) => True) (va_A [] sz)) 0 0 (va_A [] sz) := by
  refine Met.ofW (cc := cX10_canPlay) (maxL := 4) (ret := (some .boolean)) (by decide) rfl ?_
  intro p e s m args below meth c s₁ B hml hv
  obtain ⟨rfl, hsz, hP, hK, hT⟩ := hv
  have hx := B.exec
  have hb := B.bytes
  have hr := B.returns
  have hts : ∀ w ∈ wA, w.before _ s = true := fun w h => atoms_spec (ws := .code yX10_canPlay cX10_canPlay 4 (some .boolean) :: wA) B.pre w (List.mem_cons_of_mem _ h)
  have hown : s.vm.findClass RX10 = some m.cls := findClass_of_methodNamed B.named
  have hlocks := B.notSynchronized
  subst hsz
  have hD : va_D (va_A [] s.heap.size) [] := zD0
  generalize hAe : va_A [] s.heap.size = A at hD ⊢
  have hA : ∀ q : Nat, s.heap.size ≤ q → A q := fun q h => by rw [← hAe]; exact Or.inr h
  have hl := lv_entry ([.ref h0, .int p0, .int p1, .int p2]) (n := 4) (Nat.le_of_ble_eq_true rfl)
  rw [lg_entry_eq]
  generalize (lg_sl ([.ref h0, .int p0, .int p1, .int p2]) ++ List.replicate (4 - (lg_sl ([.ref h0, .int p0, .int p1, .int p2])).length) Slot.unset).toArray = ls at hl ⊢
  have hl : lv_has ls 4 [(0, .ref h0), (1, .int p0), (2, .int p1), (3, .int p2)] := hl
  refine zstart (fun H hH => ?_)
  rw [← hH] at hP
  have hS : va_S A s.heap H [] := by rw [hH]; exact va_S.rf
  refine lv_aload_n hx hb dX10_canPlay_0 rfl (lv_at hl 0 rfl) ?_
  refine lv_iload_n hx hb dX10_canPlay_1 rfl (lv_at hl 1 rfl) ?_
  have hPc := hP.sub (ws' := [(h0, .inr (10, [.ref h1, .ref h2, .ref h3, .ref h4, .ref h5, .ref h6, .ref h7, .ref h8, .ref h9, .ref h10, .ref h11, .ref h12, .ref h13, .int 0, .int (-1), .int 0, .int 0])), (h5, .inr (1, [.ref h14, .ref h15, .ref h16, .int 0, .int 0]))]) [0, 1] rfl
  have hDc := hT.sub (ws' := [(h0, .inr (10, [.ref h1, .ref h2, .ref h3, .ref h4, .ref h5, .ref h6, .ref h7, .ref h8, .ref h9, .ref h10, .ref h11, .ref h12, .ref h13, .int 0, .int (-1), .int 0, .int 0])), (h5, .inr (1, [.ref h14, .ref h15, .ref h16, .int 0, .int 0]))]) [0, 1] (by decide) rfl
  have hFc := zfr hS hA
  refine va_calli (va_runV (As := [.int p0]) (rest := []) ⟨hx, hb, hml, hown, hts⟩ (c_X10_isBride l dC dI cI cJ h0 h1 h2 h3 h4 h5 h6 h7 h8 h9 h10 h11 h12 h13 h14 h15 h16 H.size p0) (cwV 1 hts (zgV qw625 qw627 qw12 qw98 qw628) rfl rfl rfl hd_X10_isBride ⟨Nat.le_of_ble_eq_true rfl, Nat.le_of_ble_eq_true rfl⟩) (zPV hPc hK hDc (va_recv hK hP (ci := 10) (q0 := 0) rfl rfl)) rfl rfl hl.1 rfl (lv_room (Nat.le_of_ble_eq_true rfl)) dX10_canPlay_2 ⟨Nat.le_of_ble_eq_true rfl, Nat.le_of_ble_eq_true rfl⟩) hS (fun q _ h => hFc q h) hFc (fun r_1 u t H locs ht hvm hw hB hz1 hk1 hS => ?_)
  have hP := zkeep hP hk1
  have hw : r_1 = 0 := hw
  subst hw
  refine lv_if_eq (tgt := 33) hx hb dX10_canPlay_5 (by decide) (fun _ => ?_) (fun c => absurd (by decide) c)
  refine lv_iconst (v := 0) hx hb dX10_canPlay_33 (by decide) ?_
  exact W.zret (v := 0) (ty := .boolean) hx hb hr rfl (fun t ht hW => ⟨⟨0, (), rfl, rfl, trivial⟩, hS.F ht⟩) hS.2.2 dX10_canPlay_34
set_option maxHeartbeats 4000000 in
set_option maxRecDepth 100000 in
theorem c_X10_game (l : Launch) (dC : Nat → ClassId) (dI : Nat → Nat → Nat) (cI cJ : ClassId) (h0 h1 h2 h3 h4 h5 h6 h7 h8 h9 h10 h11 h12 h13 h14 h15 h16 : Nat) (sz : Nat) (p0 : Int32) (p1 : Int32) (p2 : Int32) (p3 : Int32) (p4 : Int32) (p5 : Int32) : Met l yX10_game (.code yX10_game cX10_game 9 (some .int) :: wA) ({ frames := 2, cells := 0, slots := 0, locals := 44 }) (zP (dC, dI) [(cI, .int), (cJ, .long)] [.ref h0, .int p0, .int p1, .int p2, .int p3, .int p4, .int p5] sz [(h0, .inr (10, [.ref h1, .ref h2, .ref h3, .ref h4, .ref h5, .ref h6, .ref h7, .ref h8, .ref h9, .ref h10, .ref h11, .ref h12, .ref h13, .int 0, .int (-1), .int 0, .int 0])), (h5, .inr (1, [.ref h14, .ref h15, .ref h16, .int 0, .int 0]))]) (va_Qi (fun (r : Int32) (_ : Unit) => r = (-1000000)) (fun (_ : Unit) (_ : State) => True) (va_A [] sz)) 0 0 (va_A [] sz) := by
  refine Met.ofW (cc := cX10_game) (maxL := 9) (ret := (some .int)) (by decide) rfl ?_
  intro p e s m args below meth c s₁ B hml hv
  obtain ⟨rfl, hsz, hP, hK, hT⟩ := hv
  have hx := B.exec
  have hb := B.bytes
  have hr := B.returns
  have hts : ∀ w ∈ wA, w.before _ s = true := fun w h => atoms_spec (ws := .code yX10_game cX10_game 9 (some .int) :: wA) B.pre w (List.mem_cons_of_mem _ h)
  have hown : s.vm.findClass RX10 = some m.cls := findClass_of_methodNamed B.named
  have hlocks := B.notSynchronized
  subst hsz
  have hD : va_D (va_A [] s.heap.size) [] := zD0
  generalize hAe : va_A [] s.heap.size = A at hD ⊢
  have hA : ∀ q : Nat, s.heap.size ≤ q → A q := fun q h => by rw [← hAe]; exact Or.inr h
  have hl := lv_entry ([.ref h0, .int p0, .int p1, .int p2, .int p3, .int p4, .int p5]) (n := 9) (Nat.le_of_ble_eq_true rfl)
  rw [lg_entry_eq]
  generalize (lg_sl ([.ref h0, .int p0, .int p1, .int p2, .int p3, .int p4, .int p5]) ++ List.replicate (9 - (lg_sl ([.ref h0, .int p0, .int p1, .int p2, .int p3, .int p4, .int p5])).length) Slot.unset).toArray = ls at hl ⊢
  have hl : lv_has ls 9 [(0, .ref h0), (1, .int p0), (2, .int p1), (3, .int p2), (4, .int p3), (5, .int p4), (6, .int p5)] := hl
  refine zstart (fun H hH => ?_)
  rw [← hH] at hP
  have hS : va_S A s.heap H [] := by rw [hH]; exact va_S.rf
  refine lv_aload_n hx hb dX10_game_0 rfl (lv_at hl 0 rfl) ?_
  refine lv_iload_n hx hb dX10_game_1 rfl (lv_at hl 1 rfl) ?_
  refine lv_iload_n hx hb dX10_game_2 rfl (lv_at hl 2 rfl) ?_
  refine lv_iload_n hx hb dX10_game_3 rfl (lv_at hl 3 rfl) ?_
  have hPc := hP.sub (ws' := [(h0, .inr (10, [.ref h1, .ref h2, .ref h3, .ref h4, .ref h5, .ref h6, .ref h7, .ref h8, .ref h9, .ref h10, .ref h11, .ref h12, .ref h13, .int 0, .int (-1), .int 0, .int 0])), (h5, .inr (1, [.ref h14, .ref h15, .ref h16, .int 0, .int 0]))]) [0, 1] rfl
  have hDc := hT.sub (ws' := [(h0, .inr (10, [.ref h1, .ref h2, .ref h3, .ref h4, .ref h5, .ref h6, .ref h7, .ref h8, .ref h9, .ref h10, .ref h11, .ref h12, .ref h13, .int 0, .int (-1), .int 0, .int 0])), (h5, .inr (1, [.ref h14, .ref h15, .ref h16, .int 0, .int 0]))]) [0, 1] (by decide) rfl
  have hFc := zfr hS hA
  refine va_calli (va_runV (As := [.int p0, .int p1, .int p2]) (rest := []) ⟨hx, hb, hml, hown, hts⟩ (c_X10_canPlay l dC dI cI cJ h0 h1 h2 h3 h4 h5 h6 h7 h8 h9 h10 h11 h12 h13 h14 h15 h16 H.size p0 p1 p2) (cwV 3 hts (zgV qw931 qw933 qw25 qw98 qw934) rfl rfl rfl hd_X10_canPlay ⟨Nat.le_of_ble_eq_true rfl, Nat.le_of_ble_eq_true rfl⟩) (zPV hPc hK hDc (va_recv hK hP (ci := 10) (q0 := 0) rfl rfl)) rfl rfl hl.1 rfl (lv_room (Nat.le_of_ble_eq_true rfl)) dX10_game_4 ⟨Nat.le_of_ble_eq_true rfl, Nat.le_of_ble_eq_true rfl⟩) hS (fun q _ h => hFc q h) hFc (fun r_1 u t H locs ht hvm hw hB hz1 hk1 hS => ?_)
  have hP := zkeep hP hk1
  have hw : r_1 = 0 := hw
  subst hw
  refine lv_if_eq (tgt := 37) hx hb dX10_game_7 (by decide) (fun _ => ?_) (fun c => absurd (by decide) c)
  refine lv_ldcw (v := (-1000000)) hx hb hown (hts _ qw935) dX10_game_37 ?_
  exact W.iret (v := ((-1000000))) hx hb hr (fun t ht hW => ⟨⟨(-1000000), (), rfl, rfl, trivial⟩, hS.F ht⟩) hS.2.2 dX10_game_40
set_option maxHeartbeats 4000000 in
set_option maxRecDepth 100000 in
theorem c_X10_rests (l : Launch) (dC : Nat → ClassId) (dI : Nat → Nat → Nat) (cI cJ : ClassId) (h0 h1 h2 h3 h4 h5 h6 h7 h8 h9 h10 h11 h12 h13 h14 h15 h16 : Nat) (sz : Nat) (p0 : Int32) (p1 : Int32) (p2 : Int32) (p3 : Int32) : Met l yX10_rests (.code yX10_rests cX10_rests 8 (some .int) :: wA) ({ frames := 2, cells := 0, slots := 0, locals := 44 }) (zP (dC, dI) [(cI, .int), (cJ, .long)] [.ref h0, .int p0, .int p1, .int p2, .int p3] sz [(h0, .inr (10, [.ref h1, .ref h2, .ref h3, .ref h4, .ref h5, .ref h6, .ref h7, .ref h8, .ref h9, .ref h10, .ref h11, .ref h12, .ref h13, .int 0, .int (-1), .int 0, .int 0])), (h5, .inr (1, [.ref h14, .ref h15, .ref h16, .int 0, .int 0]))]) (va_Qi (fun (r : Int32) (_ : Unit) => r = (-1)) (fun (_ : Unit) (_ : State) => True) (va_A [] sz)) 0 0 (va_A [] sz) := by
  refine Met.ofW (cc := cX10_rests) (maxL := 8) (ret := (some .int)) (by decide) rfl ?_
  intro p e s m args below meth c s₁ B hml hv
  obtain ⟨rfl, hsz, hP, hK, hT⟩ := hv
  have hx := B.exec
  have hb := B.bytes
  have hr := B.returns
  have hts : ∀ w ∈ wA, w.before _ s = true := fun w h => atoms_spec (ws := .code yX10_rests cX10_rests 8 (some .int) :: wA) B.pre w (List.mem_cons_of_mem _ h)
  have hown : s.vm.findClass RX10 = some m.cls := findClass_of_methodNamed B.named
  have hlocks := B.notSynchronized
  subst hsz
  have hD : va_D (va_A [] s.heap.size) [] := zD0
  generalize hAe : va_A [] s.heap.size = A at hD ⊢
  have hA : ∀ q : Nat, s.heap.size ≤ q → A q := fun q h => by rw [← hAe]; exact Or.inr h
  have hl := lv_entry ([.ref h0, .int p0, .int p1, .int p2, .int p3]) (n := 8) (Nat.le_of_ble_eq_true rfl)
  rw [lg_entry_eq]
  generalize (lg_sl ([.ref h0, .int p0, .int p1, .int p2, .int p3]) ++ List.replicate (8 - (lg_sl ([.ref h0, .int p0, .int p1, .int p2, .int p3])).length) Slot.unset).toArray = ls at hl ⊢
  have hl : lv_has ls 8 [(0, .ref h0), (1, .int p0), (2, .int p1), (3, .int p2), (4, .int p3)] := hl
  refine zstart (fun H hH => ?_)
  rw [← hH] at hP
  have hS : va_S A s.heap H [] := by rw [hH]; exact va_S.rf
  refine lv_aload_n hx hb dX10_rests_0 rfl (lv_at hl 0 rfl) ?_
  refine lv_iload_n hx hb dX10_rests_1 rfl (lv_at hl 1 rfl) ?_
  refine lv_iload_n hx hb dX10_rests_2 rfl (lv_at hl 2 rfl) ?_
  refine lv_iload_n hx hb dX10_rests_3 rfl (lv_at hl 3 rfl) ?_
  have hPc := hP.sub (ws' := [(h0, .inr (10, [.ref h1, .ref h2, .ref h3, .ref h4, .ref h5, .ref h6, .ref h7, .ref h8, .ref h9, .ref h10, .ref h11, .ref h12, .ref h13, .int 0, .int (-1), .int 0, .int 0])), (h5, .inr (1, [.ref h14, .ref h15, .ref h16, .int 0, .int 0]))]) [0, 1] rfl
  have hDc := hT.sub (ws' := [(h0, .inr (10, [.ref h1, .ref h2, .ref h3, .ref h4, .ref h5, .ref h6, .ref h7, .ref h8, .ref h9, .ref h10, .ref h11, .ref h12, .ref h13, .int 0, .int (-1), .int 0, .int 0])), (h5, .inr (1, [.ref h14, .ref h15, .ref h16, .int 0, .int 0]))]) [0, 1] (by decide) rfl
  have hFc := zfr hS hA
  refine va_calli (va_runV (As := [.int p0, .int p1, .int p2]) (rest := []) ⟨hx, hb, hml, hown, hts⟩ (c_X10_canPlay l dC dI cI cJ h0 h1 h2 h3 h4 h5 h6 h7 h8 h9 h10 h11 h12 h13 h14 h15 h16 H.size p0 p1 p2) (cwV 3 hts (zgV qw931 qw933 qw25 qw98 qw934) rfl rfl rfl hd_X10_canPlay ⟨Nat.le_of_ble_eq_true rfl, Nat.le_of_ble_eq_true rfl⟩) (zPV hPc hK hDc (va_recv hK hP (ci := 10) (q0 := 0) rfl rfl)) rfl rfl hl.1 rfl (lv_room (Nat.le_of_ble_eq_true rfl)) dX10_rests_4 ⟨Nat.le_of_ble_eq_true rfl, Nat.le_of_ble_eq_true rfl⟩) hS (fun q _ h => hFc q h) hFc (fun r_1 u t H locs ht hvm hw hB hz1 hk1 hS => ?_)
  have hP := zkeep hP hk1
  have hw : r_1 = 0 := hw
  subst hw
  refine lv_if_eq (tgt := 16) hx hb dX10_rests_7 (by decide) (fun _ => ?_) (fun c => absurd (by decide) c)
  refine lv_iconst (v := (-1)) hx hb dX10_rests_16 (by decide) ?_
  exact W.iret (v := ((-1))) hx hb hr (fun t ht hW => ⟨⟨(-1), (), rfl, rfl, trivial⟩, hS.F ht⟩) hS.2.2 dX10_rests_17
set_option maxHeartbeats 4000000 in
set_option maxRecDepth 100000 in
theorem c_X10_truth (l : Launch) (dC : Nat → ClassId) (dI : Nat → Nat → Nat) (cI cJ : ClassId) (h0 h1 h2 h3 h4 h5 h6 h7 h8 h9 h10 h11 h12 h13 h14 h15 h16 : Nat) (sz : Nat) (p0 : Int32) (p1 : Int32) : Met l yX10_truth (.code yX10_truth cX10_truth 5 (some .int) :: wA) ({ frames := 1, cells := 0, slots := 0, locals := 21 }) (zP (dC, dI) [(cI, .int), (cJ, .long)] [.ref h0, .int p0, .int p1] sz [(h0, .inr (10, [.ref h1, .ref h2, .ref h3, .ref h4, .ref h5, .ref h6, .ref h7, .ref h8, .ref h9, .ref h10, .ref h11, .ref h12, .ref h13, .int 0, .int (-1), .int 0, .int 0])), (h5, .inr (1, [.ref h14, .ref h15, .ref h16, .int 0, .int 0]))]) (va_Qi (fun (r : Int32) (_ : Unit) => r = (-1)) (fun (_ : Unit) (_ : State) => True) (va_A [] sz)) 0 0 (va_A [] sz) := by
  refine Met.ofW (cc := cX10_truth) (maxL := 5) (ret := (some .int)) (by decide) rfl ?_
  intro p e s m args below meth c s₁ B hml hv
  obtain ⟨rfl, hsz, hP, hK, hT⟩ := hv
  have hx := B.exec
  have hb := B.bytes
  have hr := B.returns
  have hts : ∀ w ∈ wA, w.before _ s = true := fun w h => atoms_spec (ws := .code yX10_truth cX10_truth 5 (some .int) :: wA) B.pre w (List.mem_cons_of_mem _ h)
  have hown : s.vm.findClass RX10 = some m.cls := findClass_of_methodNamed B.named
  have hlocks := B.notSynchronized
  subst hsz
  have hD : va_D (va_A [] s.heap.size) [] := zD0
  generalize hAe : va_A [] s.heap.size = A at hD ⊢
  have hA : ∀ q : Nat, s.heap.size ≤ q → A q := fun q h => by rw [← hAe]; exact Or.inr h
  have hl := lv_entry ([.ref h0, .int p0, .int p1]) (n := 5) (Nat.le_of_ble_eq_true rfl)
  rw [lg_entry_eq]
  generalize (lg_sl ([.ref h0, .int p0, .int p1]) ++ List.replicate (5 - (lg_sl ([.ref h0, .int p0, .int p1])).length) Slot.unset).toArray = ls at hl ⊢
  have hl : lv_has ls 5 [(0, .ref h0), (1, .int p0), (2, .int p1)] := hl
  refine zstart (fun H hH => ?_)
  rw [← hH] at hP
  have hS : va_S A s.heap H [] := by rw [hH]; exact va_S.rf
  refine lv_aload_n hx hb dX10_truth_0 rfl (lv_at hl 0 rfl) ?_
  refine lv_iload_n hx hb dX10_truth_1 rfl (lv_at hl 1 rfl) ?_
  have hPc := hP.sub (ws' := [(h0, .inr (10, [.ref h1, .ref h2, .ref h3, .ref h4, .ref h5, .ref h6, .ref h7, .ref h8, .ref h9, .ref h10, .ref h11, .ref h12, .ref h13, .int 0, .int (-1), .int 0, .int 0])), (h5, .inr (1, [.ref h14, .ref h15, .ref h16, .int 0, .int 0]))]) [0, 1] rfl
  have hDc := hT.sub (ws' := [(h0, .inr (10, [.ref h1, .ref h2, .ref h3, .ref h4, .ref h5, .ref h6, .ref h7, .ref h8, .ref h9, .ref h10, .ref h11, .ref h12, .ref h13, .int 0, .int (-1), .int 0, .int 0])), (h5, .inr (1, [.ref h14, .ref h15, .ref h16, .int 0, .int 0]))]) [0, 1] (by decide) rfl
  have hFc := zfr hS hA
  refine va_calli (va_runV (As := [.int p0]) (rest := []) ⟨hx, hb, hml, hown, hts⟩ (c_X10_isPainter l dC dI cI cJ h0 h1 h2 h3 h4 h5 h6 h7 h8 h9 h10 h11 h12 h13 h14 h15 h16 H.size p0) (cwV 1 hts (zgV qw600 qw602 qw11 qw98 qw603) rfl rfl rfl hd_X10_isPainter ⟨Nat.le_of_ble_eq_true rfl, Nat.le_of_ble_eq_true rfl⟩) (zPV hPc hK hDc (va_recv hK hP (ci := 10) (q0 := 0) rfl rfl)) rfl rfl hl.1 rfl (lv_room (Nat.le_of_ble_eq_true rfl)) dX10_truth_2 ⟨Nat.le_of_ble_eq_true rfl, Nat.le_of_ble_eq_true rfl⟩) hS (fun q _ h => hFc q h) hFc (fun r_1 u t H locs ht hvm hw hB hz1 hk1 hS => ?_)
  have hP := zkeep hP hk1
  have hw : r_1 = 0 := hw
  subst hw
  refine lv_if_eq (tgt := 16) hx hb dX10_truth_5 (by decide) (fun _ => ?_) (fun c => absurd (by decide) c)
  refine lv_iconst (v := (-1)) hx hb dX10_truth_16 (by decide) ?_
  exact W.iret (v := ((-1))) hx hb hr (fun t ht hW => ⟨⟨(-1), (), rfl, rfl, trivial⟩, hS.F ht⟩) hS.2.2 dX10_truth_17
set_option maxHeartbeats 4000000 in
set_option maxRecDepth 100000 in
theorem c_X10_cheapest (l : Launch) (dC : Nat → ClassId) (dI : Nat → Nat → Nat) (cI cJ : ClassId) (h0 h1 h2 h3 h4 h5 h6 h7 h8 h9 h10 h11 h12 h13 h14 h15 h16 : Nat) (sz : Nat) (p0 : Int32) (p1 : Int32) : Met l yX10_cheapest (.code yX10_cheapest cX10_cheapest 7 (some .int) :: wA) ({ frames := 1, cells := 0, slots := 0, locals := 20 }) (zP (dC, dI) [(cI, .int), (cJ, .long)] [.ref h0, .int p0, .int p1] sz [(h0, .inr (10, [.ref h1, .ref h2, .ref h3, .ref h4, .ref h5, .ref h6, .ref h7, .ref h8, .ref h9, .ref h10, .ref h11, .ref h12, .ref h13, .int 0, .int (-1), .int 0, .int 0])), (h5, .inr (1, [.ref h14, .ref h15, .ref h16, .int 0, .int 0]))]) (va_Qi (fun (r : Int32) (_ : Unit) => r = (-1)) (fun (_ : Unit) (_ : State) => True) (va_A [] sz)) 0 0 (va_A [] sz) := by
  refine Met.ofW (cc := cX10_cheapest) (maxL := 7) (ret := (some .int)) (by decide) rfl ?_
  intro p e s m args below meth c s₁ B hml hv
  obtain ⟨rfl, hsz, hP, hK, hT⟩ := hv
  have hx := B.exec
  have hb := B.bytes
  have hr := B.returns
  have hts : ∀ w ∈ wA, w.before _ s = true := fun w h => atoms_spec (ws := .code yX10_cheapest cX10_cheapest 7 (some .int) :: wA) B.pre w (List.mem_cons_of_mem _ h)
  have hown : s.vm.findClass RX10 = some m.cls := findClass_of_methodNamed B.named
  have hlocks := B.notSynchronized
  subst hsz
  have hD : va_D (va_A [] s.heap.size) [] := zD0
  generalize hAe : va_A [] s.heap.size = A at hD ⊢
  have hA : ∀ q : Nat, s.heap.size ≤ q → A q := fun q h => by rw [← hAe]; exact Or.inr h
  have hl := lv_entry ([.ref h0, .int p0, .int p1]) (n := 7) (Nat.le_of_ble_eq_true rfl)
  rw [lg_entry_eq]
  generalize (lg_sl ([.ref h0, .int p0, .int p1]) ++ List.replicate (7 - (lg_sl ([.ref h0, .int p0, .int p1])).length) Slot.unset).toArray = ls at hl ⊢
  have hl : lv_has ls 7 [(0, .ref h0), (1, .int p0), (2, .int p1)] := hl
  refine zstart (fun H hH => ?_)
  rw [← hH] at hP
  have hS : va_S A s.heap H [] := by rw [hH]; exact va_S.rf
  refine lv_aload_n hx hb dX10_cheapest_0 rfl (lv_at hl 0 rfl) ?_
  have hPc := hP.sub (ws' := [(h0, .inr (10, [.ref h1, .ref h2, .ref h3, .ref h4, .ref h5, .ref h6, .ref h7, .ref h8, .ref h9, .ref h10, .ref h11, .ref h12, .ref h13, .int 0, .int (-1), .int 0, .int 0])), (h5, .inr (1, [.ref h14, .ref h15, .ref h16, .int 0, .int 0]))]) [0, 1] rfl
  have hDc := hT.sub (ws' := [(h0, .inr (10, [.ref h1, .ref h2, .ref h3, .ref h4, .ref h5, .ref h6, .ref h7, .ref h8, .ref h9, .ref h10, .ref h11, .ref h12, .ref h13, .int 0, .int (-1), .int 0, .int 0])), (h5, .inr (1, [.ref h14, .ref h15, .ref h16, .int 0, .int 0]))]) [0, 1] (by decide) rfl
  have hFc := zfr hS hA
  refine va_calli (va_runV (As := []) (rest := []) ⟨hx, hb, hml, hown, hts⟩ (c_X10_hasCourt l dC dI cI cJ h0 h1 h2 h3 h4 h5 h6 h7 h8 h9 h10 h11 h12 h13 h14 h15 h16 H.size) (cwV 0 hts (zgV qw584 qw586 qw10 qw98 qw587) rfl rfl rfl hd_X10_hasCourt ⟨Nat.le_of_ble_eq_true rfl, Nat.le_of_ble_eq_true rfl⟩) (zPV hPc hK hDc (va_recv hK hP (ci := 10) (q0 := 0) rfl rfl)) rfl rfl hl.1 rfl (lv_room (Nat.le_of_ble_eq_true rfl)) dX10_cheapest_1 ⟨Nat.le_of_ble_eq_true rfl, Nat.le_of_ble_eq_true rfl⟩) hS (fun q _ h => hFc q h) hFc (fun r_1 u t H locs ht hvm hw hB hz1 hk1 hS => ?_)
  have hP := zkeep hP hk1
  have hw : r_1 = 0 := hw
  subst hw
  refine lv_if_eq (tgt := 34) hx hb dX10_cheapest_4 (by decide) (fun _ => ?_) (fun c => absurd (by decide) c)
  refine lv_iconst (v := (-1)) hx hb dX10_cheapest_34 (by decide) ?_
  exact W.iret (v := ((-1))) hx hb hr (fun t ht hW => ⟨⟨(-1), (), rfl, rfl, trivial⟩, hS.F ht⟩) hS.2.2 dX10_cheapest_35
set_option maxHeartbeats 4000000 in
set_option maxRecDepth 100000 in
theorem c_X10_looks (l : Launch) (dC : Nat → ClassId) (dI : Nat → Nat → Nat) (cI cJ : ClassId) (h0 h1 h2 h3 h4 h5 h6 h7 h8 h9 h10 h11 h12 h13 h14 h15 h16 : Nat) (sz : Nat) (p0 : Int32) : Met l yX10_looks (.code yX10_looks cX10_looks 2 (some .int) :: wA) ({ frames := 1, cells := 0, slots := 0, locals := 21 }) (zP (dC, dI) [(cI, .int), (cJ, .long)] [.ref h0, .int p0] sz [(h0, .inr (10, [.ref h1, .ref h2, .ref h3, .ref h4, .ref h5, .ref h6, .ref h7, .ref h8, .ref h9, .ref h10, .ref h11, .ref h12, .ref h13, .int 0, .int (-1), .int 0, .int 0])), (h5, .inr (1, [.ref h14, .ref h15, .ref h16, .int 0, .int 0]))]) (va_Qi (fun (r : Int32) (_ : Unit) => r = (-1000000)) (fun (_ : Unit) (_ : State) => True) (va_A [] sz)) 0 0 (va_A [] sz) := by
  refine Met.ofW (cc := cX10_looks) (maxL := 2) (ret := (some .int)) (by decide) rfl ?_
  intro p e s m args below meth c s₁ B hml hv
  obtain ⟨rfl, hsz, hP, hK, hT⟩ := hv
  have hx := B.exec
  have hb := B.bytes
  have hr := B.returns
  have hts : ∀ w ∈ wA, w.before _ s = true := fun w h => atoms_spec (ws := .code yX10_looks cX10_looks 2 (some .int) :: wA) B.pre w (List.mem_cons_of_mem _ h)
  have hown : s.vm.findClass RX10 = some m.cls := findClass_of_methodNamed B.named
  have hlocks := B.notSynchronized
  subst hsz
  have hD : va_D (va_A [] s.heap.size) [] := zD0
  generalize hAe : va_A [] s.heap.size = A at hD ⊢
  have hA : ∀ q : Nat, s.heap.size ≤ q → A q := fun q h => by rw [← hAe]; exact Or.inr h
  have hl := lv_entry ([.ref h0, .int p0]) (n := 2) (Nat.le_of_ble_eq_true rfl)
  rw [lg_entry_eq]
  generalize (lg_sl ([.ref h0, .int p0]) ++ List.replicate (2 - (lg_sl ([.ref h0, .int p0])).length) Slot.unset).toArray = ls at hl ⊢
  have hl : lv_has ls 2 [(0, .ref h0), (1, .int p0)] := hl
  refine zstart (fun H hH => ?_)
  rw [← hH] at hP
  have hS : va_S A s.heap H [] := by rw [hH]; exact va_S.rf
  refine lv_aload_n hx hb dX10_looks_0 rfl (lv_at hl 0 rfl) ?_
  refine lv_iload_n hx hb dX10_looks_1 rfl (lv_at hl 1 rfl) ?_
  have hPc := hP.sub (ws' := [(h0, .inr (10, [.ref h1, .ref h2, .ref h3, .ref h4, .ref h5, .ref h6, .ref h7, .ref h8, .ref h9, .ref h10, .ref h11, .ref h12, .ref h13, .int 0, .int (-1), .int 0, .int 0])), (h5, .inr (1, [.ref h14, .ref h15, .ref h16, .int 0, .int 0]))]) [0, 1] rfl
  have hDc := hT.sub (ws' := [(h0, .inr (10, [.ref h1, .ref h2, .ref h3, .ref h4, .ref h5, .ref h6, .ref h7, .ref h8, .ref h9, .ref h10, .ref h11, .ref h12, .ref h13, .int 0, .int (-1), .int 0, .int 0])), (h5, .inr (1, [.ref h14, .ref h15, .ref h16, .int 0, .int 0]))]) [0, 1] (by decide) rfl
  have hFc := zfr hS hA
  refine va_calli (va_runV (As := [.int p0]) (rest := []) ⟨hx, hb, hml, hown, hts⟩ (c_X10_isBride l dC dI cI cJ h0 h1 h2 h3 h4 h5 h6 h7 h8 h9 h10 h11 h12 h13 h14 h15 h16 H.size p0) (cwV 1 hts (zgV qw625 qw627 qw12 qw98 qw628) rfl rfl rfl hd_X10_isBride ⟨Nat.le_of_ble_eq_true rfl, Nat.le_of_ble_eq_true rfl⟩) (zPV hPc hK hDc (va_recv hK hP (ci := 10) (q0 := 0) rfl rfl)) rfl rfl hl.1 rfl (lv_room (Nat.le_of_ble_eq_true rfl)) dX10_looks_2 ⟨Nat.le_of_ble_eq_true rfl, Nat.le_of_ble_eq_true rfl⟩) hS (fun q _ h => hFc q h) hFc (fun r_1 u t H locs ht hvm hw hB hz1 hk1 hS => ?_)
  have hP := zkeep hP hk1
  have hw : r_1 = 0 := hw
  subst hw
  refine lv_if_eq (tgt := 19) hx hb dX10_looks_5 (by decide) (fun _ => ?_) (fun c => absurd (by decide) c)
  refine lv_ldcw (v := (-1000000)) hx hb hown (hts _ qw935) dX10_looks_19 ?_
  exact W.iret (v := ((-1000000))) hx hb hr (fun t ht hW => ⟨⟨(-1000000), (), rfl, rfl, trivial⟩, hS.F ht⟩) hS.2.2 dX10_looks_22
set_option maxHeartbeats 4000000 in
set_option maxRecDepth 100000 in
theorem c_X10_whose (l : Launch) (dC : Nat → ClassId) (dI : Nat → Nat → Nat) (cI cJ : ClassId) (h0 h1 h2 h3 h4 h5 h6 h7 h8 h9 h10 h11 h12 h13 h14 h15 h16 : Nat) (sz : Nat) (p0 : Int32) (p1 : Int32) : Met l yX10_whose (.code yX10_whose cX10_whose 5 (some .int) :: wA) ({ frames := 1, cells := 0, slots := 0, locals := 21 }) (zP (dC, dI) [(cI, .int), (cJ, .long)] [.ref h0, .int p0, .int p1] sz [(h0, .inr (10, [.ref h1, .ref h2, .ref h3, .ref h4, .ref h5, .ref h6, .ref h7, .ref h8, .ref h9, .ref h10, .ref h11, .ref h12, .ref h13, .int 0, .int (-1), .int 0, .int 0])), (h5, .inr (1, [.ref h14, .ref h15, .ref h16, .int 0, .int 0]))]) (va_Qi (fun (r : Int32) (_ : Unit) => r = (-1)) (fun (_ : Unit) (_ : State) => True) (va_A [] sz)) 0 0 (va_A [] sz) := by
  refine Met.ofW (cc := cX10_whose) (maxL := 5) (ret := (some .int)) (by decide) rfl ?_
  intro p e s m args below meth c s₁ B hml hv
  obtain ⟨rfl, hsz, hP, hK, hT⟩ := hv
  have hx := B.exec
  have hb := B.bytes
  have hr := B.returns
  have hts : ∀ w ∈ wA, w.before _ s = true := fun w h => atoms_spec (ws := .code yX10_whose cX10_whose 5 (some .int) :: wA) B.pre w (List.mem_cons_of_mem _ h)
  have hown : s.vm.findClass RX10 = some m.cls := findClass_of_methodNamed B.named
  have hlocks := B.notSynchronized
  subst hsz
  have hD : va_D (va_A [] s.heap.size) [] := zD0
  generalize hAe : va_A [] s.heap.size = A at hD ⊢
  have hA : ∀ q : Nat, s.heap.size ≤ q → A q := fun q h => by rw [← hAe]; exact Or.inr h
  have hl := lv_entry ([.ref h0, .int p0, .int p1]) (n := 5) (Nat.le_of_ble_eq_true rfl)
  rw [lg_entry_eq]
  generalize (lg_sl ([.ref h0, .int p0, .int p1]) ++ List.replicate (5 - (lg_sl ([.ref h0, .int p0, .int p1])).length) Slot.unset).toArray = ls at hl ⊢
  have hl : lv_has ls 5 [(0, .ref h0), (1, .int p0), (2, .int p1)] := hl
  refine zstart (fun H hH => ?_)
  rw [← hH] at hP
  have hS : va_S A s.heap H [] := by rw [hH]; exact va_S.rf
  refine lv_aload_n hx hb dX10_whose_0 rfl (lv_at hl 0 rfl) ?_
  refine lv_iload_n hx hb dX10_whose_1 rfl (lv_at hl 1 rfl) ?_
  have hPc := hP.sub (ws' := [(h0, .inr (10, [.ref h1, .ref h2, .ref h3, .ref h4, .ref h5, .ref h6, .ref h7, .ref h8, .ref h9, .ref h10, .ref h11, .ref h12, .ref h13, .int 0, .int (-1), .int 0, .int 0])), (h5, .inr (1, [.ref h14, .ref h15, .ref h16, .int 0, .int 0]))]) [0, 1] rfl
  have hDc := hT.sub (ws' := [(h0, .inr (10, [.ref h1, .ref h2, .ref h3, .ref h4, .ref h5, .ref h6, .ref h7, .ref h8, .ref h9, .ref h10, .ref h11, .ref h12, .ref h13, .int 0, .int (-1), .int 0, .int 0])), (h5, .inr (1, [.ref h14, .ref h15, .ref h16, .int 0, .int 0]))]) [0, 1] (by decide) rfl
  have hFc := zfr hS hA
  refine va_calli (va_runV (As := [.int p0]) (rest := []) ⟨hx, hb, hml, hown, hts⟩ (c_X10_isPainter l dC dI cI cJ h0 h1 h2 h3 h4 h5 h6 h7 h8 h9 h10 h11 h12 h13 h14 h15 h16 H.size p0) (cwV 1 hts (zgV qw600 qw602 qw11 qw98 qw603) rfl rfl rfl hd_X10_isPainter ⟨Nat.le_of_ble_eq_true rfl, Nat.le_of_ble_eq_true rfl⟩) (zPV hPc hK hDc (va_recv hK hP (ci := 10) (q0 := 0) rfl rfl)) rfl rfl hl.1 rfl (lv_room (Nat.le_of_ble_eq_true rfl)) dX10_whose_2 ⟨Nat.le_of_ble_eq_true rfl, Nat.le_of_ble_eq_true rfl⟩) hS (fun q _ h => hFc q h) hFc (fun r_1 u t H locs ht hvm hw hB hz1 hk1 hS => ?_)
  have hP := zkeep hP hk1
  have hw : r_1 = 0 := hw
  subst hw
  refine lv_if_eq (tgt := 15) hx hb dX10_whose_5 (by decide) (fun _ => ?_) (fun c => absurd (by decide) c)
  refine lv_iconst (v := (-1)) hx hb dX10_whose_15 (by decide) ?_
  exact W.iret (v := ((-1))) hx hb hr (fun t ht hW => ⟨⟨(-1), (), rfl, rfl, trivial⟩, hS.F ht⟩) hS.2.2 dX10_whose_16
set_option maxHeartbeats 4000000 in
set_option maxRecDepth 100000 in
theorem c_X10_heads (l : Launch) (dC : Nat → ClassId) (dI : Nat → Nat → Nat) (cI cJ : ClassId) (h0 h1 h2 h3 h4 h5 h6 h7 h8 h9 h10 h11 h12 h13 h14 h15 h16 : Nat) (sz : Nat) (p0 : Int32) (p1 : Int32) (p2 : Int32) : Met l yX10_heads (.code yX10_heads cX10_heads 8 (some .int) :: wA) ({ frames := 1, cells := 0, slots := 0, locals := 21 }) (zP (dC, dI) [(cI, .int), (cJ, .long)] [.ref h0, .int p0, .int p1, .int p2] sz [(h0, .inr (10, [.ref h1, .ref h2, .ref h3, .ref h4, .ref h5, .ref h6, .ref h7, .ref h8, .ref h9, .ref h10, .ref h11, .ref h12, .ref h13, .int 0, .int (-1), .int 0, .int 0])), (h5, .inr (1, [.ref h14, .ref h15, .ref h16, .int 0, .int 0]))]) (va_Qi (fun (r : Int32) (_ : Unit) => r = (-1)) (fun (_ : Unit) (_ : State) => True) (va_A [] sz)) 0 0 (va_A [] sz) := by
  refine Met.ofW (cc := cX10_heads) (maxL := 8) (ret := (some .int)) (by decide) rfl ?_
  intro p e s m args below meth c s₁ B hml hv
  obtain ⟨rfl, hsz, hP, hK, hT⟩ := hv
  have hx := B.exec
  have hb := B.bytes
  have hr := B.returns
  have hts : ∀ w ∈ wA, w.before _ s = true := fun w h => atoms_spec (ws := .code yX10_heads cX10_heads 8 (some .int) :: wA) B.pre w (List.mem_cons_of_mem _ h)
  have hown : s.vm.findClass RX10 = some m.cls := findClass_of_methodNamed B.named
  have hlocks := B.notSynchronized
  subst hsz
  have hD : va_D (va_A [] s.heap.size) [] := zD0
  generalize hAe : va_A [] s.heap.size = A at hD ⊢
  have hA : ∀ q : Nat, s.heap.size ≤ q → A q := fun q h => by rw [← hAe]; exact Or.inr h
  have hl := lv_entry ([.ref h0, .int p0, .int p1, .int p2]) (n := 8) (Nat.le_of_ble_eq_true rfl)
  rw [lg_entry_eq]
  generalize (lg_sl ([.ref h0, .int p0, .int p1, .int p2]) ++ List.replicate (8 - (lg_sl ([.ref h0, .int p0, .int p1, .int p2])).length) Slot.unset).toArray = ls at hl ⊢
  have hl : lv_has ls 8 [(0, .ref h0), (1, .int p0), (2, .int p1), (3, .int p2)] := hl
  refine zstart (fun H hH => ?_)
  rw [← hH] at hP
  have hS : va_S A s.heap H [] := by rw [hH]; exact va_S.rf
  refine lv_aload_n hx hb dX10_heads_0 rfl (lv_at hl 0 rfl) ?_
  refine lv_iload_n hx hb dX10_heads_1 rfl (lv_at hl 1 rfl) ?_
  have hPc := hP.sub (ws' := [(h0, .inr (10, [.ref h1, .ref h2, .ref h3, .ref h4, .ref h5, .ref h6, .ref h7, .ref h8, .ref h9, .ref h10, .ref h11, .ref h12, .ref h13, .int 0, .int (-1), .int 0, .int 0])), (h5, .inr (1, [.ref h14, .ref h15, .ref h16, .int 0, .int 0]))]) [0, 1] rfl
  have hDc := hT.sub (ws' := [(h0, .inr (10, [.ref h1, .ref h2, .ref h3, .ref h4, .ref h5, .ref h6, .ref h7, .ref h8, .ref h9, .ref h10, .ref h11, .ref h12, .ref h13, .int 0, .int (-1), .int 0, .int 0])), (h5, .inr (1, [.ref h14, .ref h15, .ref h16, .int 0, .int 0]))]) [0, 1] (by decide) rfl
  have hFc := zfr hS hA
  refine va_calli (va_runV (As := [.int p0]) (rest := []) ⟨hx, hb, hml, hown, hts⟩ (c_X10_isPainter l dC dI cI cJ h0 h1 h2 h3 h4 h5 h6 h7 h8 h9 h10 h11 h12 h13 h14 h15 h16 H.size p0) (cwV 1 hts (zgV qw600 qw602 qw11 qw98 qw603) rfl rfl rfl hd_X10_isPainter ⟨Nat.le_of_ble_eq_true rfl, Nat.le_of_ble_eq_true rfl⟩) (zPV hPc hK hDc (va_recv hK hP (ci := 10) (q0 := 0) rfl rfl)) rfl rfl hl.1 rfl (lv_room (Nat.le_of_ble_eq_true rfl)) dX10_heads_2 ⟨Nat.le_of_ble_eq_true rfl, Nat.le_of_ble_eq_true rfl⟩) hS (fun q _ h => hFc q h) hFc (fun r_1 u t H locs ht hvm hw hB hz1 hk1 hS => ?_)
  have hP := zkeep hP hk1
  have hw : r_1 = 0 := hw
  subst hw
  refine lv_if_eq (tgt := 28) hx hb dX10_heads_5 (by decide) (fun _ => ?_) (fun c => absurd (by decide) c)
  refine lv_iconst (v := (-1)) hx hb dX10_heads_28 (by decide) ?_
  exact W.iret (v := ((-1))) hx hb hr (fun t ht hW => ⟨⟨(-1), (), rfl, rfl, trivial⟩, hS.F ht⟩) hS.2.2 dX10_heads_29
set_option maxHeartbeats 4000000 in
set_option maxRecDepth 100000 in
theorem c_X10_matched (l : Launch) (dC : Nat → ClassId) (dI : Nat → Nat → Nat) (cI cJ : ClassId) (h0 h1 h2 h3 h4 h5 h6 h7 h8 h9 h10 h11 h12 h13 h14 h15 h16 : Nat) (sz : Nat) (p0 : Int32) : Met l yX10_matched (.code yX10_matched cX10_matched 4 (some .int) :: wA) ({ frames := 1, cells := 0, slots := 0, locals := 21 }) (zP (dC, dI) [(cI, .int), (cJ, .long)] [.ref h0, .int p0] sz [(h0, .inr (10, [.ref h1, .ref h2, .ref h3, .ref h4, .ref h5, .ref h6, .ref h7, .ref h8, .ref h9, .ref h10, .ref h11, .ref h12, .ref h13, .int 0, .int (-1), .int 0, .int 0])), (h5, .inr (1, [.ref h14, .ref h15, .ref h16, .int 0, .int 0]))]) (va_Qi (fun (r : Int32) (_ : Unit) => r = (-1)) (fun (_ : Unit) (_ : State) => True) (va_A [] sz)) 0 0 (va_A [] sz) := by
  refine Met.ofW (cc := cX10_matched) (maxL := 4) (ret := (some .int)) (by decide) rfl ?_
  intro p e s m args below meth c s₁ B hml hv
  obtain ⟨rfl, hsz, hP, hK, hT⟩ := hv
  have hx := B.exec
  have hb := B.bytes
  have hr := B.returns
  have hts : ∀ w ∈ wA, w.before _ s = true := fun w h => atoms_spec (ws := .code yX10_matched cX10_matched 4 (some .int) :: wA) B.pre w (List.mem_cons_of_mem _ h)
  have hown : s.vm.findClass RX10 = some m.cls := findClass_of_methodNamed B.named
  have hlocks := B.notSynchronized
  subst hsz
  have hD : va_D (va_A [] s.heap.size) [] := zD0
  generalize hAe : va_A [] s.heap.size = A at hD ⊢
  have hA : ∀ q : Nat, s.heap.size ≤ q → A q := fun q h => by rw [← hAe]; exact Or.inr h
  have hl := lv_entry ([.ref h0, .int p0]) (n := 4) (Nat.le_of_ble_eq_true rfl)
  rw [lg_entry_eq]
  generalize (lg_sl ([.ref h0, .int p0]) ++ List.replicate (4 - (lg_sl ([.ref h0, .int p0])).length) Slot.unset).toArray = ls at hl ⊢
  have hl : lv_has ls 4 [(0, .ref h0), (1, .int p0)] := hl
  refine zstart (fun H hH => ?_)
  rw [← hH] at hP
  have hS : va_S A s.heap H [] := by rw [hH]; exact va_S.rf
  refine lv_aload_n hx hb dX10_matched_0 rfl (lv_at hl 0 rfl) ?_
  refine lv_iload_n hx hb dX10_matched_1 rfl (lv_at hl 1 rfl) ?_
  have hPc := hP.sub (ws' := [(h0, .inr (10, [.ref h1, .ref h2, .ref h3, .ref h4, .ref h5, .ref h6, .ref h7, .ref h8, .ref h9, .ref h10, .ref h11, .ref h12, .ref h13, .int 0, .int (-1), .int 0, .int 0])), (h5, .inr (1, [.ref h14, .ref h15, .ref h16, .int 0, .int 0]))]) [0, 1] rfl
  have hDc := hT.sub (ws' := [(h0, .inr (10, [.ref h1, .ref h2, .ref h3, .ref h4, .ref h5, .ref h6, .ref h7, .ref h8, .ref h9, .ref h10, .ref h11, .ref h12, .ref h13, .int 0, .int (-1), .int 0, .int 0])), (h5, .inr (1, [.ref h14, .ref h15, .ref h16, .int 0, .int 0]))]) [0, 1] (by decide) rfl
  have hFc := zfr hS hA
  refine va_calli (va_runV (As := [.int p0]) (rest := []) ⟨hx, hb, hml, hown, hts⟩ (c_X10_isBride l dC dI cI cJ h0 h1 h2 h3 h4 h5 h6 h7 h8 h9 h10 h11 h12 h13 h14 h15 h16 H.size p0) (cwV 1 hts (zgV qw625 qw627 qw12 qw98 qw628) rfl rfl rfl hd_X10_isBride ⟨Nat.le_of_ble_eq_true rfl, Nat.le_of_ble_eq_true rfl⟩) (zPV hPc hK hDc (va_recv hK hP (ci := 10) (q0 := 0) rfl rfl)) rfl rfl hl.1 rfl (lv_room (Nat.le_of_ble_eq_true rfl)) dX10_matched_2 ⟨Nat.le_of_ble_eq_true rfl, Nat.le_of_ble_eq_true rfl⟩) hS (fun q _ h => hFc q h) hFc (fun r_1 u t H locs ht hvm hw hB hz1 hk1 hS => ?_)
  have hP := zkeep hP hk1
  have hw : r_1 = 0 := hw
  subst hw
  refine lv_if_ne (tgt := 10) hx hb dX10_matched_5 (by decide) (fun c => absurd (by decide) c) (fun _ => ?_)
  refine lv_iconst (v := (-1)) hx hb dX10_matched_8 (by decide) ?_
  exact W.iret (v := ((-1))) hx hb hr (fun t ht hW => ⟨⟨(-1), (), rfl, rfl, trivial⟩, hS.F ht⟩) hS.2.2 dX10_matched_9
set_option maxHeartbeats 4000000 in
set_option maxRecDepth 100000 in
theorem c_X10_most (l : Launch) (dC : Nat → ClassId) (dI : Nat → Nat → Nat) (cI cJ : ClassId) (h0 h1 h2 h3 h4 h5 h6 h7 h8 h9 h10 h11 h12 h13 h14 h15 h16 : Nat) (sz : Nat) (p0 : Int32) : Met l yX10_most (.code yX10_most cX10_most 2 (some .int) :: wA) ({ frames := 1, cells := 0, slots := 0, locals := 20 }) (zP (dC, dI) [(cI, .int), (cJ, .long)] [.ref h0, .int p0] sz [(h0, .inr (10, [.ref h1, .ref h2, .ref h3, .ref h4, .ref h5, .ref h6, .ref h7, .ref h8, .ref h9, .ref h10, .ref h11, .ref h12, .ref h13, .int 0, .int (-1), .int 0, .int 0])), (h5, .inr (1, [.ref h14, .ref h15, .ref h16, .int 0, .int 0]))]) (va_Qi (fun (r : Int32) (_ : Unit) => r = (-1)) (fun (_ : Unit) (_ : State) => True) (va_A [] sz)) 0 0 (va_A [] sz) := by
  refine Met.ofW (cc := cX10_most) (maxL := 2) (ret := (some .int)) (by decide) rfl ?_
  intro p e s m args below meth c s₁ B hml hv
  obtain ⟨rfl, hsz, hP, hK, hT⟩ := hv
  have hx := B.exec
  have hb := B.bytes
  have hr := B.returns
  have hts : ∀ w ∈ wA, w.before _ s = true := fun w h => atoms_spec (ws := .code yX10_most cX10_most 2 (some .int) :: wA) B.pre w (List.mem_cons_of_mem _ h)
  have hown : s.vm.findClass RX10 = some m.cls := findClass_of_methodNamed B.named
  have hlocks := B.notSynchronized
  subst hsz
  have hD : va_D (va_A [] s.heap.size) [] := zD0
  generalize hAe : va_A [] s.heap.size = A at hD ⊢
  have hA : ∀ q : Nat, s.heap.size ≤ q → A q := fun q h => by rw [← hAe]; exact Or.inr h
  have hl := lv_entry ([.ref h0, .int p0]) (n := 2) (Nat.le_of_ble_eq_true rfl)
  rw [lg_entry_eq]
  generalize (lg_sl ([.ref h0, .int p0]) ++ List.replicate (2 - (lg_sl ([.ref h0, .int p0])).length) Slot.unset).toArray = ls at hl ⊢
  have hl : lv_has ls 2 [(0, .ref h0), (1, .int p0)] := hl
  refine zstart (fun H hH => ?_)
  rw [← hH] at hP
  have hS : va_S A s.heap H [] := by rw [hH]; exact va_S.rf
  refine lv_aload_n hx hb dX10_most_0 rfl (lv_at hl 0 rfl) ?_
  have hPc := hP.sub (ws' := [(h0, .inr (10, [.ref h1, .ref h2, .ref h3, .ref h4, .ref h5, .ref h6, .ref h7, .ref h8, .ref h9, .ref h10, .ref h11, .ref h12, .ref h13, .int 0, .int (-1), .int 0, .int 0])), (h5, .inr (1, [.ref h14, .ref h15, .ref h16, .int 0, .int 0]))]) [0, 1] rfl
  have hDc := hT.sub (ws' := [(h0, .inr (10, [.ref h1, .ref h2, .ref h3, .ref h4, .ref h5, .ref h6, .ref h7, .ref h8, .ref h9, .ref h10, .ref h11, .ref h12, .ref h13, .int 0, .int (-1), .int 0, .int 0])), (h5, .inr (1, [.ref h14, .ref h15, .ref h16, .int 0, .int 0]))]) [0, 1] (by decide) rfl
  have hFc := zfr hS hA
  refine va_calli (va_runV (As := []) (rest := []) ⟨hx, hb, hml, hown, hts⟩ (c_X10_hasCourt l dC dI cI cJ h0 h1 h2 h3 h4 h5 h6 h7 h8 h9 h10 h11 h12 h13 h14 h15 h16 H.size) (cwV 0 hts (zgV qw584 qw586 qw10 qw98 qw587) rfl rfl rfl hd_X10_hasCourt ⟨Nat.le_of_ble_eq_true rfl, Nat.le_of_ble_eq_true rfl⟩) (zPV hPc hK hDc (va_recv hK hP (ci := 10) (q0 := 0) rfl rfl)) rfl rfl hl.1 rfl (lv_room (Nat.le_of_ble_eq_true rfl)) dX10_most_1 ⟨Nat.le_of_ble_eq_true rfl, Nat.le_of_ble_eq_true rfl⟩) hS (fun q _ h => hFc q h) hFc (fun r_1 u t H locs ht hvm hw hB hz1 hk1 hS => ?_)
  have hP := zkeep hP hk1
  have hw : r_1 = 0 := hw
  subst hw
  refine lv_if_ne (tgt := 9) hx hb dX10_most_4 (by decide) (fun c => absurd (by decide) c) (fun _ => ?_)
  refine lv_iconst (v := (-1)) hx hb dX10_most_7 (by decide) ?_
  exact W.iret (v := ((-1))) hx hb hr (fun t ht hW => ⟨⟨(-1), (), rfl, rfl, trivial⟩, hS.F ht⟩) hS.2.2 dX10_most_8
set_option maxHeartbeats 4000000 in
set_option maxRecDepth 100000 in
theorem c_X10_seen (l : Launch) (dC : Nat → ClassId) (dI : Nat → Nat → Nat) (cI cJ : ClassId) (h0 h1 h2 h3 h4 h5 h6 h7 h8 h9 h10 h11 h12 h13 h14 h15 h16 : Nat) (sz : Nat) (p0 : Int32) : Met l yX10_seen (.code yX10_seen cX10_seen 2 (some .int) :: wA) ({ frames := 1, cells := 0, slots := 0, locals := 21 }) (zP (dC, dI) [(cI, .int), (cJ, .long)] [.ref h0, .int p0] sz [(h0, .inr (10, [.ref h1, .ref h2, .ref h3, .ref h4, .ref h5, .ref h6, .ref h7, .ref h8, .ref h9, .ref h10, .ref h11, .ref h12, .ref h13, .int 0, .int (-1), .int 0, .int 0])), (h5, .inr (1, [.ref h14, .ref h15, .ref h16, .int 0, .int 0]))]) (va_Qi (fun (r : Int32) (_ : Unit) => r = (-1)) (fun (_ : Unit) (_ : State) => True) (va_A [] sz)) 0 0 (va_A [] sz) := by
  refine Met.ofW (cc := cX10_seen) (maxL := 2) (ret := (some .int)) (by decide) rfl ?_
  intro p e s m args below meth c s₁ B hml hv
  obtain ⟨rfl, hsz, hP, hK, hT⟩ := hv
  have hx := B.exec
  have hb := B.bytes
  have hr := B.returns
  have hts : ∀ w ∈ wA, w.before _ s = true := fun w h => atoms_spec (ws := .code yX10_seen cX10_seen 2 (some .int) :: wA) B.pre w (List.mem_cons_of_mem _ h)
  have hown : s.vm.findClass RX10 = some m.cls := findClass_of_methodNamed B.named
  have hlocks := B.notSynchronized
  subst hsz
  have hD : va_D (va_A [] s.heap.size) [] := zD0
  generalize hAe : va_A [] s.heap.size = A at hD ⊢
  have hA : ∀ q : Nat, s.heap.size ≤ q → A q := fun q h => by rw [← hAe]; exact Or.inr h
  have hl := lv_entry ([.ref h0, .int p0]) (n := 2) (Nat.le_of_ble_eq_true rfl)
  rw [lg_entry_eq]
  generalize (lg_sl ([.ref h0, .int p0]) ++ List.replicate (2 - (lg_sl ([.ref h0, .int p0])).length) Slot.unset).toArray = ls at hl ⊢
  have hl : lv_has ls 2 [(0, .ref h0), (1, .int p0)] := hl
  refine zstart (fun H hH => ?_)
  rw [← hH] at hP
  have hS : va_S A s.heap H [] := by rw [hH]; exact va_S.rf
  refine lv_aload_n hx hb dX10_seen_0 rfl (lv_at hl 0 rfl) ?_
  refine lv_iload_n hx hb dX10_seen_1 rfl (lv_at hl 1 rfl) ?_
  have hPc := hP.sub (ws' := [(h0, .inr (10, [.ref h1, .ref h2, .ref h3, .ref h4, .ref h5, .ref h6, .ref h7, .ref h8, .ref h9, .ref h10, .ref h11, .ref h12, .ref h13, .int 0, .int (-1), .int 0, .int 0])), (h5, .inr (1, [.ref h14, .ref h15, .ref h16, .int 0, .int 0]))]) [0, 1] rfl
  have hDc := hT.sub (ws' := [(h0, .inr (10, [.ref h1, .ref h2, .ref h3, .ref h4, .ref h5, .ref h6, .ref h7, .ref h8, .ref h9, .ref h10, .ref h11, .ref h12, .ref h13, .int 0, .int (-1), .int 0, .int 0])), (h5, .inr (1, [.ref h14, .ref h15, .ref h16, .int 0, .int 0]))]) [0, 1] (by decide) rfl
  have hFc := zfr hS hA
  refine va_calli (va_runV (As := [.int p0]) (rest := []) ⟨hx, hb, hml, hown, hts⟩ (c_X10_isBride l dC dI cI cJ h0 h1 h2 h3 h4 h5 h6 h7 h8 h9 h10 h11 h12 h13 h14 h15 h16 H.size p0) (cwV 1 hts (zgV qw625 qw627 qw12 qw98 qw628) rfl rfl rfl hd_X10_isBride ⟨Nat.le_of_ble_eq_true rfl, Nat.le_of_ble_eq_true rfl⟩) (zPV hPc hK hDc (va_recv hK hP (ci := 10) (q0 := 0) rfl rfl)) rfl rfl hl.1 rfl (lv_room (Nat.le_of_ble_eq_true rfl)) dX10_seen_2 ⟨Nat.le_of_ble_eq_true rfl, Nat.le_of_ble_eq_true rfl⟩) hS (fun q _ h => hFc q h) hFc (fun r_1 u t H locs ht hvm hw hB hz1 hk1 hS => ?_)
  have hP := zkeep hP hk1
  have hw : r_1 = 0 := hw
  subst hw
  refine lv_if_eq (tgt := 19) hx hb dX10_seen_5 (by decide) (fun _ => ?_) (fun c => absurd (by decide) c)
  refine lv_iconst (v := (-1)) hx hb dX10_seen_19 (by decide) ?_
  exact W.iret (v := ((-1))) hx hb hr (fun t ht hW => ⟨⟨(-1), (), rfl, rfl, trivial⟩, hS.F ht⟩) hS.2.2 dX10_seen_20
set_option maxHeartbeats 4000000 in
set_option maxRecDepth 100000 in
theorem c_X10_saves (l : Launch) (dC : Nat → ClassId) (dI : Nat → Nat → Nat) (cI cJ : ClassId) (h0 h1 h2 h3 h4 h5 h6 h7 h8 h9 h10 h11 h12 h13 h14 h15 h16 : Nat) (sz : Nat) (p0 : Int32) : Met l yX10_saves (.code yX10_saves cX10_saves 2 (some .int) :: wA) ({ frames := 1, cells := 0, slots := 0, locals := 20 }) (zP (dC, dI) [(cI, .int), (cJ, .long)] [.ref h0, .int p0] sz [(h0, .inr (10, [.ref h1, .ref h2, .ref h3, .ref h4, .ref h5, .ref h6, .ref h7, .ref h8, .ref h9, .ref h10, .ref h11, .ref h12, .ref h13, .int 0, .int (-1), .int 0, .int 0])), (h5, .inr (1, [.ref h14, .ref h15, .ref h16, .int 0, .int 0]))]) (va_Qi (fun (r : Int32) (_ : Unit) => r = (-1)) (fun (_ : Unit) (_ : State) => True) (va_A [] sz)) 0 0 (va_A [] sz) := by
  refine Met.ofW (cc := cX10_saves) (maxL := 2) (ret := (some .int)) (by decide) rfl ?_
  intro p e s m args below meth c s₁ B hml hv
  obtain ⟨rfl, hsz, hP, hK, hT⟩ := hv
  have hx := B.exec
  have hb := B.bytes
  have hr := B.returns
  have hts : ∀ w ∈ wA, w.before _ s = true := fun w h => atoms_spec (ws := .code yX10_saves cX10_saves 2 (some .int) :: wA) B.pre w (List.mem_cons_of_mem _ h)
  have hown : s.vm.findClass RX10 = some m.cls := findClass_of_methodNamed B.named
  have hlocks := B.notSynchronized
  subst hsz
  have hD : va_D (va_A [] s.heap.size) [] := zD0
  generalize hAe : va_A [] s.heap.size = A at hD ⊢
  have hA : ∀ q : Nat, s.heap.size ≤ q → A q := fun q h => by rw [← hAe]; exact Or.inr h
  have hl := lv_entry ([.ref h0, .int p0]) (n := 2) (Nat.le_of_ble_eq_true rfl)
  rw [lg_entry_eq]
  generalize (lg_sl ([.ref h0, .int p0]) ++ List.replicate (2 - (lg_sl ([.ref h0, .int p0])).length) Slot.unset).toArray = ls at hl ⊢
  have hl : lv_has ls 2 [(0, .ref h0), (1, .int p0)] := hl
  refine zstart (fun H hH => ?_)
  rw [← hH] at hP
  have hS : va_S A s.heap H [] := by rw [hH]; exact va_S.rf
  refine lv_aload_n hx hb dX10_saves_0 rfl (lv_at hl 0 rfl) ?_
  have hPc := hP.sub (ws' := [(h0, .inr (10, [.ref h1, .ref h2, .ref h3, .ref h4, .ref h5, .ref h6, .ref h7, .ref h8, .ref h9, .ref h10, .ref h11, .ref h12, .ref h13, .int 0, .int (-1), .int 0, .int 0])), (h5, .inr (1, [.ref h14, .ref h15, .ref h16, .int 0, .int 0]))]) [0, 1] rfl
  have hDc := hT.sub (ws' := [(h0, .inr (10, [.ref h1, .ref h2, .ref h3, .ref h4, .ref h5, .ref h6, .ref h7, .ref h8, .ref h9, .ref h10, .ref h11, .ref h12, .ref h13, .int 0, .int (-1), .int 0, .int 0])), (h5, .inr (1, [.ref h14, .ref h15, .ref h16, .int 0, .int 0]))]) [0, 1] (by decide) rfl
  have hFc := zfr hS hA
  refine va_calli (va_runV (As := []) (rest := []) ⟨hx, hb, hml, hown, hts⟩ (c_X10_hasCourt l dC dI cI cJ h0 h1 h2 h3 h4 h5 h6 h7 h8 h9 h10 h11 h12 h13 h14 h15 h16 H.size) (cwV 0 hts (zgV qw584 qw586 qw10 qw98 qw587) rfl rfl rfl hd_X10_hasCourt ⟨Nat.le_of_ble_eq_true rfl, Nat.le_of_ble_eq_true rfl⟩) (zPV hPc hK hDc (va_recv hK hP (ci := 10) (q0 := 0) rfl rfl)) rfl rfl hl.1 rfl (lv_room (Nat.le_of_ble_eq_true rfl)) dX10_saves_1 ⟨Nat.le_of_ble_eq_true rfl, Nat.le_of_ble_eq_true rfl⟩) hS (fun q _ h => hFc q h) hFc (fun r_1 u t H locs ht hvm hw hB hz1 hk1 hS => ?_)
  have hP := zkeep hP hk1
  have hw : r_1 = 0 := hw
  subst hw
  refine lv_if_eq (tgt := 19) hx hb dX10_saves_4 (by decide) (fun _ => ?_) (fun c => absurd (by decide) c)
  refine lv_iconst (v := (-1)) hx hb dX10_saves_19 (by decide) ?_
  exact W.iret (v := ((-1))) hx hb hr (fun t ht hW => ⟨⟨(-1), (), rfl, rfl, trivial⟩, hS.F ht⟩) hS.2.2 dX10_saves_20
set_option maxHeartbeats 4000000 in
set_option maxRecDepth 100000 in
theorem c_X10_rivals (l : Launch) (dC : Nat → ClassId) (dI : Nat → Nat → Nat) (cI cJ : ClassId) (h0 h1 h2 h3 h4 h5 h6 h7 h8 h9 h10 h11 h12 h13 h14 h15 h16 : Nat) (sz : Nat) (p0 : Int32) : Met l yX10_rivals (.code yX10_rivals cX10_rivals 4 (some .int) :: wA) ({ frames := 1, cells := 0, slots := 0, locals := 21 }) (zP (dC, dI) [(cI, .int), (cJ, .long)] [.ref h0, .int p0] sz [(h0, .inr (10, [.ref h1, .ref h2, .ref h3, .ref h4, .ref h5, .ref h6, .ref h7, .ref h8, .ref h9, .ref h10, .ref h11, .ref h12, .ref h13, .int 0, .int (-1), .int 0, .int 0])), (h5, .inr (1, [.ref h14, .ref h15, .ref h16, .int 0, .int 0]))]) (va_Qi (fun (r : Int32) (_ : Unit) => r = (-1)) (fun (_ : Unit) (_ : State) => True) (va_A [] sz)) 0 0 (va_A [] sz) := by
  refine Met.ofW (cc := cX10_rivals) (maxL := 4) (ret := (some .int)) (by decide) rfl ?_
  intro p e s m args below meth c s₁ B hml hv
  obtain ⟨rfl, hsz, hP, hK, hT⟩ := hv
  have hx := B.exec
  have hb := B.bytes
  have hr := B.returns
  have hts : ∀ w ∈ wA, w.before _ s = true := fun w h => atoms_spec (ws := .code yX10_rivals cX10_rivals 4 (some .int) :: wA) B.pre w (List.mem_cons_of_mem _ h)
  have hown : s.vm.findClass RX10 = some m.cls := findClass_of_methodNamed B.named
  have hlocks := B.notSynchronized
  subst hsz
  have hD : va_D (va_A [] s.heap.size) [] := zD0
  generalize hAe : va_A [] s.heap.size = A at hD ⊢
  have hA : ∀ q : Nat, s.heap.size ≤ q → A q := fun q h => by rw [← hAe]; exact Or.inr h
  have hl := lv_entry ([.ref h0, .int p0]) (n := 4) (Nat.le_of_ble_eq_true rfl)
  rw [lg_entry_eq]
  generalize (lg_sl ([.ref h0, .int p0]) ++ List.replicate (4 - (lg_sl ([.ref h0, .int p0])).length) Slot.unset).toArray = ls at hl ⊢
  have hl : lv_has ls 4 [(0, .ref h0), (1, .int p0)] := hl
  refine zstart (fun H hH => ?_)
  rw [← hH] at hP
  have hS : va_S A s.heap H [] := by rw [hH]; exact va_S.rf
  refine lv_aload_n hx hb dX10_rivals_0 rfl (lv_at hl 0 rfl) ?_
  refine lv_iload_n hx hb dX10_rivals_1 rfl (lv_at hl 1 rfl) ?_
  have hPc := hP.sub (ws' := [(h0, .inr (10, [.ref h1, .ref h2, .ref h3, .ref h4, .ref h5, .ref h6, .ref h7, .ref h8, .ref h9, .ref h10, .ref h11, .ref h12, .ref h13, .int 0, .int (-1), .int 0, .int 0])), (h5, .inr (1, [.ref h14, .ref h15, .ref h16, .int 0, .int 0]))]) [0, 1] rfl
  have hDc := hT.sub (ws' := [(h0, .inr (10, [.ref h1, .ref h2, .ref h3, .ref h4, .ref h5, .ref h6, .ref h7, .ref h8, .ref h9, .ref h10, .ref h11, .ref h12, .ref h13, .int 0, .int (-1), .int 0, .int 0])), (h5, .inr (1, [.ref h14, .ref h15, .ref h16, .int 0, .int 0]))]) [0, 1] (by decide) rfl
  have hFc := zfr hS hA
  refine va_calli (va_runV (As := [.int p0]) (rest := []) ⟨hx, hb, hml, hown, hts⟩ (c_X10_isBride l dC dI cI cJ h0 h1 h2 h3 h4 h5 h6 h7 h8 h9 h10 h11 h12 h13 h14 h15 h16 H.size p0) (cwV 1 hts (zgV qw625 qw627 qw12 qw98 qw628) rfl rfl rfl hd_X10_isBride ⟨Nat.le_of_ble_eq_true rfl, Nat.le_of_ble_eq_true rfl⟩) (zPV hPc hK hDc (va_recv hK hP (ci := 10) (q0 := 0) rfl rfl)) rfl rfl hl.1 rfl (lv_room (Nat.le_of_ble_eq_true rfl)) dX10_rivals_2 ⟨Nat.le_of_ble_eq_true rfl, Nat.le_of_ble_eq_true rfl⟩) hS (fun q _ h => hFc q h) hFc (fun r_1 u t H locs ht hvm hw hB hz1 hk1 hS => ?_)
  have hP := zkeep hP hk1
  have hw : r_1 = 0 := hw
  subst hw
  refine lv_if_ne (tgt := 10) hx hb dX10_rivals_5 (by decide) (fun c => absurd (by decide) c) (fun _ => ?_)
  refine lv_iconst (v := (-1)) hx hb dX10_rivals_8 (by decide) ?_
  exact W.iret (v := ((-1))) hx hb hr (fun t ht hW => ⟨⟨(-1), (), rfl, rfl, trivial⟩, hS.F ht⟩) hS.2.2 dX10_rivals_9
set_option maxHeartbeats 4000000 in
set_option maxRecDepth 100000 in
theorem c_X10_affords (l : Launch) (dC : Nat → ClassId) (dI : Nat → Nat → Nat) (cI cJ : ClassId) (h0 h1 h2 h3 h4 h5 h6 h7 h8 h9 h10 h11 h12 h13 h14 h15 h16 : Nat) (sz : Nat) (p0 : Int32) : Met l yX10_affords (.code yX10_affords cX10_affords 4 (some .int) :: wA) ({ frames := 1, cells := 0, slots := 0, locals := 21 }) (zP (dC, dI) [(cI, .int), (cJ, .long)] [.ref h0, .int p0] sz [(h0, .inr (10, [.ref h1, .ref h2, .ref h3, .ref h4, .ref h5, .ref h6, .ref h7, .ref h8, .ref h9, .ref h10, .ref h11, .ref h12, .ref h13, .int 0, .int (-1), .int 0, .int 0])), (h5, .inr (1, [.ref h14, .ref h15, .ref h16, .int 0, .int 0]))]) (va_Qi (fun (r : Int32) (_ : Unit) => r = (-1)) (fun (_ : Unit) (_ : State) => True) (va_A [] sz)) 0 0 (va_A [] sz) := by
  refine Met.ofW (cc := cX10_affords) (maxL := 4) (ret := (some .int)) (by decide) rfl ?_
  intro p e s m args below meth c s₁ B hml hv
  obtain ⟨rfl, hsz, hP, hK, hT⟩ := hv
  have hx := B.exec
  have hb := B.bytes
  have hr := B.returns
  have hts : ∀ w ∈ wA, w.before _ s = true := fun w h => atoms_spec (ws := .code yX10_affords cX10_affords 4 (some .int) :: wA) B.pre w (List.mem_cons_of_mem _ h)
  have hown : s.vm.findClass RX10 = some m.cls := findClass_of_methodNamed B.named
  have hlocks := B.notSynchronized
  subst hsz
  have hD : va_D (va_A [] s.heap.size) [] := zD0
  generalize hAe : va_A [] s.heap.size = A at hD ⊢
  have hA : ∀ q : Nat, s.heap.size ≤ q → A q := fun q h => by rw [← hAe]; exact Or.inr h
  have hl := lv_entry ([.ref h0, .int p0]) (n := 4) (Nat.le_of_ble_eq_true rfl)
  rw [lg_entry_eq]
  generalize (lg_sl ([.ref h0, .int p0]) ++ List.replicate (4 - (lg_sl ([.ref h0, .int p0])).length) Slot.unset).toArray = ls at hl ⊢
  have hl : lv_has ls 4 [(0, .ref h0), (1, .int p0)] := hl
  refine zstart (fun H hH => ?_)
  rw [← hH] at hP
  have hS : va_S A s.heap H [] := by rw [hH]; exact va_S.rf
  refine lv_aload_n hx hb dX10_affords_0 rfl (lv_at hl 0 rfl) ?_
  refine lv_iload_n hx hb dX10_affords_1 rfl (lv_at hl 1 rfl) ?_
  have hPc := hP.sub (ws' := [(h0, .inr (10, [.ref h1, .ref h2, .ref h3, .ref h4, .ref h5, .ref h6, .ref h7, .ref h8, .ref h9, .ref h10, .ref h11, .ref h12, .ref h13, .int 0, .int (-1), .int 0, .int 0])), (h5, .inr (1, [.ref h14, .ref h15, .ref h16, .int 0, .int 0]))]) [0, 1] rfl
  have hDc := hT.sub (ws' := [(h0, .inr (10, [.ref h1, .ref h2, .ref h3, .ref h4, .ref h5, .ref h6, .ref h7, .ref h8, .ref h9, .ref h10, .ref h11, .ref h12, .ref h13, .int 0, .int (-1), .int 0, .int 0])), (h5, .inr (1, [.ref h14, .ref h15, .ref h16, .int 0, .int 0]))]) [0, 1] (by decide) rfl
  have hFc := zfr hS hA
  refine va_calli (va_runV (As := [.int p0]) (rest := []) ⟨hx, hb, hml, hown, hts⟩ (c_X10_isPainter l dC dI cI cJ h0 h1 h2 h3 h4 h5 h6 h7 h8 h9 h10 h11 h12 h13 h14 h15 h16 H.size p0) (cwV 1 hts (zgV qw600 qw602 qw11 qw98 qw603) rfl rfl rfl hd_X10_isPainter ⟨Nat.le_of_ble_eq_true rfl, Nat.le_of_ble_eq_true rfl⟩) (zPV hPc hK hDc (va_recv hK hP (ci := 10) (q0 := 0) rfl rfl)) rfl rfl hl.1 rfl (lv_room (Nat.le_of_ble_eq_true rfl)) dX10_affords_2 ⟨Nat.le_of_ble_eq_true rfl, Nat.le_of_ble_eq_true rfl⟩) hS (fun q _ h => hFc q h) hFc (fun r_1 u t H locs ht hvm hw hB hz1 hk1 hS => ?_)
  have hP := zkeep hP hk1
  have hw : r_1 = 0 := hw
  subst hw
  refine lv_if_ne (tgt := 10) hx hb dX10_affords_5 (by decide) (fun c => absurd (by decide) c) (fun _ => ?_)
  refine lv_iconst (v := (-1)) hx hb dX10_affords_8 (by decide) ?_
  exact W.iret (v := ((-1))) hx hb hr (fun t ht hW => ⟨⟨(-1), (), rfl, rfl, trivial⟩, hS.F ht⟩) hS.2.2 dX10_affords_9
set_option maxHeartbeats 4000000 in
set_option maxRecDepth 100000 in
theorem c_X10_told (l : Launch) (dC : Nat → ClassId) (dI : Nat → Nat → Nat) (cI cJ : ClassId) (h0 h1 h2 h3 h4 h5 h6 h7 h8 h9 h10 h11 h12 h13 h14 h15 h16 : Nat) (sz : Nat) (p0 : Int32) : Met l yX10_told (.code yX10_told cX10_told 4 (some .int) :: wA) ({ frames := 1, cells := 0, slots := 0, locals := 21 }) (zP (dC, dI) [(cI, .int), (cJ, .long)] [.ref h0, .int p0] sz [(h0, .inr (10, [.ref h1, .ref h2, .ref h3, .ref h4, .ref h5, .ref h6, .ref h7, .ref h8, .ref h9, .ref h10, .ref h11, .ref h12, .ref h13, .int 0, .int (-1), .int 0, .int 0])), (h5, .inr (1, [.ref h14, .ref h15, .ref h16, .int 0, .int 0]))]) (va_Qi (fun (r : Int32) (_ : Unit) => r = (-1000000)) (fun (_ : Unit) (_ : State) => True) (va_A [] sz)) 0 0 (va_A [] sz) := by
  refine Met.ofW (cc := cX10_told) (maxL := 4) (ret := (some .int)) (by decide) rfl ?_
  intro p e s m args below meth c s₁ B hml hv
  obtain ⟨rfl, hsz, hP, hK, hT⟩ := hv
  have hx := B.exec
  have hb := B.bytes
  have hr := B.returns
  have hts : ∀ w ∈ wA, w.before _ s = true := fun w h => atoms_spec (ws := .code yX10_told cX10_told 4 (some .int) :: wA) B.pre w (List.mem_cons_of_mem _ h)
  have hown : s.vm.findClass RX10 = some m.cls := findClass_of_methodNamed B.named
  have hlocks := B.notSynchronized
  subst hsz
  have hD : va_D (va_A [] s.heap.size) [] := zD0
  generalize hAe : va_A [] s.heap.size = A at hD ⊢
  have hA : ∀ q : Nat, s.heap.size ≤ q → A q := fun q h => by rw [← hAe]; exact Or.inr h
  have hl := lv_entry ([.ref h0, .int p0]) (n := 4) (Nat.le_of_ble_eq_true rfl)
  rw [lg_entry_eq]
  generalize (lg_sl ([.ref h0, .int p0]) ++ List.replicate (4 - (lg_sl ([.ref h0, .int p0])).length) Slot.unset).toArray = ls at hl ⊢
  have hl : lv_has ls 4 [(0, .ref h0), (1, .int p0)] := hl
  refine zstart (fun H hH => ?_)
  rw [← hH] at hP
  have hS : va_S A s.heap H [] := by rw [hH]; exact va_S.rf
  refine lv_aload_n hx hb dX10_told_0 rfl (lv_at hl 0 rfl) ?_
  refine lv_iload_n hx hb dX10_told_1 rfl (lv_at hl 1 rfl) ?_
  have hPc := hP.sub (ws' := [(h0, .inr (10, [.ref h1, .ref h2, .ref h3, .ref h4, .ref h5, .ref h6, .ref h7, .ref h8, .ref h9, .ref h10, .ref h11, .ref h12, .ref h13, .int 0, .int (-1), .int 0, .int 0])), (h5, .inr (1, [.ref h14, .ref h15, .ref h16, .int 0, .int 0]))]) [0, 1] rfl
  have hDc := hT.sub (ws' := [(h0, .inr (10, [.ref h1, .ref h2, .ref h3, .ref h4, .ref h5, .ref h6, .ref h7, .ref h8, .ref h9, .ref h10, .ref h11, .ref h12, .ref h13, .int 0, .int (-1), .int 0, .int 0])), (h5, .inr (1, [.ref h14, .ref h15, .ref h16, .int 0, .int 0]))]) [0, 1] (by decide) rfl
  have hFc := zfr hS hA
  refine va_calli (va_runV (As := [.int p0]) (rest := []) ⟨hx, hb, hml, hown, hts⟩ (c_X10_isPainter l dC dI cI cJ h0 h1 h2 h3 h4 h5 h6 h7 h8 h9 h10 h11 h12 h13 h14 h15 h16 H.size p0) (cwV 1 hts (zgV qw600 qw602 qw11 qw98 qw603) rfl rfl rfl hd_X10_isPainter ⟨Nat.le_of_ble_eq_true rfl, Nat.le_of_ble_eq_true rfl⟩) (zPV hPc hK hDc (va_recv hK hP (ci := 10) (q0 := 0) rfl rfl)) rfl rfl hl.1 rfl (lv_room (Nat.le_of_ble_eq_true rfl)) dX10_told_2 ⟨Nat.le_of_ble_eq_true rfl, Nat.le_of_ble_eq_true rfl⟩) hS (fun q _ h => hFc q h) hFc (fun r_1 u t H locs ht hvm hw hB hz1 hk1 hS => ?_)
  have hP := zkeep hP hk1
  have hw : r_1 = 0 := hw
  subst hw
  refine lv_if_eq (tgt := 20) hx hb dX10_told_5 (by decide) (fun _ => ?_) (fun c => absurd (by decide) c)
  refine lv_ldcw (v := (-1000000)) hx hb hown (hts _ qw935) dX10_told_20 ?_
  exact W.iret (v := ((-1000000))) hx hb hr (fun t ht hW => ⟨⟨(-1000000), (), rfl, rfl, trivial⟩, hS.F ht⟩) hS.2.2 dX10_told_23
set_option maxHeartbeats 4000000 in
set_option maxRecDepth 100000 in
theorem c_X10_image (l : Launch) (dC : Nat → ClassId) (dI : Nat → Nat → Nat) (cI cJ : ClassId) (h0 h1 h2 h3 h4 h5 h6 h7 h8 h9 h10 h11 h12 h13 h14 h15 h16 : Nat) (sz : Nat) : Met l yX10_image (.code yX10_image cX10_image 1 (some .int) :: wA) ({ frames := 1, cells := 0, slots := 0, locals := 20 }) (zP (dC, dI) [(cI, .int), (cJ, .long)] [.ref h0] sz [(h0, .inr (10, [.ref h1, .ref h2, .ref h3, .ref h4, .ref h5, .ref h6, .ref h7, .ref h8, .ref h9, .ref h10, .ref h11, .ref h12, .ref h13, .int 0, .int (-1), .int 0, .int 0])), (h5, .inr (1, [.ref h14, .ref h15, .ref h16, .int 0, .int 0]))]) (va_Qi (fun (r : Int32) (_ : Unit) => r = (-1)) (fun (_ : Unit) (_ : State) => True) (va_A [] sz)) 0 0 (va_A [] sz) := by
  refine Met.ofW (cc := cX10_image) (maxL := 1) (ret := (some .int)) (by decide) rfl ?_
  intro p e s m args below meth c s₁ B hml hv
  obtain ⟨rfl, hsz, hP, hK, hT⟩ := hv
  have hx := B.exec
  have hb := B.bytes
  have hr := B.returns
  have hts : ∀ w ∈ wA, w.before _ s = true := fun w h => atoms_spec (ws := .code yX10_image cX10_image 1 (some .int) :: wA) B.pre w (List.mem_cons_of_mem _ h)
  have hown : s.vm.findClass RX10 = some m.cls := findClass_of_methodNamed B.named
  have hlocks := B.notSynchronized
  subst hsz
  have hD : va_D (va_A [] s.heap.size) [] := zD0
  generalize hAe : va_A [] s.heap.size = A at hD ⊢
  have hA : ∀ q : Nat, s.heap.size ≤ q → A q := fun q h => by rw [← hAe]; exact Or.inr h
  have hl := lv_entry ([.ref h0]) (n := 1) (Nat.le_of_ble_eq_true rfl)
  rw [lg_entry_eq]
  generalize (lg_sl ([.ref h0]) ++ List.replicate (1 - (lg_sl ([.ref h0])).length) Slot.unset).toArray = ls at hl ⊢
  have hl : lv_has ls 1 [(0, .ref h0)] := hl
  refine zstart (fun H hH => ?_)
  rw [← hH] at hP
  have hS : va_S A s.heap H [] := by rw [hH]; exact va_S.rf
  refine lv_aload_n hx hb dX10_image_0 rfl (lv_at hl 0 rfl) ?_
  have hPc := hP.sub (ws' := [(h0, .inr (10, [.ref h1, .ref h2, .ref h3, .ref h4, .ref h5, .ref h6, .ref h7, .ref h8, .ref h9, .ref h10, .ref h11, .ref h12, .ref h13, .int 0, .int (-1), .int 0, .int 0])), (h5, .inr (1, [.ref h14, .ref h15, .ref h16, .int 0, .int 0]))]) [0, 1] rfl
  have hDc := hT.sub (ws' := [(h0, .inr (10, [.ref h1, .ref h2, .ref h3, .ref h4, .ref h5, .ref h6, .ref h7, .ref h8, .ref h9, .ref h10, .ref h11, .ref h12, .ref h13, .int 0, .int (-1), .int 0, .int 0])), (h5, .inr (1, [.ref h14, .ref h15, .ref h16, .int 0, .int 0]))]) [0, 1] (by decide) rfl
  have hFc := zfr hS hA
  refine va_calli (va_runV (As := []) (rest := []) ⟨hx, hb, hml, hown, hts⟩ (c_X10_hasCourt l dC dI cI cJ h0 h1 h2 h3 h4 h5 h6 h7 h8 h9 h10 h11 h12 h13 h14 h15 h16 H.size) (cwV 0 hts (zgV qw584 qw586 qw10 qw98 qw587) rfl rfl rfl hd_X10_hasCourt ⟨Nat.le_of_ble_eq_true rfl, Nat.le_of_ble_eq_true rfl⟩) (zPV hPc hK hDc (va_recv hK hP (ci := 10) (q0 := 0) rfl rfl)) rfl rfl hl.1 rfl (lv_room (Nat.le_of_ble_eq_true rfl)) dX10_image_1 ⟨Nat.le_of_ble_eq_true rfl, Nat.le_of_ble_eq_true rfl⟩) hS (fun q _ h => hFc q h) hFc (fun r_1 u t H locs ht hvm hw hB hz1 hk1 hS => ?_)
  have hP := zkeep hP hk1
  have hw : r_1 = 0 := hw
  subst hw
  refine lv_if_ne (tgt := 9) hx hb dX10_image_4 (by decide) (fun c => absurd (by decide) c) (fun _ => ?_)
  refine lv_iconst (v := (-1)) hx hb dX10_image_7 (by decide) ?_
  exact W.iret (v := ((-1))) hx hb hr (fun t ht hW => ⟨⟨(-1), (), rfl, rfl, trivial⟩, hS.F ht⟩) hS.2.2 dX10_image_8
set_option maxHeartbeats 4000000 in
set_option maxRecDepth 100000 in
theorem c_X10_back (l : Launch) (dC : Nat → ClassId) (dI : Nat → Nat → Nat) (cI cJ : ClassId) (h0 h1 h2 h3 h4 h5 h6 h7 h8 h9 h10 h11 h12 h13 : Nat) (sz : Nat) : Met l yX10_back (.code yX10_back cX10_back 1 (some .int) :: wA) ({ frames := 0, cells := 0, slots := 0, locals := 0 }) (zP (dC, dI) [(cI, .int), (cJ, .long)] [.ref h0] sz [(h0, .inr (10, [.ref h1, .ref h2, .ref h3, .ref h4, .ref h5, .ref h6, .ref h7, .ref h8, .ref h9, .ref h10, .ref h11, .ref h12, .ref h13, .int 0, .int (-1), .int 0, .int 0]))]) (va_Qi (fun (r : Int32) (_ : Unit) => r = (-1)) (fun (_ : Unit) (_ : State) => True) (va_A [] sz)) 0 0 (va_A [] sz) := by
  refine Met.ofW (cc := cX10_back) (maxL := 1) (ret := (some .int)) (by decide) rfl ?_
  intro p e s m args below meth c s₁ B hml hv
  obtain ⟨rfl, hsz, hP, hK, hT⟩ := hv
  have hx := B.exec
  have hb := B.bytes
  have hr := B.returns
  have hts : ∀ w ∈ wA, w.before _ s = true := fun w h => atoms_spec (ws := .code yX10_back cX10_back 1 (some .int) :: wA) B.pre w (List.mem_cons_of_mem _ h)
  have hown : s.vm.findClass RX10 = some m.cls := findClass_of_methodNamed B.named
  have hlocks := B.notSynchronized
  subst hsz
  have hD : va_D (va_A [] s.heap.size) [] := zD0
  generalize hAe : va_A [] s.heap.size = A at hD ⊢
  have hA : ∀ q : Nat, s.heap.size ≤ q → A q := fun q h => by rw [← hAe]; exact Or.inr h
  have hl := lv_entry ([.ref h0]) (n := 1) (Nat.le_of_ble_eq_true rfl)
  rw [lg_entry_eq]
  generalize (lg_sl ([.ref h0]) ++ List.replicate (1 - (lg_sl ([.ref h0])).length) Slot.unset).toArray = ls at hl ⊢
  have hl : lv_has ls 1 [(0, .ref h0)] := hl
  refine zstart (fun H hH => ?_)
  rw [← hH] at hP
  have hS : va_S A s.heap H [] := by rw [hH]; exact va_S.rf
  refine lv_aload_n hx hb dX10_back_0 rfl (lv_at hl 0 rfl) ?_
  refine va_get (D := (dC, dI)) (ci := 10) (v := .int 0) (C := RX10) (T := TX10) (N := 17) hx hb hts iX10 hown hK hP 0 rfl rfl 16 (by decide) (hts _ qw372) (fun _ h9 => h9) rfl dX10_back_1 ?_
  refine lv_if_ne (tgt := 9) hx hb dX10_back_4 (by decide) (fun c => absurd (by decide) c) (fun _ => ?_)
  refine lv_iconst (v := (-1)) hx hb dX10_back_7 (by decide) ?_
  exact W.iret (v := ((-1))) hx hb hr (fun t ht hW => ⟨⟨(-1), (), rfl, rfl, trivial⟩, hS.F ht⟩) hS.2.2 dX10_back_8
set_option maxHeartbeats 4000000 in
set_option maxRecDepth 100000 in
theorem c_X10_count (l : Launch) (dC : Nat → ClassId) (dI : Nat → Nat → Nat) (cI cJ : ClassId) (h0 h1 h2 h3 h4 h5 h6 h7 h8 h9 h10 h11 h12 h13 h14 h15 h16 h17 h18 h19 h20 h21 : Nat) (sz : Nat) (p0 : Int32) : Met l yX10_count (.code yX10_count cX10_count 2 (some .int) :: wA) ({ frames := 0, cells := 0, slots := 0, locals := 0 }) (zP (dC, dI) [(cI, .int), (cJ, .long)] [.ref h0, .int p0] sz [(h0, .inr (10, [.ref h1, .ref h2, .ref h3, .ref h4, .ref h5, .ref h6, .ref h7, .ref h8, .ref h9, .ref h10, .ref h11, .ref h12, .ref h13, .int 0, .int (-1), .int 0, .int 0])), (h1, .inr (9, [.ref h14, .int 0, .int 0])), (h5, .inr (1, [.ref h15, .ref h16, .ref h17, .int 0, .int 0])), (h7, .inr (7, [.ref h18, .ref h19, .ref h20, .int 0, .int 0, .int 0, .int (-1), .int 0, .int 0])), (h9, .inr (0, [.ref h21, .int 0, .int 0]))]) (va_Qi (fun (r : Int32) (_ : Unit) => ((p0.toInt < 0 ∨ 9 < p0.toInt) ∧ r = (-1000000)) ∨ (p0 = 0 ∧ r = 0) ∨ (p0 = 1 ∧ r = 0) ∨ (p0 = 2 ∧ r = 0) ∨ (p0 = 3 ∧ r = 0) ∨ (p0 = 4 ∧ r = (-1)) ∨ (p0 = 5 ∧ r = 0) ∨ (p0 = 6 ∧ r = (-1)) ∨ (p0 = 7 ∧ r = 0) ∨ (p0 = 8 ∧ r = 0) ∨ (p0 = 9 ∧ r = 0)) (fun (_ : Unit) (_ : State) => True) (va_A [] sz)) 0 0 (va_A [] sz) := by
  refine Met.ofW (cc := cX10_count) (maxL := 2) (ret := (some .int)) (by decide) rfl ?_
  intro p e s m args below meth c s₁ B hml hv
  obtain ⟨rfl, hsz, hP, hK, hT⟩ := hv
  have hx := B.exec
  have hb := B.bytes
  have hr := B.returns
  have hts : ∀ w ∈ wA, w.before _ s = true := fun w h => atoms_spec (ws := .code yX10_count cX10_count 2 (some .int) :: wA) B.pre w (List.mem_cons_of_mem _ h)
  have hown : s.vm.findClass RX10 = some m.cls := findClass_of_methodNamed B.named
  have hlocks := B.notSynchronized
  subst hsz
  have hD : va_D (va_A [] s.heap.size) [] := zD0
  generalize hAe : va_A [] s.heap.size = A at hD ⊢
  have hA : ∀ q : Nat, s.heap.size ≤ q → A q := fun q h => by rw [← hAe]; exact Or.inr h
  have hl := lv_entry ([.ref h0, .int p0]) (n := 2) (Nat.le_of_ble_eq_true rfl)
  rw [lg_entry_eq]
  generalize (lg_sl ([.ref h0, .int p0]) ++ List.replicate (2 - (lg_sl ([.ref h0, .int p0])).length) Slot.unset).toArray = ls at hl ⊢
  have hl : lv_has ls 2 [(0, .ref h0), (1, .int p0)] := hl
  refine zstart (fun H hH => ?_)
  rw [← hH] at hP
  have hS : va_S A s.heap H [] := by rw [hH]; exact va_S.rf
  refine lv_iload_n hx hb dX10_count_0 rfl (lv_at hl 1 rfl) ?_
  rcases zsw p0 0 9 with c_1 | c_1
  · refine lv_tableOut (tgt := 127) hx hb dX10_count_1 c_1 (by decide) ?_
    refine lv_ldcw (v := (-1000000)) hx hb hown (hts _ qw935) dX10_count_127 ?_
    exact W.iret (v := ((-1000000))) hx hb hr (fun t ht hW => ⟨⟨(-1000000), (), rfl, Or.inl ⟨c_1, rfl⟩, trivial⟩, hS.F ht⟩) hS.2.2 dX10_count_130
  · rcases (show p0.toInt = 0 ∨ p0.toInt = 1 ∨ p0.toInt = 2 ∨ p0.toInt = 3 ∨ p0.toInt = 4 ∨ p0.toInt = 5 ∨ p0.toInt = 6 ∨ p0.toInt = 7 ∨ p0.toInt = 8 ∨ p0.toInt = 9 by omega) with e_1 | e_1 | e_1 | e_1 | e_1 | e_1 | e_1 | e_1 | e_1 | e_1
    · refine lv_tableIn (off := 55) (tgt := 56) hx hb dX10_count_1 (by omega) (by omega) (by rw [e_1]; rfl) (by decide) ?_
      refine lv_aload_n hx hb dX10_count_56 rfl (lv_at hl 0 rfl) ?_
      refine va_get (D := (dC, dI)) (ci := 10) (v := .ref h5) (C := RX10) (T := TX10) (N := 17) hx hb hts iX10 hown hK hP 0 rfl rfl 4 (by decide) (hts _ qw360) (fun _ h9 => h9) rfl dX10_count_57 ?_
      refine va_get (D := (dC, dI)) (ci := 1) (v := .int 0) (C := RX1) (T := TX1) (N := 5) hx hb hts iX1 hown hK hP 2 rfl rfl 3 (by decide) (hts _ qw195) (fun _ h9 => h9) rfl dX10_count_60 ?_
      exact W.iret (v := 0) hx hb hr (fun t ht hW => ⟨⟨0, (), rfl, Or.inr (Or.inl ⟨z7 (by decide) e_1, rfl⟩), trivial⟩, hS.F ht⟩) hS.2.2 dX10_count_63
    · refine lv_tableIn (off := 63) (tgt := 64) hx hb dX10_count_1 (by omega) (by omega) (by rw [e_1]; rfl) (by decide) ?_
      refine lv_aload_n hx hb dX10_count_64 rfl (lv_at hl 0 rfl) ?_
      refine va_get (D := (dC, dI)) (ci := 10) (v := .ref h5) (C := RX10) (T := TX10) (N := 17) hx hb hts iX10 hown hK hP 0 rfl rfl 4 (by decide) (hts _ qw360) (fun _ h9 => h9) rfl dX10_count_65 ?_
      refine va_get (D := (dC, dI)) (ci := 1) (v := .int 0) (C := RX1) (T := TX1) (N := 5) hx hb hts iX1 hown hK hP 2 rfl rfl 4 (by decide) (hts _ qw200) (fun _ h9 => h9) rfl dX10_count_68 ?_
      exact W.iret (v := 0) hx hb hr (fun t ht hW => ⟨⟨0, (), rfl, Or.inr (Or.inr (Or.inl ⟨z7 (by decide) e_1, rfl⟩)), trivial⟩, hS.F ht⟩) hS.2.2 dX10_count_71
    · refine lv_tableIn (off := 71) (tgt := 72) hx hb dX10_count_1 (by omega) (by omega) (by rw [e_1]; rfl) (by decide) ?_
      refine lv_aload_n hx hb dX10_count_72 rfl (lv_at hl 0 rfl) ?_
      refine va_get (D := (dC, dI)) (ci := 10) (v := .int 0) (C := RX10) (T := TX10) (N := 17) hx hb hts iX10 hown hK hP 0 rfl rfl 13 (by decide) (hts _ qw369) (fun _ h9 => h9) rfl dX10_count_73 ?_
      exact W.iret (v := 0) hx hb hr (fun t ht hW => ⟨⟨0, (), rfl, Or.inr (Or.inr (Or.inr (Or.inl ⟨z7 (by decide) e_1, rfl⟩))), trivial⟩, hS.F ht⟩) hS.2.2 dX10_count_76
    · refine lv_tableIn (off := 76) (tgt := 77) hx hb dX10_count_1 (by omega) (by omega) (by rw [e_1]; rfl) (by decide) ?_
      refine lv_aload_n hx hb dX10_count_77 rfl (lv_at hl 0 rfl) ?_
      refine va_get (D := (dC, dI)) (ci := 10) (v := .ref h1) (C := RX10) (T := TX10) (N := 17) hx hb hts iX10 hown hK hP 0 rfl rfl 0 (by decide) (hts _ qw356) (fun _ h9 => h9) rfl dX10_count_78 ?_
      refine va_get (D := (dC, dI)) (ci := 9) (v := .int 0) (C := RX9) (T := TX9) (N := 3) hx hb hts iX9 hown hK hP 1 rfl rfl 1 (by decide) (hts _ qw133) (fun _ h9 => h9) rfl dX10_count_81 ?_
      exact W.iret (v := 0) hx hb hr (fun t ht hW => ⟨⟨0, (), rfl, Or.inr (Or.inr (Or.inr (Or.inr (Or.inl ⟨z7 (by decide) e_1, rfl⟩)))), trivial⟩, hS.F ht⟩) hS.2.2 dX10_count_84
    · refine lv_tableIn (off := 84) (tgt := 85) hx hb dX10_count_1 (by omega) (by omega) (by rw [e_1]; rfl) (by decide) ?_
      refine lv_aload_n hx hb dX10_count_85 rfl (lv_at hl 0 rfl) ?_
      refine va_get (D := (dC, dI)) (ci := 10) (v := .int (-1)) (C := RX10) (T := TX10) (N := 17) hx hb hts iX10 hown hK hP 0 rfl rfl 14 (by decide) (hts _ qw370) (fun _ h9 => h9) rfl dX10_count_86 ?_
      exact W.iret (v := ((-1))) hx hb hr (fun t ht hW => ⟨⟨(-1), (), rfl, Or.inr (Or.inr (Or.inr (Or.inr (Or.inr (Or.inl ⟨z7 (by decide) e_1, rfl⟩))))), trivial⟩, hS.F ht⟩) hS.2.2 dX10_count_89
    · refine lv_tableIn (off := 89) (tgt := 90) hx hb dX10_count_1 (by omega) (by omega) (by rw [e_1]; rfl) (by decide) ?_
      refine lv_aload_n hx hb dX10_count_90 rfl (lv_at hl 0 rfl) ?_
      refine va_get (D := (dC, dI)) (ci := 10) (v := .ref h7) (C := RX10) (T := TX10) (N := 17) hx hb hts iX10 hown hK hP 0 rfl rfl 6 (by decide) (hts _ qw362) (fun _ h9 => h9) rfl dX10_count_91 ?_
      refine va_get (D := (dC, dI)) (ci := 7) (v := .int 0) (C := RX7) (T := TX7) (N := 9) hx hb hts iX7 hown hK hP 3 rfl rfl 8 (by decide) (hts _ qw242) (fun _ h9 => h9) rfl dX10_count_94 ?_
      exact W.iret (v := 0) hx hb hr (fun t ht hW => ⟨⟨0, (), rfl, Or.inr (Or.inr (Or.inr (Or.inr (Or.inr (Or.inr (Or.inl ⟨z7 (by decide) e_1, rfl⟩)))))), trivial⟩, hS.F ht⟩) hS.2.2 dX10_count_97
    · refine lv_tableIn (off := 97) (tgt := 98) hx hb dX10_count_1 (by omega) (by omega) (by rw [e_1]; rfl) (by decide) ?_
      refine lv_aload_n hx hb dX10_count_98 rfl (lv_at hl 0 rfl) ?_
      refine va_get (D := (dC, dI)) (ci := 10) (v := .ref h7) (C := RX10) (T := TX10) (N := 17) hx hb hts iX10 hown hK hP 0 rfl rfl 6 (by decide) (hts _ qw362) (fun _ h9 => h9) rfl dX10_count_99 ?_
      refine va_get (D := (dC, dI)) (ci := 7) (v := .int (-1)) (C := RX7) (T := TX7) (N := 9) hx hb hts iX7 hown hK hP 3 rfl rfl 6 (by decide) (hts _ qw237) (fun _ h9 => h9) rfl dX10_count_102 ?_
      exact W.iret (v := ((-1))) hx hb hr (fun t ht hW => ⟨⟨(-1), (), rfl, Or.inr (Or.inr (Or.inr (Or.inr (Or.inr (Or.inr (Or.inr (Or.inl ⟨z7 (by decide) e_1, rfl⟩))))))), trivial⟩, hS.F ht⟩) hS.2.2 dX10_count_105
    · refine lv_tableIn (off := 105) (tgt := 106) hx hb dX10_count_1 (by omega) (by omega) (by rw [e_1]; rfl) (by decide) ?_
      refine lv_aload_n hx hb dX10_count_106 rfl (lv_at hl 0 rfl) ?_
      refine va_get (D := (dC, dI)) (ci := 10) (v := .ref h7) (C := RX10) (T := TX10) (N := 17) hx hb hts iX10 hown hK hP 0 rfl rfl 6 (by decide) (hts _ qw362) (fun _ h9 => h9) rfl dX10_count_107 ?_
      refine va_get (D := (dC, dI)) (ci := 7) (v := .int 0) (C := RX7) (T := TX7) (N := 9) hx hb hts iX7 hown hK hP 3 rfl rfl 3 (by decide) (hts _ qw229) (fun _ h9 => h9) rfl dX10_count_110 ?_
      exact W.iret (v := 0) hx hb hr (fun t ht hW => ⟨⟨0, (), rfl, Or.inr (Or.inr (Or.inr (Or.inr (Or.inr (Or.inr (Or.inr (Or.inr (Or.inl ⟨z7 (by decide) e_1, rfl⟩)))))))), trivial⟩, hS.F ht⟩) hS.2.2 dX10_count_113
    · refine lv_tableIn (off := 113) (tgt := 114) hx hb dX10_count_1 (by omega) (by omega) (by rw [e_1]; rfl) (by decide) ?_
      refine lv_aload_n hx hb dX10_count_114 rfl (lv_at hl 0 rfl) ?_
      refine va_get (D := (dC, dI)) (ci := 10) (v := .int 0) (C := RX10) (T := TX10) (N := 17) hx hb hts iX10 hown hK hP 0 rfl rfl 15 (by decide) (hts _ qw371) (fun _ h9 => h9) rfl dX10_count_115 ?_
      exact W.iret (v := 0) hx hb hr (fun t ht hW => ⟨⟨0, (), rfl, Or.inr (Or.inr (Or.inr (Or.inr (Or.inr (Or.inr (Or.inr (Or.inr (Or.inr (Or.inl ⟨z7 (by decide) e_1, rfl⟩))))))))), trivial⟩, hS.F ht⟩) hS.2.2 dX10_count_118
    · refine lv_tableIn (off := 118) (tgt := 119) hx hb dX10_count_1 (by omega) (by omega) (by rw [e_1]; rfl) (by decide) ?_
      refine lv_aload_n hx hb dX10_count_119 rfl (lv_at hl 0 rfl) ?_
      refine va_get (D := (dC, dI)) (ci := 10) (v := .ref h9) (C := RX10) (T := TX10) (N := 17) hx hb hts iX10 hown hK hP 0 rfl rfl 8 (by decide) (hts _ qw364) (fun _ h9 => h9) rfl dX10_count_120 ?_
      refine va_get (D := (dC, dI)) (ci := 0) (v := .int 0) (C := RX0) (T := TX0) (N := 3) hx hb hts iX0 hown hK hP 4 rfl rfl 2 (by decide) (hts _ qw271) (fun _ h9 => h9) rfl dX10_count_123 ?_
      exact W.iret (v := 0) hx hb hr (fun t ht hW => ⟨⟨0, (), rfl, Or.inr (Or.inr (Or.inr (Or.inr (Or.inr (Or.inr (Or.inr (Or.inr (Or.inr (Or.inr (⟨z7 (by decide) e_1, rfl⟩)))))))))), trivial⟩, hS.F ht⟩) hS.2.2 dX10_count_126
