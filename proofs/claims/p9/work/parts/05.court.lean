set_option maxHeartbeats 4000000 in
set_option maxRecDepth 100000 in
theorem g_X1_firstPurse (l : Launch) (dC : Nat → ClassId) (dI : Nat → Nat → Nat) (cI cJ : ClassId) (h0 : Nat) (aR : Nat) (aB : Nat) (aP : Nat) (nb : Int32) (np : Int32) (fr : Nat → Int32) (sz : Nat)     : Met l yX1_firstPurse (.code yX1_firstPurse cX1_firstPurse 1 (some .int) :: wA) ({ frames := 0, cells := 0, slots := 0, locals := 0 }) (zP (dC, dI) [(cI, .int), (cJ, .long)] [.ref h0] sz [(h0, .inr (1, [.ref aR, .ref aB, .ref aP, .int nb, .int np])), (aR, .inl (cI, 3, .inl fr))]) (va_Qi (fun (r : Int32) (u : Unit) => (r = fr 0)) (fun (_ : Unit) (_ : State) => True) (va_A [] sz)) 0 0 (va_A [] sz) := by
  refine Met.ofW (cc := cX1_firstPurse) (maxL := 1) (ret := (some .int)) (by decide) rfl ?_
  intro p e s m args below meth c s₁ B hml hv
  obtain ⟨hargs, hsz, hP, hK, hT⟩ := hv
  have hx := B.exec
  have hb := B.bytes
  have hr := B.returns
  have hts : ∀ w ∈ wA, w.before args s = true := fun w h => atoms_spec (ws := .code yX1_firstPurse cX1_firstPurse 1 (some .int) :: wA) B.pre w (List.mem_cons_of_mem _ h)
  have hown : s.vm.findClass RX1 = some m.cls := findClass_of_methodNamed B.named
  have hlocks := B.notSynchronized
  subst hsz
  have hD : va_D (va_A [] s.heap.size) [] := zD0
  generalize hAe : va_A [] s.heap.size = A at hD ⊢
  have hA : ∀ q : Nat, s.heap.size ≤ q → A q := fun q h => by rw [← hAe]; exact Or.inr h
  have hl := lv_entry ([.ref h0]) (n := 1) (Nat.le_of_ble_eq_true rfl)
  rw [show entryFrame m args 1 = entryFrame m ([.ref h0] : List Value).toArray 1 by rw [hargs], lg_entry_eq]
  generalize (lg_sl ([.ref h0]) ++ List.replicate (1 - (lg_sl ([.ref h0])).length) Slot.unset).toArray = ls at hl ⊢
  have hl : lv_has ls 1 [(0, .ref h0)] := hl
  refine zstart (fun H hH => ?_)
  rw [← hH] at hP
  have hS : va_S A s.heap H [] := by rw [hH]; exact va_S.rf
  generalize ([] : List Loc) = locs at hS ⊢
  refine zgen (fun R Q hR hQ => ?_)
  refine lv_aload_n hx hb dX1_firstPurse_0 rfl (lv_at hl 0 rfl) ?_
  refine va_get (D := (dC, dI)) (ci := 1) (v := .ref aR) (C := RX1) (T := TX1) (N := 5) hx hb hts iX1 hown hK hP 0 rfl rfl 0 (by decide) (hts _ qw186) (fun _ h9 => h9) rfl dX1_firstPurse_1 ?_
  refine lv_iconst (v := 0) hx hb dX1_firstPurse_4 (by decide) ?_
  refine va_iald hx hb hK hP 1 0 rfl rfl (by unfold vp_in; decide) dX1_firstPurse_5 ?_
  refine lv_topi (fun v5 e5 => ?_)
  rw [hQ]
  exact W.iret (v := v5) hx hb hr (fun t ht hW => ⟨⟨v5, (), rfl, (zIxN e5 (by decide)), trivial⟩, hS.F ht⟩) hS.2.2 dX1_firstPurse_6
set_option maxHeartbeats 4000000 in
set_option maxRecDepth 100000 in
theorem g_X1_wantOfFace (l : Launch) (dC : Nat → ClassId) (dI : Nat → Nat → Nat) (cI cJ : ClassId) (h0 : Nat) (aR : Nat) (aB : Nat) (aP : Nat) (nb : Int32) (np : Int32) (fr : Nat → Int32) (sz : Nat)     : Met l yX1_wantOfFace (.code yX1_wantOfFace cX1_wantOfFace 1 (some .int) :: wA) ({ frames := 0, cells := 0, slots := 0, locals := 0 }) (zP (dC, dI) [(cI, .int), (cJ, .long)] [.ref h0] sz [(h0, .inr (1, [.ref aR, .ref aB, .ref aP, .int nb, .int np])), (aR, .inl (cI, 3, .inl fr))]) (va_Qi (fun (r : Int32) (u : Unit) => (r = fr 1)) (fun (_ : Unit) (_ : State) => True) (va_A [] sz)) 0 0 (va_A [] sz) := by
  refine Met.ofW (cc := cX1_wantOfFace) (maxL := 1) (ret := (some .int)) (by decide) rfl ?_
  intro p e s m args below meth c s₁ B hml hv
  obtain ⟨hargs, hsz, hP, hK, hT⟩ := hv
  have hx := B.exec
  have hb := B.bytes
  have hr := B.returns
  have hts : ∀ w ∈ wA, w.before args s = true := fun w h => atoms_spec (ws := .code yX1_wantOfFace cX1_wantOfFace 1 (some .int) :: wA) B.pre w (List.mem_cons_of_mem _ h)
  have hown : s.vm.findClass RX1 = some m.cls := findClass_of_methodNamed B.named
  have hlocks := B.notSynchronized
  subst hsz
  have hD : va_D (va_A [] s.heap.size) [] := zD0
  generalize hAe : va_A [] s.heap.size = A at hD ⊢
  have hA : ∀ q : Nat, s.heap.size ≤ q → A q := fun q h => by rw [← hAe]; exact Or.inr h
  have hl := lv_entry ([.ref h0]) (n := 1) (Nat.le_of_ble_eq_true rfl)
  rw [show entryFrame m args 1 = entryFrame m ([.ref h0] : List Value).toArray 1 by rw [hargs], lg_entry_eq]
  generalize (lg_sl ([.ref h0]) ++ List.replicate (1 - (lg_sl ([.ref h0])).length) Slot.unset).toArray = ls at hl ⊢
  have hl : lv_has ls 1 [(0, .ref h0)] := hl
  refine zstart (fun H hH => ?_)
  rw [← hH] at hP
  have hS : va_S A s.heap H [] := by rw [hH]; exact va_S.rf
  generalize ([] : List Loc) = locs at hS ⊢
  refine zgen (fun R Q hR hQ => ?_)
  refine lv_aload_n hx hb dX1_wantOfFace_0 rfl (lv_at hl 0 rfl) ?_
  refine va_get (D := (dC, dI)) (ci := 1) (v := .ref aR) (C := RX1) (T := TX1) (N := 5) hx hb hts iX1 hown hK hP 0 rfl rfl 0 (by decide) (hts _ qw186) (fun _ h9 => h9) rfl dX1_wantOfFace_1 ?_
  refine lv_iconst (v := 1) hx hb dX1_wantOfFace_4 (by decide) ?_
  refine va_iald hx hb hK hP 1 0 rfl rfl (by unfold vp_in; decide) dX1_wantOfFace_5 ?_
  refine lv_topi (fun v5 e5 => ?_)
  rw [hQ]
  exact W.iret (v := v5) hx hb hr (fun t ht hW => ⟨⟨v5, (), rfl, (zIxN e5 (by decide)), trivial⟩, hS.F ht⟩) hS.2.2 dX1_wantOfFace_6
set_option maxHeartbeats 4000000 in
set_option maxRecDepth 100000 in
theorem g_X1_wantOfDowry (l : Launch) (dC : Nat → ClassId) (dI : Nat → Nat → Nat) (cI cJ : ClassId) (h0 : Nat) (aR : Nat) (aB : Nat) (aP : Nat) (nb : Int32) (np : Int32) (fr : Nat → Int32) (sz : Nat)     : Met l yX1_wantOfDowry (.code yX1_wantOfDowry cX1_wantOfDowry 1 (some .int) :: wA) ({ frames := 0, cells := 0, slots := 0, locals := 0 }) (zP (dC, dI) [(cI, .int), (cJ, .long)] [.ref h0] sz [(h0, .inr (1, [.ref aR, .ref aB, .ref aP, .int nb, .int np])), (aR, .inl (cI, 3, .inl fr))]) (va_Qi (fun (r : Int32) (u : Unit) => (r = fr 2)) (fun (_ : Unit) (_ : State) => True) (va_A [] sz)) 0 0 (va_A [] sz) := by
  refine Met.ofW (cc := cX1_wantOfDowry) (maxL := 1) (ret := (some .int)) (by decide) rfl ?_
  intro p e s m args below meth c s₁ B hml hv
  obtain ⟨hargs, hsz, hP, hK, hT⟩ := hv
  have hx := B.exec
  have hb := B.bytes
  have hr := B.returns
  have hts : ∀ w ∈ wA, w.before args s = true := fun w h => atoms_spec (ws := .code yX1_wantOfDowry cX1_wantOfDowry 1 (some .int) :: wA) B.pre w (List.mem_cons_of_mem _ h)
  have hown : s.vm.findClass RX1 = some m.cls := findClass_of_methodNamed B.named
  have hlocks := B.notSynchronized
  subst hsz
  have hD : va_D (va_A [] s.heap.size) [] := zD0
  generalize hAe : va_A [] s.heap.size = A at hD ⊢
  have hA : ∀ q : Nat, s.heap.size ≤ q → A q := fun q h => by rw [← hAe]; exact Or.inr h
  have hl := lv_entry ([.ref h0]) (n := 1) (Nat.le_of_ble_eq_true rfl)
  rw [show entryFrame m args 1 = entryFrame m ([.ref h0] : List Value).toArray 1 by rw [hargs], lg_entry_eq]
  generalize (lg_sl ([.ref h0]) ++ List.replicate (1 - (lg_sl ([.ref h0])).length) Slot.unset).toArray = ls at hl ⊢
  have hl : lv_has ls 1 [(0, .ref h0)] := hl
  refine zstart (fun H hH => ?_)
  rw [← hH] at hP
  have hS : va_S A s.heap H [] := by rw [hH]; exact va_S.rf
  generalize ([] : List Loc) = locs at hS ⊢
  refine zgen (fun R Q hR hQ => ?_)
  refine lv_aload_n hx hb dX1_wantOfDowry_0 rfl (lv_at hl 0 rfl) ?_
  refine va_get (D := (dC, dI)) (ci := 1) (v := .ref aR) (C := RX1) (T := TX1) (N := 5) hx hb hts iX1 hown hK hP 0 rfl rfl 0 (by decide) (hts _ qw186) (fun _ h9 => h9) rfl dX1_wantOfDowry_1 ?_
  refine lv_iconst (v := 2) hx hb dX1_wantOfDowry_4 (by decide) ?_
  refine va_iald hx hb hK hP 1 0 rfl rfl (by unfold vp_in; decide) dX1_wantOfDowry_5 ?_
  refine lv_topi (fun v5 e5 => ?_)
  rw [hQ]
  exact W.iret (v := v5) hx hb hr (fun t ht hW => ⟨⟨v5, (), rfl, (zIxN e5 (by decide)), trivial⟩, hS.F ht⟩) hS.2.2 dX1_wantOfDowry_6
set_option maxHeartbeats 4000000 in
set_option maxRecDepth 100000 in
theorem g_X1_ofBride (l : Launch) (dC : Nat → ClassId) (dI : Nat → Nat → Nat) (cI cJ : ClassId) (h0 : Nat) (p0 : Int32) (p1 : Int32) (aR : Nat) (aB : Nat) (aP : Nat) (nb : Int32) (np : Int32) (fb : Nat → Int32) (sz : Nat) (n_p0 : 0 ≤ p0.toInt ∧ p0.toInt ≤ 5) (n_p1 : 0 ≤ p1.toInt ∧ p1.toInt ≤ 3)    : Met l yX1_ofBride (.code yX1_ofBride cX1_ofBride 3 (some .int) :: wA) ({ frames := 0, cells := 0, slots := 0, locals := 0 }) (zP (dC, dI) [(cI, .int), (cJ, .long)] [.ref h0, .int p0, .int p1] sz [(h0, .inr (1, [.ref aR, .ref aB, .ref aP, .int nb, .int np])), (aB, .inl (cI, 24, .inl fb))]) (va_Qi (fun (r : Int32) (u : Unit) => (r = fb (4 * p0.toInt.toNat + p1.toInt.toNat))) (fun (_ : Unit) (_ : State) => True) (va_A [] sz)) 0 0 (va_A [] sz) := by
  refine Met.ofW (cc := cX1_ofBride) (maxL := 3) (ret := (some .int)) (by decide) rfl ?_
  intro p e s m args below meth c s₁ B hml hv
  obtain ⟨hargs, hsz, hP, hK, hT⟩ := hv
  have hx := B.exec
  have hb := B.bytes
  have hr := B.returns
  have hts : ∀ w ∈ wA, w.before args s = true := fun w h => atoms_spec (ws := .code yX1_ofBride cX1_ofBride 3 (some .int) :: wA) B.pre w (List.mem_cons_of_mem _ h)
  have hown : s.vm.findClass RX1 = some m.cls := findClass_of_methodNamed B.named
  have hlocks := B.notSynchronized
  subst hsz
  have hD : va_D (va_A [] s.heap.size) [] := zD0
  generalize hAe : va_A [] s.heap.size = A at hD ⊢
  have hA : ∀ q : Nat, s.heap.size ≤ q → A q := fun q h => by rw [← hAe]; exact Or.inr h
  have hl := lv_entry ([.ref h0, .int p0, .int p1]) (n := 3) (Nat.le_of_ble_eq_true rfl)
  rw [show entryFrame m args 3 = entryFrame m ([.ref h0, .int p0, .int p1] : List Value).toArray 3 by rw [hargs], lg_entry_eq]
  generalize (lg_sl ([.ref h0, .int p0, .int p1]) ++ List.replicate (3 - (lg_sl ([.ref h0, .int p0, .int p1])).length) Slot.unset).toArray = ls at hl ⊢
  have hl : lv_has ls 3 [(0, .ref h0), (1, .int p0), (2, .int p1)] := hl
  refine zstart (fun H hH => ?_)
  rw [← hH] at hP
  have hS : va_S A s.heap H [] := by rw [hH]; exact va_S.rf
  generalize ([] : List Loc) = locs at hS ⊢
  refine zgen (fun R Q hR hQ => ?_)
  refine lv_aload_n hx hb dX1_ofBride_0 rfl (lv_at hl 0 rfl) ?_
  refine va_get (D := (dC, dI)) (ci := 1) (v := .ref aB) (C := RX1) (T := TX1) (N := 5) hx hb hts iX1 hown hK hP 0 rfl rfl 1 (by decide) (hts _ qw188) (fun _ h9 => h9) rfl dX1_ofBride_1 ?_
  refine lv_iload_n hx hb dX1_ofBride_4 rfl (lv_at hl 1 rfl) ?_
  refine lv_iconst (v := 4) hx hb dX1_ofBride_5 (by decide) ?_
  refine lv_imul hx hb dX1_ofBride_6 ?_
  refine lv_topi (fun v6 e6 => ?_)
  have i6 : v6.toInt = p0.toInt * 4 := zmul e6 rfl (by decide) (by omega) (by omega)
  refine lv_iload_n hx hb dX1_ofBride_7 rfl (lv_at hl 2 rfl) ?_
  refine lv_iadd hx hb dX1_ofBride_8 ?_
  refine lv_topi (fun v8 e8 => ?_)
  have i8 : v8.toInt = v6.toInt + p1.toInt := zadd e8 rfl rfl (by omega) (by omega)
  refine va_iald hx hb hK hP 1 0 rfl rfl (vp_in_iff.mpr ⟨by omega, by omega⟩) dX1_ofBride_9 ?_
  refine lv_topi (fun v9 e9 => ?_)
  rw [hQ]
  exact W.iret (v := v9) hx hb hr (fun t ht hW => ⟨⟨v9, (), rfl, (zIxN e9 (by omega)), trivial⟩, hS.F ht⟩) hS.2.2 dX1_ofBride_10
set_option maxHeartbeats 4000000 in
set_option maxRecDepth 100000 in
theorem g_X1_ofPainter (l : Launch) (dC : Nat → ClassId) (dI : Nat → Nat → Nat) (cI cJ : ClassId) (h0 : Nat) (p0 : Int32) (p1 : Int32) (aR : Nat) (aB : Nat) (aP : Nat) (nb : Int32) (np : Int32) (fp : Nat → Int32) (sz : Nat) (n_p0 : 0 ≤ p0.toInt ∧ p0.toInt ≤ 4) (n_p1 : 0 ≤ p1.toInt ∧ p1.toInt ≤ 3)    : Met l yX1_ofPainter (.code yX1_ofPainter cX1_ofPainter 3 (some .int) :: wA) ({ frames := 0, cells := 0, slots := 0, locals := 0 }) (zP (dC, dI) [(cI, .int), (cJ, .long)] [.ref h0, .int p0, .int p1] sz [(h0, .inr (1, [.ref aR, .ref aB, .ref aP, .int nb, .int np])), (aP, .inl (cI, 20, .inl fp))]) (va_Qi (fun (r : Int32) (u : Unit) => (r = fp (4 * p0.toInt.toNat + p1.toInt.toNat))) (fun (_ : Unit) (_ : State) => True) (va_A [] sz)) 0 0 (va_A [] sz) := by
  refine Met.ofW (cc := cX1_ofPainter) (maxL := 3) (ret := (some .int)) (by decide) rfl ?_
  intro p e s m args below meth c s₁ B hml hv
  obtain ⟨hargs, hsz, hP, hK, hT⟩ := hv
  have hx := B.exec
  have hb := B.bytes
  have hr := B.returns
  have hts : ∀ w ∈ wA, w.before args s = true := fun w h => atoms_spec (ws := .code yX1_ofPainter cX1_ofPainter 3 (some .int) :: wA) B.pre w (List.mem_cons_of_mem _ h)
  have hown : s.vm.findClass RX1 = some m.cls := findClass_of_methodNamed B.named
  have hlocks := B.notSynchronized
  subst hsz
  have hD : va_D (va_A [] s.heap.size) [] := zD0
  generalize hAe : va_A [] s.heap.size = A at hD ⊢
  have hA : ∀ q : Nat, s.heap.size ≤ q → A q := fun q h => by rw [← hAe]; exact Or.inr h
  have hl := lv_entry ([.ref h0, .int p0, .int p1]) (n := 3) (Nat.le_of_ble_eq_true rfl)
  rw [show entryFrame m args 3 = entryFrame m ([.ref h0, .int p0, .int p1] : List Value).toArray 3 by rw [hargs], lg_entry_eq]
  generalize (lg_sl ([.ref h0, .int p0, .int p1]) ++ List.replicate (3 - (lg_sl ([.ref h0, .int p0, .int p1])).length) Slot.unset).toArray = ls at hl ⊢
  have hl : lv_has ls 3 [(0, .ref h0), (1, .int p0), (2, .int p1)] := hl
  refine zstart (fun H hH => ?_)
  rw [← hH] at hP
  have hS : va_S A s.heap H [] := by rw [hH]; exact va_S.rf
  generalize ([] : List Loc) = locs at hS ⊢
  refine zgen (fun R Q hR hQ => ?_)
  refine lv_aload_n hx hb dX1_ofPainter_0 rfl (lv_at hl 0 rfl) ?_
  refine va_get (D := (dC, dI)) (ci := 1) (v := .ref aP) (C := RX1) (T := TX1) (N := 5) hx hb hts iX1 hown hK hP 0 rfl rfl 2 (by decide) (hts _ qw190) (fun _ h9 => h9) rfl dX1_ofPainter_1 ?_
  refine lv_iload_n hx hb dX1_ofPainter_4 rfl (lv_at hl 1 rfl) ?_
  refine lv_iconst (v := 4) hx hb dX1_ofPainter_5 (by decide) ?_
  refine lv_imul hx hb dX1_ofPainter_6 ?_
  refine lv_topi (fun v6 e6 => ?_)
  have i6 : v6.toInt = p0.toInt * 4 := zmul e6 rfl (by decide) (by omega) (by omega)
  refine lv_iload_n hx hb dX1_ofPainter_7 rfl (lv_at hl 2 rfl) ?_
  refine lv_iadd hx hb dX1_ofPainter_8 ?_
  refine lv_topi (fun v8 e8 => ?_)
  have i8 : v8.toInt = v6.toInt + p1.toInt := zadd e8 rfl rfl (by omega) (by omega)
  refine va_iald hx hb hK hP 1 0 rfl rfl (vp_in_iff.mpr ⟨by omega, by omega⟩) dX1_ofPainter_9 ?_
  refine lv_topi (fun v9 e9 => ?_)
  rw [hQ]
  exact W.iret (v := v9) hx hb hr (fun t ht hW => ⟨⟨v9, (), rfl, (zIxN e9 (by omega)), trivial⟩, hS.F ht⟩) hS.2.2 dX1_ofPainter_10
set_option maxHeartbeats 4000000 in
set_option maxRecDepth 100000 in
theorem g_X1_faceOf (l : Launch) (dC : Nat → ClassId) (dI : Nat → Nat → Nat) (cI cJ : ClassId) (h0 : Nat) (p0 : Int32) (aR : Nat) (aB : Nat) (aP : Nat) (nb : Int32) (np : Int32) (fb : Nat → Int32) (sz : Nat) (n_p0 : 0 ≤ p0.toInt ∧ p0.toInt ≤ 5)    : Met l yX1_faceOf (.code yX1_faceOf cX1_faceOf 2 (some .int) :: wA) ({ frames := 1, cells := 0, slots := 0, locals := 22 }) (zP (dC, dI) [(cI, .int), (cJ, .long)] [.ref h0, .int p0] sz [(h0, .inr (1, [.ref aR, .ref aB, .ref aP, .int nb, .int np])), (aB, .inl (cI, 24, .inl fb))]) (va_Qi (fun (r : Int32) (u : Unit) => (r = fb (4 * p0.toInt.toNat))) (fun (_ : Unit) (_ : State) => True) (va_A [] sz)) 0 0 (va_A [] sz) := by
  refine Met.ofW (cc := cX1_faceOf) (maxL := 2) (ret := (some .int)) (by decide) rfl ?_
  intro p e s m args below meth c s₁ B hml hv
  obtain ⟨hargs, hsz, hP, hK, hT⟩ := hv
  have hx := B.exec
  have hb := B.bytes
  have hr := B.returns
  have hts : ∀ w ∈ wA, w.before args s = true := fun w h => atoms_spec (ws := .code yX1_faceOf cX1_faceOf 2 (some .int) :: wA) B.pre w (List.mem_cons_of_mem _ h)
  have hown : s.vm.findClass RX1 = some m.cls := findClass_of_methodNamed B.named
  have hlocks := B.notSynchronized
  subst hsz
  have hD : va_D (va_A [] s.heap.size) [] := zD0
  generalize hAe : va_A [] s.heap.size = A at hD ⊢
  have hA : ∀ q : Nat, s.heap.size ≤ q → A q := fun q h => by rw [← hAe]; exact Or.inr h
  have hl := lv_entry ([.ref h0, .int p0]) (n := 2) (Nat.le_of_ble_eq_true rfl)
  rw [show entryFrame m args 2 = entryFrame m ([.ref h0, .int p0] : List Value).toArray 2 by rw [hargs], lg_entry_eq]
  generalize (lg_sl ([.ref h0, .int p0]) ++ List.replicate (2 - (lg_sl ([.ref h0, .int p0])).length) Slot.unset).toArray = ls at hl ⊢
  have hl : lv_has ls 2 [(0, .ref h0), (1, .int p0)] := hl
  refine zstart (fun H hH => ?_)
  rw [← hH] at hP
  have hS : va_S A s.heap H [] := by rw [hH]; exact va_S.rf
  generalize ([] : List Loc) = locs at hS ⊢
  refine zgen (fun R Q hR hQ => ?_)
  refine lv_aload_n hx hb dX1_faceOf_0 rfl (lv_at hl 0 rfl) ?_
  refine lv_iload_n hx hb dX1_faceOf_1 rfl (lv_at hl 1 rfl) ?_
  refine lv_iconst (v := 0) hx hb dX1_faceOf_2 (by decide) ?_
  obtain ⟨hPc, hDc⟩ := zc2 (wc := [(h0, .inr (1, [.ref aR, .ref aB, .ref aP, .int nb, .int np])), (aB, .inl (cI, 24, .inl fb))]) hP hT [0, 1] (by decide +kernel) rfl
  have hFc := zfr hS hA
  refine va_calli (va_runV (As := [.int p0, .int 0]) (rest := []) ⟨hx, hb, hml, hown, hts⟩ (g_X1_ofBride l dC dI cI cJ h0 p0 0 aR aB aP nb np fb H.size n_p0 (by decide)) (cwV 2 hts (zgV qw666 qw537 qw538 qw102 qw539) rfl rfl rfl hd_X1_ofBride ⟨by rw [hR]; exact Nat.le_of_ble_eq_true rfl, by rw [hR]; exact Nat.le_of_ble_eq_true rfl⟩) (zPV hPc hK hDc (va_recv (q := (RX1, TX1, 5)) hK hP (ci := 1) (q0 := 0) rfl rfl)) rfl rfl hl.1 rfl (lv_room (Nat.le_of_ble_eq_true rfl)) dX1_faceOf_3 ⟨Nat.zero_le _, Nat.zero_le _⟩) hS (fun q _ h => hFc q h) hFc (fun v3 u3 t H locs ht hvm hw hB hz1 hk1 hS9 => ?_)
  replace hP := zkeep hP hk1
  replace hS := hS9
  clear hPc hDc hFc hk1 hz1 hvm hS9
  have zn3_0 : (0 : Int32).toInt = 0 := by decide
  have f3_0 : (v3 = fb (4 * p0.toInt.toNat + (0 : Int32).toInt.toNat)) := hw
  have F3 := f3_0
  rw [hQ]
  exact W.iret (v := v3) hx hb hr (fun t ht hW => ⟨⟨v3, (), rfl, (F3.trans (congrArg fb (by have : (0 : Int32).toInt = 0 := (by decide); omega))), trivial⟩, hS.F ht⟩) hS.2.2 dX1_faceOf_6
set_option maxHeartbeats 4000000 in
set_option maxRecDepth 100000 in
theorem g_X1_dowryOf (l : Launch) (dC : Nat → ClassId) (dI : Nat → Nat → Nat) (cI cJ : ClassId) (h0 : Nat) (p0 : Int32) (aR : Nat) (aB : Nat) (aP : Nat) (nb : Int32) (np : Int32) (fb : Nat → Int32) (sz : Nat) (n_p0 : 0 ≤ p0.toInt ∧ p0.toInt ≤ 5)    : Met l yX1_dowryOf (.code yX1_dowryOf cX1_dowryOf 2 (some .int) :: wA) ({ frames := 1, cells := 0, slots := 0, locals := 22 }) (zP (dC, dI) [(cI, .int), (cJ, .long)] [.ref h0, .int p0] sz [(h0, .inr (1, [.ref aR, .ref aB, .ref aP, .int nb, .int np])), (aB, .inl (cI, 24, .inl fb))]) (va_Qi (fun (r : Int32) (u : Unit) => (r = fb (4 * p0.toInt.toNat + 1))) (fun (_ : Unit) (_ : State) => True) (va_A [] sz)) 0 0 (va_A [] sz) := by
  refine Met.ofW (cc := cX1_dowryOf) (maxL := 2) (ret := (some .int)) (by decide) rfl ?_
  intro p e s m args below meth c s₁ B hml hv
  obtain ⟨hargs, hsz, hP, hK, hT⟩ := hv
  have hx := B.exec
  have hb := B.bytes
  have hr := B.returns
  have hts : ∀ w ∈ wA, w.before args s = true := fun w h => atoms_spec (ws := .code yX1_dowryOf cX1_dowryOf 2 (some .int) :: wA) B.pre w (List.mem_cons_of_mem _ h)
  have hown : s.vm.findClass RX1 = some m.cls := findClass_of_methodNamed B.named
  have hlocks := B.notSynchronized
  subst hsz
  have hD : va_D (va_A [] s.heap.size) [] := zD0
  generalize hAe : va_A [] s.heap.size = A at hD ⊢
  have hA : ∀ q : Nat, s.heap.size ≤ q → A q := fun q h => by rw [← hAe]; exact Or.inr h
  have hl := lv_entry ([.ref h0, .int p0]) (n := 2) (Nat.le_of_ble_eq_true rfl)
  rw [show entryFrame m args 2 = entryFrame m ([.ref h0, .int p0] : List Value).toArray 2 by rw [hargs], lg_entry_eq]
  generalize (lg_sl ([.ref h0, .int p0]) ++ List.replicate (2 - (lg_sl ([.ref h0, .int p0])).length) Slot.unset).toArray = ls at hl ⊢
  have hl : lv_has ls 2 [(0, .ref h0), (1, .int p0)] := hl
  refine zstart (fun H hH => ?_)
  rw [← hH] at hP
  have hS : va_S A s.heap H [] := by rw [hH]; exact va_S.rf
  generalize ([] : List Loc) = locs at hS ⊢
  refine zgen (fun R Q hR hQ => ?_)
  refine lv_aload_n hx hb dX1_dowryOf_0 rfl (lv_at hl 0 rfl) ?_
  refine lv_iload_n hx hb dX1_dowryOf_1 rfl (lv_at hl 1 rfl) ?_
  refine lv_iconst (v := 1) hx hb dX1_dowryOf_2 (by decide) ?_
  obtain ⟨hPc, hDc⟩ := zc2 (wc := [(h0, .inr (1, [.ref aR, .ref aB, .ref aP, .int nb, .int np])), (aB, .inl (cI, 24, .inl fb))]) hP hT [0, 1] (by decide +kernel) rfl
  have hFc := zfr hS hA
  refine va_calli (va_runV (As := [.int p0, .int 1]) (rest := []) ⟨hx, hb, hml, hown, hts⟩ (g_X1_ofBride l dC dI cI cJ h0 p0 1 aR aB aP nb np fb H.size n_p0 (by decide)) (cwV 2 hts (zgV qw666 qw537 qw538 qw102 qw539) rfl rfl rfl hd_X1_ofBride ⟨by rw [hR]; exact Nat.le_of_ble_eq_true rfl, by rw [hR]; exact Nat.le_of_ble_eq_true rfl⟩) (zPV hPc hK hDc (va_recv (q := (RX1, TX1, 5)) hK hP (ci := 1) (q0 := 0) rfl rfl)) rfl rfl hl.1 rfl (lv_room (Nat.le_of_ble_eq_true rfl)) dX1_dowryOf_3 ⟨Nat.zero_le _, Nat.zero_le _⟩) hS (fun q _ h => hFc q h) hFc (fun v3 u3 t H locs ht hvm hw hB hz1 hk1 hS9 => ?_)
  replace hP := zkeep hP hk1
  replace hS := hS9
  clear hPc hDc hFc hk1 hz1 hvm hS9
  have zn3_1 : (1 : Int32).toInt = 1 := by decide
  have f3_0 : (v3 = fb (4 * p0.toInt.toNat + (1 : Int32).toInt.toNat)) := hw
  have F3 := f3_0
  rw [hQ]
  exact W.iret (v := v3) hx hb hr (fun t ht hW => ⟨⟨v3, (), rfl, (F3.trans (congrArg fb (by have : (1 : Int32).toInt = 1 := (by decide); omega))), trivial⟩, hS.F ht⟩) hS.2.2 dX1_dowryOf_6
set_option maxHeartbeats 4000000 in
set_option maxRecDepth 100000 in
theorem g_X1_wartsOf (l : Launch) (dC : Nat → ClassId) (dI : Nat → Nat → Nat) (cI cJ : ClassId) (h0 : Nat) (p0 : Int32) (aR : Nat) (aB : Nat) (aP : Nat) (nb : Int32) (np : Int32) (fb : Nat → Int32) (sz : Nat) (n_p0 : 0 ≤ p0.toInt ∧ p0.toInt ≤ 5)    : Met l yX1_wartsOf (.code yX1_wartsOf cX1_wartsOf 2 (some .int) :: wA) ({ frames := 1, cells := 0, slots := 0, locals := 22 }) (zP (dC, dI) [(cI, .int), (cJ, .long)] [.ref h0, .int p0] sz [(h0, .inr (1, [.ref aR, .ref aB, .ref aP, .int nb, .int np])), (aB, .inl (cI, 24, .inl fb))]) (va_Qi (fun (r : Int32) (u : Unit) => (r = fb (4 * p0.toInt.toNat + 2))) (fun (_ : Unit) (_ : State) => True) (va_A [] sz)) 0 0 (va_A [] sz) := by
  refine Met.ofW (cc := cX1_wartsOf) (maxL := 2) (ret := (some .int)) (by decide) rfl ?_
  intro p e s m args below meth c s₁ B hml hv
  obtain ⟨hargs, hsz, hP, hK, hT⟩ := hv
  have hx := B.exec
  have hb := B.bytes
  have hr := B.returns
  have hts : ∀ w ∈ wA, w.before args s = true := fun w h => atoms_spec (ws := .code yX1_wartsOf cX1_wartsOf 2 (some .int) :: wA) B.pre w (List.mem_cons_of_mem _ h)
  have hown : s.vm.findClass RX1 = some m.cls := findClass_of_methodNamed B.named
  have hlocks := B.notSynchronized
  subst hsz
  have hD : va_D (va_A [] s.heap.size) [] := zD0
  generalize hAe : va_A [] s.heap.size = A at hD ⊢
  have hA : ∀ q : Nat, s.heap.size ≤ q → A q := fun q h => by rw [← hAe]; exact Or.inr h
  have hl := lv_entry ([.ref h0, .int p0]) (n := 2) (Nat.le_of_ble_eq_true rfl)
  rw [show entryFrame m args 2 = entryFrame m ([.ref h0, .int p0] : List Value).toArray 2 by rw [hargs], lg_entry_eq]
  generalize (lg_sl ([.ref h0, .int p0]) ++ List.replicate (2 - (lg_sl ([.ref h0, .int p0])).length) Slot.unset).toArray = ls at hl ⊢
  have hl : lv_has ls 2 [(0, .ref h0), (1, .int p0)] := hl
  refine zstart (fun H hH => ?_)
  rw [← hH] at hP
  have hS : va_S A s.heap H [] := by rw [hH]; exact va_S.rf
  generalize ([] : List Loc) = locs at hS ⊢
  refine zgen (fun R Q hR hQ => ?_)
  refine lv_aload_n hx hb dX1_wartsOf_0 rfl (lv_at hl 0 rfl) ?_
  refine lv_iload_n hx hb dX1_wartsOf_1 rfl (lv_at hl 1 rfl) ?_
  refine lv_iconst (v := 2) hx hb dX1_wartsOf_2 (by decide) ?_
  obtain ⟨hPc, hDc⟩ := zc2 (wc := [(h0, .inr (1, [.ref aR, .ref aB, .ref aP, .int nb, .int np])), (aB, .inl (cI, 24, .inl fb))]) hP hT [0, 1] (by decide +kernel) rfl
  have hFc := zfr hS hA
  refine va_calli (va_runV (As := [.int p0, .int 2]) (rest := []) ⟨hx, hb, hml, hown, hts⟩ (g_X1_ofBride l dC dI cI cJ h0 p0 2 aR aB aP nb np fb H.size n_p0 (by decide)) (cwV 2 hts (zgV qw666 qw537 qw538 qw102 qw539) rfl rfl rfl hd_X1_ofBride ⟨by rw [hR]; exact Nat.le_of_ble_eq_true rfl, by rw [hR]; exact Nat.le_of_ble_eq_true rfl⟩) (zPV hPc hK hDc (va_recv (q := (RX1, TX1, 5)) hK hP (ci := 1) (q0 := 0) rfl rfl)) rfl rfl hl.1 rfl (lv_room (Nat.le_of_ble_eq_true rfl)) dX1_wartsOf_3 ⟨Nat.zero_le _, Nat.zero_le _⟩) hS (fun q _ h => hFc q h) hFc (fun v3 u3 t H locs ht hvm hw hB hz1 hk1 hS9 => ?_)
  replace hP := zkeep hP hk1
  replace hS := hS9
  clear hPc hDc hFc hk1 hz1 hvm hS9
  have zn3_2 : (2 : Int32).toInt = 2 := by decide
  have f3_0 : (v3 = fb (4 * p0.toInt.toNat + (2 : Int32).toInt.toNat)) := hw
  have F3 := f3_0
  rw [hQ]
  exact W.iret (v := v3) hx hb hr (fun t ht hW => ⟨⟨v3, (), rfl, (F3.trans (congrArg fb (by have : (2 : Int32).toInt = 2 := (by decide); omega))), trivial⟩, hS.F ht⟩) hS.2.2 dX1_wartsOf_6
set_option maxHeartbeats 4000000 in
set_option maxRecDepth 100000 in
theorem g_X1_skillOf (l : Launch) (dC : Nat → ClassId) (dI : Nat → Nat → Nat) (cI cJ : ClassId) (h0 : Nat) (p0 : Int32) (aR : Nat) (aB : Nat) (aP : Nat) (nb : Int32) (np : Int32) (fp : Nat → Int32) (sz : Nat) (n_p0 : 0 ≤ p0.toInt ∧ p0.toInt ≤ 4)    : Met l yX1_skillOf (.code yX1_skillOf cX1_skillOf 2 (some .int) :: wA) ({ frames := 1, cells := 0, slots := 0, locals := 22 }) (zP (dC, dI) [(cI, .int), (cJ, .long)] [.ref h0, .int p0] sz [(h0, .inr (1, [.ref aR, .ref aB, .ref aP, .int nb, .int np])), (aP, .inl (cI, 20, .inl fp))]) (va_Qi (fun (r : Int32) (u : Unit) => (r = fp (4 * p0.toInt.toNat))) (fun (_ : Unit) (_ : State) => True) (va_A [] sz)) 0 0 (va_A [] sz) := by
  refine Met.ofW (cc := cX1_skillOf) (maxL := 2) (ret := (some .int)) (by decide) rfl ?_
  intro p e s m args below meth c s₁ B hml hv
  obtain ⟨hargs, hsz, hP, hK, hT⟩ := hv
  have hx := B.exec
  have hb := B.bytes
  have hr := B.returns
  have hts : ∀ w ∈ wA, w.before args s = true := fun w h => atoms_spec (ws := .code yX1_skillOf cX1_skillOf 2 (some .int) :: wA) B.pre w (List.mem_cons_of_mem _ h)
  have hown : s.vm.findClass RX1 = some m.cls := findClass_of_methodNamed B.named
  have hlocks := B.notSynchronized
  subst hsz
  have hD : va_D (va_A [] s.heap.size) [] := zD0
  generalize hAe : va_A [] s.heap.size = A at hD ⊢
  have hA : ∀ q : Nat, s.heap.size ≤ q → A q := fun q h => by rw [← hAe]; exact Or.inr h
  have hl := lv_entry ([.ref h0, .int p0]) (n := 2) (Nat.le_of_ble_eq_true rfl)
  rw [show entryFrame m args 2 = entryFrame m ([.ref h0, .int p0] : List Value).toArray 2 by rw [hargs], lg_entry_eq]
  generalize (lg_sl ([.ref h0, .int p0]) ++ List.replicate (2 - (lg_sl ([.ref h0, .int p0])).length) Slot.unset).toArray = ls at hl ⊢
  have hl : lv_has ls 2 [(0, .ref h0), (1, .int p0)] := hl
  refine zstart (fun H hH => ?_)
  rw [← hH] at hP
  have hS : va_S A s.heap H [] := by rw [hH]; exact va_S.rf
  generalize ([] : List Loc) = locs at hS ⊢
  refine zgen (fun R Q hR hQ => ?_)
  refine lv_aload_n hx hb dX1_skillOf_0 rfl (lv_at hl 0 rfl) ?_
  refine lv_iload_n hx hb dX1_skillOf_1 rfl (lv_at hl 1 rfl) ?_
  refine lv_iconst (v := 0) hx hb dX1_skillOf_2 (by decide) ?_
  obtain ⟨hPc, hDc⟩ := zc2 (wc := [(h0, .inr (1, [.ref aR, .ref aB, .ref aP, .int nb, .int np])), (aP, .inl (cI, 20, .inl fp))]) hP hT [0, 1] (by decide +kernel) rfl
  have hFc := zfr hS hA
  refine va_calli (va_runV (As := [.int p0, .int 0]) (rest := []) ⟨hx, hb, hml, hown, hts⟩ (g_X1_ofPainter l dC dI cI cJ h0 p0 0 aR aB aP nb np fp H.size n_p0 (by decide)) (cwV 2 hts (zgV qw608 qw541 qw542 qw102 qw543) rfl rfl rfl hd_X1_ofPainter ⟨by rw [hR]; exact Nat.le_of_ble_eq_true rfl, by rw [hR]; exact Nat.le_of_ble_eq_true rfl⟩) (zPV hPc hK hDc (va_recv (q := (RX1, TX1, 5)) hK hP (ci := 1) (q0 := 0) rfl rfl)) rfl rfl hl.1 rfl (lv_room (Nat.le_of_ble_eq_true rfl)) dX1_skillOf_3 ⟨Nat.zero_le _, Nat.zero_le _⟩) hS (fun q _ h => hFc q h) hFc (fun v3 u3 t H locs ht hvm hw hB hz1 hk1 hS9 => ?_)
  replace hP := zkeep hP hk1
  replace hS := hS9
  clear hPc hDc hFc hk1 hz1 hvm hS9
  have zn3_0 : (0 : Int32).toInt = 0 := by decide
  have f3_0 : (v3 = fp (4 * p0.toInt.toNat + (0 : Int32).toInt.toNat)) := hw
  have F3 := f3_0
  rw [hQ]
  exact W.iret (v := v3) hx hb hr (fun t ht hW => ⟨⟨v3, (), rfl, (F3.trans (congrArg fp (by have : (0 : Int32).toInt = 0 := (by decide); omega))), trivial⟩, hS.F ht⟩) hS.2.2 dX1_skillOf_6
set_option maxHeartbeats 4000000 in
set_option maxRecDepth 100000 in
theorem g_X1_feeOf (l : Launch) (dC : Nat → ClassId) (dI : Nat → Nat → Nat) (cI cJ : ClassId) (h0 : Nat) (p0 : Int32) (aR : Nat) (aB : Nat) (aP : Nat) (nb : Int32) (np : Int32) (fp : Nat → Int32) (sz : Nat) (n_p0 : 0 ≤ p0.toInt ∧ p0.toInt ≤ 4)    : Met l yX1_feeOf (.code yX1_feeOf cX1_feeOf 2 (some .int) :: wA) ({ frames := 1, cells := 0, slots := 0, locals := 22 }) (zP (dC, dI) [(cI, .int), (cJ, .long)] [.ref h0, .int p0] sz [(h0, .inr (1, [.ref aR, .ref aB, .ref aP, .int nb, .int np])), (aP, .inl (cI, 20, .inl fp))]) (va_Qi (fun (r : Int32) (u : Unit) => (r = fp (4 * p0.toInt.toNat + 1))) (fun (_ : Unit) (_ : State) => True) (va_A [] sz)) 0 0 (va_A [] sz) := by
  refine Met.ofW (cc := cX1_feeOf) (maxL := 2) (ret := (some .int)) (by decide) rfl ?_
  intro p e s m args below meth c s₁ B hml hv
  obtain ⟨hargs, hsz, hP, hK, hT⟩ := hv
  have hx := B.exec
  have hb := B.bytes
  have hr := B.returns
  have hts : ∀ w ∈ wA, w.before args s = true := fun w h => atoms_spec (ws := .code yX1_feeOf cX1_feeOf 2 (some .int) :: wA) B.pre w (List.mem_cons_of_mem _ h)
  have hown : s.vm.findClass RX1 = some m.cls := findClass_of_methodNamed B.named
  have hlocks := B.notSynchronized
  subst hsz
  have hD : va_D (va_A [] s.heap.size) [] := zD0
  generalize hAe : va_A [] s.heap.size = A at hD ⊢
  have hA : ∀ q : Nat, s.heap.size ≤ q → A q := fun q h => by rw [← hAe]; exact Or.inr h
  have hl := lv_entry ([.ref h0, .int p0]) (n := 2) (Nat.le_of_ble_eq_true rfl)
  rw [show entryFrame m args 2 = entryFrame m ([.ref h0, .int p0] : List Value).toArray 2 by rw [hargs], lg_entry_eq]
  generalize (lg_sl ([.ref h0, .int p0]) ++ List.replicate (2 - (lg_sl ([.ref h0, .int p0])).length) Slot.unset).toArray = ls at hl ⊢
  have hl : lv_has ls 2 [(0, .ref h0), (1, .int p0)] := hl
  refine zstart (fun H hH => ?_)
  rw [← hH] at hP
  have hS : va_S A s.heap H [] := by rw [hH]; exact va_S.rf
  generalize ([] : List Loc) = locs at hS ⊢
  refine zgen (fun R Q hR hQ => ?_)
  refine lv_aload_n hx hb dX1_feeOf_0 rfl (lv_at hl 0 rfl) ?_
  refine lv_iload_n hx hb dX1_feeOf_1 rfl (lv_at hl 1 rfl) ?_
  refine lv_iconst (v := 1) hx hb dX1_feeOf_2 (by decide) ?_
  obtain ⟨hPc, hDc⟩ := zc2 (wc := [(h0, .inr (1, [.ref aR, .ref aB, .ref aP, .int nb, .int np])), (aP, .inl (cI, 20, .inl fp))]) hP hT [0, 1] (by decide +kernel) rfl
  have hFc := zfr hS hA
  refine va_calli (va_runV (As := [.int p0, .int 1]) (rest := []) ⟨hx, hb, hml, hown, hts⟩ (g_X1_ofPainter l dC dI cI cJ h0 p0 1 aR aB aP nb np fp H.size n_p0 (by decide)) (cwV 2 hts (zgV qw608 qw541 qw542 qw102 qw543) rfl rfl rfl hd_X1_ofPainter ⟨by rw [hR]; exact Nat.le_of_ble_eq_true rfl, by rw [hR]; exact Nat.le_of_ble_eq_true rfl⟩) (zPV hPc hK hDc (va_recv (q := (RX1, TX1, 5)) hK hP (ci := 1) (q0 := 0) rfl rfl)) rfl rfl hl.1 rfl (lv_room (Nat.le_of_ble_eq_true rfl)) dX1_feeOf_3 ⟨Nat.zero_le _, Nat.zero_le _⟩) hS (fun q _ h => hFc q h) hFc (fun v3 u3 t H locs ht hvm hw hB hz1 hk1 hS9 => ?_)
  replace hP := zkeep hP hk1
  replace hS := hS9
  clear hPc hDc hFc hk1 hz1 hvm hS9
  have zn3_1 : (1 : Int32).toInt = 1 := by decide
  have f3_0 : (v3 = fp (4 * p0.toInt.toNat + (1 : Int32).toInt.toNat)) := hw
  have F3 := f3_0
  rw [hQ]
  exact W.iret (v := v3) hx hb hr (fun t ht hW => ⟨⟨v3, (), rfl, (F3.trans (congrArg fp (by have : (1 : Int32).toInt = 1 := (by decide); omega))), trivial⟩, hS.F ht⟩) hS.2.2 dX1_feeOf_6
set_option maxHeartbeats 4000000 in
set_option maxRecDepth 100000 in
theorem g_X1_kindOf (l : Launch) (dC : Nat → ClassId) (dI : Nat → Nat → Nat) (cI cJ : ClassId) (h0 : Nat) (p0 : Int32) (aR : Nat) (aB : Nat) (aP : Nat) (nb : Int32) (np : Int32) (fp : Nat → Int32) (sz : Nat) (n_p0 : 0 ≤ p0.toInt ∧ p0.toInt ≤ 4)    : Met l yX1_kindOf (.code yX1_kindOf cX1_kindOf 2 (some .int) :: wA) ({ frames := 1, cells := 0, slots := 0, locals := 22 }) (zP (dC, dI) [(cI, .int), (cJ, .long)] [.ref h0, .int p0] sz [(h0, .inr (1, [.ref aR, .ref aB, .ref aP, .int nb, .int np])), (aP, .inl (cI, 20, .inl fp))]) (va_Qi (fun (r : Int32) (u : Unit) => (r = fp (4 * p0.toInt.toNat + 3))) (fun (_ : Unit) (_ : State) => True) (va_A [] sz)) 0 0 (va_A [] sz) := by
  refine Met.ofW (cc := cX1_kindOf) (maxL := 2) (ret := (some .int)) (by decide) rfl ?_
  intro p e s m args below meth c s₁ B hml hv
  obtain ⟨hargs, hsz, hP, hK, hT⟩ := hv
  have hx := B.exec
  have hb := B.bytes
  have hr := B.returns
  have hts : ∀ w ∈ wA, w.before args s = true := fun w h => atoms_spec (ws := .code yX1_kindOf cX1_kindOf 2 (some .int) :: wA) B.pre w (List.mem_cons_of_mem _ h)
  have hown : s.vm.findClass RX1 = some m.cls := findClass_of_methodNamed B.named
  have hlocks := B.notSynchronized
  subst hsz
  have hD : va_D (va_A [] s.heap.size) [] := zD0
  generalize hAe : va_A [] s.heap.size = A at hD ⊢
  have hA : ∀ q : Nat, s.heap.size ≤ q → A q := fun q h => by rw [← hAe]; exact Or.inr h
  have hl := lv_entry ([.ref h0, .int p0]) (n := 2) (Nat.le_of_ble_eq_true rfl)
  rw [show entryFrame m args 2 = entryFrame m ([.ref h0, .int p0] : List Value).toArray 2 by rw [hargs], lg_entry_eq]
  generalize (lg_sl ([.ref h0, .int p0]) ++ List.replicate (2 - (lg_sl ([.ref h0, .int p0])).length) Slot.unset).toArray = ls at hl ⊢
  have hl : lv_has ls 2 [(0, .ref h0), (1, .int p0)] := hl
  refine zstart (fun H hH => ?_)
  rw [← hH] at hP
  have hS : va_S A s.heap H [] := by rw [hH]; exact va_S.rf
  generalize ([] : List Loc) = locs at hS ⊢
  refine zgen (fun R Q hR hQ => ?_)
  refine lv_aload_n hx hb dX1_kindOf_0 rfl (lv_at hl 0 rfl) ?_
  refine lv_iload_n hx hb dX1_kindOf_1 rfl (lv_at hl 1 rfl) ?_
  refine lv_iconst (v := 3) hx hb dX1_kindOf_2 (by decide) ?_
  obtain ⟨hPc, hDc⟩ := zc2 (wc := [(h0, .inr (1, [.ref aR, .ref aB, .ref aP, .int nb, .int np])), (aP, .inl (cI, 20, .inl fp))]) hP hT [0, 1] (by decide +kernel) rfl
  have hFc := zfr hS hA
  refine va_calli (va_runV (As := [.int p0, .int 3]) (rest := []) ⟨hx, hb, hml, hown, hts⟩ (g_X1_ofPainter l dC dI cI cJ h0 p0 3 aR aB aP nb np fp H.size n_p0 (by decide)) (cwV 2 hts (zgV qw608 qw541 qw542 qw102 qw543) rfl rfl rfl hd_X1_ofPainter ⟨by rw [hR]; exact Nat.le_of_ble_eq_true rfl, by rw [hR]; exact Nat.le_of_ble_eq_true rfl⟩) (zPV hPc hK hDc (va_recv (q := (RX1, TX1, 5)) hK hP (ci := 1) (q0 := 0) rfl rfl)) rfl rfl hl.1 rfl (lv_room (Nat.le_of_ble_eq_true rfl)) dX1_kindOf_3 ⟨Nat.zero_le _, Nat.zero_le _⟩) hS (fun q _ h => hFc q h) hFc (fun v3 u3 t H locs ht hvm hw hB hz1 hk1 hS9 => ?_)
  replace hP := zkeep hP hk1
  replace hS := hS9
  clear hPc hDc hFc hk1 hz1 hvm hS9
  have zn3_3 : (3 : Int32).toInt = 3 := by decide
  have f3_0 : (v3 = fp (4 * p0.toInt.toNat + (3 : Int32).toInt.toNat)) := hw
  have F3 := f3_0
  rw [hQ]
  exact W.iret (v := v3) hx hb hr (fun t ht hW => ⟨⟨v3, (), rfl, (F3.trans (congrArg fp (by have : (3 : Int32).toInt = 3 := (by decide); omega))), trivial⟩, hS.F ht⟩) hS.2.2 dX1_kindOf_6
set_option maxHeartbeats 4000000 in
set_option maxRecDepth 100000 in
theorem g_X1_worthWith (l : Launch) (dC : Nat → ClassId) (dI : Nat → Nat → Nat) (cI cJ : ClassId) (h0 : Nat) (p0 : Int32) (p1 : Int32) (aR : Nat) (aB : Nat) (aP : Nat) (nb : Int32) (np : Int32) (fr : Nat → Int32) (fb : Nat → Int32) (sz : Nat) (n_p0 : 0 ≤ p0.toInt ∧ p0.toInt ≤ 5)    : Met l yX1_worthWith (.code yX1_worthWith cX1_worthWith 3 (some .int) :: wA) ({ frames := 2, cells := 0, slots := 0, locals := 43 }) (zP (dC, dI) [(cI, .int), (cJ, .long)] [.ref h0, .int p0, .int p1] sz [(h0, .inr (1, [.ref aR, .ref aB, .ref aP, .int nb, .int np])), (aR, .inl (cI, 3, .inl fr)), (aB, .inl (cI, 24, .inl fb))]) (va_Qi (fun (r : Int32) (u : Unit) => (r = zWo p1 (fr 1) (fb (4 * p0.toInt.toNat + 1)) (fr 2))) (fun (_ : Unit) (_ : State) => True) (va_A [] sz)) 0 0 (va_A [] sz) := by
  refine Met.ofW (cc := cX1_worthWith) (maxL := 3) (ret := (some .int)) (by decide) rfl ?_
  intro p e s m args below meth c s₁ B hml hv
  obtain ⟨hargs, hsz, hP, hK, hT⟩ := hv
  have hx := B.exec
  have hb := B.bytes
  have hr := B.returns
  have hts : ∀ w ∈ wA, w.before args s = true := fun w h => atoms_spec (ws := .code yX1_worthWith cX1_worthWith 3 (some .int) :: wA) B.pre w (List.mem_cons_of_mem _ h)
  have hown : s.vm.findClass RX1 = some m.cls := findClass_of_methodNamed B.named
  have hlocks := B.notSynchronized
  subst hsz
  have hD : va_D (va_A [] s.heap.size) [] := zD0
  generalize hAe : va_A [] s.heap.size = A at hD ⊢
  have hA : ∀ q : Nat, s.heap.size ≤ q → A q := fun q h => by rw [← hAe]; exact Or.inr h
  have hl := lv_entry ([.ref h0, .int p0, .int p1]) (n := 3) (Nat.le_of_ble_eq_true rfl)
  rw [show entryFrame m args 3 = entryFrame m ([.ref h0, .int p0, .int p1] : List Value).toArray 3 by rw [hargs], lg_entry_eq]
  generalize (lg_sl ([.ref h0, .int p0, .int p1]) ++ List.replicate (3 - (lg_sl ([.ref h0, .int p0, .int p1])).length) Slot.unset).toArray = ls at hl ⊢
  have hl : lv_has ls 3 [(0, .ref h0), (1, .int p0), (2, .int p1)] := hl
  refine zstart (fun H hH => ?_)
  rw [← hH] at hP
  have hS : va_S A s.heap H [] := by rw [hH]; exact va_S.rf
  generalize ([] : List Loc) = locs at hS ⊢
  refine zgen (fun R Q hR hQ => ?_)
  refine lv_iload_n hx hb dX1_worthWith_0 rfl (lv_at hl 2 rfl) ?_
  refine lv_aload_n hx hb dX1_worthWith_1 rfl (lv_at hl 0 rfl) ?_
  obtain ⟨hPc, hDc⟩ := zc2 (wc := [(h0, .inr (1, [.ref aR, .ref aB, .ref aP, .int nb, .int np])), (aR, .inl (cI, 3, .inl fr))]) hP hT [0, 1] (by decide +kernel) rfl
  have hFc := zfr hS hA
  refine va_calli (va_runV (As := []) (rest := [.int p1]) ⟨hx, hb, hml, hown, hts⟩ (g_X1_wantOfFace l dC dI cI cJ h0 aR aB aP nb np fr H.size) (cwV 0 hts (zgV qw910 qw589 qw590 qw102 qw591) rfl rfl rfl hd_X1_wantOfFace ⟨by rw [hR]; exact Nat.le_of_ble_eq_true rfl, by rw [hR]; exact Nat.le_of_ble_eq_true rfl⟩) (zPV hPc hK hDc (va_recv (q := (RX1, TX1, 5)) hK hP (ci := 1) (q0 := 0) rfl rfl)) rfl rfl hl.1 rfl (lv_room (Nat.le_of_ble_eq_true rfl)) dX1_worthWith_2 ⟨Nat.zero_le _, Nat.zero_le _⟩) hS (fun q _ h => hFc q h) hFc (fun v2 u2 t H locs ht hvm hw hB hz1 hk1 hS9 => ?_)
  replace hP := zkeep hP hk1
  replace hS := hS9
  clear hPc hDc hFc hk1 hz1 hvm hS9
  have f2_0 : (v2 = fr 1) := hw
  have F2 := f2_0
  refine lv_imul hx hb dX1_worthWith_5 ?_
  refine lv_topi (fun v5 e5 => ?_)
  refine lv_aload_n hx hb dX1_worthWith_6 rfl (lv_at hl 0 rfl) ?_
  refine lv_iload_n hx hb dX1_worthWith_7 rfl (lv_at hl 1 rfl) ?_
  obtain ⟨hPc, hDc⟩ := zc2 (wc := [(h0, .inr (1, [.ref aR, .ref aB, .ref aP, .int nb, .int np])), (aB, .inl (cI, 24, .inl fb))]) hP hT [0, 2] (by decide +kernel) rfl
  have hFc := zfr hS hA
  refine va_calli (va_runV (As := [.int p0]) (rest := [.int v5]) ⟨hx, hb, hml, hown, hts⟩ (g_X1_dowryOf l dC dI cI cJ h0 p0 aR aB aP nb np fb H.size n_p0) (cwV 1 hts (zgV qw911 qw739 qw740 qw102 qw741) rfl rfl rfl hd_X1_dowryOf ⟨by rw [hR]; exact Nat.le_of_ble_eq_true rfl, by rw [hR]; exact Nat.le_of_ble_eq_true rfl⟩) (zPV hPc hK hDc (va_recv (q := (RX1, TX1, 5)) hK hP (ci := 1) (q0 := 0) rfl rfl)) rfl rfl hl.1 rfl (lv_room (Nat.le_of_ble_eq_true rfl)) dX1_worthWith_8 ⟨Nat.zero_le _, Nat.zero_le _⟩) hS (fun q _ h => hFc q h) hFc (fun v8 u8 t H locs ht hvm hw hB hz1 hk1 hS9 => ?_)
  replace hP := zkeep hP hk1
  replace hS := hS9
  clear hPc hDc hFc hk1 hz1 hvm hS9
  have f8_0 : (v8 = fb (4 * p0.toInt.toNat + 1)) := hw
  have F8 := f8_0
  refine lv_bipush (v := 10) hx hb dX1_worthWith_11 (by decide) ?_
  refine lv_idiv hx hb dX1_worthWith_13 (by decide) ?_
  refine lv_topi (fun v13 e13 => ?_)
  refine lv_aload_n hx hb dX1_worthWith_14 rfl (lv_at hl 0 rfl) ?_
  obtain ⟨hPc, hDc⟩ := zc2 (wc := [(h0, .inr (1, [.ref aR, .ref aB, .ref aP, .int nb, .int np])), (aR, .inl (cI, 3, .inl fr))]) hP hT [0, 1] (by decide +kernel) rfl
  have hFc := zfr hS hA
  refine va_calli (va_runV (As := []) (rest := [.int v13, .int v5]) ⟨hx, hb, hml, hown, hts⟩ (g_X1_wantOfDowry l dC dI cI cJ h0 aR aB aP nb np fr H.size) (cwV 0 hts (zgV qw912 qw593 qw594 qw102 qw595) rfl rfl rfl hd_X1_wantOfDowry ⟨by rw [hR]; exact Nat.le_of_ble_eq_true rfl, by rw [hR]; exact Nat.le_of_ble_eq_true rfl⟩) (zPV hPc hK hDc (va_recv (q := (RX1, TX1, 5)) hK hP (ci := 1) (q0 := 0) rfl rfl)) rfl rfl hl.1 rfl (lv_room (Nat.le_of_ble_eq_true rfl)) dX1_worthWith_15 ⟨Nat.zero_le _, Nat.zero_le _⟩) hS (fun q _ h => hFc q h) hFc (fun v15 u15 t H locs ht hvm hw hB hz1 hk1 hS9 => ?_)
  replace hP := zkeep hP hk1
  replace hS := hS9
  clear hPc hDc hFc hk1 hz1 hvm hS9
  have f15_0 : (v15 = fr 2) := hw
  have F15 := f15_0
  refine lv_imul hx hb dX1_worthWith_18 ?_
  refine lv_topi (fun v18 e18 => ?_)
  refine lv_iadd hx hb dX1_worthWith_19 ?_
  refine lv_topi (fun v19 e19 => ?_)
  rw [hQ]
  exact W.iret (v := v19) hx hb hr (fun t ht hW => ⟨⟨v19, (), rfl, (by unfold zWo; rw [e19, e5, e18, e13, F2, F8, F15]), trivial⟩, hS.F ht⟩) hS.2.2 dX1_worthWith_20
set_option maxHeartbeats 4000000 in
set_option maxRecDepth 100000 in
theorem g_X1_trueWorth (l : Launch) (dC : Nat → ClassId) (dI : Nat → Nat → Nat) (cI cJ : ClassId) (h0 : Nat) (p0 : Int32) (aR : Nat) (aB : Nat) (aP : Nat) (nb : Int32) (np : Int32) (fr : Nat → Int32) (fb : Nat → Int32) (sz : Nat) (n_p0 : 0 ≤ p0.toInt ∧ p0.toInt ≤ 5)    : Met l yX1_trueWorth (.code yX1_trueWorth cX1_trueWorth 2 (some .int) :: wA) ({ frames := 3, cells := 0, slots := 0, locals := 65 }) (zP (dC, dI) [(cI, .int), (cJ, .long)] [.ref h0, .int p0] sz [(h0, .inr (1, [.ref aR, .ref aB, .ref aP, .int nb, .int np])), (aR, .inl (cI, 3, .inl fr)), (aB, .inl (cI, 24, .inl fb))]) (va_Qi (fun (r : Int32) (u : Unit) => (r = zTw fr fb p0.toInt.toNat)) (fun (_ : Unit) (_ : State) => True) (va_A [] sz)) 0 0 (va_A [] sz) := by
  refine Met.ofW (cc := cX1_trueWorth) (maxL := 2) (ret := (some .int)) (by decide) rfl ?_
  intro p e s m args below meth c s₁ B hml hv
  obtain ⟨hargs, hsz, hP, hK, hT⟩ := hv
  have hx := B.exec
  have hb := B.bytes
  have hr := B.returns
  have hts : ∀ w ∈ wA, w.before args s = true := fun w h => atoms_spec (ws := .code yX1_trueWorth cX1_trueWorth 2 (some .int) :: wA) B.pre w (List.mem_cons_of_mem _ h)
  have hown : s.vm.findClass RX1 = some m.cls := findClass_of_methodNamed B.named
  have hlocks := B.notSynchronized
  subst hsz
  have hD : va_D (va_A [] s.heap.size) [] := zD0
  generalize hAe : va_A [] s.heap.size = A at hD ⊢
  have hA : ∀ q : Nat, s.heap.size ≤ q → A q := fun q h => by rw [← hAe]; exact Or.inr h
  have hl := lv_entry ([.ref h0, .int p0]) (n := 2) (Nat.le_of_ble_eq_true rfl)
  rw [show entryFrame m args 2 = entryFrame m ([.ref h0, .int p0] : List Value).toArray 2 by rw [hargs], lg_entry_eq]
  generalize (lg_sl ([.ref h0, .int p0]) ++ List.replicate (2 - (lg_sl ([.ref h0, .int p0])).length) Slot.unset).toArray = ls at hl ⊢
  have hl : lv_has ls 2 [(0, .ref h0), (1, .int p0)] := hl
  refine zstart (fun H hH => ?_)
  rw [← hH] at hP
  have hS : va_S A s.heap H [] := by rw [hH]; exact va_S.rf
  generalize ([] : List Loc) = locs at hS ⊢
  refine zgen (fun R Q hR hQ => ?_)
  refine lv_aload_n hx hb dX1_trueWorth_0 rfl (lv_at hl 0 rfl) ?_
  refine lv_iload_n hx hb dX1_trueWorth_1 rfl (lv_at hl 1 rfl) ?_
  refine lv_aload_n hx hb dX1_trueWorth_2 rfl (lv_at hl 0 rfl) ?_
  refine lv_iload_n hx hb dX1_trueWorth_3 rfl (lv_at hl 1 rfl) ?_
  obtain ⟨hPc, hDc⟩ := zc2 (wc := [(h0, .inr (1, [.ref aR, .ref aB, .ref aP, .int nb, .int np])), (aB, .inl (cI, 24, .inl fb))]) hP hT [0, 2] (by decide +kernel) rfl
  have hFc := zfr hS hA
  refine va_calli (va_runV (As := [.int p0]) (rest := [.int p0, .ref h0]) ⟨hx, hb, hml, hown, hts⟩ (g_X1_faceOf l dC dI cI cJ h0 p0 aR aB aP nb np fb H.size n_p0) (cwV 1 hts (zgV qw925 qw703 qw704 qw102 qw705) rfl rfl rfl hd_X1_faceOf ⟨by rw [hR]; exact Nat.le_of_ble_eq_true rfl, by rw [hR]; exact Nat.le_of_ble_eq_true rfl⟩) (zPV hPc hK hDc (va_recv (q := (RX1, TX1, 5)) hK hP (ci := 1) (q0 := 0) rfl rfl)) rfl rfl hl.1 rfl (lv_room (Nat.le_of_ble_eq_true rfl)) dX1_trueWorth_4 ⟨Nat.zero_le _, Nat.zero_le _⟩) hS (fun q _ h => hFc q h) hFc (fun v4 u4 t H locs ht hvm hw hB hz1 hk1 hS9 => ?_)
  replace hP := zkeep hP hk1
  replace hS := hS9
  clear hPc hDc hFc hk1 hz1 hvm hS9
  have f4_0 : (v4 = fb (4 * p0.toInt.toNat)) := hw
  have F4 := f4_0
  obtain ⟨hPc, hDc⟩ := zc2 (wc := [(h0, .inr (1, [.ref aR, .ref aB, .ref aP, .int nb, .int np])), (aR, .inl (cI, 3, .inl fr)), (aB, .inl (cI, 24, .inl fb))]) hP hT [0, 1, 2] (by decide +kernel) rfl
  have hFc := zfr hS hA
  refine va_calli (va_runV (As := [.int p0, .int v4]) (rest := []) ⟨hx, hb, hml, hown, hts⟩ (g_X1_worthWith l dC dI cI cJ h0 p0 v4 aR aB aP nb np fr fb H.size n_p0) (cwV 2 hts (zgV qw926 qw907 qw908 qw102 qw909) rfl rfl rfl hd_X1_worthWith ⟨by rw [hR]; exact Nat.le_of_ble_eq_true rfl, by rw [hR]; exact Nat.le_of_ble_eq_true rfl⟩) (zPV hPc hK hDc (va_recv (q := (RX1, TX1, 5)) hK hP (ci := 1) (q0 := 0) rfl rfl)) rfl rfl hl.1 rfl (lv_room (Nat.le_of_ble_eq_true rfl)) dX1_trueWorth_7 ⟨Nat.zero_le _, Nat.zero_le _⟩) hS (fun q _ h => hFc q h) hFc (fun v7 u7 t H locs ht hvm hw hB hz1 hk1 hS9 => ?_)
  replace hP := zkeep hP hk1
  replace hS := hS9
  clear hPc hDc hFc hk1 hz1 hvm hS9
  have f7_0 : (v7 = zWo v4 (fr 1) (fb (4 * p0.toInt.toNat + 1)) (fr 2)) := hw
  have F7 := f7_0
  rw [hQ]
  exact W.iret (v := v7) hx hb hr (fun t ht hW => ⟨⟨v7, (), rfl, (by unfold zTw; rw [F7, F4]), trivial⟩, hS.F ht⟩) hS.2.2 dX1_trueWorth_10
set_option maxHeartbeats 4000000 in
set_option maxRecDepth 100000 in
theorem g_X1_topBride (l : Launch) (dC : Nat → ClassId) (dI : Nat → Nat → Nat) (cI cJ : ClassId) (h0 : Nat) (p0 : Int32) (aR : Nat) (aB : Nat) (aP : Nat) (nb : Int32) (np : Int32) (fb : Nat → Int32) (sz : Nat) (n_nb : 0 ≤ nb.toInt ∧ nb.toInt ≤ 6) (n_p0 : 0 ≤ p0.toInt ∧ p0.toInt ≤ 3)    : Met l yX1_topBride (.code yX1_topBride cX1_topBride 4 (some .int) :: wA) ({ frames := 1, cells := 0, slots := 0, locals := 22 }) (zP (dC, dI) [(cI, .int), (cJ, .long)] [.ref h0, .int p0] sz [(h0, .inr (1, [.ref aR, .ref aB, .ref aP, .int nb, .int np])), (aB, .inl (cI, 24, .inl fb))]) (va_Qi (fun (r : Int32) (u : Unit) => (0 ≤ r.toInt) ∧ (r.toInt ≤ 5) ∧ (r = zXm (fun j => fb (4 * j + p0.toInt.toNat)) (nb.toInt.toNat - 1))) (fun (_ : Unit) (_ : State) => True) (va_A [] sz)) 0 0 (va_A [] sz) := by
  refine Met.ofW (cc := cX1_topBride) (maxL := 4) (ret := (some .int)) (by decide) rfl ?_
  intro p e s m args below meth c s₁ B hml hv
  obtain ⟨hargs, hsz, hP, hK, hT⟩ := hv
  have hx := B.exec
  have hb := B.bytes
  have hr := B.returns
  have hts : ∀ w ∈ wA, w.before args s = true := fun w h => atoms_spec (ws := .code yX1_topBride cX1_topBride 4 (some .int) :: wA) B.pre w (List.mem_cons_of_mem _ h)
  have hown : s.vm.findClass RX1 = some m.cls := findClass_of_methodNamed B.named
  have hlocks := B.notSynchronized
  subst hsz
  have hD : va_D (va_A [] s.heap.size) [] := zD0
  generalize hAe : va_A [] s.heap.size = A at hD ⊢
  have hA : ∀ q : Nat, s.heap.size ≤ q → A q := fun q h => by rw [← hAe]; exact Or.inr h
  have hl := lv_entry ([.ref h0, .int p0]) (n := 4) (Nat.le_of_ble_eq_true rfl)
  rw [show entryFrame m args 4 = entryFrame m ([.ref h0, .int p0] : List Value).toArray 4 by rw [hargs], lg_entry_eq]
  generalize (lg_sl ([.ref h0, .int p0]) ++ List.replicate (4 - (lg_sl ([.ref h0, .int p0])).length) Slot.unset).toArray = ls at hl ⊢
  have hl : lv_has ls 4 [(0, .ref h0), (1, .int p0)] := hl
  refine zstart (fun H hH => ?_)
  rw [← hH] at hP
  have hS : va_S A s.heap H [] := by rw [hH]; exact va_S.rf
  generalize ([] : List Loc) = locs at hS ⊢
  refine zgen (fun R Q hR hQ => ?_)
  refine lv_iconst (v := 0) hx hb dX1_topBride_0 (by decide) ?_
  refine lv_istore_n (lv' := [(2, .int 0), (0, .ref h0), (1, .int p0)]) hx hb dX1_topBride_1 rfl hl (by decide) rfl (fun ls hl => ?_)
  refine lv_iconst (v := 1) hx hb dX1_topBride_2 (by decide) ?_
  have J4 : ∀ (n : Nat) (m4_L_2 : Int32) (m4_L_3 : Int32), (0 ≤ m4_L_2.toInt ∧ m4_L_2.toInt ≤ 5) → (1 ≤ m4_L_3.toInt ∧ m4_L_3.toInt ≤ 6) → (m4_L_3.toInt ≤ nb.toInt ∨ m4_L_3.toInt = 1) → (m4_L_2 = zXm (fun j => fb (4 * j + p0.toInt.toNat)) (m4_L_3.toInt.toNat - 1)) → (7 - m4_L_3.toInt).toNat = n → ∀ (H : Heap) (locs : List Loc) (ls : Array Slot), va_P (dC, dI) vwCl [(h0, .inr (1, [.ref aR, .ref aB, .ref aP, .int nb, .int np])), (aB, .inl (cI, 24, .inl fb))] H → va_S A s.heap H locs → lv_has ls 4 [(3, .int m4_L_3), (2, .int m4_L_2), (0, .ref h0), (1, .int p0)] → W p l e R s m args below meth c H locs 0 0 Q (F0 m 4 ls []) := by
    intro n4
    induction n4 using Nat.strongRecOn with
    | _ n4 ih4 =>
      intro m4_L_2 m4_L_3 jf4_0 jf4_1 jf4_2 jv4_0 hmu4 H locs ls hP hS hl
      refine lv_iload_n hx hb dX1_topBride_4 rfl (lv_at hl 0 rfl) ?_
      refine lv_aload_n hx hb dX1_topBride_5 rfl (lv_at hl 2 rfl) ?_
      refine va_get (D := (dC, dI)) (ci := 1) (v := .int nb) (C := RX1) (T := TX1) (N := 5) hx hb hts iX1 hown hK hP 0 rfl rfl 3 (by decide) (hts _ qw192) (fun _ h9 => h9) rfl dX1_topBride_6 ?_
      refine lv_icmp_ge (tgt := 35) hx hb dX1_topBride_9 (by decide) (fun c9 => ?_) (fun c9 => ?_)
      · have c9 : nb.toInt ≤ m4_L_3.toInt := z3 rfl rfl c9
        refine lv_iload_n hx hb dX1_topBride_35 rfl (lv_at hl 1 rfl) ?_
        rw [hQ]
        exact W.iret (v := m4_L_2) hx hb hr (fun t ht hW => ⟨⟨m4_L_2, (), rfl, ⟨by (try dsimp only); omega, by (try dsimp only); omega, jv4_0.trans (by rw [show m4_L_3.toInt.toNat - 1 = nb.toInt.toNat - 1 by omega])⟩, trivial⟩, hS.F ht⟩) hS.2.2 dX1_topBride_36
      · have c9 : m4_L_3.toInt < nb.toInt := z4 rfl rfl c9
        refine lv_aload_n hx hb dX1_topBride_12 rfl (lv_at hl 2 rfl) ?_
        refine lv_iload_n hx hb dX1_topBride_13 rfl (lv_at hl 0 rfl) ?_
        refine lv_iload_n hx hb dX1_topBride_14 rfl (lv_at hl 3 rfl) ?_
        obtain ⟨hPc, hDc⟩ := zc2 (wc := [(h0, .inr (1, [.ref aR, .ref aB, .ref aP, .int nb, .int np])), (aB, .inl (cI, 24, .inl fb))]) hP hT [0, 1] (by decide +kernel) rfl
        have hFc := zfr hS hA
        refine va_calli (va_runV (As := [.int m4_L_3, .int p0]) (rest := []) ⟨hx, hb, hml, hown, hts⟩ (g_X1_ofBride l dC dI cI cJ h0 m4_L_3 p0 aR aB aP nb np fb H.size (by omega) n_p0) (cwV 2 hts (zgV qw666 qw537 qw538 qw102 qw539) rfl rfl rfl hd_X1_ofBride ⟨by rw [hR]; exact Nat.le_of_ble_eq_true rfl, by rw [hR]; exact Nat.le_of_ble_eq_true rfl⟩) (zPV hPc hK hDc (va_recv (q := (RX1, TX1, 5)) hK hP (ci := 1) (q0 := 0) rfl rfl)) rfl rfl hl.1 rfl (lv_room (Nat.le_of_ble_eq_true rfl)) dX1_topBride_15 ⟨Nat.zero_le _, Nat.zero_le _⟩) hS (fun q _ h => hFc q h) hFc (fun v15 u15 t H locs ht hvm hw hB hz1 hk1 hS9 => ?_)
        replace hP := zkeep hP hk1
        replace hS := hS9
        clear hPc hDc hFc hk1 hz1 hvm hS9
        have f15_0 : (v15 = fb (4 * m4_L_3.toInt.toNat + p0.toInt.toNat)) := hw
        have F15 := f15_0
        refine lv_aload_n hx hb dX1_topBride_18 rfl (lv_at hl 2 rfl) ?_
        refine lv_iload_n hx hb dX1_topBride_19 rfl (lv_at hl 1 rfl) ?_
        refine lv_iload_n hx hb dX1_topBride_20 rfl (lv_at hl 3 rfl) ?_
        obtain ⟨hPc, hDc⟩ := zc2 (wc := [(h0, .inr (1, [.ref aR, .ref aB, .ref aP, .int nb, .int np])), (aB, .inl (cI, 24, .inl fb))]) hP hT [0, 1] (by decide +kernel) rfl
        have hFc := zfr hS hA
        refine va_calli (va_runV (As := [.int m4_L_2, .int p0]) (rest := [.int v15]) ⟨hx, hb, hml, hown, hts⟩ (g_X1_ofBride l dC dI cI cJ h0 m4_L_2 p0 aR aB aP nb np fb H.size jf4_0 n_p0) (cwV 2 hts (zgV qw666 qw537 qw538 qw102 qw539) rfl rfl rfl hd_X1_ofBride ⟨by rw [hR]; exact Nat.le_of_ble_eq_true rfl, by rw [hR]; exact Nat.le_of_ble_eq_true rfl⟩) (zPV hPc hK hDc (va_recv (q := (RX1, TX1, 5)) hK hP (ci := 1) (q0 := 0) rfl rfl)) rfl rfl hl.1 rfl (lv_room (Nat.le_of_ble_eq_true rfl)) dX1_topBride_21 ⟨Nat.zero_le _, Nat.zero_le _⟩) hS (fun q _ h => hFc q h) hFc (fun v21 u21 t H locs ht hvm hw hB hz1 hk1 hS9 => ?_)
        replace hP := zkeep hP hk1
        replace hS := hS9
        clear hPc hDc hFc hk1 hz1 hvm hS9
        have f21_0 : (v21 = fb (4 * m4_L_2.toInt.toNat + p0.toInt.toNat)) := hw
        have F21 := f21_0
        refine lv_icmp_le (tgt := 29) hx hb dX1_topBride_24 (by decide) (fun c24 => ?_) (fun c24 => ?_)
        · have c24 : v15.toInt ≤ v21.toInt := z3 rfl rfl c24
          obtain ⟨v29, e29⟩ : ∃ y : Int32, y = m4_L_3 + Int32.ofInt (1) := ⟨_, rfl⟩
          refine lv_iinc (v := v29) (lv' := [(3, .int v29), (2, .int m4_L_2), (0, .ref h0), (1, .int p0)]) hx hb dX1_topBride_29 hl (k := 0) rfl e29.symm (by decide) rfl (fun ls hl => ?_)
          have i29 : v29.toInt = m4_L_3.toInt + 1 := zaddI e29 (by decide) (by omega) (by omega)
          refine lv_goto (tgt := 4) hx hb dX1_topBride_32 (by decide) ?_
          exact ih4 _ (by omega) m4_L_2 v29 jf4_0 (by omega) (by omega) (by first | exact zXmS (B := (fun j => fb (4 * j + p0.toInt.toNat))) jv4_0 (by omega) i29 F15 F21 (Or.inl ⟨by omega, rfl⟩) | exact zXmS (B := (fun j => fb (4 * j + p0.toInt.toNat))) jv4_0 (by omega) i29 F15 F21 (Or.inr ⟨by omega, rfl⟩)) rfl H locs ls hP hS (lv_sub hl [0, 1, 2, 3] rfl)
        · have c24 : v21.toInt < v15.toInt := z4 rfl rfl c24
          refine lv_iload_n hx hb dX1_topBride_27 rfl (lv_at hl 0 rfl) ?_
          refine lv_istore_n (lv' := [(2, .int m4_L_3), (3, .int m4_L_3), (0, .ref h0), (1, .int p0)]) hx hb dX1_topBride_28 rfl hl (by decide) rfl (fun ls hl => ?_)
          obtain ⟨v29, e29⟩ : ∃ y : Int32, y = m4_L_3 + Int32.ofInt (1) := ⟨_, rfl⟩
          refine lv_iinc (v := v29) (lv' := [(3, .int v29), (2, .int m4_L_3), (0, .ref h0), (1, .int p0)]) hx hb dX1_topBride_29 hl (k := 1) rfl e29.symm (by decide) rfl (fun ls hl => ?_)
          have i29 : v29.toInt = m4_L_3.toInt + 1 := zaddI e29 (by decide) (by omega) (by omega)
          refine lv_goto (tgt := 4) hx hb dX1_topBride_32 (by decide) ?_
          exact ih4 _ (by omega) m4_L_3 v29 (by omega) (by omega) (by omega) (by first | exact zXmS (B := (fun j => fb (4 * j + p0.toInt.toNat))) jv4_0 (by omega) i29 F15 F21 (Or.inl ⟨by omega, rfl⟩) | exact zXmS (B := (fun j => fb (4 * j + p0.toInt.toNat))) jv4_0 (by omega) i29 F15 F21 (Or.inr ⟨by omega, rfl⟩)) rfl H locs ls hP hS (lv_sub hl [0, 1, 2, 3] rfl)
  refine lv_istore_n (lv' := [(3, .int 1), (2, .int 0), (0, .ref h0), (1, .int p0)]) hx hb dX1_topBride_3 rfl hl (by decide) rfl (fun ls hl => ?_)
  have zj4_m4_L_2 : (0 : Int32).toInt = 0 := by decide
  have zj4_m4_L_3 : (1 : Int32).toInt = 1 := by decide
  exact J4 _ 0 1 (by decide) (by decide) (by omega) (rfl) rfl H locs ls hP hS (lv_sub hl [0, 1, 2, 3] rfl)
set_option maxHeartbeats 4000000 in
set_option maxRecDepth 100000 in
theorem g_X1_cheapPainter (l : Launch) (dC : Nat → ClassId) (dI : Nat → Nat → Nat) (cI cJ : ClassId) (h0 : Nat) (aR : Nat) (aB : Nat) (aP : Nat) (nb : Int32) (np : Int32) (fp : Nat → Int32) (sz : Nat) (n_np : 0 ≤ np.toInt ∧ np.toInt ≤ 5)    : Met l yX1_cheapPainter (.code yX1_cheapPainter cX1_cheapPainter 3 (some .int) :: wA) ({ frames := 2, cells := 0, slots := 0, locals := 43 }) (zP (dC, dI) [(cI, .int), (cJ, .long)] [.ref h0] sz [(h0, .inr (1, [.ref aR, .ref aB, .ref aP, .int nb, .int np])), (aP, .inl (cI, 20, .inl fp))]) (va_Qi (fun (r : Int32) (u : Unit) => (0 ≤ r.toInt) ∧ (r.toInt ≤ 4) ∧ (r = zAn (fun j => fp (4 * j + 1)) (np.toInt.toNat - 1))) (fun (_ : Unit) (_ : State) => True) (va_A [] sz)) 0 0 (va_A [] sz) := by
  refine Met.ofW (cc := cX1_cheapPainter) (maxL := 3) (ret := (some .int)) (by decide) rfl ?_
  intro p e s m args below meth c s₁ B hml hv
  obtain ⟨hargs, hsz, hP, hK, hT⟩ := hv
  have hx := B.exec
  have hb := B.bytes
  have hr := B.returns
  have hts : ∀ w ∈ wA, w.before args s = true := fun w h => atoms_spec (ws := .code yX1_cheapPainter cX1_cheapPainter 3 (some .int) :: wA) B.pre w (List.mem_cons_of_mem _ h)
  have hown : s.vm.findClass RX1 = some m.cls := findClass_of_methodNamed B.named
  have hlocks := B.notSynchronized
  subst hsz
  have hD : va_D (va_A [] s.heap.size) [] := zD0
  generalize hAe : va_A [] s.heap.size = A at hD ⊢
  have hA : ∀ q : Nat, s.heap.size ≤ q → A q := fun q h => by rw [← hAe]; exact Or.inr h
  have hl := lv_entry ([.ref h0]) (n := 3) (Nat.le_of_ble_eq_true rfl)
  rw [show entryFrame m args 3 = entryFrame m ([.ref h0] : List Value).toArray 3 by rw [hargs], lg_entry_eq]
  generalize (lg_sl ([.ref h0]) ++ List.replicate (3 - (lg_sl ([.ref h0])).length) Slot.unset).toArray = ls at hl ⊢
  have hl : lv_has ls 3 [(0, .ref h0)] := hl
  refine zstart (fun H hH => ?_)
  rw [← hH] at hP
  have hS : va_S A s.heap H [] := by rw [hH]; exact va_S.rf
  generalize ([] : List Loc) = locs at hS ⊢
  refine zgen (fun R Q hR hQ => ?_)
  refine lv_iconst (v := 0) hx hb dX1_cheapPainter_0 (by decide) ?_
  refine lv_istore_n (lv' := [(1, .int 0), (0, .ref h0)]) hx hb dX1_cheapPainter_1 rfl hl (by decide) rfl (fun ls hl => ?_)
  refine lv_iconst (v := 1) hx hb dX1_cheapPainter_2 (by decide) ?_
  have J4 : ∀ (n : Nat) (m4_L_1 : Int32) (m4_L_2 : Int32), (0 ≤ m4_L_1.toInt ∧ m4_L_1.toInt ≤ 4) → (1 ≤ m4_L_2.toInt ∧ m4_L_2.toInt ≤ 5) → (m4_L_2.toInt ≤ np.toInt ∨ m4_L_2.toInt = 1) → (m4_L_1 = zAn (fun j => fp (4 * j + 1)) (m4_L_2.toInt.toNat - 1)) → (6 - m4_L_2.toInt).toNat = n → ∀ (H : Heap) (locs : List Loc) (ls : Array Slot), va_P (dC, dI) vwCl [(h0, .inr (1, [.ref aR, .ref aB, .ref aP, .int nb, .int np])), (aP, .inl (cI, 20, .inl fp))] H → va_S A s.heap H locs → lv_has ls 3 [(2, .int m4_L_2), (1, .int m4_L_1), (0, .ref h0)] → W p l e R s m args below meth c H locs 0 0 Q (F0 m 4 ls []) := by
    intro n4
    induction n4 using Nat.strongRecOn with
    | _ n4 ih4 =>
      intro m4_L_1 m4_L_2 jf4_0 jf4_1 jf4_2 jv4_0 hmu4 H locs ls hP hS hl
      refine lv_iload_n hx hb dX1_cheapPainter_4 rfl (lv_at hl 0 rfl) ?_
      refine lv_aload_n hx hb dX1_cheapPainter_5 rfl (lv_at hl 2 rfl) ?_
      refine va_get (D := (dC, dI)) (ci := 1) (v := .int np) (C := RX1) (T := TX1) (N := 5) hx hb hts iX1 hown hK hP 0 rfl rfl 4 (by decide) (hts _ qw196) (fun _ h9 => h9) rfl dX1_cheapPainter_6 ?_
      refine lv_icmp_ge (tgt := 33) hx hb dX1_cheapPainter_9 (by decide) (fun c9 => ?_) (fun c9 => ?_)
      · have c9 : np.toInt ≤ m4_L_2.toInt := z3 rfl rfl c9
        refine lv_iload_n hx hb dX1_cheapPainter_33 rfl (lv_at hl 1 rfl) ?_
        rw [hQ]
        exact W.iret (v := m4_L_1) hx hb hr (fun t ht hW => ⟨⟨m4_L_1, (), rfl, ⟨by (try dsimp only); omega, by (try dsimp only); omega, jv4_0.trans (by rw [show m4_L_2.toInt.toNat - 1 = np.toInt.toNat - 1 by omega])⟩, trivial⟩, hS.F ht⟩) hS.2.2 dX1_cheapPainter_34
      · have c9 : m4_L_2.toInt < np.toInt := z4 rfl rfl c9
        refine lv_aload_n hx hb dX1_cheapPainter_12 rfl (lv_at hl 2 rfl) ?_
        refine lv_iload_n hx hb dX1_cheapPainter_13 rfl (lv_at hl 0 rfl) ?_
        obtain ⟨hPc, hDc⟩ := zc2 (wc := [(h0, .inr (1, [.ref aR, .ref aB, .ref aP, .int nb, .int np])), (aP, .inl (cI, 20, .inl fp))]) hP hT [0, 1] (by decide +kernel) rfl
        have hFc := zfr hS hA
        refine va_calli (va_runV (As := [.int m4_L_2]) (rest := []) ⟨hx, hb, hml, hown, hts⟩ (g_X1_feeOf l dC dI cI cJ h0 m4_L_2 aR aB aP nb np fp H.size (by omega)) (cwV 1 hts (zgV qw965 qw610 qw611 qw102 qw612) rfl rfl rfl hd_X1_feeOf ⟨by rw [hR]; exact Nat.le_of_ble_eq_true rfl, by rw [hR]; exact Nat.le_of_ble_eq_true rfl⟩) (zPV hPc hK hDc (va_recv (q := (RX1, TX1, 5)) hK hP (ci := 1) (q0 := 0) rfl rfl)) rfl rfl hl.1 rfl (lv_room (Nat.le_of_ble_eq_true rfl)) dX1_cheapPainter_14 ⟨Nat.zero_le _, Nat.zero_le _⟩) hS (fun q _ h => hFc q h) hFc (fun v14 u14 t H locs ht hvm hw hB hz1 hk1 hS9 => ?_)
        replace hP := zkeep hP hk1
        replace hS := hS9
        clear hPc hDc hFc hk1 hz1 hvm hS9
        have f14_0 : (v14 = fp (4 * m4_L_2.toInt.toNat + 1)) := hw
        have F14 := f14_0
        refine lv_aload_n hx hb dX1_cheapPainter_17 rfl (lv_at hl 2 rfl) ?_
        refine lv_iload_n hx hb dX1_cheapPainter_18 rfl (lv_at hl 1 rfl) ?_
        obtain ⟨hPc, hDc⟩ := zc2 (wc := [(h0, .inr (1, [.ref aR, .ref aB, .ref aP, .int nb, .int np])), (aP, .inl (cI, 20, .inl fp))]) hP hT [0, 1] (by decide +kernel) rfl
        have hFc := zfr hS hA
        refine va_calli (va_runV (As := [.int m4_L_1]) (rest := [.int v14]) ⟨hx, hb, hml, hown, hts⟩ (g_X1_feeOf l dC dI cI cJ h0 m4_L_1 aR aB aP nb np fp H.size jf4_0) (cwV 1 hts (zgV qw965 qw610 qw611 qw102 qw612) rfl rfl rfl hd_X1_feeOf ⟨by rw [hR]; exact Nat.le_of_ble_eq_true rfl, by rw [hR]; exact Nat.le_of_ble_eq_true rfl⟩) (zPV hPc hK hDc (va_recv (q := (RX1, TX1, 5)) hK hP (ci := 1) (q0 := 0) rfl rfl)) rfl rfl hl.1 rfl (lv_room (Nat.le_of_ble_eq_true rfl)) dX1_cheapPainter_19 ⟨Nat.zero_le _, Nat.zero_le _⟩) hS (fun q _ h => hFc q h) hFc (fun v19 u19 t H locs ht hvm hw hB hz1 hk1 hS9 => ?_)
        replace hP := zkeep hP hk1
        replace hS := hS9
        clear hPc hDc hFc hk1 hz1 hvm hS9
        have f19_0 : (v19 = fp (4 * m4_L_1.toInt.toNat + 1)) := hw
        have F19 := f19_0
        refine lv_icmp_ge (tgt := 27) hx hb dX1_cheapPainter_22 (by decide) (fun c22 => ?_) (fun c22 => ?_)
        · have c22 : v19.toInt ≤ v14.toInt := z3 rfl rfl c22
          obtain ⟨v27, e27⟩ : ∃ y : Int32, y = m4_L_2 + Int32.ofInt (1) := ⟨_, rfl⟩
          refine lv_iinc (v := v27) (lv' := [(2, .int v27), (1, .int m4_L_1), (0, .ref h0)]) hx hb dX1_cheapPainter_27 hl (k := 0) rfl e27.symm (by decide) rfl (fun ls hl => ?_)
          have i27 : v27.toInt = m4_L_2.toInt + 1 := zaddI e27 (by decide) (by omega) (by omega)
          refine lv_goto (tgt := 4) hx hb dX1_cheapPainter_30 (by decide) ?_
          exact ih4 _ (by omega) m4_L_1 v27 jf4_0 (by omega) (by omega) (by first | exact zAnS (B := (fun j => fp (4 * j + 1))) jv4_0 (by omega) i27 F14 F19 (Or.inl ⟨by omega, rfl⟩) | exact zAnS (B := (fun j => fp (4 * j + 1))) jv4_0 (by omega) i27 F14 F19 (Or.inr ⟨by omega, rfl⟩)) rfl H locs ls hP hS (lv_sub hl [0, 1, 2] rfl)
        · have c22 : v14.toInt < v19.toInt := z4 rfl rfl c22
          refine lv_iload_n hx hb dX1_cheapPainter_25 rfl (lv_at hl 0 rfl) ?_
          refine lv_istore_n (lv' := [(1, .int m4_L_2), (2, .int m4_L_2), (0, .ref h0)]) hx hb dX1_cheapPainter_26 rfl hl (by decide) rfl (fun ls hl => ?_)
          obtain ⟨v27, e27⟩ : ∃ y : Int32, y = m4_L_2 + Int32.ofInt (1) := ⟨_, rfl⟩
          refine lv_iinc (v := v27) (lv' := [(2, .int v27), (1, .int m4_L_2), (0, .ref h0)]) hx hb dX1_cheapPainter_27 hl (k := 1) rfl e27.symm (by decide) rfl (fun ls hl => ?_)
          have i27 : v27.toInt = m4_L_2.toInt + 1 := zaddI e27 (by decide) (by omega) (by omega)
          refine lv_goto (tgt := 4) hx hb dX1_cheapPainter_30 (by decide) ?_
          exact ih4 _ (by omega) m4_L_2 v27 (by omega) (by omega) (by omega) (by first | exact zAnS (B := (fun j => fp (4 * j + 1))) jv4_0 (by omega) i27 F14 F19 (Or.inl ⟨by omega, rfl⟩) | exact zAnS (B := (fun j => fp (4 * j + 1))) jv4_0 (by omega) i27 F14 F19 (Or.inr ⟨by omega, rfl⟩)) rfl H locs ls hP hS (lv_sub hl [0, 1, 2] rfl)
  refine lv_istore_n (lv' := [(2, .int 1), (1, .int 0), (0, .ref h0)]) hx hb dX1_cheapPainter_3 rfl hl (by decide) rfl (fun ls hl => ?_)
  have zj4_m4_L_1 : (0 : Int32).toInt = 0 := by decide
  have zj4_m4_L_2 : (1 : Int32).toInt = 1 := by decide
  exact J4 _ 0 1 (by decide) (by decide) (by omega) (rfl) rfl H locs ls hP hS (lv_sub hl [0, 1, 2] rfl)
set_option maxHeartbeats 4000000 in
set_option maxRecDepth 100000 in
theorem g_X1_rankByFee (l : Launch) (dC : Nat → ClassId) (dI : Nat → Nat → Nat) (cI cJ : ClassId) (h0 : Nat) (p0 : Int32) (aR : Nat) (aB : Nat) (aP : Nat) (nb : Int32) (np : Int32) (fp : Nat → Int32) (sz : Nat) (n_np : 0 ≤ np.toInt ∧ np.toInt ≤ 5) (n_p0 : 0 ≤ p0.toInt ∧ p0.toInt ≤ 4)    : Met l yX1_rankByFee (.code yX1_rankByFee cX1_rankByFee 5 (some .int) :: wA) ({ frames := 2, cells := 0, slots := 0, locals := 43 }) (zP (dC, dI) [(cI, .int), (cJ, .long)] [.ref h0, .int p0] sz [(h0, .inr (1, [.ref aR, .ref aB, .ref aP, .int nb, .int np])), (aP, .inl (cI, 20, .inl fp))]) (va_Qi (fun (r : Int32) (u : Unit) => (0 ≤ r.toInt) ∧ (r.toInt ≤ 5) ∧ (∀ kc : zK3, chP fp np.toInt kc → p0.toInt < np.toInt → r.toInt = (rnk (keyA kc.2.2) np.toInt.toNat p0.toInt.toNat : Int))) (fun (_ : Unit) (_ : State) => True) (va_A [] sz)) 0 0 (va_A [] sz) := by
  refine Met.ofW (cc := cX1_rankByFee) (maxL := 5) (ret := (some .int)) (by decide) rfl ?_
  intro p e s m args below meth c s₁ B hml hv
  obtain ⟨hargs, hsz, hP, hK, hT⟩ := hv
  have hx := B.exec
  have hb := B.bytes
  have hr := B.returns
  have hts : ∀ w ∈ wA, w.before args s = true := fun w h => atoms_spec (ws := .code yX1_rankByFee cX1_rankByFee 5 (some .int) :: wA) B.pre w (List.mem_cons_of_mem _ h)
  have hown : s.vm.findClass RX1 = some m.cls := findClass_of_methodNamed B.named
  have hlocks := B.notSynchronized
  subst hsz
  have hD : va_D (va_A [] s.heap.size) [] := zD0
  generalize hAe : va_A [] s.heap.size = A at hD ⊢
  have hA : ∀ q : Nat, s.heap.size ≤ q → A q := fun q h => by rw [← hAe]; exact Or.inr h
  have hl := lv_entry ([.ref h0, .int p0]) (n := 5) (Nat.le_of_ble_eq_true rfl)
  rw [show entryFrame m args 5 = entryFrame m ([.ref h0, .int p0] : List Value).toArray 5 by rw [hargs], lg_entry_eq]
  generalize (lg_sl ([.ref h0, .int p0]) ++ List.replicate (5 - (lg_sl ([.ref h0, .int p0])).length) Slot.unset).toArray = ls at hl ⊢
  have hl : lv_has ls 5 [(0, .ref h0), (1, .int p0)] := hl
  refine zstart (fun H hH => ?_)
  rw [← hH] at hP
  have hS : va_S A s.heap H [] := by rw [hH]; exact va_S.rf
  generalize ([] : List Loc) = locs at hS ⊢
  refine zgen (fun R Q hR hQ => ?_)
  refine lv_iconst (v := 0) hx hb dX1_rankByFee_0 (by decide) ?_
  refine lv_istore_n (lv' := [(2, .int 0), (0, .ref h0), (1, .int p0)]) hx hb dX1_rankByFee_1 rfl hl (by decide) rfl (fun ls hl => ?_)
  refine lv_iconst (v := 0) hx hb dX1_rankByFee_2 (by decide) ?_
  have J4 : ∀ (n : Nat) (m4_L_2 : Int32) (m4_L_3 : Int32), (0 ≤ m4_L_2.toInt ∧ m4_L_2.toInt ≤ 5) → (0 ≤ m4_L_3.toInt ∧ m4_L_3.toInt ≤ 5) → (m4_L_2.toInt ≤ m4_L_3.toInt ∧ 0 ≤ m4_L_2.toInt ∧ m4_L_3.toInt ≤ np.toInt) → (∀ kc : zK3, chP fp np.toInt kc → p0.toInt < np.toInt → m4_L_2.toInt = (rnkC (keyA kc.2.2) (keyA kc.2.2 p0.toInt.toNat) m4_L_3.toInt.toNat : Int)) → (6 - m4_L_3.toInt).toNat = n → ∀ (H : Heap) (locs : List Loc) (ls : Array Slot), va_P (dC, dI) vwCl [(h0, .inr (1, [.ref aR, .ref aB, .ref aP, .int nb, .int np])), (aP, .inl (cI, 20, .inl fp))] H → va_S A s.heap H locs → lv_has ls 5 [(3, .int m4_L_3), (2, .int m4_L_2), (0, .ref h0), (1, .int p0)] → W p l e R s m args below meth c H locs 0 0 Q (F0 m 4 ls []) := by
    intro n4
    induction n4 using Nat.strongRecOn with
    | _ n4 ih4 =>
      intro m4_L_2 m4_L_3 jf4_0 jf4_1 jf4_2 jv4_0 hmu4 H locs ls hP hS hl
      refine lv_iload_n hx hb dX1_rankByFee_4 rfl (lv_at hl 0 rfl) ?_
      refine lv_aload_n hx hb dX1_rankByFee_5 rfl (lv_at hl 2 rfl) ?_
      refine va_get (D := (dC, dI)) (ci := 1) (v := .int np) (C := RX1) (T := TX1) (N := 5) hx hb hts iX1 hown hK hP 0 rfl rfl 4 (by decide) (hts _ qw196) (fun _ h9 => h9) rfl dX1_rankByFee_6 ?_
      refine lv_icmp_ge (tgt := 49) hx hb dX1_rankByFee_9 (by decide) (fun c9 => ?_) (fun c9 => ?_)
      · have c9 : np.toInt ≤ m4_L_3.toInt := z3 rfl rfl c9
        refine lv_iload_n hx hb dX1_rankByFee_49 rfl (lv_at hl 1 rfl) ?_
        rw [hQ]
        exact W.iret (v := m4_L_2) hx hb hr (fun t ht hW => ⟨⟨m4_L_2, (), rfl, ⟨by (try dsimp only); omega, by (try dsimp only); omega, fun kc hP hp => (jv4_0 kc hP hp).trans (by rw [show m4_L_3.toInt.toNat = np.toInt.toNat by omega])⟩, trivial⟩, hS.F ht⟩) hS.2.2 dX1_rankByFee_50
      · have c9 : m4_L_3.toInt < np.toInt := z4 rfl rfl c9
        refine lv_aload_n hx hb dX1_rankByFee_12 rfl (lv_at hl 2 rfl) ?_
        refine lv_iload_n hx hb dX1_rankByFee_13 rfl (lv_at hl 0 rfl) ?_
        obtain ⟨hPc, hDc⟩ := zc2 (wc := [(h0, .inr (1, [.ref aR, .ref aB, .ref aP, .int nb, .int np])), (aP, .inl (cI, 20, .inl fp))]) hP hT [0, 1] (by decide +kernel) rfl
        have hFc := zfr hS hA
        refine va_calli (va_runV (As := [.int m4_L_3]) (rest := []) ⟨hx, hb, hml, hown, hts⟩ (g_X1_feeOf l dC dI cI cJ h0 m4_L_3 aR aB aP nb np fp H.size (by omega)) (cwV 1 hts (zgV qw965 qw610 qw611 qw102 qw612) rfl rfl rfl hd_X1_feeOf ⟨by rw [hR]; exact Nat.le_of_ble_eq_true rfl, by rw [hR]; exact Nat.le_of_ble_eq_true rfl⟩) (zPV hPc hK hDc (va_recv (q := (RX1, TX1, 5)) hK hP (ci := 1) (q0 := 0) rfl rfl)) rfl rfl hl.1 rfl (lv_room (Nat.le_of_ble_eq_true rfl)) dX1_rankByFee_14 ⟨Nat.zero_le _, Nat.zero_le _⟩) hS (fun q _ h => hFc q h) hFc (fun v14 u14 t H locs ht hvm hw hB hz1 hk1 hS9 => ?_)
        replace hP := zkeep hP hk1
        replace hS := hS9
        clear hPc hDc hFc hk1 hz1 hvm hS9
        have f14_0 : (v14 = fp (4 * m4_L_3.toInt.toNat + 1)) := hw
        have F14 := f14_0
        refine lv_aload_n hx hb dX1_rankByFee_17 rfl (lv_at hl 2 rfl) ?_
        refine lv_iload_n hx hb dX1_rankByFee_18 rfl (lv_at hl 3 rfl) ?_
        obtain ⟨hPc, hDc⟩ := zc2 (wc := [(h0, .inr (1, [.ref aR, .ref aB, .ref aP, .int nb, .int np])), (aP, .inl (cI, 20, .inl fp))]) hP hT [0, 1] (by decide +kernel) rfl
        have hFc := zfr hS hA
        refine va_calli (va_runV (As := [.int p0]) (rest := [.int v14]) ⟨hx, hb, hml, hown, hts⟩ (g_X1_feeOf l dC dI cI cJ h0 p0 aR aB aP nb np fp H.size n_p0) (cwV 1 hts (zgV qw965 qw610 qw611 qw102 qw612) rfl rfl rfl hd_X1_feeOf ⟨by rw [hR]; exact Nat.le_of_ble_eq_true rfl, by rw [hR]; exact Nat.le_of_ble_eq_true rfl⟩) (zPV hPc hK hDc (va_recv (q := (RX1, TX1, 5)) hK hP (ci := 1) (q0 := 0) rfl rfl)) rfl rfl hl.1 rfl (lv_room (Nat.le_of_ble_eq_true rfl)) dX1_rankByFee_19 ⟨Nat.zero_le _, Nat.zero_le _⟩) hS (fun q _ h => hFc q h) hFc (fun v19 u19 t H locs ht hvm hw hB hz1 hk1 hS9 => ?_)
        replace hP := zkeep hP hk1
        replace hS := hS9
        clear hPc hDc hFc hk1 hz1 hvm hS9
        have f19_0 : (v19 = fp (4 * p0.toInt.toNat + 1)) := hw
        have F19 := f19_0
        refine lv_isub hx hb dX1_rankByFee_22 ?_
        refine lv_topi (fun v22 e22 => ?_)
        refine lv_istore (lv' := [(4, .int v22), (3, .int m4_L_3), (2, .int m4_L_2), (0, .ref h0), (1, .int p0)]) hx hb dX1_rankByFee_23 hl (by decide) rfl (fun ls hl => ?_)
        refine lv_iload hx hb dX1_rankByFee_25 (lv_at hl 0 rfl) ?_
        refine lv_if_lt (tgt := 40) hx hb dX1_rankByFee_27 (by decide) (fun c27 => ?_) (fun c27 => ?_)
        · have c27 : v22.toInt < 0 := z1 rfl (by decide) c27
          have q40 : 0 ≤ m4_L_2.toInt ∧ m4_L_2.toInt ≤ 4 := by omega
          obtain ⟨v40, e40⟩ : ∃ y : Int32, y = m4_L_2 + Int32.ofInt (1) := ⟨_, rfl⟩
          refine lv_iinc (v := v40) (lv' := [(2, .int v40), (4, .int v22), (3, .int m4_L_3), (0, .ref h0), (1, .int p0)]) hx hb dX1_rankByFee_40 hl (k := 2) rfl e40.symm (by decide) rfl (fun ls hl => ?_)
          have i40 : v40.toInt = m4_L_2.toInt + 1 := zaddI e40 (by decide) (by omega) (by omega)
          obtain ⟨v43, e43⟩ : ∃ y : Int32, y = m4_L_3 + Int32.ofInt (1) := ⟨_, rfl⟩
          refine lv_iinc (v := v43) (lv' := [(3, .int v43), (2, .int v40), (4, .int v22), (0, .ref h0), (1, .int p0)]) hx hb dX1_rankByFee_43 hl (k := 2) rfl e43.symm (by decide) rfl (fun ls hl => ?_)
          have i43 : v43.toInt = m4_L_3.toInt + 1 := zaddI e43 (by decide) (by omega) (by omega)
          refine lv_goto (tgt := 4) hx hb dX1_rankByFee_46 (by decide) ?_
          exact ih4 _ (by omega) v40 v43 (by omega) (by omega) (by omega) (fun kc hP hp => by have d := keyA_d hP F14 F19 e22 ⟨by omega, by omega⟩ ⟨by omega, hp⟩; first | exact rnkY (jv4_0 kc hP hp) (by omega) i43 (d.mpr (by omega)) i40 | exact rnkN (jv4_0 kc hP hp) (by omega) i43 (fun z => absurd (d.mp z) (by omega))) rfl H locs ls hP hS (lv_sub hl [0, 1, 3, 4] rfl)
        · have c27 : 0 ≤ v22.toInt := z2 rfl (by decide) c27
          refine lv_iload hx hb dX1_rankByFee_30 (lv_at hl 0 rfl) ?_
          refine lv_if_ne (tgt := 43) hx hb dX1_rankByFee_32 (by decide) (fun c32 => ?_) (fun c32 => ?_)
          · have c32 : ¬ v22.toInt = 0 := z6 rfl (by decide) c32
            obtain ⟨v43, e43⟩ : ∃ y : Int32, y = m4_L_3 + Int32.ofInt (1) := ⟨_, rfl⟩
            refine lv_iinc (v := v43) (lv' := [(3, .int v43), (4, .int v22), (2, .int m4_L_2), (0, .ref h0), (1, .int p0)]) hx hb dX1_rankByFee_43 hl (k := 1) rfl e43.symm (by decide) rfl (fun ls hl => ?_)
            have i43 : v43.toInt = m4_L_3.toInt + 1 := zaddI e43 (by decide) (by omega) (by omega)
            refine lv_goto (tgt := 4) hx hb dX1_rankByFee_46 (by decide) ?_
            exact ih4 _ (by omega) m4_L_2 v43 jf4_0 (by omega) (by omega) (fun kc hP hp => by have d := keyA_d hP F14 F19 e22 ⟨by omega, by omega⟩ ⟨by omega, hp⟩; first | exact rnkY (jv4_0 kc hP hp) (by omega) i43 (d.mpr (by omega)) i40 | exact rnkN (jv4_0 kc hP hp) (by omega) i43 (fun z => absurd (d.mp z) (by omega))) rfl H locs ls hP hS (lv_sub hl [0, 2, 3, 4] rfl)
          · have c32 : v22.toInt = 0 := z5 rfl (by decide) c32
            refine lv_iload_n hx hb dX1_rankByFee_35 rfl (lv_at hl 1 rfl) ?_
            refine lv_iload_n hx hb dX1_rankByFee_36 rfl (lv_at hl 4 rfl) ?_
            refine lv_icmp_ge (tgt := 43) hx hb dX1_rankByFee_37 (by decide) (fun c37 => ?_) (fun c37 => ?_)
            · have c37 : p0.toInt ≤ m4_L_3.toInt := z3 rfl rfl c37
              obtain ⟨v43, e43⟩ : ∃ y : Int32, y = m4_L_3 + Int32.ofInt (1) := ⟨_, rfl⟩
              refine lv_iinc (v := v43) (lv' := [(3, .int v43), (4, .int v22), (2, .int m4_L_2), (0, .ref h0), (1, .int p0)]) hx hb dX1_rankByFee_43 hl (k := 1) rfl e43.symm (by decide) rfl (fun ls hl => ?_)
              have i43 : v43.toInt = m4_L_3.toInt + 1 := zaddI e43 (by decide) (by omega) (by omega)
              refine lv_goto (tgt := 4) hx hb dX1_rankByFee_46 (by decide) ?_
              exact ih4 _ (by omega) m4_L_2 v43 jf4_0 (by omega) (by omega) (fun kc hP hp => by have d := keyA_d hP F14 F19 e22 ⟨by omega, by omega⟩ ⟨by omega, hp⟩; first | exact rnkY (jv4_0 kc hP hp) (by omega) i43 (d.mpr (by omega)) i40 | exact rnkN (jv4_0 kc hP hp) (by omega) i43 (fun z => absurd (d.mp z) (by omega))) rfl H locs ls hP hS (lv_sub hl [0, 2, 3, 4] rfl)
            · have c37 : m4_L_3.toInt < p0.toInt := z4 rfl rfl c37
              have q40 : 0 ≤ m4_L_2.toInt ∧ m4_L_2.toInt ≤ 4 := by omega
              obtain ⟨v40, e40⟩ : ∃ y : Int32, y = m4_L_2 + Int32.ofInt (1) := ⟨_, rfl⟩
              refine lv_iinc (v := v40) (lv' := [(2, .int v40), (4, .int v22), (3, .int m4_L_3), (0, .ref h0), (1, .int p0)]) hx hb dX1_rankByFee_40 hl (k := 2) rfl e40.symm (by decide) rfl (fun ls hl => ?_)
              have i40 : v40.toInt = m4_L_2.toInt + 1 := zaddI e40 (by decide) (by omega) (by omega)
              obtain ⟨v43, e43⟩ : ∃ y : Int32, y = m4_L_3 + Int32.ofInt (1) := ⟨_, rfl⟩
              refine lv_iinc (v := v43) (lv' := [(3, .int v43), (2, .int v40), (4, .int v22), (0, .ref h0), (1, .int p0)]) hx hb dX1_rankByFee_43 hl (k := 2) rfl e43.symm (by decide) rfl (fun ls hl => ?_)
              have i43 : v43.toInt = m4_L_3.toInt + 1 := zaddI e43 (by decide) (by omega) (by omega)
              refine lv_goto (tgt := 4) hx hb dX1_rankByFee_46 (by decide) ?_
              exact ih4 _ (by omega) v40 v43 (by omega) (by omega) (by omega) (fun kc hP hp => by have d := keyA_d hP F14 F19 e22 ⟨by omega, by omega⟩ ⟨by omega, hp⟩; first | exact rnkY (jv4_0 kc hP hp) (by omega) i43 (d.mpr (by omega)) i40 | exact rnkN (jv4_0 kc hP hp) (by omega) i43 (fun z => absurd (d.mp z) (by omega))) rfl H locs ls hP hS (lv_sub hl [0, 1, 3, 4] rfl)
  refine lv_istore_n (lv' := [(3, .int 0), (2, .int 0), (0, .ref h0), (1, .int p0)]) hx hb dX1_rankByFee_3 rfl hl (by decide) rfl (fun ls hl => ?_)
  have zj4_m4_L_2 : (0 : Int32).toInt = 0 := by decide
  have zj4_m4_L_3 : (0 : Int32).toInt = 0 := by decide
  exact J4 _ 0 0 (by decide) (by decide) (by omega) (fun kc hP hp => rfl) rfl H locs ls hP hS (lv_sub hl [0, 1, 2, 3] rfl)
