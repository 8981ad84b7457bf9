set_option maxHeartbeats 4000000 in
set_option maxRecDepth 100000 in
theorem g_X7_ofPortrait_0 (l : Launch) (dC : Nat → ClassId) (dI : Nat → Nat → Nat) (cI cJ : ClassId) (h0 : Nat) (p0 : Int32) (sY : Nat) (sF : Nat) (sP : Nat) (pn : Int32) (lt : Int32) (sh : Int32) (wd : Int32) (pu : Int32) (mo : Int32) (fP : Nat → Int32) (sz : Nat) (n_p0 : 0 ≤ p0.toInt ∧ p0.toInt ≤ 19)  (ci_fP_zPo : zPo fP)  : Met l yX7_ofPortrait (.code yX7_ofPortrait cX7_ofPortrait 3 (some .int) :: wA) ({ frames := 0, cells := 0, slots := 0, locals := 0 }) (zP (dC, dI) [(cI, .int), (cJ, .long)] [.ref h0, .int p0, .int 0] sz [(h0, .inr (7, [.ref sY, .ref sF, .ref sP, .int pn, .int lt, .int sh, .int wd, .int pu, .int mo])), (sP, .inl (cI, 80, .inl fP))]) (va_Qi (fun (r : Int32) (u : Unit) => (0 ≤ r.toInt) ∧ (r.toInt ≤ 5) ∧ (r = fP (4 * p0.toInt.toNat))) (fun (_ : Unit) (_ : State) => True) (va_A [] sz)) 0 0 (va_A [] sz) := by
  refine Met.ofW (cc := cX7_ofPortrait) (maxL := 3) (ret := (some .int)) (by decide) rfl ?_
  intro p e s m args below meth c s₁ B hml hv
  obtain ⟨hargs, hsz, hP, hK, hT⟩ := hv
  have hx := B.exec
  have hb := B.bytes
  have hr := B.returns
  have hts : ∀ w ∈ wA, w.before args s = true := fun w h => atoms_spec (ws := .code yX7_ofPortrait cX7_ofPortrait 3 (some .int) :: wA) B.pre w (List.mem_cons_of_mem _ h)
  have hown : s.vm.findClass RX7 = some m.cls := findClass_of_methodNamed B.named
  have hlocks := B.notSynchronized
  subst hsz
  have hD : va_D (va_A [] s.heap.size) [] := zD0
  generalize hAe : va_A [] s.heap.size = A at hD ⊢
  have hA : ∀ q : Nat, s.heap.size ≤ q → A q := fun q h => by rw [← hAe]; exact Or.inr h
  have hl := lv_entry ([.ref h0, .int p0, .int 0]) (n := 3) (Nat.le_of_ble_eq_true rfl)
  rw [show entryFrame m args 3 = entryFrame m ([.ref h0, .int p0, .int 0] : List Value).toArray 3 by rw [hargs], lg_entry_eq]
  generalize (lg_sl ([.ref h0, .int p0, .int 0]) ++ List.replicate (3 - (lg_sl ([.ref h0, .int p0, .int 0])).length) Slot.unset).toArray = ls at hl ⊢
  have hl : lv_has ls 3 [(0, .ref h0), (1, .int p0), (2, .int 0)] := hl
  refine zstart (fun H hH => ?_)
  rw [← hH] at hP
  have hS : va_S A s.heap H [] := by rw [hH]; exact va_S.rf
  generalize ([] : List Loc) = locs at hS ⊢
  refine zgen (fun R Q hR hQ => ?_)
  refine lv_aload_n hx hb dX7_ofPortrait_0 rfl (lv_at hl 0 rfl) ?_
  refine va_get (D := (dC, dI)) (ci := 7) (v := .ref sP) (C := RX7) (T := TX7) (N := 9) hx hb hts iX7 hown hK hP 0 rfl rfl 2 (by decide) (hts _ qw226) (fun _ h9 => h9) rfl dX7_ofPortrait_1 ?_
  refine lv_iload_n hx hb dX7_ofPortrait_4 rfl (lv_at hl 1 rfl) ?_
  refine lv_iconst (v := 4) hx hb dX7_ofPortrait_5 (by decide) ?_
  refine lv_imul hx hb dX7_ofPortrait_6 ?_
  refine lv_topi (fun v6 e6 => ?_)
  have i6 : v6.toInt = p0.toInt * 4 := zmul e6 rfl (by decide) (by omega) (by omega)
  refine lv_iload_n hx hb dX7_ofPortrait_7 rfl (lv_at hl 2 rfl) ?_
  refine lv_iadd hx hb dX7_ofPortrait_8 ?_
  refine lv_topi (fun v8 e8 => ?_)
  have i8 : v8.toInt = v6.toInt + 0 := zadd e8 rfl (by decide) (by omega) (by omega)
  refine va_iald hx hb hK hP 1 0 rfl rfl (vp_in_iff.mpr ⟨by omega, by omega⟩) dX7_ofPortrait_9 ?_
  refine lv_topi (fun v9 e9 => ?_)
  have i9 : 0 ≤ v9.toInt ∧ v9.toInt ≤ 5 := zPo_0 ci_fP_zPo e9 (k := p0.toInt) (by omega) (by omega)
  rw [hQ]
  exact W.iret (v := v9) hx hb hr (fun t ht hW => ⟨⟨v9, (), rfl, ⟨by (try dsimp only); omega, by (try dsimp only); omega, zIxN e9 (by omega)⟩, trivial⟩, hS.F ht⟩) hS.2.2 dX7_ofPortrait_10
set_option maxHeartbeats 4000000 in
set_option maxRecDepth 100000 in
theorem g_X7_ofPortrait_1 (l : Launch) (dC : Nat → ClassId) (dI : Nat → Nat → Nat) (cI cJ : ClassId) (h0 : Nat) (p0 : Int32) (sY : Nat) (sF : Nat) (sP : Nat) (pn : Int32) (lt : Int32) (sh : Int32) (wd : Int32) (pu : Int32) (mo : Int32) (fP : Nat → Int32) (sz : Nat) (n_p0 : 0 ≤ p0.toInt ∧ p0.toInt ≤ 19)  (ci_fP_zPo : zPo fP)  : Met l yX7_ofPortrait (.code yX7_ofPortrait cX7_ofPortrait 3 (some .int) :: wA) ({ frames := 0, cells := 0, slots := 0, locals := 0 }) (zP (dC, dI) [(cI, .int), (cJ, .long)] [.ref h0, .int p0, .int 1] sz [(h0, .inr (7, [.ref sY, .ref sF, .ref sP, .int pn, .int lt, .int sh, .int wd, .int pu, .int mo])), (sP, .inl (cI, 80, .inl fP))]) (va_Qi (fun (r : Int32) (u : Unit) => (0 ≤ r.toInt) ∧ (r.toInt ≤ 4) ∧ (r = fP (4 * p0.toInt.toNat + 1))) (fun (_ : Unit) (_ : State) => True) (va_A [] sz)) 0 0 (va_A [] sz) := by
  refine Met.ofW (cc := cX7_ofPortrait) (maxL := 3) (ret := (some .int)) (by decide) rfl ?_
  intro p e s m args below meth c s₁ B hml hv
  obtain ⟨hargs, hsz, hP, hK, hT⟩ := hv
  have hx := B.exec
  have hb := B.bytes
  have hr := B.returns
  have hts : ∀ w ∈ wA, w.before args s = true := fun w h => atoms_spec (ws := .code yX7_ofPortrait cX7_ofPortrait 3 (some .int) :: wA) B.pre w (List.mem_cons_of_mem _ h)
  have hown : s.vm.findClass RX7 = some m.cls := findClass_of_methodNamed B.named
  have hlocks := B.notSynchronized
  subst hsz
  have hD : va_D (va_A [] s.heap.size) [] := zD0
  generalize hAe : va_A [] s.heap.size = A at hD ⊢
  have hA : ∀ q : Nat, s.heap.size ≤ q → A q := fun q h => by rw [← hAe]; exact Or.inr h
  have hl := lv_entry ([.ref h0, .int p0, .int 1]) (n := 3) (Nat.le_of_ble_eq_true rfl)
  rw [show entryFrame m args 3 = entryFrame m ([.ref h0, .int p0, .int 1] : List Value).toArray 3 by rw [hargs], lg_entry_eq]
  generalize (lg_sl ([.ref h0, .int p0, .int 1]) ++ List.replicate (3 - (lg_sl ([.ref h0, .int p0, .int 1])).length) Slot.unset).toArray = ls at hl ⊢
  have hl : lv_has ls 3 [(0, .ref h0), (1, .int p0), (2, .int 1)] := hl
  refine zstart (fun H hH => ?_)
  rw [← hH] at hP
  have hS : va_S A s.heap H [] := by rw [hH]; exact va_S.rf
  generalize ([] : List Loc) = locs at hS ⊢
  refine zgen (fun R Q hR hQ => ?_)
  refine lv_aload_n hx hb dX7_ofPortrait_0 rfl (lv_at hl 0 rfl) ?_
  refine va_get (D := (dC, dI)) (ci := 7) (v := .ref sP) (C := RX7) (T := TX7) (N := 9) hx hb hts iX7 hown hK hP 0 rfl rfl 2 (by decide) (hts _ qw226) (fun _ h9 => h9) rfl dX7_ofPortrait_1 ?_
  refine lv_iload_n hx hb dX7_ofPortrait_4 rfl (lv_at hl 1 rfl) ?_
  refine lv_iconst (v := 4) hx hb dX7_ofPortrait_5 (by decide) ?_
  refine lv_imul hx hb dX7_ofPortrait_6 ?_
  refine lv_topi (fun v6 e6 => ?_)
  have i6 : v6.toInt = p0.toInt * 4 := zmul e6 rfl (by decide) (by omega) (by omega)
  refine lv_iload_n hx hb dX7_ofPortrait_7 rfl (lv_at hl 2 rfl) ?_
  refine lv_iadd hx hb dX7_ofPortrait_8 ?_
  refine lv_topi (fun v8 e8 => ?_)
  have i8 : v8.toInt = v6.toInt + 1 := zadd e8 rfl (by decide) (by omega) (by omega)
  refine va_iald hx hb hK hP 1 0 rfl rfl (vp_in_iff.mpr ⟨by omega, by omega⟩) dX7_ofPortrait_9 ?_
  refine lv_topi (fun v9 e9 => ?_)
  have i9 : 0 ≤ v9.toInt ∧ v9.toInt ≤ 4 := zPo_1 ci_fP_zPo e9 (k := p0.toInt) (by omega) (by omega)
  rw [hQ]
  exact W.iret (v := v9) hx hb hr (fun t ht hW => ⟨⟨v9, (), rfl, ⟨by (try dsimp only); omega, by (try dsimp only); omega, zIxN e9 (by omega)⟩, trivial⟩, hS.F ht⟩) hS.2.2 dX7_ofPortrait_10
set_option maxHeartbeats 4000000 in
set_option maxRecDepth 100000 in
theorem g_X7_ofPortrait_2 (l : Launch) (dC : Nat → ClassId) (dI : Nat → Nat → Nat) (cI cJ : ClassId) (h0 : Nat) (p0 : Int32) (sY : Nat) (sF : Nat) (sP : Nat) (pn : Int32) (lt : Int32) (sh : Int32) (wd : Int32) (pu : Int32) (mo : Int32) (fP : Nat → Int32) (sz : Nat) (n_p0 : 0 ≤ p0.toInt ∧ p0.toInt ≤ 19)  (ci_fP_zPo : zPo fP)  : Met l yX7_ofPortrait (.code yX7_ofPortrait cX7_ofPortrait 3 (some .int) :: wA) ({ frames := 0, cells := 0, slots := 0, locals := 0 }) (zP (dC, dI) [(cI, .int), (cJ, .long)] [.ref h0, .int p0, .int 2] sz [(h0, .inr (7, [.ref sY, .ref sF, .ref sP, .int pn, .int lt, .int sh, .int wd, .int pu, .int mo])), (sP, .inl (cI, 80, .inl fP))]) (va_Qi (fun (r : Int32) (u : Unit) => (0 ≤ r.toInt) ∧ (r.toInt ≤ 9) ∧ (r = fP (4 * p0.toInt.toNat + 2))) (fun (_ : Unit) (_ : State) => True) (va_A [] sz)) 0 0 (va_A [] sz) := by
  refine Met.ofW (cc := cX7_ofPortrait) (maxL := 3) (ret := (some .int)) (by decide) rfl ?_
  intro p e s m args below meth c s₁ B hml hv
  obtain ⟨hargs, hsz, hP, hK, hT⟩ := hv
  have hx := B.exec
  have hb := B.bytes
  have hr := B.returns
  have hts : ∀ w ∈ wA, w.before args s = true := fun w h => atoms_spec (ws := .code yX7_ofPortrait cX7_ofPortrait 3 (some .int) :: wA) B.pre w (List.mem_cons_of_mem _ h)
  have hown : s.vm.findClass RX7 = some m.cls := findClass_of_methodNamed B.named
  have hlocks := B.notSynchronized
  subst hsz
  have hD : va_D (va_A [] s.heap.size) [] := zD0
  generalize hAe : va_A [] s.heap.size = A at hD ⊢
  have hA : ∀ q : Nat, s.heap.size ≤ q → A q := fun q h => by rw [← hAe]; exact Or.inr h
  have hl := lv_entry ([.ref h0, .int p0, .int 2]) (n := 3) (Nat.le_of_ble_eq_true rfl)
  rw [show entryFrame m args 3 = entryFrame m ([.ref h0, .int p0, .int 2] : List Value).toArray 3 by rw [hargs], lg_entry_eq]
  generalize (lg_sl ([.ref h0, .int p0, .int 2]) ++ List.replicate (3 - (lg_sl ([.ref h0, .int p0, .int 2])).length) Slot.unset).toArray = ls at hl ⊢
  have hl : lv_has ls 3 [(0, .ref h0), (1, .int p0), (2, .int 2)] := hl
  refine zstart (fun H hH => ?_)
  rw [← hH] at hP
  have hS : va_S A s.heap H [] := by rw [hH]; exact va_S.rf
  generalize ([] : List Loc) = locs at hS ⊢
  refine zgen (fun R Q hR hQ => ?_)
  refine lv_aload_n hx hb dX7_ofPortrait_0 rfl (lv_at hl 0 rfl) ?_
  refine va_get (D := (dC, dI)) (ci := 7) (v := .ref sP) (C := RX7) (T := TX7) (N := 9) hx hb hts iX7 hown hK hP 0 rfl rfl 2 (by decide) (hts _ qw226) (fun _ h9 => h9) rfl dX7_ofPortrait_1 ?_
  refine lv_iload_n hx hb dX7_ofPortrait_4 rfl (lv_at hl 1 rfl) ?_
  refine lv_iconst (v := 4) hx hb dX7_ofPortrait_5 (by decide) ?_
  refine lv_imul hx hb dX7_ofPortrait_6 ?_
  refine lv_topi (fun v6 e6 => ?_)
  have i6 : v6.toInt = p0.toInt * 4 := zmul e6 rfl (by decide) (by omega) (by omega)
  refine lv_iload_n hx hb dX7_ofPortrait_7 rfl (lv_at hl 2 rfl) ?_
  refine lv_iadd hx hb dX7_ofPortrait_8 ?_
  refine lv_topi (fun v8 e8 => ?_)
  have i8 : v8.toInt = v6.toInt + 2 := zadd e8 rfl (by decide) (by omega) (by omega)
  refine va_iald hx hb hK hP 1 0 rfl rfl (vp_in_iff.mpr ⟨by omega, by omega⟩) dX7_ofPortrait_9 ?_
  refine lv_topi (fun v9 e9 => ?_)
  have i9 : 0 ≤ v9.toInt ∧ v9.toInt ≤ 9 := zPo_2 ci_fP_zPo e9 (k := p0.toInt) (by omega) (by omega)
  rw [hQ]
  exact W.iret (v := v9) hx hb hr (fun t ht hW => ⟨⟨v9, (), rfl, ⟨by (try dsimp only); omega, by (try dsimp only); omega, zIxN e9 (by omega)⟩, trivial⟩, hS.F ht⟩) hS.2.2 dX7_ofPortrait_10
set_option maxHeartbeats 4000000 in
set_option maxRecDepth 100000 in
theorem g_X7_ofPortrait (l : Launch) (dC : Nat → ClassId) (dI : Nat → Nat → Nat) (cI cJ : ClassId) (h0 : Nat) (p0 : Int32) (p1 : Int32) (sY : Nat) (sF : Nat) (sP : Nat) (pn : Int32) (lt : Int32) (sh : Int32) (wd : Int32) (pu : Int32) (mo : Int32) (fP : Nat → Int32) (sz : Nat) (n_p0 : 0 ≤ p0.toInt ∧ p0.toInt ≤ 19) (n_p1 : 0 ≤ p1.toInt ∧ p1.toInt ≤ 3)    : Met l yX7_ofPortrait (.code yX7_ofPortrait cX7_ofPortrait 3 (some .int) :: wA) ({ frames := 0, cells := 0, slots := 0, locals := 0 }) (zP (dC, dI) [(cI, .int), (cJ, .long)] [.ref h0, .int p0, .int p1] sz [(h0, .inr (7, [.ref sY, .ref sF, .ref sP, .int pn, .int lt, .int sh, .int wd, .int pu, .int mo])), (sP, .inl (cI, 80, .inl fP))]) (va_Qi (fun (r : Int32) (u : Unit) => (r = fP (4 * p0.toInt.toNat + p1.toInt.toNat))) (fun (_ : Unit) (_ : State) => True) (va_A [] sz)) 0 0 (va_A [] sz) := by
  refine Met.ofW (cc := cX7_ofPortrait) (maxL := 3) (ret := (some .int)) (by decide) rfl ?_
  intro p e s m args below meth c s₁ B hml hv
  obtain ⟨hargs, hsz, hP, hK, hT⟩ := hv
  have hx := B.exec
  have hb := B.bytes
  have hr := B.returns
  have hts : ∀ w ∈ wA, w.before args s = true := fun w h => atoms_spec (ws := .code yX7_ofPortrait cX7_ofPortrait 3 (some .int) :: wA) B.pre w (List.mem_cons_of_mem _ h)
  have hown : s.vm.findClass RX7 = some m.cls := findClass_of_methodNamed B.named
  have hlocks := B.notSynchronized
  subst hsz
  have hD : va_D (va_A [] s.heap.size) [] := zD0
  generalize hAe : va_A [] s.heap.size = A at hD ⊢
  have hA : ∀ q : Nat, s.heap.size ≤ q → A q := fun q h => by rw [← hAe]; exact Or.inr h
  have hl := lv_entry ([.ref h0, .int p0, .int p1]) (n := 3) (Nat.le_of_ble_eq_true rfl)
  rw [show entryFrame m args 3 = entryFrame m ([.ref h0, .int p0, .int p1] : List Value).toArray 3 by rw [hargs], lg_entry_eq]
  generalize (lg_sl ([.ref h0, .int p0, .int p1]) ++ List.replicate (3 - (lg_sl ([.ref h0, .int p0, .int p1])).length) Slot.unset).toArray = ls at hl ⊢
  have hl : lv_has ls 3 [(0, .ref h0), (1, .int p0), (2, .int p1)] := hl
  refine zstart (fun H hH => ?_)
  rw [← hH] at hP
  have hS : va_S A s.heap H [] := by rw [hH]; exact va_S.rf
  generalize ([] : List Loc) = locs at hS ⊢
  refine zgen (fun R Q hR hQ => ?_)
  refine lv_aload_n hx hb dX7_ofPortrait_0 rfl (lv_at hl 0 rfl) ?_
  refine va_get (D := (dC, dI)) (ci := 7) (v := .ref sP) (C := RX7) (T := TX7) (N := 9) hx hb hts iX7 hown hK hP 0 rfl rfl 2 (by decide) (hts _ qw226) (fun _ h9 => h9) rfl dX7_ofPortrait_1 ?_
  refine lv_iload_n hx hb dX7_ofPortrait_4 rfl (lv_at hl 1 rfl) ?_
  refine lv_iconst (v := 4) hx hb dX7_ofPortrait_5 (by decide) ?_
  refine lv_imul hx hb dX7_ofPortrait_6 ?_
  refine lv_topi (fun v6 e6 => ?_)
  have i6 : v6.toInt = p0.toInt * 4 := zmul e6 rfl (by decide) (by omega) (by omega)
  refine lv_iload_n hx hb dX7_ofPortrait_7 rfl (lv_at hl 2 rfl) ?_
  refine lv_iadd hx hb dX7_ofPortrait_8 ?_
  refine lv_topi (fun v8 e8 => ?_)
  have i8 : v8.toInt = v6.toInt + p1.toInt := zadd e8 rfl rfl (by omega) (by omega)
  refine va_iald hx hb hK hP 1 0 rfl rfl (vp_in_iff.mpr ⟨by omega, by omega⟩) dX7_ofPortrait_9 ?_
  refine lv_topi (fun v9 e9 => ?_)
  rw [hQ]
  exact W.iret (v := v9) hx hb hr (fun t ht hW => ⟨⟨v9, (), rfl, (zIxN e9 (by omega)), trivial⟩, hS.F ht⟩) hS.2.2 dX7_ofPortrait_10
set_option maxHeartbeats 4000000 in
set_option maxRecDepth 100000 in
theorem g_X7_latestBy (l : Launch) (dC : Nat → ClassId) (dI : Nat → Nat → Nat) (cI cJ : ClassId) (h0 : Nat) (p0 : Int32) (sY : Nat) (sF : Nat) (sP : Nat) (pn : Int32) (lt : Int32) (sh : Int32) (wd : Int32) (pu : Int32) (mo : Int32) (fP : Nat → Int32) (sz : Nat) (n_pn : 0 ≤ pn.toInt ∧ pn.toInt ≤ 20)  (ci_fP_zPo : zPo fP)  : Met l yX7_latestBy (.code yX7_latestBy cX7_latestBy 3 (some .int) :: wA) ({ frames := 1, cells := 0, slots := 0, locals := 22 }) (zP (dC, dI) [(cI, .int), (cJ, .long)] [.ref h0, .int p0] sz [(h0, .inr (7, [.ref sY, .ref sF, .ref sP, .int pn, .int lt, .int sh, .int wd, .int pu, .int mo])), (sP, .inl (cI, 80, .inl fP))]) (va_Qi (fun (r : Int32) (u : Unit) => ((-1) ≤ r.toInt) ∧ (r.toInt ≤ 19) ∧ (zLaI fP p0 pn r)) (fun (_ : Unit) (_ : State) => True) (va_A [] sz)) 0 0 (va_A [] sz) := by
  refine Met.ofW (cc := cX7_latestBy) (maxL := 3) (ret := (some .int)) (by decide) rfl ?_
  intro p e s m args below meth c s₁ B hml hv
  obtain ⟨hargs, hsz, hP, hK, hT⟩ := hv
  have hx := B.exec
  have hb := B.bytes
  have hr := B.returns
  have hts : ∀ w ∈ wA, w.before args s = true := fun w h => atoms_spec (ws := .code yX7_latestBy cX7_latestBy 3 (some .int) :: wA) B.pre w (List.mem_cons_of_mem _ h)
  have hown : s.vm.findClass RX7 = some m.cls := findClass_of_methodNamed B.named
  have hlocks := B.notSynchronized
  subst hsz
  have hD : va_D (va_A [] s.heap.size) [] := zD0
  generalize hAe : va_A [] s.heap.size = A at hD ⊢
  have hA : ∀ q : Nat, s.heap.size ≤ q → A q := fun q h => by rw [← hAe]; exact Or.inr h
  have hl := lv_entry ([.ref h0, .int p0]) (n := 3) (Nat.le_of_ble_eq_true rfl)
  rw [show entryFrame m args 3 = entryFrame m ([.ref h0, .int p0] : List Value).toArray 3 by rw [hargs], lg_entry_eq]
  generalize (lg_sl ([.ref h0, .int p0]) ++ List.replicate (3 - (lg_sl ([.ref h0, .int p0])).length) Slot.unset).toArray = ls at hl ⊢
  have hl : lv_has ls 3 [(0, .ref h0), (1, .int p0)] := hl
  refine zstart (fun H hH => ?_)
  rw [← hH] at hP
  have hS : va_S A s.heap H [] := by rw [hH]; exact va_S.rf
  generalize ([] : List Loc) = locs at hS ⊢
  refine zgen (fun R Q hR hQ => ?_)
  refine lv_aload_n hx hb dX7_latestBy_0 rfl (lv_at hl 0 rfl) ?_
  refine va_get (D := (dC, dI)) (ci := 7) (v := .int pn) (C := RX7) (T := TX7) (N := 9) hx hb hts iX7 hown hK hP 0 rfl rfl 3 (by decide) (hts _ qw227) (fun _ h9 => h9) rfl dX7_latestBy_1 ?_
  refine lv_iconst (v := 1) hx hb dX7_latestBy_4 (by decide) ?_
  refine lv_isub hx hb dX7_latestBy_5 ?_
  refine lv_topi (fun v5 e5 => ?_)
  have i5 : v5.toInt = pn.toInt - 1 := zsub e5 rfl (by decide) (by omega) (by omega)
  have J7 : ∀ (n : Nat) (m7_L_2 : Int32), ((-1) ≤ m7_L_2.toInt ∧ m7_L_2.toInt ≤ 19) → (zLat fP p0 pn.toInt.toNat = zLat fP p0 (m7_L_2.toInt + 1).toNat) → (m7_L_2.toInt < pn.toInt) → (m7_L_2.toInt - (-2)).toNat = n → ∀ (H : Heap) (locs : List Loc) (ls : Array Slot), va_P (dC, dI) vwCl [(h0, .inr (7, [.ref sY, .ref sF, .ref sP, .int pn, .int lt, .int sh, .int wd, .int pu, .int mo])), (sP, .inl (cI, 80, .inl fP))] H → va_S A s.heap H locs → lv_has ls 3 [(2, .int m7_L_2), (0, .ref h0), (1, .int p0)] → W p l e R s m args below meth c H locs 0 0 Q (F0 m 7 ls []) := by
    intro n7
    induction n7 using Nat.strongRecOn with
    | _ n7 ih7 =>
      intro m7_L_2 jf7_0 jv7_0 jf7_2 hmu7 H locs ls hP hS hl
      refine lv_iload_n hx hb dX7_latestBy_7 rfl (lv_at hl 0 rfl) ?_
      refine lv_if_lt (tgt := 29) hx hb dX7_latestBy_8 (by decide) (fun c8 => ?_) (fun c8 => ?_)
      · have c8 : m7_L_2.toInt < 0 := z1 rfl (by decide) c8
        refine lv_iconst (v := (-1)) hx hb dX7_latestBy_29 (by decide) ?_
        have zr0 : ((-1) : Int32).toInt = (-1) := by decide
        rw [hQ]
        exact W.iret (v := ((-1))) hx hb hr (fun t ht hW => ⟨⟨(-1), (), rfl, ⟨by (try dsimp only); omega, by (try dsimp only); omega, Or.inl ⟨by decide, zLat_e jv7_0 (by omega)⟩⟩, trivial⟩, hS.F ht⟩) hS.2.2 dX7_latestBy_30
      · have c8 : 0 ≤ m7_L_2.toInt := z2 rfl (by decide) c8
        refine lv_aload_n hx hb dX7_latestBy_11 rfl (lv_at hl 1 rfl) ?_
        refine lv_iload_n hx hb dX7_latestBy_12 rfl (lv_at hl 0 rfl) ?_
        refine lv_iconst (v := 1) hx hb dX7_latestBy_13 (by decide) ?_
        obtain ⟨hPc, hDc⟩ := zc2 (wc := [(h0, .inr (7, [.ref sY, .ref sF, .ref sP, .int pn, .int lt, .int sh, .int wd, .int pu, .int mo])), (sP, .inl (cI, 80, .inl fP))]) hP hT [0, 1] (by decide +kernel) rfl
        have hFc := zfr hS hA
        refine va_calli (va_runV (As := [.int m7_L_2, .int 1]) (rest := []) ⟨hx, hb, hml, hown, hts⟩ (g_X7_ofPortrait_1 l dC dI cI cJ h0 m7_L_2 sY sF sP pn lt sh wd pu mo fP H.size (by omega) ci_fP_zPo) (cwV 2 hts (zgV qw652 qw653 qw654 qw103 qw655) rfl rfl rfl hd_X7_ofPortrait ⟨by rw [hR]; exact Nat.le_of_ble_eq_true rfl, by rw [hR]; exact Nat.le_of_ble_eq_true rfl⟩) (zPV hPc hK hDc (va_recv (q := (RX7, TX7, 9)) hK hP (ci := 7) (q0 := 0) rfl rfl)) rfl rfl hl.1 rfl (lv_room (Nat.le_of_ble_eq_true rfl)) dX7_latestBy_14 ⟨Nat.zero_le _, Nat.zero_le _⟩) hS (fun q _ h => hFc q h) hFc (fun v14 u14 t H locs ht hvm hw hB hz1 hk1 hS9 => ?_)
        replace hP := zkeep hP hk1
        replace hS := hS9
        clear hPc hDc hFc hk1 hz1 hvm hS9
        obtain ⟨f14_0, f14_1, f14_2⟩ : (0 ≤ v14.toInt) ∧ (v14.toInt ≤ 4) ∧ (v14 = fP (4 * m7_L_2.toInt.toNat + 1)) := hw
        have F14 := f14_2
        refine lv_iload_n hx hb dX7_latestBy_17 rfl (lv_at hl 2 rfl) ?_
        refine lv_icmp_ne (tgt := 23) hx hb dX7_latestBy_18 (by decide) (fun c18 => ?_) (fun c18 => ?_)
        · have c18 : ¬ v14.toInt = p0.toInt := z6 rfl rfl c18
          obtain ⟨v23, e23⟩ : ∃ y : Int32, y = m7_L_2 + Int32.ofInt (-1) := ⟨_, rfl⟩
          refine lv_iinc (v := v23) (lv' := [(2, .int v23), (0, .ref h0), (1, .int p0)]) hx hb dX7_latestBy_23 hl (k := 0) rfl e23.symm (by decide) rfl (fun ls hl => ?_)
          have i23 : v23.toInt = m7_L_2.toInt + (-1) := zaddI e23 (by decide) (by omega) (by omega)
          refine lv_goto (tgt := 7) hx hb dX7_latestBy_26 (by decide) ?_
          exact ih7 _ (by omega) v23 (by omega) (zLat_s jv7_0 (by omega) F14 (by omega) _ (by omega)) (by omega) rfl H locs ls hP hS (lv_sub hl [0, 1, 2] rfl)
        · have c18 : v14.toInt = p0.toInt := z5 rfl rfl c18
          refine lv_iload_n hx hb dX7_latestBy_21 rfl (lv_at hl 0 rfl) ?_
          rw [hQ]
          exact W.iret (v := m7_L_2) hx hb hr (fun t ht hW => ⟨⟨m7_L_2, (), rfl, ⟨by (try dsimp only); omega, by (try dsimp only); omega, Or.inr ⟨by omega, by omega, zLat_y jv7_0 (by omega) F14 (by omega)⟩⟩, trivial⟩, hS.F ht⟩) hS.2.2 dX7_latestBy_22
  refine lv_istore_n (lv' := [(2, .int v5), (0, .ref h0), (1, .int p0)]) hx hb dX7_latestBy_6 rfl hl (by decide) rfl (fun ls hl => ?_)
  exact J7 _ v5 (by omega) (by rw [show (v5.toInt + 1).toNat = pn.toInt.toNat by omega]) (by omega) rfl H locs ls hP hS (lv_sub hl [0, 1, 2] rfl)
set_option maxHeartbeats 4000000 in
set_option maxRecDepth 100000 in
theorem g_X7_portraitsOf (l : Launch) (dC : Nat → ClassId) (dI : Nat → Nat → Nat) (cI cJ : ClassId) (h0 : Nat) (p0 : Int32) (sY : Nat) (sF : Nat) (sP : Nat) (pn : Int32) (lt : Int32) (sh : Int32) (wd : Int32) (pu : Int32) (mo : Int32) (fP : Nat → Int32) (sz : Nat) (n_pn : 0 ≤ pn.toInt ∧ pn.toInt ≤ 20)  (ci_fP_zPo : zPo fP)  : Met l yX7_portraitsOf (.code yX7_portraitsOf cX7_portraitsOf 4 (some .int) :: wA) ({ frames := 1, cells := 0, slots := 0, locals := 22 }) (zP (dC, dI) [(cI, .int), (cJ, .long)] [.ref h0, .int p0] sz [(h0, .inr (7, [.ref sY, .ref sF, .ref sP, .int pn, .int lt, .int sh, .int wd, .int pu, .int mo])), (sP, .inl (cI, 80, .inl fP))]) (va_Qi (fun (r : Int32) (u : Unit) => (r = zCnt fP p0 pn.toInt.toNat)) (fun (_ : Unit) (_ : State) => True) (va_A [] sz)) 0 0 (va_A [] sz) := by
  refine Met.ofW (cc := cX7_portraitsOf) (maxL := 4) (ret := (some .int)) (by decide) rfl ?_
  intro p e s m args below meth c s₁ B hml hv
  obtain ⟨hargs, hsz, hP, hK, hT⟩ := hv
  have hx := B.exec
  have hb := B.bytes
  have hr := B.returns
  have hts : ∀ w ∈ wA, w.before args s = true := fun w h => atoms_spec (ws := .code yX7_portraitsOf cX7_portraitsOf 4 (some .int) :: wA) B.pre w (List.mem_cons_of_mem _ h)
  have hown : s.vm.findClass RX7 = some m.cls := findClass_of_methodNamed B.named
  have hlocks := B.notSynchronized
  subst hsz
  have hD : va_D (va_A [] s.heap.size) [] := zD0
  generalize hAe : va_A [] s.heap.size = A at hD ⊢
  have hA : ∀ q : Nat, s.heap.size ≤ q → A q := fun q h => by rw [← hAe]; exact Or.inr h
  have hl := lv_entry ([.ref h0, .int p0]) (n := 4) (Nat.le_of_ble_eq_true rfl)
  rw [show entryFrame m args 4 = entryFrame m ([.ref h0, .int p0] : List Value).toArray 4 by rw [hargs], lg_entry_eq]
  generalize (lg_sl ([.ref h0, .int p0]) ++ List.replicate (4 - (lg_sl ([.ref h0, .int p0])).length) Slot.unset).toArray = ls at hl ⊢
  have hl : lv_has ls 4 [(0, .ref h0), (1, .int p0)] := hl
  refine zstart (fun H hH => ?_)
  rw [← hH] at hP
  have hS : va_S A s.heap H [] := by rw [hH]; exact va_S.rf
  generalize ([] : List Loc) = locs at hS ⊢
  refine zgen (fun R Q hR hQ => ?_)
  refine lv_iconst (v := 0) hx hb dX7_portraitsOf_0 (by decide) ?_
  refine lv_istore_n (lv' := [(2, .int 0), (0, .ref h0), (1, .int p0)]) hx hb dX7_portraitsOf_1 rfl hl (by decide) rfl (fun ls hl => ?_)
  refine lv_iconst (v := 0) hx hb dX7_portraitsOf_2 (by decide) ?_
  have J4 : ∀ (n : Nat) (m4_L_2 : Int32) (m4_L_3 : Int32), (0 ≤ m4_L_3.toInt ∧ m4_L_3.toInt ≤ 20) → (m4_L_2 = zCnt fP p0 m4_L_3.toInt.toNat) → (m4_L_3.toInt ≤ pn.toInt) → (21 - m4_L_3.toInt).toNat = n → ∀ (H : Heap) (locs : List Loc) (ls : Array Slot), va_P (dC, dI) vwCl [(h0, .inr (7, [.ref sY, .ref sF, .ref sP, .int pn, .int lt, .int sh, .int wd, .int pu, .int mo])), (sP, .inl (cI, 80, .inl fP))] H → va_S A s.heap H locs → lv_has ls 4 [(3, .int m4_L_3), (2, .int m4_L_2), (0, .ref h0), (1, .int p0)] → W p l e R s m args below meth c H locs 0 0 Q (F0 m 4 ls []) := by
    intro n4
    induction n4 using Nat.strongRecOn with
    | _ n4 ih4 =>
      intro m4_L_2 m4_L_3 jf4_0 jv4_0 jf4_2 hmu4 H locs ls hP hS hl
      refine lv_iload_n hx hb dX7_portraitsOf_4 rfl (lv_at hl 0 rfl) ?_
      refine lv_aload_n hx hb dX7_portraitsOf_5 rfl (lv_at hl 2 rfl) ?_
      refine va_get (D := (dC, dI)) (ci := 7) (v := .int pn) (C := RX7) (T := TX7) (N := 9) hx hb hts iX7 hown hK hP 0 rfl rfl 3 (by decide) (hts _ qw227) (fun _ h9 => h9) rfl dX7_portraitsOf_6 ?_
      refine lv_icmp_ge (tgt := 31) hx hb dX7_portraitsOf_9 (by decide) (fun c9 => ?_) (fun c9 => ?_)
      · have c9 : pn.toInt ≤ m4_L_3.toInt := z3 rfl rfl c9
        refine lv_iload_n hx hb dX7_portraitsOf_31 rfl (lv_at hl 1 rfl) ?_
        rw [hQ]
        exact W.iret (v := m4_L_2) hx hb hr (fun t ht hW => ⟨⟨m4_L_2, (), rfl, (by rw [jv4_0, show m4_L_3.toInt.toNat = pn.toInt.toNat by omega]), trivial⟩, hS.F ht⟩) hS.2.2 dX7_portraitsOf_32
      · have c9 : m4_L_3.toInt < pn.toInt := z4 rfl rfl c9
        refine lv_aload_n hx hb dX7_portraitsOf_12 rfl (lv_at hl 2 rfl) ?_
        refine lv_iload_n hx hb dX7_portraitsOf_13 rfl (lv_at hl 0 rfl) ?_
        refine lv_iconst (v := 0) hx hb dX7_portraitsOf_14 (by decide) ?_
        obtain ⟨hPc, hDc⟩ := zc2 (wc := [(h0, .inr (7, [.ref sY, .ref sF, .ref sP, .int pn, .int lt, .int sh, .int wd, .int pu, .int mo])), (sP, .inl (cI, 80, .inl fP))]) hP hT [0, 1] (by decide +kernel) rfl
        have hFc := zfr hS hA
        refine va_calli (va_runV (As := [.int m4_L_3, .int 0]) (rest := []) ⟨hx, hb, hml, hown, hts⟩ (g_X7_ofPortrait_0 l dC dI cI cJ h0 m4_L_3 sY sF sP pn lt sh wd pu mo fP H.size (by omega) ci_fP_zPo) (cwV 2 hts (zgV qw652 qw653 qw654 qw103 qw655) rfl rfl rfl hd_X7_ofPortrait ⟨by rw [hR]; exact Nat.le_of_ble_eq_true rfl, by rw [hR]; exact Nat.le_of_ble_eq_true rfl⟩) (zPV hPc hK hDc (va_recv (q := (RX7, TX7, 9)) hK hP (ci := 7) (q0 := 0) rfl rfl)) rfl rfl hl.1 rfl (lv_room (Nat.le_of_ble_eq_true rfl)) dX7_portraitsOf_15 ⟨Nat.zero_le _, Nat.zero_le _⟩) hS (fun q _ h => hFc q h) hFc (fun v15 u15 t H locs ht hvm hw hB hz1 hk1 hS9 => ?_)
        replace hP := zkeep hP hk1
        replace hS := hS9
        clear hPc hDc hFc hk1 hz1 hvm hS9
        obtain ⟨f15_0, f15_1, f15_2⟩ : (0 ≤ v15.toInt) ∧ (v15.toInt ≤ 5) ∧ (v15 = fP (4 * m4_L_3.toInt.toNat)) := hw
        have F15 := f15_2
        refine lv_iload_n hx hb dX7_portraitsOf_18 rfl (lv_at hl 3 rfl) ?_
        refine lv_icmp_ne (tgt := 25) hx hb dX7_portraitsOf_19 (by decide) (fun c19 => ?_) (fun c19 => ?_)
        · have c19 : ¬ v15.toInt = p0.toInt := z6 rfl rfl c19
          obtain ⟨v25, e25⟩ : ∃ y : Int32, y = m4_L_3 + Int32.ofInt (1) := ⟨_, rfl⟩
          refine lv_iinc (v := v25) (lv' := [(3, .int v25), (2, .int m4_L_2), (0, .ref h0), (1, .int p0)]) hx hb dX7_portraitsOf_25 hl (k := 0) rfl e25.symm (by decide) rfl (fun ls hl => ?_)
          have i25 : v25.toInt = m4_L_3.toInt + 1 := zaddI e25 (by decide) (by omega) (by omega)
          refine lv_goto (tgt := 4) hx hb dX7_portraitsOf_28 (by decide) ?_
          exact ih4 _ (by omega) m4_L_2 v25 (by omega) (by first | exact zCntY jv4_0 (by omega) i25 F15 (by omega) (e22.trans (by rw [zoi1])) | exact zCntN jv4_0 (by omega) i25 F15 (by omega)) (by omega) rfl H locs ls hP hS (lv_sub hl [0, 1, 2, 3] rfl)
        · have c19 : v15.toInt = p0.toInt := z5 rfl rfl c19
          obtain ⟨v22, e22⟩ : ∃ y : Int32, y = m4_L_2 + Int32.ofInt (1) := ⟨_, rfl⟩
          refine lv_iinc (v := v22) (lv' := [(2, .int v22), (3, .int m4_L_3), (0, .ref h0), (1, .int p0)]) hx hb dX7_portraitsOf_22 hl (k := 1) rfl e22.symm (by decide) rfl (fun ls hl => ?_)
          obtain ⟨v25, e25⟩ : ∃ y : Int32, y = m4_L_3 + Int32.ofInt (1) := ⟨_, rfl⟩
          refine lv_iinc (v := v25) (lv' := [(3, .int v25), (2, .int v22), (0, .ref h0), (1, .int p0)]) hx hb dX7_portraitsOf_25 hl (k := 1) rfl e25.symm (by decide) rfl (fun ls hl => ?_)
          have i25 : v25.toInt = m4_L_3.toInt + 1 := zaddI e25 (by decide) (by omega) (by omega)
          refine lv_goto (tgt := 4) hx hb dX7_portraitsOf_28 (by decide) ?_
          exact ih4 _ (by omega) v22 v25 (by omega) (by first | exact zCntY jv4_0 (by omega) i25 F15 (by omega) (e22.trans (by rw [zoi1])) | exact zCntN jv4_0 (by omega) i25 F15 (by omega)) (by omega) rfl H locs ls hP hS (lv_sub hl [0, 1, 2, 3] rfl)
  refine lv_istore_n (lv' := [(3, .int 0), (2, .int 0), (0, .ref h0), (1, .int p0)]) hx hb dX7_portraitsOf_3 rfl hl (by decide) rfl (fun ls hl => ?_)
  have zj4_m4_L_2 : (0 : Int32).toInt = 0 := by decide
  have zj4_m4_L_3 : (0 : Int32).toInt = 0 := by decide
  exact J4 _ 0 0 (by decide) (rfl) (by omega) rfl H locs ls hP hS (lv_sub hl [0, 1, 2, 3] rfl)
set_option maxHeartbeats 4000000 in
set_option maxRecDepth 100000 in
theorem g_X7_shownTogether (l : Launch) (dC : Nat → ClassId) (dI : Nat → Nat → Nat) (cI cJ : ClassId) (h0 : Nat) (p0 : Int32) (sY : Nat) (sF : Nat) (sP : Nat) (pn : Int32) (lt : Int32) (sh : Int32) (wd : Int32) (pu : Int32) (mo : Int32) (fP : Nat → Int32) (sz : Nat) (n_pn : 0 ≤ pn.toInt ∧ pn.toInt ≤ 20)  (ci_fP_zPo : zPo fP)  : Met l yX7_shownTogether (.code yX7_shownTogether cX7_shownTogether 4 (some .int) :: wA) ({ frames := 1, cells := 0, slots := 0, locals := 22 }) (zP (dC, dI) [(cI, .int), (cJ, .long)] [.ref h0, .int p0] sz [(h0, .inr (7, [.ref sY, .ref sF, .ref sP, .int pn, .int lt, .int sh, .int wd, .int pu, .int mo])), (sP, .inl (cI, 80, .inl fP))]) (va_Qi (fun (r : Int32) (u : Unit) => (r = zSum fP p0 pn.toInt.toNat)) (fun (_ : Unit) (_ : State) => True) (va_A [] sz)) 0 0 (va_A [] sz) := by
  refine Met.ofW (cc := cX7_shownTogether) (maxL := 4) (ret := (some .int)) (by decide) rfl ?_
  intro p e s m args below meth c s₁ B hml hv
  obtain ⟨hargs, hsz, hP, hK, hT⟩ := hv
  have hx := B.exec
  have hb := B.bytes
  have hr := B.returns
  have hts : ∀ w ∈ wA, w.before args s = true := fun w h => atoms_spec (ws := .code yX7_shownTogether cX7_shownTogether 4 (some .int) :: wA) B.pre w (List.mem_cons_of_mem _ h)
  have hown : s.vm.findClass RX7 = some m.cls := findClass_of_methodNamed B.named
  have hlocks := B.notSynchronized
  subst hsz
  have hD : va_D (va_A [] s.heap.size) [] := zD0
  generalize hAe : va_A [] s.heap.size = A at hD ⊢
  have hA : ∀ q : Nat, s.heap.size ≤ q → A q := fun q h => by rw [← hAe]; exact Or.inr h
  have hl := lv_entry ([.ref h0, .int p0]) (n := 4) (Nat.le_of_ble_eq_true rfl)
  rw [show entryFrame m args 4 = entryFrame m ([.ref h0, .int p0] : List Value).toArray 4 by rw [hargs], lg_entry_eq]
  generalize (lg_sl ([.ref h0, .int p0]) ++ List.replicate (4 - (lg_sl ([.ref h0, .int p0])).length) Slot.unset).toArray = ls at hl ⊢
  have hl : lv_has ls 4 [(0, .ref h0), (1, .int p0)] := hl
  refine zstart (fun H hH => ?_)
  rw [← hH] at hP
  have hS : va_S A s.heap H [] := by rw [hH]; exact va_S.rf
  generalize ([] : List Loc) = locs at hS ⊢
  refine zgen (fun R Q hR hQ => ?_)
  refine lv_iconst (v := 0) hx hb dX7_shownTogether_0 (by decide) ?_
  refine lv_istore_n (lv' := [(2, .int 0), (0, .ref h0), (1, .int p0)]) hx hb dX7_shownTogether_1 rfl hl (by decide) rfl (fun ls hl => ?_)
  refine lv_iconst (v := 0) hx hb dX7_shownTogether_2 (by decide) ?_
  have J4 : ∀ (n : Nat) (m4_L_2 : Int32) (m4_L_3 : Int32), (0 ≤ m4_L_3.toInt ∧ m4_L_3.toInt ≤ 20) → (m4_L_2 = zSum fP p0 m4_L_3.toInt.toNat) → (m4_L_3.toInt ≤ pn.toInt) → (21 - m4_L_3.toInt).toNat = n → ∀ (H : Heap) (locs : List Loc) (ls : Array Slot), va_P (dC, dI) vwCl [(h0, .inr (7, [.ref sY, .ref sF, .ref sP, .int pn, .int lt, .int sh, .int wd, .int pu, .int mo])), (sP, .inl (cI, 80, .inl fP))] H → va_S A s.heap H locs → lv_has ls 4 [(3, .int m4_L_3), (2, .int m4_L_2), (0, .ref h0), (1, .int p0)] → W p l e R s m args below meth c H locs 0 0 Q (F0 m 4 ls []) := by
    intro n4
    induction n4 using Nat.strongRecOn with
    | _ n4 ih4 =>
      intro m4_L_2 m4_L_3 jf4_0 jv4_0 jf4_2 hmu4 H locs ls hP hS hl
      refine lv_iload_n hx hb dX7_shownTogether_4 rfl (lv_at hl 0 rfl) ?_
      refine lv_aload_n hx hb dX7_shownTogether_5 rfl (lv_at hl 2 rfl) ?_
      refine va_get (D := (dC, dI)) (ci := 7) (v := .int pn) (C := RX7) (T := TX7) (N := 9) hx hb hts iX7 hown hK hP 0 rfl rfl 3 (by decide) (hts _ qw227) (fun _ h9 => h9) rfl dX7_shownTogether_6 ?_
      refine lv_icmp_ge (tgt := 37) hx hb dX7_shownTogether_9 (by decide) (fun c9 => ?_) (fun c9 => ?_)
      · have c9 : pn.toInt ≤ m4_L_3.toInt := z3 rfl rfl c9
        refine lv_iload_n hx hb dX7_shownTogether_37 rfl (lv_at hl 1 rfl) ?_
        rw [hQ]
        exact W.iret (v := m4_L_2) hx hb hr (fun t ht hW => ⟨⟨m4_L_2, (), rfl, (by rw [jv4_0, show m4_L_3.toInt.toNat = pn.toInt.toNat by omega]), trivial⟩, hS.F ht⟩) hS.2.2 dX7_shownTogether_38
      · have c9 : m4_L_3.toInt < pn.toInt := z4 rfl rfl c9
        refine lv_aload_n hx hb dX7_shownTogether_12 rfl (lv_at hl 2 rfl) ?_
        refine lv_iload_n hx hb dX7_shownTogether_13 rfl (lv_at hl 0 rfl) ?_
        refine lv_iconst (v := 0) hx hb dX7_shownTogether_14 (by decide) ?_
        obtain ⟨hPc, hDc⟩ := zc2 (wc := [(h0, .inr (7, [.ref sY, .ref sF, .ref sP, .int pn, .int lt, .int sh, .int wd, .int pu, .int mo])), (sP, .inl (cI, 80, .inl fP))]) hP hT [0, 1] (by decide +kernel) rfl
        have hFc := zfr hS hA
        refine va_calli (va_runV (As := [.int m4_L_3, .int 0]) (rest := []) ⟨hx, hb, hml, hown, hts⟩ (g_X7_ofPortrait_0 l dC dI cI cJ h0 m4_L_3 sY sF sP pn lt sh wd pu mo fP H.size (by omega) ci_fP_zPo) (cwV 2 hts (zgV qw652 qw653 qw654 qw103 qw655) rfl rfl rfl hd_X7_ofPortrait ⟨by rw [hR]; exact Nat.le_of_ble_eq_true rfl, by rw [hR]; exact Nat.le_of_ble_eq_true rfl⟩) (zPV hPc hK hDc (va_recv (q := (RX7, TX7, 9)) hK hP (ci := 7) (q0 := 0) rfl rfl)) rfl rfl hl.1 rfl (lv_room (Nat.le_of_ble_eq_true rfl)) dX7_shownTogether_15 ⟨Nat.zero_le _, Nat.zero_le _⟩) hS (fun q _ h => hFc q h) hFc (fun v15 u15 t H locs ht hvm hw hB hz1 hk1 hS9 => ?_)
        replace hP := zkeep hP hk1
        replace hS := hS9
        clear hPc hDc hFc hk1 hz1 hvm hS9
        obtain ⟨f15_0, f15_1, f15_2⟩ : (0 ≤ v15.toInt) ∧ (v15.toInt ≤ 5) ∧ (v15 = fP (4 * m4_L_3.toInt.toNat)) := hw
        have F15 := f15_2
        refine lv_iload_n hx hb dX7_shownTogether_18 rfl (lv_at hl 3 rfl) ?_
        refine lv_icmp_ne (tgt := 31) hx hb dX7_shownTogether_19 (by decide) (fun c19 => ?_) (fun c19 => ?_)
        · have c19 : ¬ v15.toInt = p0.toInt := z6 rfl rfl c19
          obtain ⟨v31, e31⟩ : ∃ y : Int32, y = m4_L_3 + Int32.ofInt (1) := ⟨_, rfl⟩
          refine lv_iinc (v := v31) (lv' := [(3, .int v31), (2, .int m4_L_2), (0, .ref h0), (1, .int p0)]) hx hb dX7_shownTogether_31 hl (k := 0) rfl e31.symm (by decide) rfl (fun ls hl => ?_)
          have i31 : v31.toInt = m4_L_3.toInt + 1 := zaddI e31 (by decide) (by omega) (by omega)
          refine lv_goto (tgt := 4) hx hb dX7_shownTogether_34 (by decide) ?_
          exact ih4 _ (by omega) m4_L_2 v31 (by omega) (by first | exact zSumY jv4_0 (by omega) i31 F15 F26 (by omega) e29 | exact zSumN jv4_0 (by omega) i31 F15 (by omega)) (by omega) rfl H locs ls hP hS (lv_sub hl [0, 1, 2, 3] rfl)
        · have c19 : v15.toInt = p0.toInt := z5 rfl rfl c19
          refine lv_iload_n hx hb dX7_shownTogether_22 rfl (lv_at hl 1 rfl) ?_
          refine lv_aload_n hx hb dX7_shownTogether_23 rfl (lv_at hl 2 rfl) ?_
          refine lv_iload_n hx hb dX7_shownTogether_24 rfl (lv_at hl 0 rfl) ?_
          refine lv_iconst (v := 2) hx hb dX7_shownTogether_25 (by decide) ?_
          obtain ⟨hPc, hDc⟩ := zc2 (wc := [(h0, .inr (7, [.ref sY, .ref sF, .ref sP, .int pn, .int lt, .int sh, .int wd, .int pu, .int mo])), (sP, .inl (cI, 80, .inl fP))]) hP hT [0, 1] (by decide +kernel) rfl
          have hFc := zfr hS hA
          refine va_calli (va_runV (As := [.int m4_L_3, .int 2]) (rest := [.int m4_L_2]) ⟨hx, hb, hml, hown, hts⟩ (g_X7_ofPortrait_2 l dC dI cI cJ h0 m4_L_3 sY sF sP pn lt sh wd pu mo fP H.size (by omega) ci_fP_zPo) (cwV 2 hts (zgV qw652 qw653 qw654 qw103 qw655) rfl rfl rfl hd_X7_ofPortrait ⟨by rw [hR]; exact Nat.le_of_ble_eq_true rfl, by rw [hR]; exact Nat.le_of_ble_eq_true rfl⟩) (zPV hPc hK hDc (va_recv (q := (RX7, TX7, 9)) hK hP (ci := 7) (q0 := 0) rfl rfl)) rfl rfl hl.1 rfl (lv_room (Nat.le_of_ble_eq_true rfl)) dX7_shownTogether_26 ⟨Nat.zero_le _, Nat.zero_le _⟩) hS (fun q _ h => hFc q h) hFc (fun v26 u26 t H locs ht hvm hw hB hz1 hk1 hS9 => ?_)
          replace hP := zkeep hP hk1
          replace hS := hS9
          clear hPc hDc hFc hk1 hz1 hvm hS9
          obtain ⟨f26_0, f26_1, f26_2⟩ : (0 ≤ v26.toInt) ∧ (v26.toInt ≤ 9) ∧ (v26 = fP (4 * m4_L_3.toInt.toNat + 2)) := hw
          have F26 := f26_2
          refine lv_iadd hx hb dX7_shownTogether_29 ?_
          refine lv_topi (fun v29 e29 => ?_)
          refine lv_istore_n (lv' := [(2, .int v29), (3, .int m4_L_3), (0, .ref h0), (1, .int p0)]) hx hb dX7_shownTogether_30 rfl hl (by decide) rfl (fun ls hl => ?_)
          obtain ⟨v31, e31⟩ : ∃ y : Int32, y = m4_L_3 + Int32.ofInt (1) := ⟨_, rfl⟩
          refine lv_iinc (v := v31) (lv' := [(3, .int v31), (2, .int v29), (0, .ref h0), (1, .int p0)]) hx hb dX7_shownTogether_31 hl (k := 1) rfl e31.symm (by decide) rfl (fun ls hl => ?_)
          have i31 : v31.toInt = m4_L_3.toInt + 1 := zaddI e31 (by decide) (by omega) (by omega)
          refine lv_goto (tgt := 4) hx hb dX7_shownTogether_34 (by decide) ?_
          exact ih4 _ (by omega) v29 v31 (by omega) (by first | exact zSumY jv4_0 (by omega) i31 F15 F26 (by omega) e29 | exact zSumN jv4_0 (by omega) i31 F15 (by omega)) (by omega) rfl H locs ls hP hS (lv_sub hl [0, 1, 2, 3] rfl)
  refine lv_istore_n (lv' := [(3, .int 0), (2, .int 0), (0, .ref h0), (1, .int p0)]) hx hb dX7_shownTogether_3 rfl hl (by decide) rfl (fun ls hl => ?_)
  have zj4_m4_L_2 : (0 : Int32).toInt = 0 := by decide
  have zj4_m4_L_3 : (0 : Int32).toInt = 0 := by decide
  exact J4 _ 0 0 (by decide) (rfl) (by omega) rfl H locs ls hP hS (lv_sub hl [0, 1, 2, 3] rfl)
set_option maxHeartbeats 4000000 in
set_option maxRecDepth 100000 in
theorem g_X7_passMonth (l : Launch) (dC : Nat → ClassId) (dI : Nat → Nat → Nat) (cI cJ : ClassId) (h0 : Nat) (sY : Nat) (sF : Nat) (sP : Nat) (pn : Int32) (lt : Int32) (sh : Int32) (wd : Int32) (pu : Int32) (mo : Int32) (sz : Nat)     : Met l yX7_passMonth (.code yX7_passMonth cX7_passMonth 1 none :: wA) ({ frames := 1, cells := 0, slots := 0, locals := 30 }) (zP (dC, dI) [(cI, .int), (cJ, .long)] [.ref h0] sz [(h0, .inr (7, [.ref sY, .ref sF, .ref sP, .int pn, .int lt, .int sh, .int wd, .int pu, .int mo]))]) (va_Qv (fun (u : Int32 × Int32) => (u.1.toInt ≤ 999) ∧ (u.1 = sMin 999 (pu + 1) ∧ u.2 = mo + 1)) (fun (u : Int32 × Int32) (t : State) => va_P (dC, dI) vwCl [(h0, .inr (7, [.ref sY, .ref sF, .ref sP, .int pn, .int lt, .int sh, .int wd, .int u.1, .int u.2]))] t.heap ∧ va_D (va_A [(h0, .inr (7, [.ref sY, .ref sF, .ref sP, .int pn, .int lt, .int sh, .int wd, .int pu, .int mo]))] sz) [(h0, .inr (7, [.ref sY, .ref sF, .ref sP, .int pn, .int lt, .int sh, .int wd, .int u.1, .int u.2]))]) (va_A [(h0, .inr (7, [.ref sY, .ref sF, .ref sP, .int pn, .int lt, .int sh, .int wd, .int pu, .int mo]))] sz)) 0 0 (va_A [(h0, .inr (7, [.ref sY, .ref sF, .ref sP, .int pn, .int lt, .int sh, .int wd, .int pu, .int mo]))] sz) := by
  refine Met.ofW (cc := cX7_passMonth) (maxL := 1) (ret := none) (by decide) rfl ?_
  intro p e s m args below meth c s₁ B hml hv
  obtain ⟨hargs, hsz, hP, hK, hT⟩ := hv
  have hx := B.exec
  have hb := B.bytes
  have hr := B.returns
  have hts : ∀ w ∈ wA, w.before args s = true := fun w h => atoms_spec (ws := .code yX7_passMonth cX7_passMonth 1 none :: wA) B.pre w (List.mem_cons_of_mem _ h)
  have hown : s.vm.findClass RX7 = some m.cls := findClass_of_methodNamed B.named
  have hlocks := B.notSynchronized
  subst hsz
  have hD := hT.self (sz := s.heap.size)
  generalize hAe : va_A [(h0, .inr (7, [.ref sY, .ref sF, .ref sP, .int pn, .int lt, .int sh, .int wd, .int pu, .int mo]))] s.heap.size = A at hD ⊢
  have hA : ∀ q : Nat, s.heap.size ≤ q → A q := fun q h => by rw [← hAe]; exact Or.inr h
  have hl := lv_entry ([.ref h0]) (n := 1) (Nat.le_of_ble_eq_true rfl)
  rw [show entryFrame m args 1 = entryFrame m ([.ref h0] : List Value).toArray 1 by rw [hargs], lg_entry_eq]
  generalize (lg_sl ([.ref h0]) ++ List.replicate (1 - (lg_sl ([.ref h0])).length) Slot.unset).toArray = ls at hl ⊢
  have hl : lv_has ls 1 [(0, .ref h0)] := hl
  refine zstart (fun H hH => ?_)
  rw [← hH] at hP
  have hS : va_S A s.heap H [] := by rw [hH]; exact va_S.rf
  generalize ([] : List Loc) = locs at hS ⊢
  refine zgen (fun R Q hR hQ => ?_)
  refine lv_aload_n hx hb dX7_passMonth_0 rfl (lv_at hl 0 rfl) ?_
  refine lv_dup hx hb dX7_passMonth_1 rfl ?_
  refine va_get (D := (dC, dI)) (ci := 7) (v := .int mo) (C := RX7) (T := TX7) (N := 9) hx hb hts iX7 hown hK hP 0 rfl rfl 8 (by decide) (hts _ qw240) (fun _ h9 => h9) rfl dX7_passMonth_2 ?_
  refine lv_iconst (v := 1) hx hb dX7_passMonth_5 (by decide) ?_
  refine lv_iadd hx hb dX7_passMonth_6 ?_
  refine lv_topi (fun v6 e6 => ?_)
  refine va_put (D := (dC, dI)) (ci := 7) (v := .int v6) (ty := .int) (C := RX7) (T := TX7) (N := 9) hx hb hts iX7 tyX7 tyX7_ok nmX7 hown hK hP hD hS 0 rfl rfl 8 (by decide) (hts _ qw240) (fun _ h9 => h9) rfl (by decide +kernel) rfl rfl (Nat.le_of_ble_eq_true rfl) dX7_passMonth_7 (fun H locs hP9 hD9 hS9 => ?_)
  clear hP hD hS
  obtain ⟨hP, hD⟩ := zst (wX := [(h0, .inr (7, [.ref sY, .ref sF, .ref sP, .int pn, .int lt, .int sh, .int wd, .int pu, .int v6]))]) hP9 hD9 rfl
  have hS := hS9
  clear hP9 hD9 hS9
  refine lv_aload_n hx hb dX7_passMonth_10 rfl (lv_at hl 0 rfl) ?_
  refine lv_sipush (v := 999) hx hb dX7_passMonth_11 (by decide) ?_
  refine lv_aload_n hx hb dX7_passMonth_14 rfl (lv_at hl 0 rfl) ?_
  refine va_get (D := (dC, dI)) (ci := 7) (v := .int pu) (C := RX7) (T := TX7) (N := 9) hx hb hts iX7 hown hK hP 0 rfl rfl 7 (by decide) (hts _ qw238) (fun _ h9 => h9) rfl dX7_passMonth_15 ?_
  refine lv_iconst (v := 1) hx hb dX7_passMonth_18 (by decide) ?_
  refine lv_iadd hx hb dX7_passMonth_19 ?_
  refine lv_topi (fun v19 e19 => ?_)
  refine va_mmin hx hb (by rw [hml]; exact hl.1.symm) hown (hts _ qw767) (hts _ qw569) (hts _ qw112) (hts _ qw570) (by rw [hR]; exact Nat.le_of_ble_eq_true rfl) (by rw [hR]; exact Nat.le_of_ble_eq_true rfl) (Nat.zero_le _) (Nat.zero_le _) dX7_passMonth_20 ?_
  refine lv_topi (fun v20 e20 => ?_)
  have zc20_0 : (999 : Int32).toInt = 999 := by decide
  have i20 := zmmin e20
  refine va_put (D := (dC, dI)) (ci := 7) (v := .int v20) (ty := .int) (C := RX7) (T := TX7) (N := 9) hx hb hts iX7 tyX7 tyX7_ok nmX7 hown hK hP hD hS 0 rfl rfl 7 (by decide) (hts _ qw238) (fun _ h9 => h9) rfl (by decide +kernel) rfl rfl (Nat.le_of_ble_eq_true rfl) dX7_passMonth_23 (fun H locs hP9 hD9 hS9 => ?_)
  clear hP hD hS
  obtain ⟨hP, hD⟩ := zst (wX := [(h0, .inr (7, [.ref sY, .ref sF, .ref sP, .int pn, .int lt, .int sh, .int wd, .int v20, .int v6]))]) hP9 hD9 rfl
  have hS := hS9
  clear hP9 hD9 hS9
  rw [hQ]
  exact W.vret hx hb hr (fun t ht hW => ⟨⟨(v20, v6), rfl, ⟨by (try dsimp only); omega, by (try dsimp only); exact ⟨show v20 = sMin 999 (pu + 1) by unfold sMin; rw [e20, e19], e6⟩⟩, ⟨by rw [ht]; exact hP, hD⟩⟩, hS.F ht⟩) hS.2.2 dX7_passMonth_26
set_option maxHeartbeats 4000000 in
set_option maxRecDepth 100000 in
theorem g_X3_begin (l : Launch) (dC : Nat → ClassId) (dI : Nat → Nat → Nat) (cI cJ : ClassId) (h0 : Nat) (p0 : Int64) (x0 : Int64) (sz : Nat)     : Met l yX3_begin (.code yX3_begin cX3_begin 3 none :: wA) ({ frames := 0, cells := 0, slots := 0, locals := 0 }) (zP (dC, dI) [(cI, .int), (cJ, .long)] [.ref h0, .long p0] sz [(h0, .inr (3, [.long x0]))]) (va_Qv (fun (u : Unit) => True) (fun (u : Unit) (t : State) => va_P (dC, dI) vwCl [(h0, .inr (3, [.long p0]))] t.heap ∧ va_D (va_A [(h0, .inr (3, [.long x0]))] sz) [(h0, .inr (3, [.long p0]))]) (va_A [(h0, .inr (3, [.long x0]))] sz)) 0 0 (va_A [(h0, .inr (3, [.long x0]))] sz) := by
  refine Met.ofW (cc := cX3_begin) (maxL := 3) (ret := none) (by decide) rfl ?_
  intro p e s m args below meth c s₁ B hml hv
  obtain ⟨hargs, hsz, hP, hK, hT⟩ := hv
  have hx := B.exec
  have hb := B.bytes
  have hr := B.returns
  have hts : ∀ w ∈ wA, w.before args s = true := fun w h => atoms_spec (ws := .code yX3_begin cX3_begin 3 none :: wA) B.pre w (List.mem_cons_of_mem _ h)
  have hown : s.vm.findClass RX3 = some m.cls := findClass_of_methodNamed B.named
  have hlocks := B.notSynchronized
  subst hsz
  have hD := hT.self (sz := s.heap.size)
  generalize hAe : va_A [(h0, .inr (3, [.long x0]))] s.heap.size = A at hD ⊢
  have hA : ∀ q : Nat, s.heap.size ≤ q → A q := fun q h => by rw [← hAe]; exact Or.inr h
  have hl := lv_entry ([.ref h0, .long p0]) (n := 3) (Nat.le_of_ble_eq_true rfl)
  rw [show entryFrame m args 3 = entryFrame m ([.ref h0, .long p0] : List Value).toArray 3 by rw [hargs], lg_entry_eq]
  generalize (lg_sl ([.ref h0, .long p0]) ++ List.replicate (3 - (lg_sl ([.ref h0, .long p0])).length) Slot.unset).toArray = ls at hl ⊢
  have hl : lv_has ls 3 [(0, .ref h0), (1, .long p0)] := hl
  refine zstart (fun H hH => ?_)
  rw [← hH] at hP
  have hS : va_S A s.heap H [] := by rw [hH]; exact va_S.rf
  generalize ([] : List Loc) = locs at hS ⊢
  refine zgen (fun R Q hR hQ => ?_)
  refine lv_aload_n hx hb dX3_begin_0 rfl (lv_at hl 0 rfl) ?_
  refine lv_lload_n hx hb dX3_begin_1 rfl (lv_at hl 1 rfl) ?_
  refine va_put (D := (dC, dI)) (ci := 3) (v := .long p0) (ty := .long) (C := RX3) (T := TX3) (N := 1) hx hb hts iX3 tyX3 tyX3_ok nmX3 hown hK hP hD hS 0 rfl rfl 0 (by decide) (hts _ qw352) (fun _ h9 => h9) rfl (by decide +kernel) rfl rfl (Nat.le_of_ble_eq_true rfl) dX3_begin_2 (fun H locs hP9 hD9 hS9 => ?_)
  clear hP hD hS
  obtain ⟨hP, hD⟩ := zst (wX := [(h0, .inr (3, [.long p0]))]) hP9 hD9 rfl
  have hS := hS9
  clear hP9 hD9 hS9
  rw [hQ]
  exact W.vret hx hb hr (fun t ht hW => ⟨⟨(), rfl, trivial, ⟨by rw [ht]; exact hP, hD⟩⟩, hS.F ht⟩) hS.2.2 dX3_begin_5
set_option maxHeartbeats 4000000 in
set_option maxRecDepth 100000 in
theorem g_X0_forget (l : Launch) (dC : Nat → ClassId) (dI : Nat → Nat → Nat) (cI cJ : ClassId) (h0 : Nat) (h0_rows : Value) (h0_place : Value) (cn : Int32) (sz : Nat)     : Met l yX0_forget (.code yX0_forget cX0_forget 1 none :: wA) ({ frames := 0, cells := 0, slots := 0, locals := 0 }) (zP (dC, dI) [(cI, .int), (cJ, .long)] [.ref h0] sz [(h0, .inr (0, [h0_rows, h0_place, .int cn]))]) (va_Qv (fun (u : Unit) => True) (fun (u : Unit) (t : State) => va_P (dC, dI) vwCl [(h0, .inr (0, [h0_rows, h0_place, .int 0]))] t.heap ∧ va_D (va_A [(h0, .inr (0, [h0_rows, h0_place, .int cn]))] sz) [(h0, .inr (0, [h0_rows, h0_place, .int 0]))]) (va_A [(h0, .inr (0, [h0_rows, h0_place, .int cn]))] sz)) 0 0 (va_A [(h0, .inr (0, [h0_rows, h0_place, .int cn]))] sz) := by
  refine Met.ofW (cc := cX0_forget) (maxL := 1) (ret := none) (by decide) rfl ?_
  intro p e s m args below meth c s₁ B hml hv
  obtain ⟨hargs, hsz, hP, hK, hT⟩ := hv
  have hx := B.exec
  have hb := B.bytes
  have hr := B.returns
  have hts : ∀ w ∈ wA, w.before args s = true := fun w h => atoms_spec (ws := .code yX0_forget cX0_forget 1 none :: wA) B.pre w (List.mem_cons_of_mem _ h)
  have hown : s.vm.findClass RX0 = some m.cls := findClass_of_methodNamed B.named
  have hlocks := B.notSynchronized
  subst hsz
  have hD := hT.self (sz := s.heap.size)
  generalize hAe : va_A [(h0, .inr (0, [h0_rows, h0_place, .int cn]))] s.heap.size = A at hD ⊢
  have hA : ∀ q : Nat, s.heap.size ≤ q → A q := fun q h => by rw [← hAe]; exact Or.inr h
  have hl := lv_entry ([.ref h0]) (n := 1) (Nat.le_of_ble_eq_true rfl)
  rw [show entryFrame m args 1 = entryFrame m ([.ref h0] : List Value).toArray 1 by rw [hargs], lg_entry_eq]
  generalize (lg_sl ([.ref h0]) ++ List.replicate (1 - (lg_sl ([.ref h0])).length) Slot.unset).toArray = ls at hl ⊢
  have hl : lv_has ls 1 [(0, .ref h0)] := hl
  refine zstart (fun H hH => ?_)
  rw [← hH] at hP
  have hS : va_S A s.heap H [] := by rw [hH]; exact va_S.rf
  generalize ([] : List Loc) = locs at hS ⊢
  refine zgen (fun R Q hR hQ => ?_)
  refine lv_aload_n hx hb dX0_forget_0 rfl (lv_at hl 0 rfl) ?_
  refine lv_iconst (v := 0) hx hb dX0_forget_1 (by decide) ?_
  refine va_put (D := (dC, dI)) (ci := 0) (v := .int 0) (ty := .int) (C := RX0) (T := TX0) (N := 3) hx hb hts iX0 tyX0 tyX0_ok nmX0 hown hK hP hD hS 0 rfl rfl 2 (by decide) (hts _ qw270) (fun _ h9 => h9) rfl (by decide +kernel) rfl rfl (Nat.le_of_ble_eq_true rfl) dX0_forget_2 (fun H locs hP9 hD9 hS9 => ?_)
  clear hP hD hS
  obtain ⟨hP, hD⟩ := zst (wX := [(h0, .inr (0, [h0_rows, h0_place, .int 0]))]) hP9 hD9 rfl
  have hS := hS9
  clear hP9 hD9 hS9
  rw [hQ]
  exact W.vret hx hb hr (fun t ht hW => ⟨⟨(), rfl, trivial, ⟨by rw [ht]; exact hP, hD⟩⟩, hS.F ht⟩) hS.2.2 dX0_forget_5
set_option maxHeartbeats 4000000 in
set_option maxRecDepth 100000 in
theorem g_X10_isFace (l : Launch) (dC : Nat → ClassId) (dI : Nat → Nat → Nat) (cI cJ : ClassId) (p0 : Int32) (sz : Nat)     : Met l yX10_isFace (.code yX10_isFace cX10_isFace 1 (some .boolean) :: wA) ({ frames := 0, cells := 0, slots := 0, locals := 0 }) (zP (dC, dI) [(cI, .int), (cJ, .long)] [.int p0] sz []) (va_Qi (fun (r : Int32) (u : Unit) => (0 ≤ r.toInt) ∧ (r.toInt ≤ 1) ∧ (¬ r.toInt = 0 → (0 ≤ p0.toInt ∧ p0.toInt ≤ 9)) ∧ (r.toInt = 0 → ¬ (0 ≤ p0.toInt ∧ p0.toInt ≤ 9))) (fun (_ : Unit) (_ : State) => True) (va_A [] sz)) 0 0 (va_A [] sz) := by
  refine Met.ofW (cc := cX10_isFace) (maxL := 1) (ret := (some .boolean)) (by decide) rfl ?_
  intro p e s m args below meth c s₁ B hml hv
  obtain ⟨hargs, hsz, hP, hK, hT⟩ := hv
  have hx := B.exec
  have hb := B.bytes
  have hr := B.returns
  have hts : ∀ w ∈ wA, w.before args s = true := fun w h => atoms_spec (ws := .code yX10_isFace cX10_isFace 1 (some .boolean) :: wA) B.pre w (List.mem_cons_of_mem _ h)
  have hown : s.vm.findClass RX10 = some m.cls := findClass_of_methodNamed B.named
  have hlocks := B.notSynchronized
  subst hsz
  have hD : va_D (va_A [] s.heap.size) [] := zD0
  generalize hAe : va_A [] s.heap.size = A at hD ⊢
  have hA : ∀ q : Nat, s.heap.size ≤ q → A q := fun q h => by rw [← hAe]; exact Or.inr h
  have hl := lv_entry ([.int p0]) (n := 1) (Nat.le_of_ble_eq_true rfl)
  rw [show entryFrame m args 1 = entryFrame m ([.int p0] : List Value).toArray 1 by rw [hargs], lg_entry_eq]
  generalize (lg_sl ([.int p0]) ++ List.replicate (1 - (lg_sl ([.int p0])).length) Slot.unset).toArray = ls at hl ⊢
  have hl : lv_has ls 1 [(0, .int p0)] := hl
  refine zstart (fun H hH => ?_)
  rw [← hH] at hP
  have hS : va_S A s.heap H [] := by rw [hH]; exact va_S.rf
  generalize ([] : List Loc) = locs at hS ⊢
  refine zgen (fun R Q hR hQ => ?_)
  refine lv_iload_n hx hb dX10_isFace_0 rfl (lv_at hl 0 rfl) ?_
  refine lv_if_lt (tgt := 14) hx hb dX10_isFace_1 (by decide) (fun c1 => ?_) (fun c1 => ?_)
  · have c1 : p0.toInt < 0 := z1 rfl (by decide) c1
    refine lv_iconst (v := 0) hx hb dX10_isFace_14 (by decide) ?_
    have zr0 : (0 : Int32).toInt = 0 := by decide
    rw [hQ]
    exact W.zret (v := 0) (ty := .boolean) hx hb hr rfl (fun t ht hW => ⟨⟨0, (), rfl, ⟨by (try dsimp only); omega, by (try dsimp only); omega, by (try dsimp only); omega, by (try dsimp only); omega⟩, trivial⟩, hS.F ht⟩) hS.2.2 dX10_isFace_15
  · have c1 : 0 ≤ p0.toInt := z2 rfl (by decide) c1
    refine lv_iload_n hx hb dX10_isFace_4 rfl (lv_at hl 0 rfl) ?_
    refine lv_bipush (v := 10) hx hb dX10_isFace_5 (by decide) ?_
    refine lv_icmp_ge (tgt := 14) hx hb dX10_isFace_7 (by decide) (fun c7 => ?_) (fun c7 => ?_)
    · have c7 : 10 ≤ p0.toInt := z3 (by decide) rfl c7
      refine lv_iconst (v := 0) hx hb dX10_isFace_14 (by decide) ?_
      have zr0 : (0 : Int32).toInt = 0 := by decide
      rw [hQ]
      exact W.zret (v := 0) (ty := .boolean) hx hb hr rfl (fun t ht hW => ⟨⟨0, (), rfl, ⟨by (try dsimp only); omega, by (try dsimp only); omega, by (try dsimp only); omega, by (try dsimp only); omega⟩, trivial⟩, hS.F ht⟩) hS.2.2 dX10_isFace_15
    · have c7 : p0.toInt < 10 := z4 (by decide) rfl c7
      refine lv_iconst (v := 1) hx hb dX10_isFace_10 (by decide) ?_
      refine lv_goto (tgt := 15) hx hb dX10_isFace_11 (by decide) ?_
      have zr0 : (1 : Int32).toInt = 1 := by decide
      rw [hQ]
      exact W.zret (v := 1) (ty := .boolean) hx hb hr rfl (fun t ht hW => ⟨⟨1, (), rfl, ⟨by (try dsimp only); omega, by (try dsimp only); omega, by (try dsimp only); omega, by (try dsimp only); omega⟩, trivial⟩, hS.F ht⟩) hS.2.2 dX10_isFace_15
set_option maxHeartbeats 4000000 in
set_option maxRecDepth 100000 in
theorem g_X10_isDigit (l : Launch) (dC : Nat → ClassId) (dI : Nat → Nat → Nat) (cI cJ : ClassId) (p0 : Int32) (sz : Nat)     : Met l yX10_isDigit (.code yX10_isDigit cX10_isDigit 1 (some .boolean) :: wA) ({ frames := 0, cells := 0, slots := 0, locals := 0 }) (zP (dC, dI) [(cI, .int), (cJ, .long)] [.int p0] sz []) (va_Qi (fun (r : Int32) (u : Unit) => (0 ≤ r.toInt) ∧ (r.toInt ≤ 1) ∧ (¬ r.toInt = 0 → (0 ≤ p0.toInt ∧ p0.toInt ≤ 9)) ∧ (r.toInt = 0 → ¬ (0 ≤ p0.toInt ∧ p0.toInt ≤ 9))) (fun (_ : Unit) (_ : State) => True) (va_A [] sz)) 0 0 (va_A [] sz) := by
  refine Met.ofW (cc := cX10_isDigit) (maxL := 1) (ret := (some .boolean)) (by decide) rfl ?_
  intro p e s m args below meth c s₁ B hml hv
  obtain ⟨hargs, hsz, hP, hK, hT⟩ := hv
  have hx := B.exec
  have hb := B.bytes
  have hr := B.returns
  have hts : ∀ w ∈ wA, w.before args s = true := fun w h => atoms_spec (ws := .code yX10_isDigit cX10_isDigit 1 (some .boolean) :: wA) B.pre w (List.mem_cons_of_mem _ h)
  have hown : s.vm.findClass RX10 = some m.cls := findClass_of_methodNamed B.named
  have hlocks := B.notSynchronized
  subst hsz
  have hD : va_D (va_A [] s.heap.size) [] := zD0
  generalize hAe : va_A [] s.heap.size = A at hD ⊢
  have hA : ∀ q : Nat, s.heap.size ≤ q → A q := fun q h => by rw [← hAe]; exact Or.inr h
  have hl := lv_entry ([.int p0]) (n := 1) (Nat.le_of_ble_eq_true rfl)
  rw [show entryFrame m args 1 = entryFrame m ([.int p0] : List Value).toArray 1 by rw [hargs], lg_entry_eq]
  generalize (lg_sl ([.int p0]) ++ List.replicate (1 - (lg_sl ([.int p0])).length) Slot.unset).toArray = ls at hl ⊢
  have hl : lv_has ls 1 [(0, .int p0)] := hl
  refine zstart (fun H hH => ?_)
  rw [← hH] at hP
  have hS : va_S A s.heap H [] := by rw [hH]; exact va_S.rf
  generalize ([] : List Loc) = locs at hS ⊢
  refine zgen (fun R Q hR hQ => ?_)
  refine lv_iload_n hx hb dX10_isDigit_0 rfl (lv_at hl 0 rfl) ?_
  refine lv_if_lt (tgt := 14) hx hb dX10_isDigit_1 (by decide) (fun c1 => ?_) (fun c1 => ?_)
  · have c1 : p0.toInt < 0 := z1 rfl (by decide) c1
    refine lv_iconst (v := 0) hx hb dX10_isDigit_14 (by decide) ?_
    have zr0 : (0 : Int32).toInt = 0 := by decide
    rw [hQ]
    exact W.zret (v := 0) (ty := .boolean) hx hb hr rfl (fun t ht hW => ⟨⟨0, (), rfl, ⟨by (try dsimp only); omega, by (try dsimp only); omega, by (try dsimp only); omega, by (try dsimp only); omega⟩, trivial⟩, hS.F ht⟩) hS.2.2 dX10_isDigit_15
  · have c1 : 0 ≤ p0.toInt := z2 rfl (by decide) c1
    refine lv_iload_n hx hb dX10_isDigit_4 rfl (lv_at hl 0 rfl) ?_
    refine lv_bipush (v := 9) hx hb dX10_isDigit_5 (by decide) ?_
    refine lv_icmp_gt (tgt := 14) hx hb dX10_isDigit_7 (by decide) (fun c7 => ?_) (fun c7 => ?_)
    · have c7 : 9 < p0.toInt := z1 (by decide) rfl c7
      refine lv_iconst (v := 0) hx hb dX10_isDigit_14 (by decide) ?_
      have zr0 : (0 : Int32).toInt = 0 := by decide
      rw [hQ]
      exact W.zret (v := 0) (ty := .boolean) hx hb hr rfl (fun t ht hW => ⟨⟨0, (), rfl, ⟨by (try dsimp only); omega, by (try dsimp only); omega, by (try dsimp only); omega, by (try dsimp only); omega⟩, trivial⟩, hS.F ht⟩) hS.2.2 dX10_isDigit_15
    · have c7 : p0.toInt ≤ 9 := z2 (by decide) rfl c7
      refine lv_iconst (v := 1) hx hb dX10_isDigit_10 (by decide) ?_
      refine lv_goto (tgt := 15) hx hb dX10_isDigit_11 (by decide) ?_
      have zr0 : (1 : Int32).toInt = 1 := by decide
      rw [hQ]
      exact W.zret (v := 1) (ty := .boolean) hx hb hr rfl (fun t ht hW => ⟨⟨1, (), rfl, ⟨by (try dsimp only); omega, by (try dsimp only); omega, by (try dsimp only); omega, by (try dsimp only); omega⟩, trivial⟩, hS.F ht⟩) hS.2.2 dX10_isDigit_15
set_option maxHeartbeats 4000000 in
set_option maxRecDepth 100000 in
theorem g_X10_bit (l : Launch) (dC : Nat → ClassId) (dI : Nat → Nat → Nat) (cI cJ : ClassId) (p0 : Int32) (p1 : Int32) (sz : Nat)     : Met l yX10_bit (.code yX10_bit cX10_bit 2 (some .int) :: wA) ({ frames := 0, cells := 0, slots := 0, locals := 0 }) (zP (dC, dI) [(cI, .int), (cJ, .long)] [.int p0, .int p1] sz []) (va_Qi (fun (r : Int32) (u : Unit) => (0 ≤ r.toInt) ∧ (r.toInt ≤ 1) ∧ (r = cBt p0 p1)) (fun (_ : Unit) (_ : State) => True) (va_A [] sz)) 0 0 (va_A [] sz) := by
  refine Met.ofW (cc := cX10_bit) (maxL := 2) (ret := (some .int)) (by decide) rfl ?_
  intro p e s m args below meth c s₁ B hml hv
  obtain ⟨hargs, hsz, hP, hK, hT⟩ := hv
  have hx := B.exec
  have hb := B.bytes
  have hr := B.returns
  have hts : ∀ w ∈ wA, w.before args s = true := fun w h => atoms_spec (ws := .code yX10_bit cX10_bit 2 (some .int) :: wA) B.pre w (List.mem_cons_of_mem _ h)
  have hown : s.vm.findClass RX10 = some m.cls := findClass_of_methodNamed B.named
  have hlocks := B.notSynchronized
  subst hsz
  have hD : va_D (va_A [] s.heap.size) [] := zD0
  generalize hAe : va_A [] s.heap.size = A at hD ⊢
  have hA : ∀ q : Nat, s.heap.size ≤ q → A q := fun q h => by rw [← hAe]; exact Or.inr h
  have hl := lv_entry ([.int p0, .int p1]) (n := 2) (Nat.le_of_ble_eq_true rfl)
  rw [show entryFrame m args 2 = entryFrame m ([.int p0, .int p1] : List Value).toArray 2 by rw [hargs], lg_entry_eq]
  generalize (lg_sl ([.int p0, .int p1]) ++ List.replicate (2 - (lg_sl ([.int p0, .int p1])).length) Slot.unset).toArray = ls at hl ⊢
  have hl : lv_has ls 2 [(0, .int p0), (1, .int p1)] := hl
  refine zstart (fun H hH => ?_)
  rw [← hH] at hP
  have hS : va_S A s.heap H [] := by rw [hH]; exact va_S.rf
  generalize ([] : List Loc) = locs at hS ⊢
  refine zgen (fun R Q hR hQ => ?_)
  refine lv_iload_n hx hb dX10_bit_0 rfl (lv_at hl 0 rfl) ?_
  refine lv_iload_n hx hb dX10_bit_1 rfl (lv_at hl 1 rfl) ?_
  refine lv_ishr hx hb dX10_bit_2 ?_
  refine lv_topi (fun v2 e2 => ?_)
  refine lv_iconst (v := 1) hx hb dX10_bit_3 (by decide) ?_
  refine lv_iand hx hb dX10_bit_4 ?_
  refine lv_topi (fun v4 e4 => ?_)
  have i4 : 0 ≤ v4.toInt ∧ v4.toInt ≤ 1 := zandr e4 (by decide) (by decide)
  rw [hQ]
  exact W.iret (v := v4) hx hb hr (fun t ht hW => ⟨⟨v4, (), rfl, ⟨by (try dsimp only); omega, by (try dsimp only); omega, by unfold cBt; rw [e4, e2]⟩, trivial⟩, hS.F ht⟩) hS.2.2 dX10_bit_5
set_option maxHeartbeats 4000000 in
set_option maxRecDepth 100000 in
theorem g_X10_gain (l : Launch) (dC : Nat → ClassId) (dI : Nat → Nat → Nat) (cI cJ : ClassId) (p0 : Int32) (p1 : Int32) (p2 : Int32) (sz : Nat)     : Met l yX10_gain (.code yX10_gain cX10_gain 4 (some .int) :: wA) ({ frames := 0, cells := 0, slots := 0, locals := 0 }) (zP (dC, dI) [(cI, .int), (cJ, .long)] [.int p0, .int p1, .int p2] sz []) (va_Qi (fun (r : Int32) (u : Unit) => (r = sGn p0 p1 p2)) (fun (_ : Unit) (_ : State) => True) (va_A [] sz)) 0 0 (va_A [] sz) := by
  refine Met.ofW (cc := cX10_gain) (maxL := 4) (ret := (some .int)) (by decide) rfl ?_
  intro p e s m args below meth c s₁ B hml hv
  obtain ⟨hargs, hsz, hP, hK, hT⟩ := hv
  have hx := B.exec
  have hb := B.bytes
  have hr := B.returns
  have hts : ∀ w ∈ wA, w.before args s = true := fun w h => atoms_spec (ws := .code yX10_gain cX10_gain 4 (some .int) :: wA) B.pre w (List.mem_cons_of_mem _ h)
  have hown : s.vm.findClass RX10 = some m.cls := findClass_of_methodNamed B.named
  have hlocks := B.notSynchronized
  subst hsz
  have hD : va_D (va_A [] s.heap.size) [] := zD0
  generalize hAe : va_A [] s.heap.size = A at hD ⊢
  have hA : ∀ q : Nat, s.heap.size ≤ q → A q := fun q h => by rw [← hAe]; exact Or.inr h
  have hl := lv_entry ([.int p0, .int p1, .int p2]) (n := 4) (Nat.le_of_ble_eq_true rfl)
  rw [show entryFrame m args 4 = entryFrame m ([.int p0, .int p1, .int p2] : List Value).toArray 4 by rw [hargs], lg_entry_eq]
  generalize (lg_sl ([.int p0, .int p1, .int p2]) ++ List.replicate (4 - (lg_sl ([.int p0, .int p1, .int p2])).length) Slot.unset).toArray = ls at hl ⊢
  have hl : lv_has ls 4 [(0, .int p0), (1, .int p1), (2, .int p2)] := hl
  refine zstart (fun H hH => ?_)
  rw [← hH] at hP
  have hS : va_S A s.heap H [] := by rw [hH]; exact va_S.rf
  generalize ([] : List Loc) = locs at hS ⊢
  refine zgen (fun R Q hR hQ => ?_)
  refine lv_iload_n hx hb dX10_gain_0 rfl (lv_at hl 0 rfl) ?_
  refine lv_iload_n hx hb dX10_gain_1 rfl (lv_at hl 1 rfl) ?_
  refine lv_icmp_le (tgt := 10) hx hb dX10_gain_2 (by decide) (fun c2 => ?_) (fun c2 => ?_)
  · have c2 : p0.toInt ≤ p1.toInt := z3 rfl rfl c2
    refine lv_iload_n hx hb dX10_gain_10 rfl (lv_at hl 0 rfl) ?_
    refine lv_iload_n hx hb dX10_gain_11 rfl (lv_at hl 1 rfl) ?_
    refine lv_icmp_ne (tgt := 19) hx hb dX10_gain_12 (by decide) (fun c12 => ?_) (fun c12 => ?_)
    · have c12 : ¬ p0.toInt = p1.toInt := z6 rfl rfl c12
      refine lv_iconst (v := 0) hx hb dX10_gain_19 (by decide) ?_
      refine lv_istore_n (lv' := [(3, .int 0), (0, .int p0), (1, .int p1), (2, .int p2)]) hx hb dX10_gain_20 rfl hl (by decide) rfl (fun ls hl => ?_)
      refine lv_iload_n hx hb dX10_gain_21 rfl (lv_at hl 0 rfl) ?_
      refine lv_iload_n hx hb dX10_gain_22 rfl (lv_at hl 3 rfl) ?_
      refine lv_iconst (v := 2) hx hb dX10_gain_23 (by decide) ?_
      refine lv_idiv hx hb dX10_gain_24 (by decide) ?_
      refine lv_topi (fun v24 e24 => ?_)
      refine lv_isub hx hb dX10_gain_25 ?_
      refine lv_topi (fun v25 e25 => ?_)
      rw [hQ]
      exact W.iret (v := v25) hx hb hr (fun t ht hW => ⟨⟨v25, (), rfl, (by unfold sGn; rw [if_neg (by omega), if_neg (by omega), e25, e24]), trivial⟩, hS.F ht⟩) hS.2.2 dX10_gain_26
    · have c12 : p0.toInt = p1.toInt := z5 rfl rfl c12
      refine lv_iconst (v := 3) hx hb dX10_gain_15 (by decide) ?_
      refine lv_goto (tgt := 20) hx hb dX10_gain_16 (by decide) ?_
      refine lv_istore_n (lv' := [(3, .int 3), (0, .int p0), (1, .int p1), (2, .int p2)]) hx hb dX10_gain_20 rfl hl (by decide) rfl (fun ls hl => ?_)
      refine lv_iload_n hx hb dX10_gain_21 rfl (lv_at hl 0 rfl) ?_
      refine lv_iload_n hx hb dX10_gain_22 rfl (lv_at hl 3 rfl) ?_
      refine lv_iconst (v := 2) hx hb dX10_gain_23 (by decide) ?_
      refine lv_idiv hx hb dX10_gain_24 (by decide) ?_
      refine lv_topi (fun v24 e24 => ?_)
      refine lv_isub hx hb dX10_gain_25 ?_
      refine lv_topi (fun v25 e25 => ?_)
      rw [hQ]
      exact W.iret (v := v25) hx hb hr (fun t ht hW => ⟨⟨v25, (), rfl, (by unfold sGn; rw [if_neg (by omega), if_pos (by omega), e25, e24]), trivial⟩, hS.F ht⟩) hS.2.2 dX10_gain_26
  · have c2 : p1.toInt < p0.toInt := z4 rfl rfl c2
    refine lv_bipush (v := 6) hx hb dX10_gain_5 (by decide) ?_
    refine lv_goto (tgt := 20) hx hb dX10_gain_7 (by decide) ?_
    refine lv_istore_n (lv' := [(3, .int 6), (0, .int p0), (1, .int p1), (2, .int p2)]) hx hb dX10_gain_20 rfl hl (by decide) rfl (fun ls hl => ?_)
    refine lv_iload_n hx hb dX10_gain_21 rfl (lv_at hl 0 rfl) ?_
    refine lv_iload_n hx hb dX10_gain_22 rfl (lv_at hl 3 rfl) ?_
    refine lv_iconst (v := 2) hx hb dX10_gain_23 (by decide) ?_
    refine lv_idiv hx hb dX10_gain_24 (by decide) ?_
    refine lv_topi (fun v24 e24 => ?_)
    refine lv_isub hx hb dX10_gain_25 ?_
    refine lv_topi (fun v25 e25 => ?_)
    rw [hQ]
    exact W.iret (v := v25) hx hb hr (fun t ht hW => ⟨⟨v25, (), rfl, (by unfold sGn; rw [if_pos (by omega), e25, e24]), trivial⟩, hS.F ht⟩) hS.2.2 dX10_gain_26
set_option maxHeartbeats 4000000 in
set_option maxRecDepth 100000 in
theorem g_X10_hasCourt (l : Launch) (dC : Nat → ClassId) (dI : Nat → Nat → Nat) (cI cJ : ClassId) (h0 : Nat) (h0_tape : Value) (h0_courtReader : Value) (h0_lawReader : Value) (h0_draft : Value) (aC : Nat) (h0_laws : Value) (h0_state : Value) (h0_kept : Value) (h0_acts : Value) (h0_studio : Value) (h0_mind : Value) (h0_draws : Value) (h0_refused : Value) (h0_lawCount : Value) (h0_lawThatHolds : Value) (h0_bribery : Value) (h0_hasImage : Value) (aR : Nat) (aB : Nat) (aP : Nat) (nb : Int32) (np : Int32) (sz : Nat)     : Met l yX10_hasCourt (.code yX10_hasCourt cX10_hasCourt 1 (some .boolean) :: wA) ({ frames := 0, cells := 0, slots := 0, locals := 0 }) (zP (dC, dI) [(cI, .int), (cJ, .long)] [.ref h0] sz [(h0, .inr (10, [h0_tape, h0_courtReader, h0_lawReader, h0_draft, .ref aC, h0_laws, h0_state, h0_kept, h0_acts, h0_studio, h0_mind, h0_draws, h0_refused, h0_lawCount, h0_lawThatHolds, h0_bribery, h0_hasImage])), (aC, .inr (1, [.ref aR, .ref aB, .ref aP, .int nb, .int np]))]) (va_Qi (fun (r : Int32) (u : Unit) => (0 ≤ r.toInt) ∧ (r.toInt ≤ 1) ∧ (¬ r.toInt = 0 → 0 < nb.toInt) ∧ (r.toInt = 0 → nb.toInt ≤ 0)) (fun (_ : Unit) (_ : State) => True) (va_A [] sz)) 0 0 (va_A [] sz) := by
  refine Met.ofW (cc := cX10_hasCourt) (maxL := 1) (ret := (some .boolean)) (by decide) rfl ?_
  intro p e s m args below meth c s₁ B hml hv
  obtain ⟨hargs, hsz, hP, hK, hT⟩ := hv
  have hx := B.exec
  have hb := B.bytes
  have hr := B.returns
  have hts : ∀ w ∈ wA, w.before args s = true := fun w h => atoms_spec (ws := .code yX10_hasCourt cX10_hasCourt 1 (some .boolean) :: wA) B.pre w (List.mem_cons_of_mem _ h)
  have hown : s.vm.findClass RX10 = some m.cls := findClass_of_methodNamed B.named
  have hlocks := B.notSynchronized
  subst hsz
  have hD : va_D (va_A [] s.heap.size) [] := zD0
  generalize hAe : va_A [] s.heap.size = A at hD ⊢
  have hA : ∀ q : Nat, s.heap.size ≤ q → A q := fun q h => by rw [← hAe]; exact Or.inr h
  have hl := lv_entry ([.ref h0]) (n := 1) (Nat.le_of_ble_eq_true rfl)
  rw [show entryFrame m args 1 = entryFrame m ([.ref h0] : List Value).toArray 1 by rw [hargs], lg_entry_eq]
  generalize (lg_sl ([.ref h0]) ++ List.replicate (1 - (lg_sl ([.ref h0])).length) Slot.unset).toArray = ls at hl ⊢
  have hl : lv_has ls 1 [(0, .ref h0)] := hl
  refine zstart (fun H hH => ?_)
  rw [← hH] at hP
  have hS : va_S A s.heap H [] := by rw [hH]; exact va_S.rf
  generalize ([] : List Loc) = locs at hS ⊢
  refine zgen (fun R Q hR hQ => ?_)
  refine lv_aload_n hx hb dX10_hasCourt_0 rfl (lv_at hl 0 rfl) ?_
  refine va_get (D := (dC, dI)) (ci := 10) (v := .ref aC) (C := RX10) (T := TX10) (N := 17) hx hb hts iX10 hown hK hP 0 rfl rfl 4 (by decide) (hts _ qw360) (fun _ h9 => h9) rfl dX10_hasCourt_1 ?_
  refine va_get (D := (dC, dI)) (ci := 1) (v := .int nb) (C := RX1) (T := TX1) (N := 5) hx hb hts iX1 hown hK hP 1 rfl rfl 3 (by decide) (hts _ qw195) (fun _ h9 => h9) rfl dX10_hasCourt_4 ?_
  refine lv_if_le (tgt := 14) hx hb dX10_hasCourt_7 (by decide) (fun c7 => ?_) (fun c7 => ?_)
  · have c7 : nb.toInt ≤ 0 := z3 rfl (by decide) c7
    refine lv_iconst (v := 0) hx hb dX10_hasCourt_14 (by decide) ?_
    have zr0 : (0 : Int32).toInt = 0 := by decide
    rw [hQ]
    exact W.zret (v := 0) (ty := .boolean) hx hb hr rfl (fun t ht hW => ⟨⟨0, (), rfl, ⟨by (try dsimp only); omega, by (try dsimp only); omega, by (try dsimp only); omega, by (try dsimp only); omega⟩, trivial⟩, hS.F ht⟩) hS.2.2 dX10_hasCourt_15
  · have c7 : 0 < nb.toInt := z4 rfl (by decide) c7
    refine lv_iconst (v := 1) hx hb dX10_hasCourt_10 (by decide) ?_
    refine lv_goto (tgt := 15) hx hb dX10_hasCourt_11 (by decide) ?_
    have zr0 : (1 : Int32).toInt = 1 := by decide
    rw [hQ]
    exact W.zret (v := 1) (ty := .boolean) hx hb hr rfl (fun t ht hW => ⟨⟨1, (), rfl, ⟨by (try dsimp only); omega, by (try dsimp only); omega, by (try dsimp only); omega, by (try dsimp only); omega⟩, trivial⟩, hS.F ht⟩) hS.2.2 dX10_hasCourt_15
set_option maxHeartbeats 4000000 in
set_option maxRecDepth 100000 in
theorem g_X10_isBride (l : Launch) (dC : Nat → ClassId) (dI : Nat → Nat → Nat) (cI cJ : ClassId) (h0 : Nat) (p0 : Int32) (h0_tape : Value) (h0_courtReader : Value) (h0_lawReader : Value) (h0_draft : Value) (aC : Nat) (h0_laws : Value) (h0_state : Value) (h0_kept : Value) (h0_acts : Value) (h0_studio : Value) (h0_mind : Value) (h0_draws : Value) (h0_refused : Value) (h0_lawCount : Value) (h0_lawThatHolds : Value) (h0_bribery : Value) (h0_hasImage : Value) (aR : Nat) (aB : Nat) (aP : Nat) (nb : Int32) (np : Int32) (sz : Nat) (n_nb : 0 ≤ nb.toInt ∧ nb.toInt ≤ 6)    : Met l yX10_isBride (.code yX10_isBride cX10_isBride 2 (some .boolean) :: wA) ({ frames := 0, cells := 0, slots := 0, locals := 0 }) (zP (dC, dI) [(cI, .int), (cJ, .long)] [.ref h0, .int p0] sz [(h0, .inr (10, [h0_tape, h0_courtReader, h0_lawReader, h0_draft, .ref aC, h0_laws, h0_state, h0_kept, h0_acts, h0_studio, h0_mind, h0_draws, h0_refused, h0_lawCount, h0_lawThatHolds, h0_bribery, h0_hasImage])), (aC, .inr (1, [.ref aR, .ref aB, .ref aP, .int nb, .int np]))]) (va_Qi (fun (r : Int32) (u : Unit) => (0 ≤ r.toInt) ∧ (r.toInt ≤ 1) ∧ (¬ r.toInt = 0 → (0 ≤ p0.toInt ∧ p0.toInt < nb.toInt)) ∧ (r.toInt = 0 → ¬ (0 ≤ p0.toInt ∧ p0.toInt < nb.toInt))) (fun (_ : Unit) (_ : State) => True) (va_A [] sz)) 0 0 (va_A [] sz) := by
  refine Met.ofW (cc := cX10_isBride) (maxL := 2) (ret := (some .boolean)) (by decide) rfl ?_
  intro p e s m args below meth c s₁ B hml hv
  obtain ⟨hargs, hsz, hP, hK, hT⟩ := hv
  have hx := B.exec
  have hb := B.bytes
  have hr := B.returns
  have hts : ∀ w ∈ wA, w.before args s = true := fun w h => atoms_spec (ws := .code yX10_isBride cX10_isBride 2 (some .boolean) :: wA) B.pre w (List.mem_cons_of_mem _ h)
  have hown : s.vm.findClass RX10 = some m.cls := findClass_of_methodNamed B.named
  have hlocks := B.notSynchronized
  subst hsz
  have hD : va_D (va_A [] s.heap.size) [] := zD0
  generalize hAe : va_A [] s.heap.size = A at hD ⊢
  have hA : ∀ q : Nat, s.heap.size ≤ q → A q := fun q h => by rw [← hAe]; exact Or.inr h
  have hl := lv_entry ([.ref h0, .int p0]) (n := 2) (Nat.le_of_ble_eq_true rfl)
  rw [show entryFrame m args 2 = entryFrame m ([.ref h0, .int p0] : List Value).toArray 2 by rw [hargs], lg_entry_eq]
  generalize (lg_sl ([.ref h0, .int p0]) ++ List.replicate (2 - (lg_sl ([.ref h0, .int p0])).length) Slot.unset).toArray = ls at hl ⊢
  have hl : lv_has ls 2 [(0, .ref h0), (1, .int p0)] := hl
  refine zstart (fun H hH => ?_)
  rw [← hH] at hP
  have hS : va_S A s.heap H [] := by rw [hH]; exact va_S.rf
  generalize ([] : List Loc) = locs at hS ⊢
  refine zgen (fun R Q hR hQ => ?_)
  refine lv_iload_n hx hb dX10_isBride_0 rfl (lv_at hl 1 rfl) ?_
  refine lv_if_lt (tgt := 19) hx hb dX10_isBride_1 (by decide) (fun c1 => ?_) (fun c1 => ?_)
  · have c1 : p0.toInt < 0 := z1 rfl (by decide) c1
    refine lv_iconst (v := 0) hx hb dX10_isBride_19 (by decide) ?_
    have zr0 : (0 : Int32).toInt = 0 := by decide
    rw [hQ]
    exact W.zret (v := 0) (ty := .boolean) hx hb hr rfl (fun t ht hW => ⟨⟨0, (), rfl, ⟨by (try dsimp only); omega, by (try dsimp only); omega, by (try dsimp only); omega, by (try dsimp only); omega⟩, trivial⟩, hS.F ht⟩) hS.2.2 dX10_isBride_20
  · have c1 : 0 ≤ p0.toInt := z2 rfl (by decide) c1
    refine lv_iload_n hx hb dX10_isBride_4 rfl (lv_at hl 1 rfl) ?_
    refine lv_aload_n hx hb dX10_isBride_5 rfl (lv_at hl 0 rfl) ?_
    refine va_get (D := (dC, dI)) (ci := 10) (v := .ref aC) (C := RX10) (T := TX10) (N := 17) hx hb hts iX10 hown hK hP 0 rfl rfl 4 (by decide) (hts _ qw360) (fun _ h9 => h9) rfl dX10_isBride_6 ?_
    refine va_get (D := (dC, dI)) (ci := 1) (v := .int nb) (C := RX1) (T := TX1) (N := 5) hx hb hts iX1 hown hK hP 1 rfl rfl 3 (by decide) (hts _ qw195) (fun _ h9 => h9) rfl dX10_isBride_9 ?_
    refine lv_icmp_ge (tgt := 19) hx hb dX10_isBride_12 (by decide) (fun c12 => ?_) (fun c12 => ?_)
    · have c12 : nb.toInt ≤ p0.toInt := z3 rfl rfl c12
      refine lv_iconst (v := 0) hx hb dX10_isBride_19 (by decide) ?_
      have zr0 : (0 : Int32).toInt = 0 := by decide
      rw [hQ]
      exact W.zret (v := 0) (ty := .boolean) hx hb hr rfl (fun t ht hW => ⟨⟨0, (), rfl, ⟨by (try dsimp only); omega, by (try dsimp only); omega, by (try dsimp only); omega, by (try dsimp only); omega⟩, trivial⟩, hS.F ht⟩) hS.2.2 dX10_isBride_20
    · have c12 : p0.toInt < nb.toInt := z4 rfl rfl c12
      refine lv_iconst (v := 1) hx hb dX10_isBride_15 (by decide) ?_
      refine lv_goto (tgt := 20) hx hb dX10_isBride_16 (by decide) ?_
      have zr0 : (1 : Int32).toInt = 1 := by decide
      rw [hQ]
      exact W.zret (v := 1) (ty := .boolean) hx hb hr rfl (fun t ht hW => ⟨⟨1, (), rfl, ⟨by (try dsimp only); omega, by (try dsimp only); omega, by (try dsimp only); omega, by (try dsimp only); omega⟩, trivial⟩, hS.F ht⟩) hS.2.2 dX10_isBride_20
set_option maxHeartbeats 4000000 in
set_option maxRecDepth 100000 in
theorem g_X10_isPainter (l : Launch) (dC : Nat → ClassId) (dI : Nat → Nat → Nat) (cI cJ : ClassId) (h0 : Nat) (p0 : Int32) (h0_tape : Value) (h0_courtReader : Value) (h0_lawReader : Value) (h0_draft : Value) (aC : Nat) (h0_laws : Value) (h0_state : Value) (h0_kept : Value) (h0_acts : Value) (h0_studio : Value) (h0_mind : Value) (h0_draws : Value) (h0_refused : Value) (h0_lawCount : Value) (h0_lawThatHolds : Value) (h0_bribery : Value) (h0_hasImage : Value) (aR : Nat) (aB : Nat) (aP : Nat) (nb : Int32) (np : Int32) (sz : Nat) (n_np : 0 ≤ np.toInt ∧ np.toInt ≤ 5)    : Met l yX10_isPainter (.code yX10_isPainter cX10_isPainter 2 (some .boolean) :: wA) ({ frames := 0, cells := 0, slots := 0, locals := 0 }) (zP (dC, dI) [(cI, .int), (cJ, .long)] [.ref h0, .int p0] sz [(h0, .inr (10, [h0_tape, h0_courtReader, h0_lawReader, h0_draft, .ref aC, h0_laws, h0_state, h0_kept, h0_acts, h0_studio, h0_mind, h0_draws, h0_refused, h0_lawCount, h0_lawThatHolds, h0_bribery, h0_hasImage])), (aC, .inr (1, [.ref aR, .ref aB, .ref aP, .int nb, .int np]))]) (va_Qi (fun (r : Int32) (u : Unit) => (0 ≤ r.toInt) ∧ (r.toInt ≤ 1) ∧ (¬ r.toInt = 0 → (0 ≤ p0.toInt ∧ p0.toInt < np.toInt)) ∧ (r.toInt = 0 → ¬ (0 ≤ p0.toInt ∧ p0.toInt < np.toInt))) (fun (_ : Unit) (_ : State) => True) (va_A [] sz)) 0 0 (va_A [] sz) := by
  refine Met.ofW (cc := cX10_isPainter) (maxL := 2) (ret := (some .boolean)) (by decide) rfl ?_
  intro p e s m args below meth c s₁ B hml hv
  obtain ⟨hargs, hsz, hP, hK, hT⟩ := hv
  have hx := B.exec
  have hb := B.bytes
  have hr := B.returns
  have hts : ∀ w ∈ wA, w.before args s = true := fun w h => atoms_spec (ws := .code yX10_isPainter cX10_isPainter 2 (some .boolean) :: wA) B.pre w (List.mem_cons_of_mem _ h)
  have hown : s.vm.findClass RX10 = some m.cls := findClass_of_methodNamed B.named
  have hlocks := B.notSynchronized
  subst hsz
  have hD : va_D (va_A [] s.heap.size) [] := zD0
  generalize hAe : va_A [] s.heap.size = A at hD ⊢
  have hA : ∀ q : Nat, s.heap.size ≤ q → A q := fun q h => by rw [← hAe]; exact Or.inr h
  have hl := lv_entry ([.ref h0, .int p0]) (n := 2) (Nat.le_of_ble_eq_true rfl)
  rw [show entryFrame m args 2 = entryFrame m ([.ref h0, .int p0] : List Value).toArray 2 by rw [hargs], lg_entry_eq]
  generalize (lg_sl ([.ref h0, .int p0]) ++ List.replicate (2 - (lg_sl ([.ref h0, .int p0])).length) Slot.unset).toArray = ls at hl ⊢
  have hl : lv_has ls 2 [(0, .ref h0), (1, .int p0)] := hl
  refine zstart (fun H hH => ?_)
  rw [← hH] at hP
  have hS : va_S A s.heap H [] := by rw [hH]; exact va_S.rf
  generalize ([] : List Loc) = locs at hS ⊢
  refine zgen (fun R Q hR hQ => ?_)
  refine lv_iload_n hx hb dX10_isPainter_0 rfl (lv_at hl 1 rfl) ?_
  refine lv_if_lt (tgt := 19) hx hb dX10_isPainter_1 (by decide) (fun c1 => ?_) (fun c1 => ?_)
  · have c1 : p0.toInt < 0 := z1 rfl (by decide) c1
    refine lv_iconst (v := 0) hx hb dX10_isPainter_19 (by decide) ?_
    have zr0 : (0 : Int32).toInt = 0 := by decide
    rw [hQ]
    exact W.zret (v := 0) (ty := .boolean) hx hb hr rfl (fun t ht hW => ⟨⟨0, (), rfl, ⟨by (try dsimp only); omega, by (try dsimp only); omega, by (try dsimp only); omega, by (try dsimp only); omega⟩, trivial⟩, hS.F ht⟩) hS.2.2 dX10_isPainter_20
  · have c1 : 0 ≤ p0.toInt := z2 rfl (by decide) c1
    refine lv_iload_n hx hb dX10_isPainter_4 rfl (lv_at hl 1 rfl) ?_
    refine lv_aload_n hx hb dX10_isPainter_5 rfl (lv_at hl 0 rfl) ?_
    refine va_get (D := (dC, dI)) (ci := 10) (v := .ref aC) (C := RX10) (T := TX10) (N := 17) hx hb hts iX10 hown hK hP 0 rfl rfl 4 (by decide) (hts _ qw360) (fun _ h9 => h9) rfl dX10_isPainter_6 ?_
    refine va_get (D := (dC, dI)) (ci := 1) (v := .int np) (C := RX1) (T := TX1) (N := 5) hx hb hts iX1 hown hK hP 1 rfl rfl 4 (by decide) (hts _ qw200) (fun _ h9 => h9) rfl dX10_isPainter_9 ?_
    refine lv_icmp_ge (tgt := 19) hx hb dX10_isPainter_12 (by decide) (fun c12 => ?_) (fun c12 => ?_)
    · have c12 : np.toInt ≤ p0.toInt := z3 rfl rfl c12
      refine lv_iconst (v := 0) hx hb dX10_isPainter_19 (by decide) ?_
      have zr0 : (0 : Int32).toInt = 0 := by decide
      rw [hQ]
      exact W.zret (v := 0) (ty := .boolean) hx hb hr rfl (fun t ht hW => ⟨⟨0, (), rfl, ⟨by (try dsimp only); omega, by (try dsimp only); omega, by (try dsimp only); omega, by (try dsimp only); omega⟩, trivial⟩, hS.F ht⟩) hS.2.2 dX10_isPainter_20
    · have c12 : p0.toInt < np.toInt := z4 rfl rfl c12
      refine lv_iconst (v := 1) hx hb dX10_isPainter_15 (by decide) ?_
      refine lv_goto (tgt := 20) hx hb dX10_isPainter_16 (by decide) ?_
      have zr0 : (1 : Int32).toInt = 1 := by decide
      rw [hQ]
      exact W.zret (v := 1) (ty := .boolean) hx hb hr rfl (fun t ht hW => ⟨⟨1, (), rfl, ⟨by (try dsimp only); omega, by (try dsimp only); omega, by (try dsimp only); omega, by (try dsimp only); omega⟩, trivial⟩, hS.F ht⟩) hS.2.2 dX10_isPainter_20
