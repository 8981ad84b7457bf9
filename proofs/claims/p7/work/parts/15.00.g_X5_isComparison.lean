set_option maxHeartbeats 4000000 in
set_option maxRecDepth 100000 in
theorem g_X5_put_1 (l : Launch) (dC : Nat → ClassId) (dI : Nat → Nat → Nat) (cI cJ : ClassId) (h0 : Nat) (p1 : Int32) (lS : Nat) (sz5 : Int32) (tp : Nat) (fS : Nat → Int32) (sz : Nat) (n_sz5 : 0 ≤ sz5.toInt ∧ sz5.toInt ≤ 241)  (ci_fS_zSt : zSt fS)  : Met l yX5_put (.code yX5_put cX5_put 3 none :: wA) ({ frames := 0, cells := 0, slots := 0, locals := 0 }) (zP (dC, dI) [(cI, .int), (cJ, .long)] [.ref h0, .int 1, .int p1] sz [(h0, .inr (5, [.ref lS, .int sz5, .ref tp])), (lS, .inl (cI, 241, .inl fS))]) (va_Qv (fun (u : Int32 × (Nat → Int32)) => (1 ≤ u.1.toInt) ∧ (u.1.toInt ≤ 241) ∧ (u.1.toInt ≤ sz5.toInt + 1 ∧ sz5.toInt ≤ u.1.toInt) ∧ (sz5.toInt < 241 → zEm fS sz5 [((1 : Int32).toInt, p1.toInt)] u.2 u.1) ∧ (zSt u.2)) (fun (u : Int32 × (Nat → Int32)) (t : State) => va_P (dC, dI) vwCl [(h0, .inr (5, [.ref lS, .int u.1, .ref tp])), (lS, .inl (cI, 241, .inl u.2))] t.heap ∧ va_D (va_A [(h0, .inr (5, [.ref lS, .int sz5, .ref tp])), (lS, .inl (cI, 241, .inl fS))] sz) [(h0, .inr (5, [.ref lS, .int u.1, .ref tp])), (lS, .inl (cI, 241, .inl u.2))]) (va_A [(h0, .inr (5, [.ref lS, .int sz5, .ref tp])), (lS, .inl (cI, 241, .inl fS))] sz)) 0 0 (va_A [(h0, .inr (5, [.ref lS, .int sz5, .ref tp])), (lS, .inl (cI, 241, .inl fS))] sz) := by
  refine Met.ofW (cc := cX5_put) (maxL := 3) (ret := none) (by decide) rfl ?_
  intro p e s m args below meth c s₁ B hml hv
  obtain ⟨hargs, hsz, hP, hK, hT⟩ := hv
  have hx := B.exec
  have hb := B.bytes
  have hr := B.returns
  have hts : ∀ w ∈ wA, w.before args s = true := fun w h => atoms_spec (ws := .code yX5_put cX5_put 3 none :: wA) B.pre w (List.mem_cons_of_mem _ h)
  have hown : s.vm.findClass RX5 = some m.cls := findClass_of_methodNamed B.named
  have hlocks := B.notSynchronized
  subst hsz
  have hD := hT.self (sz := s.heap.size)
  generalize hAe : va_A [(h0, .inr (5, [.ref lS, .int sz5, .ref tp])), (lS, .inl (cI, 241, .inl fS))] s.heap.size = A at hD ⊢
  have hA : ∀ q : Nat, s.heap.size ≤ q → A q := fun q h => by rw [← hAe]; exact Or.inr h
  have hl := lv_entry ([.ref h0, .int 1, .int p1]) (n := 3) (Nat.le_of_ble_eq_true rfl)
  rw [show entryFrame m args 3 = entryFrame m ([.ref h0, .int 1, .int p1] : List Value).toArray 3 by rw [hargs], lg_entry_eq]
  generalize (lg_sl ([.ref h0, .int 1, .int p1]) ++ List.replicate (3 - (lg_sl ([.ref h0, .int 1, .int p1])).length) Slot.unset).toArray = ls at hl ⊢
  have hl : lv_has ls 3 [(0, .ref h0), (1, .int 1), (2, .int p1)] := hl
  refine zstart (fun H hH => ?_)
  rw [← hH] at hP
  have hS : va_S A s.heap H [] := by rw [hH]; exact va_S.rf
  generalize ([] : List Loc) = locs at hS ⊢
  refine zgen (fun R Q hR hQ => ?_)
  refine lv_aload_n hx hb dX5_put_0 rfl (lv_at hl 0 rfl) ?_
  refine va_get (D := (dC, dI)) (ci := 5) (v := .int sz5) (C := RX5) (T := TX5) (N := 3) hx hb hts iX5 hown hK hP 0 rfl rfl 1 (by decide) (hts _ qw171) (fun _ h9 => h9) rfl dX5_put_1 ?_
  refine lv_aload_n hx hb dX5_put_4 rfl (lv_at hl 0 rfl) ?_
  refine va_get (D := (dC, dI)) (ci := 5) (v := .ref lS) (C := RX5) (T := TX5) (N := 3) hx hb hts iX5 hown hK hP 0 rfl rfl 0 (by decide) (hts _ qw170) (fun _ h9 => h9) rfl dX5_put_5 ?_
  refine va_alen (v := 241) hx hb hK hP 1 0 rfl rfl rfl dX5_put_8 ?_
  refine lv_icmp_ge (tgt := 37) hx hb dX5_put_9 (by decide) (fun c9 => ?_) (fun c9 => ?_)
  · have c9 : 241 ≤ sz5.toInt := z3 (by decide) rfl c9
    rw [hQ]
    exact W.vret hx hb hr (fun t ht hW => ⟨⟨(sz5, fS), rfl, ⟨by (try dsimp only); omega, by (try dsimp only); omega, by (try dsimp only); omega, fun z => absurd z (by omega), ci_fS_zSt⟩, ⟨by rw [ht]; exact hP, hD⟩⟩, hS.F ht⟩) hS.2.2 dX5_put_37
  · have c9 : sz5.toInt < 241 := z4 (by decide) rfl c9
    refine lv_aload_n hx hb dX5_put_12 rfl (lv_at hl 0 rfl) ?_
    refine va_get (D := (dC, dI)) (ci := 5) (v := .ref lS) (C := RX5) (T := TX5) (N := 3) hx hb hts iX5 hown hK hP 0 rfl rfl 0 (by decide) (hts _ qw170) (fun _ h9 => h9) rfl dX5_put_13 ?_
    refine lv_aload_n hx hb dX5_put_16 rfl (lv_at hl 0 rfl) ?_
    refine va_get (D := (dC, dI)) (ci := 5) (v := .int sz5) (C := RX5) (T := TX5) (N := 3) hx hb hts iX5 hown hK hP 0 rfl rfl 1 (by decide) (hts _ qw171) (fun _ h9 => h9) rfl dX5_put_17 ?_
    refine lv_iload_n hx hb dX5_put_20 rfl (lv_at hl 1 rfl) ?_
    refine lv_iload_n hx hb dX5_put_21 rfl (lv_at hl 2 rfl) ?_
    refine lv_bipush (v := 8) hx hb dX5_put_22 (by decide) ?_
    refine lv_ishl hx hb dX5_put_24 ?_
    refine lv_topi (fun v24 e24 => ?_)
    refine lv_ior hx hb dX5_put_25 ?_
    refine lv_topi (fun v25 e25 => ?_)
    refine va_iast hx hb hK hP hD hS 1 0 rfl rfl (vp_in_iff.mpr ⟨by omega, by omega⟩) dX5_put_26 (fun H locs hP hD hS => ?_)
    obtain ⟨v26_f, e26⟩ : ∃ g : Nat → Int32, g = upd fS (sz5).toNatClampNeg v25 := ⟨_, rfl⟩
    rw [← e26] at hP hD
    have hP : va_P (dC, dI) vwCl [(h0, .inr (5, [.ref lS, .int sz5, .ref tp])), (lS, .inl (cI, 241, .inl v26_f))] H := hP
    have hD : va_D A [(h0, .inr (5, [.ref lS, .int sz5, .ref tp])), (lS, .inl (cI, 241, .inl v26_f))] := hD
    have cq26_zSt : zSt v26_f := zSt_1 ci_fS_zSt e24 e25 e26
    refine lv_aload_n hx hb dX5_put_27 rfl (lv_at hl 0 rfl) ?_
    refine lv_dup hx hb dX5_put_28 rfl ?_
    refine va_get (D := (dC, dI)) (ci := 5) (v := .int sz5) (C := RX5) (T := TX5) (N := 3) hx hb hts iX5 hown hK hP 0 rfl rfl 1 (by decide) (hts _ qw171) (fun _ h9 => h9) rfl dX5_put_29 ?_
    refine lv_iconst (v := 1) hx hb dX5_put_32 (by decide) ?_
    refine lv_iadd hx hb dX5_put_33 ?_
    refine lv_topi (fun v33 e33 => ?_)
    have i33 : v33.toInt = sz5.toInt + 1 := zadd e33 rfl (by decide) (by omega) (by omega)
    refine va_put (D := (dC, dI)) (ci := 5) (v := .int v33) (ty := .int) (C := RX5) (T := TX5) (N := 3) hx hb hts iX5 tyX5 tyX5_ok nmX5 hown hK hP hD hS 0 rfl rfl 1 (by decide) (hts _ qw171) (fun _ h9 => h9) rfl (by decide +kernel) rfl rfl (Nat.le_of_ble_eq_true rfl) dX5_put_34 (fun H locs hP hD hS => ?_)
    have hP : va_P (dC, dI) vwCl [(h0, .inr (5, [.ref lS, .int v33, .ref tp])), (lS, .inl (cI, 241, .inl v26_f))] H := hP
    have hD : va_D A [(h0, .inr (5, [.ref lS, .int v33, .ref tp])), (lS, .inl (cI, 241, .inl v26_f))] := hD
    rw [hQ]
    exact W.vret hx hb hr (fun t ht hW => ⟨⟨(v33, v26_f), rfl, ⟨by (try dsimp only); omega, by (try dsimp only); omega, by (try dsimp only); omega, fun _ => zEm_v e26 e25 e24 i33 (by omega), cq26_zSt⟩, ⟨by rw [ht]; exact hP, hD⟩⟩, hS.F ht⟩) hS.2.2 dX5_put_37
set_option maxHeartbeats 4000000 in
set_option maxRecDepth 100000 in
theorem g_X5_put_2 (l : Launch) (dC : Nat → ClassId) (dI : Nat → Nat → Nat) (cI cJ : ClassId) (h0 : Nat) (p1 : Int32) (lS : Nat) (sz5 : Int32) (tp : Nat) (fS : Nat → Int32) (sz : Nat) (n_p1 : 0 ≤ p1.toInt ∧ p1.toInt ≤ 5) (n_sz5 : 0 ≤ sz5.toInt ∧ sz5.toInt ≤ 241)  (ci_fS_zSt : zSt fS)  : Met l yX5_put (.code yX5_put cX5_put 3 none :: wA) ({ frames := 0, cells := 0, slots := 0, locals := 0 }) (zP (dC, dI) [(cI, .int), (cJ, .long)] [.ref h0, .int 2, .int p1] sz [(h0, .inr (5, [.ref lS, .int sz5, .ref tp])), (lS, .inl (cI, 241, .inl fS))]) (va_Qv (fun (u : Int32 × (Nat → Int32)) => (1 ≤ u.1.toInt) ∧ (u.1.toInt ≤ 241) ∧ (u.1.toInt ≤ sz5.toInt + 1 ∧ sz5.toInt ≤ u.1.toInt) ∧ (sz5.toInt < 241 → zEm fS sz5 [((2 : Int32).toInt, p1.toInt)] u.2 u.1) ∧ (zSt u.2)) (fun (u : Int32 × (Nat → Int32)) (t : State) => va_P (dC, dI) vwCl [(h0, .inr (5, [.ref lS, .int u.1, .ref tp])), (lS, .inl (cI, 241, .inl u.2))] t.heap ∧ va_D (va_A [(h0, .inr (5, [.ref lS, .int sz5, .ref tp])), (lS, .inl (cI, 241, .inl fS))] sz) [(h0, .inr (5, [.ref lS, .int u.1, .ref tp])), (lS, .inl (cI, 241, .inl u.2))]) (va_A [(h0, .inr (5, [.ref lS, .int sz5, .ref tp])), (lS, .inl (cI, 241, .inl fS))] sz)) 0 0 (va_A [(h0, .inr (5, [.ref lS, .int sz5, .ref tp])), (lS, .inl (cI, 241, .inl fS))] sz) := by
  refine Met.ofW (cc := cX5_put) (maxL := 3) (ret := none) (by decide) rfl ?_
  intro p e s m args below meth c s₁ B hml hv
  obtain ⟨hargs, hsz, hP, hK, hT⟩ := hv
  have hx := B.exec
  have hb := B.bytes
  have hr := B.returns
  have hts : ∀ w ∈ wA, w.before args s = true := fun w h => atoms_spec (ws := .code yX5_put cX5_put 3 none :: wA) B.pre w (List.mem_cons_of_mem _ h)
  have hown : s.vm.findClass RX5 = some m.cls := findClass_of_methodNamed B.named
  have hlocks := B.notSynchronized
  subst hsz
  have hD := hT.self (sz := s.heap.size)
  generalize hAe : va_A [(h0, .inr (5, [.ref lS, .int sz5, .ref tp])), (lS, .inl (cI, 241, .inl fS))] s.heap.size = A at hD ⊢
  have hA : ∀ q : Nat, s.heap.size ≤ q → A q := fun q h => by rw [← hAe]; exact Or.inr h
  have hl := lv_entry ([.ref h0, .int 2, .int p1]) (n := 3) (Nat.le_of_ble_eq_true rfl)
  rw [show entryFrame m args 3 = entryFrame m ([.ref h0, .int 2, .int p1] : List Value).toArray 3 by rw [hargs], lg_entry_eq]
  generalize (lg_sl ([.ref h0, .int 2, .int p1]) ++ List.replicate (3 - (lg_sl ([.ref h0, .int 2, .int p1])).length) Slot.unset).toArray = ls at hl ⊢
  have hl : lv_has ls 3 [(0, .ref h0), (1, .int 2), (2, .int p1)] := hl
  refine zstart (fun H hH => ?_)
  rw [← hH] at hP
  have hS : va_S A s.heap H [] := by rw [hH]; exact va_S.rf
  generalize ([] : List Loc) = locs at hS ⊢
  refine zgen (fun R Q hR hQ => ?_)
  refine lv_aload_n hx hb dX5_put_0 rfl (lv_at hl 0 rfl) ?_
  refine va_get (D := (dC, dI)) (ci := 5) (v := .int sz5) (C := RX5) (T := TX5) (N := 3) hx hb hts iX5 hown hK hP 0 rfl rfl 1 (by decide) (hts _ qw171) (fun _ h9 => h9) rfl dX5_put_1 ?_
  refine lv_aload_n hx hb dX5_put_4 rfl (lv_at hl 0 rfl) ?_
  refine va_get (D := (dC, dI)) (ci := 5) (v := .ref lS) (C := RX5) (T := TX5) (N := 3) hx hb hts iX5 hown hK hP 0 rfl rfl 0 (by decide) (hts _ qw170) (fun _ h9 => h9) rfl dX5_put_5 ?_
  refine va_alen (v := 241) hx hb hK hP 1 0 rfl rfl rfl dX5_put_8 ?_
  refine lv_icmp_ge (tgt := 37) hx hb dX5_put_9 (by decide) (fun c9 => ?_) (fun c9 => ?_)
  · have c9 : 241 ≤ sz5.toInt := z3 (by decide) rfl c9
    rw [hQ]
    exact W.vret hx hb hr (fun t ht hW => ⟨⟨(sz5, fS), rfl, ⟨by (try dsimp only); omega, by (try dsimp only); omega, by (try dsimp only); omega, fun z => absurd z (by omega), ci_fS_zSt⟩, ⟨by rw [ht]; exact hP, hD⟩⟩, hS.F ht⟩) hS.2.2 dX5_put_37
  · have c9 : sz5.toInt < 241 := z4 (by decide) rfl c9
    refine lv_aload_n hx hb dX5_put_12 rfl (lv_at hl 0 rfl) ?_
    refine va_get (D := (dC, dI)) (ci := 5) (v := .ref lS) (C := RX5) (T := TX5) (N := 3) hx hb hts iX5 hown hK hP 0 rfl rfl 0 (by decide) (hts _ qw170) (fun _ h9 => h9) rfl dX5_put_13 ?_
    refine lv_aload_n hx hb dX5_put_16 rfl (lv_at hl 0 rfl) ?_
    refine va_get (D := (dC, dI)) (ci := 5) (v := .int sz5) (C := RX5) (T := TX5) (N := 3) hx hb hts iX5 hown hK hP 0 rfl rfl 1 (by decide) (hts _ qw171) (fun _ h9 => h9) rfl dX5_put_17 ?_
    refine lv_iload_n hx hb dX5_put_20 rfl (lv_at hl 1 rfl) ?_
    refine lv_iload_n hx hb dX5_put_21 rfl (lv_at hl 2 rfl) ?_
    refine lv_bipush (v := 8) hx hb dX5_put_22 (by decide) ?_
    refine lv_ishl hx hb dX5_put_24 ?_
    refine lv_topi (fun v24 e24 => ?_)
    refine lv_ior hx hb dX5_put_25 ?_
    refine lv_topi (fun v25 e25 => ?_)
    refine va_iast hx hb hK hP hD hS 1 0 rfl rfl (vp_in_iff.mpr ⟨by omega, by omega⟩) dX5_put_26 (fun H locs hP hD hS => ?_)
    obtain ⟨v26_f, e26⟩ : ∃ g : Nat → Int32, g = upd fS (sz5).toNatClampNeg v25 := ⟨_, rfl⟩
    rw [← e26] at hP hD
    have hP : va_P (dC, dI) vwCl [(h0, .inr (5, [.ref lS, .int sz5, .ref tp])), (lS, .inl (cI, 241, .inl v26_f))] H := hP
    have hD : va_D A [(h0, .inr (5, [.ref lS, .int sz5, .ref tp])), (lS, .inl (cI, 241, .inl v26_f))] := hD
    have cq26_zSt : zSt v26_f := zSt_2 ci_fS_zSt e24 e25 e26 (by omega) (by omega)
    refine lv_aload_n hx hb dX5_put_27 rfl (lv_at hl 0 rfl) ?_
    refine lv_dup hx hb dX5_put_28 rfl ?_
    refine va_get (D := (dC, dI)) (ci := 5) (v := .int sz5) (C := RX5) (T := TX5) (N := 3) hx hb hts iX5 hown hK hP 0 rfl rfl 1 (by decide) (hts _ qw171) (fun _ h9 => h9) rfl dX5_put_29 ?_
    refine lv_iconst (v := 1) hx hb dX5_put_32 (by decide) ?_
    refine lv_iadd hx hb dX5_put_33 ?_
    refine lv_topi (fun v33 e33 => ?_)
    have i33 : v33.toInt = sz5.toInt + 1 := zadd e33 rfl (by decide) (by omega) (by omega)
    refine va_put (D := (dC, dI)) (ci := 5) (v := .int v33) (ty := .int) (C := RX5) (T := TX5) (N := 3) hx hb hts iX5 tyX5 tyX5_ok nmX5 hown hK hP hD hS 0 rfl rfl 1 (by decide) (hts _ qw171) (fun _ h9 => h9) rfl (by decide +kernel) rfl rfl (Nat.le_of_ble_eq_true rfl) dX5_put_34 (fun H locs hP hD hS => ?_)
    have hP : va_P (dC, dI) vwCl [(h0, .inr (5, [.ref lS, .int v33, .ref tp])), (lS, .inl (cI, 241, .inl v26_f))] H := hP
    have hD : va_D A [(h0, .inr (5, [.ref lS, .int v33, .ref tp])), (lS, .inl (cI, 241, .inl v26_f))] := hD
    rw [hQ]
    exact W.vret hx hb hr (fun t ht hW => ⟨⟨(v33, v26_f), rfl, ⟨by (try dsimp only); omega, by (try dsimp only); omega, by (try dsimp only); omega, fun _ => zEm_v e26 e25 e24 i33 (by omega), cq26_zSt⟩, ⟨by rw [ht]; exact hP, hD⟩⟩, hS.F ht⟩) hS.2.2 dX5_put_37
set_option maxHeartbeats 4000000 in
set_option maxRecDepth 100000 in
theorem g_X5_put_0 (l : Launch) (dC : Nat → ClassId) (dI : Nat → Nat → Nat) (cI cJ : ClassId) (h0 : Nat) (p0 : Int32) (lS : Nat) (sz5 : Int32) (tp : Nat) (fS : Nat → Int32) (sz : Nat) (n_p0 : 0 ≤ p0.toInt ∧ p0.toInt ≤ 255) (n_sz5 : 0 ≤ sz5.toInt ∧ sz5.toInt ≤ 241)  (ci_fS_zSt : zSt fS)  : Met l yX5_put (.code yX5_put cX5_put 3 none :: wA) ({ frames := 0, cells := 0, slots := 0, locals := 0 }) (zP (dC, dI) [(cI, .int), (cJ, .long)] [.ref h0, .int p0, .int 0] sz [(h0, .inr (5, [.ref lS, .int sz5, .ref tp])), (lS, .inl (cI, 241, .inl fS))]) (va_Qv (fun (u : Int32 × (Nat → Int32)) => (1 ≤ u.1.toInt) ∧ (u.1.toInt ≤ 241) ∧ (u.1.toInt ≤ sz5.toInt + 1 ∧ sz5.toInt ≤ u.1.toInt) ∧ (sz5.toInt < 241 → zEm fS sz5 [(p0.toInt, 0)] u.2 u.1) ∧ (zSt u.2)) (fun (u : Int32 × (Nat → Int32)) (t : State) => va_P (dC, dI) vwCl [(h0, .inr (5, [.ref lS, .int u.1, .ref tp])), (lS, .inl (cI, 241, .inl u.2))] t.heap ∧ va_D (va_A [(h0, .inr (5, [.ref lS, .int sz5, .ref tp])), (lS, .inl (cI, 241, .inl fS))] sz) [(h0, .inr (5, [.ref lS, .int u.1, .ref tp])), (lS, .inl (cI, 241, .inl u.2))]) (va_A [(h0, .inr (5, [.ref lS, .int sz5, .ref tp])), (lS, .inl (cI, 241, .inl fS))] sz)) 0 0 (va_A [(h0, .inr (5, [.ref lS, .int sz5, .ref tp])), (lS, .inl (cI, 241, .inl fS))] sz) := by
  refine Met.ofW (cc := cX5_put) (maxL := 3) (ret := none) (by decide) rfl ?_
  intro p e s m args below meth c s₁ B hml hv
  obtain ⟨hargs, hsz, hP, hK, hT⟩ := hv
  have hx := B.exec
  have hb := B.bytes
  have hr := B.returns
  have hts : ∀ w ∈ wA, w.before args s = true := fun w h => atoms_spec (ws := .code yX5_put cX5_put 3 none :: wA) B.pre w (List.mem_cons_of_mem _ h)
  have hown : s.vm.findClass RX5 = some m.cls := findClass_of_methodNamed B.named
  have hlocks := B.notSynchronized
  subst hsz
  have hD := hT.self (sz := s.heap.size)
  generalize hAe : va_A [(h0, .inr (5, [.ref lS, .int sz5, .ref tp])), (lS, .inl (cI, 241, .inl fS))] s.heap.size = A at hD ⊢
  have hA : ∀ q : Nat, s.heap.size ≤ q → A q := fun q h => by rw [← hAe]; exact Or.inr h
  have hl := lv_entry ([.ref h0, .int p0, .int 0]) (n := 3) (Nat.le_of_ble_eq_true rfl)
  rw [show entryFrame m args 3 = entryFrame m ([.ref h0, .int p0, .int 0] : List Value).toArray 3 by rw [hargs], lg_entry_eq]
  generalize (lg_sl ([.ref h0, .int p0, .int 0]) ++ List.replicate (3 - (lg_sl ([.ref h0, .int p0, .int 0])).length) Slot.unset).toArray = ls at hl ⊢
  have hl : lv_has ls 3 [(0, .ref h0), (1, .int p0), (2, .int 0)] := hl
  refine zstart (fun H hH => ?_)
  rw [← hH] at hP
  have hS : va_S A s.heap H [] := by rw [hH]; exact va_S.rf
  generalize ([] : List Loc) = locs at hS ⊢
  refine zgen (fun R Q hR hQ => ?_)
  refine lv_aload_n hx hb dX5_put_0 rfl (lv_at hl 0 rfl) ?_
  refine va_get (D := (dC, dI)) (ci := 5) (v := .int sz5) (C := RX5) (T := TX5) (N := 3) hx hb hts iX5 hown hK hP 0 rfl rfl 1 (by decide) (hts _ qw171) (fun _ h9 => h9) rfl dX5_put_1 ?_
  refine lv_aload_n hx hb dX5_put_4 rfl (lv_at hl 0 rfl) ?_
  refine va_get (D := (dC, dI)) (ci := 5) (v := .ref lS) (C := RX5) (T := TX5) (N := 3) hx hb hts iX5 hown hK hP 0 rfl rfl 0 (by decide) (hts _ qw170) (fun _ h9 => h9) rfl dX5_put_5 ?_
  refine va_alen (v := 241) hx hb hK hP 1 0 rfl rfl rfl dX5_put_8 ?_
  refine lv_icmp_ge (tgt := 37) hx hb dX5_put_9 (by decide) (fun c9 => ?_) (fun c9 => ?_)
  · have c9 : 241 ≤ sz5.toInt := z3 (by decide) rfl c9
    rw [hQ]
    exact W.vret hx hb hr (fun t ht hW => ⟨⟨(sz5, fS), rfl, ⟨by (try dsimp only); omega, by (try dsimp only); omega, by (try dsimp only); omega, fun z => absurd z (by omega), ci_fS_zSt⟩, ⟨by rw [ht]; exact hP, hD⟩⟩, hS.F ht⟩) hS.2.2 dX5_put_37
  · have c9 : sz5.toInt < 241 := z4 (by decide) rfl c9
    refine lv_aload_n hx hb dX5_put_12 rfl (lv_at hl 0 rfl) ?_
    refine va_get (D := (dC, dI)) (ci := 5) (v := .ref lS) (C := RX5) (T := TX5) (N := 3) hx hb hts iX5 hown hK hP 0 rfl rfl 0 (by decide) (hts _ qw170) (fun _ h9 => h9) rfl dX5_put_13 ?_
    refine lv_aload_n hx hb dX5_put_16 rfl (lv_at hl 0 rfl) ?_
    refine va_get (D := (dC, dI)) (ci := 5) (v := .int sz5) (C := RX5) (T := TX5) (N := 3) hx hb hts iX5 hown hK hP 0 rfl rfl 1 (by decide) (hts _ qw171) (fun _ h9 => h9) rfl dX5_put_17 ?_
    refine lv_iload_n hx hb dX5_put_20 rfl (lv_at hl 1 rfl) ?_
    refine lv_iload_n hx hb dX5_put_21 rfl (lv_at hl 2 rfl) ?_
    refine lv_bipush (v := 8) hx hb dX5_put_22 (by decide) ?_
    refine lv_ishl hx hb dX5_put_24 ?_
    refine lv_topi (fun v24 e24 => ?_)
    obtain rfl : v24 = 0 := e24.trans (by decide)
    refine lv_ior hx hb dX5_put_25 ?_
    refine lv_topi (fun v25 e25 => ?_)
    refine va_iast hx hb hK hP hD hS 1 0 rfl rfl (vp_in_iff.mpr ⟨by omega, by omega⟩) dX5_put_26 (fun H locs hP hD hS => ?_)
    obtain ⟨v26_f, e26⟩ : ∃ g : Nat → Int32, g = upd fS (sz5).toNatClampNeg v25 := ⟨_, rfl⟩
    rw [← e26] at hP hD
    have hP : va_P (dC, dI) vwCl [(h0, .inr (5, [.ref lS, .int sz5, .ref tp])), (lS, .inl (cI, 241, .inl v26_f))] H := hP
    have hD : va_D A [(h0, .inr (5, [.ref lS, .int sz5, .ref tp])), (lS, .inl (cI, 241, .inl v26_f))] := hD
    have cq26_zSt : zSt v26_f := zSt_0 ci_fS_zSt e24 e25 e26 (by omega) (by omega)
    refine lv_aload_n hx hb dX5_put_27 rfl (lv_at hl 0 rfl) ?_
    refine lv_dup hx hb dX5_put_28 rfl ?_
    refine va_get (D := (dC, dI)) (ci := 5) (v := .int sz5) (C := RX5) (T := TX5) (N := 3) hx hb hts iX5 hown hK hP 0 rfl rfl 1 (by decide) (hts _ qw171) (fun _ h9 => h9) rfl dX5_put_29 ?_
    refine lv_iconst (v := 1) hx hb dX5_put_32 (by decide) ?_
    refine lv_iadd hx hb dX5_put_33 ?_
    refine lv_topi (fun v33 e33 => ?_)
    have i33 : v33.toInt = sz5.toInt + 1 := zadd e33 rfl (by decide) (by omega) (by omega)
    refine va_put (D := (dC, dI)) (ci := 5) (v := .int v33) (ty := .int) (C := RX5) (T := TX5) (N := 3) hx hb hts iX5 tyX5 tyX5_ok nmX5 hown hK hP hD hS 0 rfl rfl 1 (by decide) (hts _ qw171) (fun _ h9 => h9) rfl (by decide +kernel) rfl rfl (Nat.le_of_ble_eq_true rfl) dX5_put_34 (fun H locs hP hD hS => ?_)
    have hP : va_P (dC, dI) vwCl [(h0, .inr (5, [.ref lS, .int v33, .ref tp])), (lS, .inl (cI, 241, .inl v26_f))] H := hP
    have hD : va_D A [(h0, .inr (5, [.ref lS, .int v33, .ref tp])), (lS, .inl (cI, 241, .inl v26_f))] := hD
    rw [hQ]
    exact W.vret hx hb hr (fun t ht hW => ⟨⟨(v33, v26_f), rfl, ⟨by (try dsimp only); omega, by (try dsimp only); omega, by (try dsimp only); omega, fun _ => zEm_z e26 e25 i33 (by omega), cq26_zSt⟩, ⟨by rw [ht]; exact hP, hD⟩⟩, hS.F ht⟩) hS.2.2 dX5_put_37
set_option maxHeartbeats 4000000 in
set_option maxRecDepth 100000 in
theorem g_X5_isComparison (l : Launch) (dC : Nat → ClassId) (dI : Nat → Nat → Nat) (cI cJ : ClassId) (p0 : Int32) (sz : Nat)     : Met l yX5_isComparison (.code yX5_isComparison cX5_isComparison 1 (some .boolean) :: wA) ({ frames := 0, cells := 0, slots := 0, locals := 0 }) (zP (dC, dI) [(cI, .int), (cJ, .long)] [.int p0] sz []) (va_Qi (fun (r : Int32) (u : Unit) => (0 ≤ r.toInt) ∧ (r.toInt ≤ 1) ∧ (¬ r.toInt = 0 → (60 ≤ p0.toInt ∧ p0.toInt ≤ 62)) ∧ (zIs (oQ p0.toInt) r)) (fun (_ : Unit) (_ : State) => True) (va_A [] sz)) 0 0 (va_A [] sz) := by
  refine Met.ofW (cc := cX5_isComparison) (maxL := 1) (ret := (some .boolean)) (by decide) rfl ?_
  intro p e s m args below meth c s₁ B hml hv
  obtain ⟨hargs, hsz, hP, hK, hT⟩ := hv
  have hx := B.exec
  have hb := B.bytes
  have hr := B.returns
  have hts : ∀ w ∈ wA, w.before args s = true := fun w h => atoms_spec (ws := .code yX5_isComparison cX5_isComparison 1 (some .boolean) :: wA) B.pre w (List.mem_cons_of_mem _ h)
  have hown : s.vm.findClass RX5 = some m.cls := findClass_of_methodNamed B.named
  have hlocks := B.notSynchronized
  subst hsz
  have hD : va_D (va_A [] s.heap.size) [] := zD0
  generalize hAe : va_A [] s.heap.size = A at hD ⊢
  have hA : ∀ q : Nat, s.heap.size ≤ q → A q := fun q h => by rw [← hAe]; exact Or.inr h
  have hl := lv_entry ([.int p0]) (n := 1) (Nat.le_of_ble_eq_true rfl)
  rw [show entryFrame m args 1 = entryFrame m ([.int p0] : List Value).toArray 1 by rw [hargs], lg_entry_eq]
  generalize (lg_sl ([.int p0]) ++ List.replicate (1 - (lg_sl ([.int p0])).length) Slot.unset).toArray = ls at hl ⊢
  have hl : lv_has ls 1 [(0, .int p0)] := hl
  refine zstart (fun H hH => ?_)
  rw [← hH] at hP
  have hS : va_S A s.heap H [] := by rw [hH]; exact va_S.rf
  generalize ([] : List Loc) = locs at hS ⊢
  refine zgen (fun R Q hR hQ => ?_)
  refine lv_iload_n hx hb dX5_isComparison_0 rfl (lv_at hl 0 rfl) ?_
  refine lv_bipush (v := 61) hx hb dX5_isComparison_1 (by decide) ?_
  refine lv_icmp_eq (tgt := 18) hx hb dX5_isComparison_3 (by decide) (fun c3 => ?_) (fun c3 => ?_)
  · have c3 : p0.toInt = 61 := z5 rfl (by decide) c3
    refine lv_iconst (v := 1) hx hb dX5_isComparison_18 (by decide) ?_
    refine lv_goto (tgt := 23) hx hb dX5_isComparison_19 (by decide) ?_
    have zr0 : (1 : Int32).toInt = 1 := by decide
    rw [hQ]
    exact W.zret (v := 1) (ty := .boolean) hx hb hr rfl (fun t ht hW => ⟨⟨1, (), rfl, ⟨by (try dsimp only); omega, by (try dsimp only); omega, by (try dsimp only); omega, zIsT (oQ_iff.mpr (by omega))⟩, trivial⟩, hS.F ht⟩) hS.2.2 dX5_isComparison_23
  · have c3 : ¬ p0.toInt = 61 := z6 rfl (by decide) c3
    refine lv_iload_n hx hb dX5_isComparison_6 rfl (lv_at hl 0 rfl) ?_
    refine lv_bipush (v := 60) hx hb dX5_isComparison_7 (by decide) ?_
    refine lv_icmp_eq (tgt := 18) hx hb dX5_isComparison_9 (by decide) (fun c9 => ?_) (fun c9 => ?_)
    · have c9 : p0.toInt = 60 := z5 rfl (by decide) c9
      refine lv_iconst (v := 1) hx hb dX5_isComparison_18 (by decide) ?_
      refine lv_goto (tgt := 23) hx hb dX5_isComparison_19 (by decide) ?_
      have zr0 : (1 : Int32).toInt = 1 := by decide
      rw [hQ]
      exact W.zret (v := 1) (ty := .boolean) hx hb hr rfl (fun t ht hW => ⟨⟨1, (), rfl, ⟨by (try dsimp only); omega, by (try dsimp only); omega, by (try dsimp only); omega, zIsT (oQ_iff.mpr (by omega))⟩, trivial⟩, hS.F ht⟩) hS.2.2 dX5_isComparison_23
    · have c9 : ¬ p0.toInt = 60 := z6 rfl (by decide) c9
      refine lv_iload_n hx hb dX5_isComparison_12 rfl (lv_at hl 0 rfl) ?_
      refine lv_bipush (v := 62) hx hb dX5_isComparison_13 (by decide) ?_
      refine lv_icmp_ne (tgt := 22) hx hb dX5_isComparison_15 (by decide) (fun c15 => ?_) (fun c15 => ?_)
      · have c15 : ¬ p0.toInt = 62 := z6 rfl (by decide) c15
        refine lv_iconst (v := 0) hx hb dX5_isComparison_22 (by decide) ?_
        have zr0 : (0 : Int32).toInt = 0 := by decide
        rw [hQ]
        exact W.zret (v := 0) (ty := .boolean) hx hb hr rfl (fun t ht hW => ⟨⟨0, (), rfl, ⟨by (try dsimp only); omega, by (try dsimp only); omega, by (try dsimp only); omega, zIsN (fun q => by have := oQ_iff.mp q; omega)⟩, trivial⟩, hS.F ht⟩) hS.2.2 dX5_isComparison_23
      · have c15 : p0.toInt = 62 := z5 rfl (by decide) c15
        refine lv_iconst (v := 1) hx hb dX5_isComparison_18 (by decide) ?_
        refine lv_goto (tgt := 23) hx hb dX5_isComparison_19 (by decide) ?_
        have zr0 : (1 : Int32).toInt = 1 := by decide
        rw [hQ]
        exact W.zret (v := 1) (ty := .boolean) hx hb hr rfl (fun t ht hW => ⟨⟨1, (), rfl, ⟨by (try dsimp only); omega, by (try dsimp only); omega, by (try dsimp only); omega, zIsT (oQ_iff.mpr (by omega))⟩, trivial⟩, hS.F ht⟩) hS.2.2 dX5_isComparison_23
