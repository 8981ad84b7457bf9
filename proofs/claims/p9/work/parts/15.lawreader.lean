set_option maxHeartbeats 4000000 in
set_option maxRecDepth 100000 in
theorem g_X5_put_1 (l : Launch) (dC : Nat → ClassId) (dI : Nat → Nat → Nat) (cI cJ : ClassId) (h0 : Nat) (p1 : Int32) (lS : Nat) (sz5 : Int32) (tp : Nat) (fS : Nat → Int32) (sz : Nat) (n_sz5 : 0 ≤ sz5.toInt ∧ sz5.toInt ≤ 241)  (ci_fS_zSt : zSt fS)  : Met l yX5_put (.code yX5_put cX5_put 3 none :: wA) ({ frames := 0, cells := 0, slots := 0, locals := 0 }) (zP (dC, dI) [(cI, .int), (cJ, .long)] [.ref h0, .int 1, .int p1] sz [(h0, .inr (5, [.ref lS, .int sz5, .ref tp])), (lS, .inl (cI, 241, .inl fS))]) (va_Qv (fun (u : Int32 × (Nat → Int32)) => (1 ≤ u.1.toInt) ∧ (u.1.toInt ≤ 241) ∧ (u.1.toInt ≤ sz5.toInt + 1 ∧ sz5.toInt ≤ u.1.toInt) ∧ (sz5.toInt < 241 → zEm fS sz5 [((1 : Int32).toInt, p1.toInt)] u.2 u.1) ∧ (zSt u.2)) (fun (u : Int32 × (Nat → Int32)) (t : State) => va_P (dC, dI) vwCl [(h0, .inr (5, [.ref lS, .int u.1, .ref tp])), (lS, .inl (cI, 241, .inl u.2))] t.heap ∧ va_D (va_A [(h0, .inr (5, [.ref lS, .int sz5, .ref tp])), (lS, .inl (cI, 241, .inl fS))] sz) [(h0, .inr (5, [.ref lS, .int u.1, .ref tp])), (lS, .inl (cI, 241, .inl u.2))]) (va_A [(h0, .inr (5, [.ref lS, .int sz5, .ref tp])), (lS, .inl (cI, 241, .inl fS))] sz)) 0 0 (va_A [(h0, .inr (5, [.ref lS, .int sz5, .ref tp])), (lS, .inl (cI, 241, .inl fS))] sz) := by
  refine Met.ofW (cc := cX5_put) (maxL := 3) (ret := none) (by decide) rfl ?_
  intro p e s m args below meth c s₁ B hml hv
  obtain ⟨hargs, hsz, hP, hK, hT⟩ := hv
  have hx := B.exec
  have hb := B.bytes
  have hr := B.returns
  have hts : ∀ w ∈ wA, w.before args s = true := fun w h => atoms_spec (ws := .code yX5_put cX5_put 3 none :: wA) B.pre w (List.mem_cons_of_mem _ h)
  have hown : s.vm.findClass RX5 = some m.cls := findClass_of_methodNamed B.named
  have hlocks := B.notSynchronized
  subst hsz
  have hD := hT.self (sz := s.heap.size)
  generalize hAe : va_A [(h0, .inr (5, [.ref lS, .int sz5, .ref tp])), (lS, .inl (cI, 241, .inl fS))] s.heap.size = A at hD ⊢
  have hA : ∀ q : Nat, s.heap.size ≤ q → A q := fun q h => by rw [← hAe]; exact Or.inr h
  have hl := lv_entry ([.ref h0, .int 1, .int p1]) (n := 3) (Nat.le_of_ble_eq_true rfl)
  rw [show entryFrame m args 3 = entryFrame m ([.ref h0, .int 1, .int p1] : List Value).toArray 3 by rw [hargs], lg_entry_eq]
  generalize (lg_sl ([.ref h0, .int 1, .int p1]) ++ List.replicate (3 - (lg_sl ([.ref h0, .int 1, .int p1])).length) Slot.unset).toArray = ls at hl ⊢
  have hl : lv_has ls 3 [(0, .ref h0), (1, .int 1), (2, .int p1)] := hl
  refine zstart (fun H hH => ?_)
  rw [← hH] at hP
  have hS : va_S A s.heap H [] := by rw [hH]; exact va_S.rf
  generalize ([] : List Loc) = locs at hS ⊢
  refine zgen (fun R Q hR hQ => ?_)
  refine lv_aload_n hx hb dX5_put_0 rfl (lv_at hl 0 rfl) ?_
  refine va_get (D := (dC, dI)) (ci := 5) (v := .int sz5) (C := RX5) (T := TX5) (N := 3) hx hb hts iX5 hown hK hP 0 rfl rfl 1 (by decide) (hts _ qw171) (fun _ h9 => h9) rfl dX5_put_1 ?_
  refine lv_aload_n hx hb dX5_put_4 rfl (lv_at hl 0 rfl) ?_
  refine va_get (D := (dC, dI)) (ci := 5) (v := .ref lS) (C := RX5) (T := TX5) (N := 3) hx hb hts iX5 hown hK hP 0 rfl rfl 0 (by decide) (hts _ qw170) (fun _ h9 => h9) rfl dX5_put_5 ?_
  refine va_alen (v := 241) hx hb hK hP 1 0 rfl rfl rfl dX5_put_8 ?_
  refine lv_icmp_ge (tgt := 37) hx hb dX5_put_9 (by decide) (fun c9 => ?_) (fun c9 => ?_)
  · have c9 : 241 ≤ sz5.toInt := z3 (by decide) rfl c9
    rw [hQ]
    exact W.vret hx hb hr (fun t ht hW => ⟨⟨(sz5, fS), rfl, ⟨by (try dsimp only); omega, by (try dsimp only); omega, by (try dsimp only); omega, fun z => absurd z (by omega), ci_fS_zSt⟩, ⟨by rw [ht]; exact hP, hD⟩⟩, hS.F ht⟩) hS.2.2 dX5_put_37
  · have c9 : sz5.toInt < 241 := z4 (by decide) rfl c9
    refine lv_aload_n hx hb dX5_put_12 rfl (lv_at hl 0 rfl) ?_
    refine va_get (D := (dC, dI)) (ci := 5) (v := .ref lS) (C := RX5) (T := TX5) (N := 3) hx hb hts iX5 hown hK hP 0 rfl rfl 0 (by decide) (hts _ qw170) (fun _ h9 => h9) rfl dX5_put_13 ?_
    refine lv_aload_n hx hb dX5_put_16 rfl (lv_at hl 0 rfl) ?_
    refine va_get (D := (dC, dI)) (ci := 5) (v := .int sz5) (C := RX5) (T := TX5) (N := 3) hx hb hts iX5 hown hK hP 0 rfl rfl 1 (by decide) (hts _ qw171) (fun _ h9 => h9) rfl dX5_put_17 ?_
    refine lv_iload_n hx hb dX5_put_20 rfl (lv_at hl 1 rfl) ?_
    refine lv_iload_n hx hb dX5_put_21 rfl (lv_at hl 2 rfl) ?_
    refine lv_bipush (v := 8) hx hb dX5_put_22 (by decide) ?_
    refine lv_ishl hx hb dX5_put_24 ?_
    refine lv_topi (fun v24 e24 => ?_)
    refine lv_ior hx hb dX5_put_25 ?_
    refine lv_topi (fun v25 e25 => ?_)
    refine va_iast hx hb hK hP hD hS 1 0 rfl rfl (vp_in_iff.mpr ⟨by omega, by omega⟩) dX5_put_26 (fun H locs hP9 hD9 hS9 => ?_)
    clear hP hD hS
    obtain ⟨v26_f, e26⟩ : ∃ g : Nat → Int32, g = upd fS (sz5).toNatClampNeg v25 := ⟨_, rfl⟩
    rw [← e26] at hP9 hD9
    obtain ⟨hP, hD⟩ := zst (wX := [(h0, .inr (5, [.ref lS, .int sz5, .ref tp])), (lS, .inl (cI, 241, .inl v26_f))]) hP9 hD9 rfl
    have hS := hS9
    clear hP9 hD9 hS9
    have cq26_zSt : zSt v26_f := zSt_1 ci_fS_zSt e24 e25 e26
    refine lv_aload_n hx hb dX5_put_27 rfl (lv_at hl 0 rfl) ?_
    refine lv_dup hx hb dX5_put_28 rfl ?_
    refine va_get (D := (dC, dI)) (ci := 5) (v := .int sz5) (C := RX5) (T := TX5) (N := 3) hx hb hts iX5 hown hK hP 0 rfl rfl 1 (by decide) (hts _ qw171) (fun _ h9 => h9) rfl dX5_put_29 ?_
    refine lv_iconst (v := 1) hx hb dX5_put_32 (by decide) ?_
    refine lv_iadd hx hb dX5_put_33 ?_
    refine lv_topi (fun v33 e33 => ?_)
    have i33 : v33.toInt = sz5.toInt + 1 := zadd e33 rfl (by decide) (by omega) (by omega)
    refine va_put (D := (dC, dI)) (ci := 5) (v := .int v33) (ty := .int) (C := RX5) (T := TX5) (N := 3) hx hb hts iX5 tyX5 tyX5_ok nmX5 hown hK hP hD hS 0 rfl rfl 1 (by decide) (hts _ qw171) (fun _ h9 => h9) rfl (by decide +kernel) rfl rfl (Nat.le_of_ble_eq_true rfl) dX5_put_34 (fun H locs hP9 hD9 hS9 => ?_)
    clear hP hD hS
    obtain ⟨hP, hD⟩ := zst (wX := [(h0, .inr (5, [.ref lS, .int v33, .ref tp])), (lS, .inl (cI, 241, .inl v26_f))]) hP9 hD9 rfl
    have hS := hS9
    clear hP9 hD9 hS9
    rw [hQ]
    exact W.vret hx hb hr (fun t ht hW => ⟨⟨(v33, v26_f), rfl, ⟨by (try dsimp only); omega, by (try dsimp only); omega, by (try dsimp only); omega, fun _ => zEm_v e26 e25 e24 i33 (by omega), cq26_zSt⟩, ⟨by rw [ht]; exact hP, hD⟩⟩, hS.F ht⟩) hS.2.2 dX5_put_37
set_option maxHeartbeats 4000000 in
set_option maxRecDepth 100000 in
theorem g_X5_put_2 (l : Launch) (dC : Nat → ClassId) (dI : Nat → Nat → Nat) (cI cJ : ClassId) (h0 : Nat) (p1 : Int32) (lS : Nat) (sz5 : Int32) (tp : Nat) (fS : Nat → Int32) (sz : Nat) (n_p1 : 0 ≤ p1.toInt ∧ p1.toInt ≤ 5) (n_sz5 : 0 ≤ sz5.toInt ∧ sz5.toInt ≤ 241)  (ci_fS_zSt : zSt fS)  : Met l yX5_put (.code yX5_put cX5_put 3 none :: wA) ({ frames := 0, cells := 0, slots := 0, locals := 0 }) (zP (dC, dI) [(cI, .int), (cJ, .long)] [.ref h0, .int 2, .int p1] sz [(h0, .inr (5, [.ref lS, .int sz5, .ref tp])), (lS, .inl (cI, 241, .inl fS))]) (va_Qv (fun (u : Int32 × (Nat → Int32)) => (1 ≤ u.1.toInt) ∧ (u.1.toInt ≤ 241) ∧ (u.1.toInt ≤ sz5.toInt + 1 ∧ sz5.toInt ≤ u.1.toInt) ∧ (sz5.toInt < 241 → zEm fS sz5 [((2 : Int32).toInt, p1.toInt)] u.2 u.1) ∧ (zSt u.2)) (fun (u : Int32 × (Nat → Int32)) (t : State) => va_P (dC, dI) vwCl [(h0, .inr (5, [.ref lS, .int u.1, .ref tp])), (lS, .inl (cI, 241, .inl u.2))] t.heap ∧ va_D (va_A [(h0, .inr (5, [.ref lS, .int sz5, .ref tp])), (lS, .inl (cI, 241, .inl fS))] sz) [(h0, .inr (5, [.ref lS, .int u.1, .ref tp])), (lS, .inl (cI, 241, .inl u.2))]) (va_A [(h0, .inr (5, [.ref lS, .int sz5, .ref tp])), (lS, .inl (cI, 241, .inl fS))] sz)) 0 0 (va_A [(h0, .inr (5, [.ref lS, .int sz5, .ref tp])), (lS, .inl (cI, 241, .inl fS))] sz) := by
  refine Met.ofW (cc := cX5_put) (maxL := 3) (ret := none) (by decide) rfl ?_
  intro p e s m args below meth c s₁ B hml hv
  obtain ⟨hargs, hsz, hP, hK, hT⟩ := hv
  have hx := B.exec
  have hb := B.bytes
  have hr := B.returns
  have hts : ∀ w ∈ wA, w.before args s = true := fun w h => atoms_spec (ws := .code yX5_put cX5_put 3 none :: wA) B.pre w (List.mem_cons_of_mem _ h)
  have hown : s.vm.findClass RX5 = some m.cls := findClass_of_methodNamed B.named
  have hlocks := B.notSynchronized
  subst hsz
  have hD := hT.self (sz := s.heap.size)
  generalize hAe : va_A [(h0, .inr (5, [.ref lS, .int sz5, .ref tp])), (lS, .inl (cI, 241, .inl fS))] s.heap.size = A at hD ⊢
  have hA : ∀ q : Nat, s.heap.size ≤ q → A q := fun q h => by rw [← hAe]; exact Or.inr h
  have hl := lv_entry ([.ref h0, .int 2, .int p1]) (n := 3) (Nat.le_of_ble_eq_true rfl)
  rw [show entryFrame m args 3 = entryFrame m ([.ref h0, .int 2, .int p1] : List Value).toArray 3 by rw [hargs], lg_entry_eq]
  generalize (lg_sl ([.ref h0, .int 2, .int p1]) ++ List.replicate (3 - (lg_sl ([.ref h0, .int 2, .int p1])).length) Slot.unset).toArray = ls at hl ⊢
  have hl : lv_has ls 3 [(0, .ref h0), (1, .int 2), (2, .int p1)] := hl
  refine zstart (fun H hH => ?_)
  rw [← hH] at hP
  have hS : va_S A s.heap H [] := by rw [hH]; exact va_S.rf
  generalize ([] : List Loc) = locs at hS ⊢
  refine zgen (fun R Q hR hQ => ?_)
  refine lv_aload_n hx hb dX5_put_0 rfl (lv_at hl 0 rfl) ?_
  refine va_get (D := (dC, dI)) (ci := 5) (v := .int sz5) (C := RX5) (T := TX5) (N := 3) hx hb hts iX5 hown hK hP 0 rfl rfl 1 (by decide) (hts _ qw171) (fun _ h9 => h9) rfl dX5_put_1 ?_
  refine lv_aload_n hx hb dX5_put_4 rfl (lv_at hl 0 rfl) ?_
  refine va_get (D := (dC, dI)) (ci := 5) (v := .ref lS) (C := RX5) (T := TX5) (N := 3) hx hb hts iX5 hown hK hP 0 rfl rfl 0 (by decide) (hts _ qw170) (fun _ h9 => h9) rfl dX5_put_5 ?_
  refine va_alen (v := 241) hx hb hK hP 1 0 rfl rfl rfl dX5_put_8 ?_
  refine lv_icmp_ge (tgt := 37) hx hb dX5_put_9 (by decide) (fun c9 => ?_) (fun c9 => ?_)
  · have c9 : 241 ≤ sz5.toInt := z3 (by decide) rfl c9
    rw [hQ]
    exact W.vret hx hb hr (fun t ht hW => ⟨⟨(sz5, fS), rfl, ⟨by (try dsimp only); omega, by (try dsimp only); omega, by (try dsimp only); omega, fun z => absurd z (by omega), ci_fS_zSt⟩, ⟨by rw [ht]; exact hP, hD⟩⟩, hS.F ht⟩) hS.2.2 dX5_put_37
  · have c9 : sz5.toInt < 241 := z4 (by decide) rfl c9
    refine lv_aload_n hx hb dX5_put_12 rfl (lv_at hl 0 rfl) ?_
    refine va_get (D := (dC, dI)) (ci := 5) (v := .ref lS) (C := RX5) (T := TX5) (N := 3) hx hb hts iX5 hown hK hP 0 rfl rfl 0 (by decide) (hts _ qw170) (fun _ h9 => h9) rfl dX5_put_13 ?_
    refine lv_aload_n hx hb dX5_put_16 rfl (lv_at hl 0 rfl) ?_
    refine va_get (D := (dC, dI)) (ci := 5) (v := .int sz5) (C := RX5) (T := TX5) (N := 3) hx hb hts iX5 hown hK hP 0 rfl rfl 1 (by decide) (hts _ qw171) (fun _ h9 => h9) rfl dX5_put_17 ?_
    refine lv_iload_n hx hb dX5_put_20 rfl (lv_at hl 1 rfl) ?_
    refine lv_iload_n hx hb dX5_put_21 rfl (lv_at hl 2 rfl) ?_
    refine lv_bipush (v := 8) hx hb dX5_put_22 (by decide) ?_
    refine lv_ishl hx hb dX5_put_24 ?_
    refine lv_topi (fun v24 e24 => ?_)
    refine lv_ior hx hb dX5_put_25 ?_
    refine lv_topi (fun v25 e25 => ?_)
    refine va_iast hx hb hK hP hD hS 1 0 rfl rfl (vp_in_iff.mpr ⟨by omega, by omega⟩) dX5_put_26 (fun H locs hP9 hD9 hS9 => ?_)
    clear hP hD hS
    obtain ⟨v26_f, e26⟩ : ∃ g : Nat → Int32, g = upd fS (sz5).toNatClampNeg v25 := ⟨_, rfl⟩
    rw [← e26] at hP9 hD9
    obtain ⟨hP, hD⟩ := zst (wX := [(h0, .inr (5, [.ref lS, .int sz5, .ref tp])), (lS, .inl (cI, 241, .inl v26_f))]) hP9 hD9 rfl
    have hS := hS9
    clear hP9 hD9 hS9
    have cq26_zSt : zSt v26_f := zSt_2 ci_fS_zSt e24 e25 e26 (by omega) (by omega)
    refine lv_aload_n hx hb dX5_put_27 rfl (lv_at hl 0 rfl) ?_
    refine lv_dup hx hb dX5_put_28 rfl ?_
    refine va_get (D := (dC, dI)) (ci := 5) (v := .int sz5) (C := RX5) (T := TX5) (N := 3) hx hb hts iX5 hown hK hP 0 rfl rfl 1 (by decide) (hts _ qw171) (fun _ h9 => h9) rfl dX5_put_29 ?_
    refine lv_iconst (v := 1) hx hb dX5_put_32 (by decide) ?_
    refine lv_iadd hx hb dX5_put_33 ?_
    refine lv_topi (fun v33 e33 => ?_)
    have i33 : v33.toInt = sz5.toInt + 1 := zadd e33 rfl (by decide) (by omega) (by omega)
    refine va_put (D := (dC, dI)) (ci := 5) (v := .int v33) (ty := .int) (C := RX5) (T := TX5) (N := 3) hx hb hts iX5 tyX5 tyX5_ok nmX5 hown hK hP hD hS 0 rfl rfl 1 (by decide) (hts _ qw171) (fun _ h9 => h9) rfl (by decide +kernel) rfl rfl (Nat.le_of_ble_eq_true rfl) dX5_put_34 (fun H locs hP9 hD9 hS9 => ?_)
    clear hP hD hS
    obtain ⟨hP, hD⟩ := zst (wX := [(h0, .inr (5, [.ref lS, .int v33, .ref tp])), (lS, .inl (cI, 241, .inl v26_f))]) hP9 hD9 rfl
    have hS := hS9
    clear hP9 hD9 hS9
    rw [hQ]
    exact W.vret hx hb hr (fun t ht hW => ⟨⟨(v33, v26_f), rfl, ⟨by (try dsimp only); omega, by (try dsimp only); omega, by (try dsimp only); omega, fun _ => zEm_v e26 e25 e24 i33 (by omega), cq26_zSt⟩, ⟨by rw [ht]; exact hP, hD⟩⟩, hS.F ht⟩) hS.2.2 dX5_put_37
set_option maxHeartbeats 4000000 in
set_option maxRecDepth 100000 in
theorem g_X5_put_0 (l : Launch) (dC : Nat → ClassId) (dI : Nat → Nat → Nat) (cI cJ : ClassId) (h0 : Nat) (p0 : Int32) (lS : Nat) (sz5 : Int32) (tp : Nat) (fS : Nat → Int32) (sz : Nat) (n_p0 : 0 ≤ p0.toInt ∧ p0.toInt ≤ 255) (n_sz5 : 0 ≤ sz5.toInt ∧ sz5.toInt ≤ 241)  (ci_fS_zSt : zSt fS)  : Met l yX5_put (.code yX5_put cX5_put 3 none :: wA) ({ frames := 0, cells := 0, slots := 0, locals := 0 }) (zP (dC, dI) [(cI, .int), (cJ, .long)] [.ref h0, .int p0, .int 0] sz [(h0, .inr (5, [.ref lS, .int sz5, .ref tp])), (lS, .inl (cI, 241, .inl fS))]) (va_Qv (fun (u : Int32 × (Nat → Int32)) => (1 ≤ u.1.toInt) ∧ (u.1.toInt ≤ 241) ∧ (u.1.toInt ≤ sz5.toInt + 1 ∧ sz5.toInt ≤ u.1.toInt) ∧ (sz5.toInt < 241 → zEm fS sz5 [(p0.toInt, 0)] u.2 u.1) ∧ (zSt u.2)) (fun (u : Int32 × (Nat → Int32)) (t : State) => va_P (dC, dI) vwCl [(h0, .inr (5, [.ref lS, .int u.1, .ref tp])), (lS, .inl (cI, 241, .inl u.2))] t.heap ∧ va_D (va_A [(h0, .inr (5, [.ref lS, .int sz5, .ref tp])), (lS, .inl (cI, 241, .inl fS))] sz) [(h0, .inr (5, [.ref lS, .int u.1, .ref tp])), (lS, .inl (cI, 241, .inl u.2))]) (va_A [(h0, .inr (5, [.ref lS, .int sz5, .ref tp])), (lS, .inl (cI, 241, .inl fS))] sz)) 0 0 (va_A [(h0, .inr (5, [.ref lS, .int sz5, .ref tp])), (lS, .inl (cI, 241, .inl fS))] sz) := by
  refine Met.ofW (cc := cX5_put) (maxL := 3) (ret := none) (by decide) rfl ?_
  intro p e s m args below meth c s₁ B hml hv
  obtain ⟨hargs, hsz, hP, hK, hT⟩ := hv
  have hx := B.exec
  have hb := B.bytes
  have hr := B.returns
  have hts : ∀ w ∈ wA, w.before args s = true := fun w h => atoms_spec (ws := .code yX5_put cX5_put 3 none :: wA) B.pre w (List.mem_cons_of_mem _ h)
  have hown : s.vm.findClass RX5 = some m.cls := findClass_of_methodNamed B.named
  have hlocks := B.notSynchronized
  subst hsz
  have hD := hT.self (sz := s.heap.size)
  generalize hAe : va_A [(h0, .inr (5, [.ref lS, .int sz5, .ref tp])), (lS, .inl (cI, 241, .inl fS))] s.heap.size = A at hD ⊢
  have hA : ∀ q : Nat, s.heap.size ≤ q → A q := fun q h => by rw [← hAe]; exact Or.inr h
  have hl := lv_entry ([.ref h0, .int p0, .int 0]) (n := 3) (Nat.le_of_ble_eq_true rfl)
  rw [show entryFrame m args 3 = entryFrame m ([.ref h0, .int p0, .int 0] : List Value).toArray 3 by rw [hargs], lg_entry_eq]
  generalize (lg_sl ([.ref h0, .int p0, .int 0]) ++ List.replicate (3 - (lg_sl ([.ref h0, .int p0, .int 0])).length) Slot.unset).toArray = ls at hl ⊢
  have hl : lv_has ls 3 [(0, .ref h0), (1, .int p0), (2, .int 0)] := hl
  refine zstart (fun H hH => ?_)
  rw [← hH] at hP
  have hS : va_S A s.heap H [] := by rw [hH]; exact va_S.rf
  generalize ([] : List Loc) = locs at hS ⊢
  refine zgen (fun R Q hR hQ => ?_)
  refine lv_aload_n hx hb dX5_put_0 rfl (lv_at hl 0 rfl) ?_
  refine va_get (D := (dC, dI)) (ci := 5) (v := .int sz5) (C := RX5) (T := TX5) (N := 3) hx hb hts iX5 hown hK hP 0 rfl rfl 1 (by decide) (hts _ qw171) (fun _ h9 => h9) rfl dX5_put_1 ?_
  refine lv_aload_n hx hb dX5_put_4 rfl (lv_at hl 0 rfl) ?_
  refine va_get (D := (dC, dI)) (ci := 5) (v := .ref lS) (C := RX5) (T := TX5) (N := 3) hx hb hts iX5 hown hK hP 0 rfl rfl 0 (by decide) (hts _ qw170) (fun _ h9 => h9) rfl dX5_put_5 ?_
  refine va_alen (v := 241) hx hb hK hP 1 0 rfl rfl rfl dX5_put_8 ?_
  refine lv_icmp_ge (tgt := 37) hx hb dX5_put_9 (by decide) (fun c9 => ?_) (fun c9 => ?_)
  · have c9 : 241 ≤ sz5.toInt := z3 (by decide) rfl c9
    rw [hQ]
    exact W.vret hx hb hr (fun t ht hW => ⟨⟨(sz5, fS), rfl, ⟨by (try dsimp only); omega, by (try dsimp only); omega, by (try dsimp only); omega, fun z => absurd z (by omega), ci_fS_zSt⟩, ⟨by rw [ht]; exact hP, hD⟩⟩, hS.F ht⟩) hS.2.2 dX5_put_37
  · have c9 : sz5.toInt < 241 := z4 (by decide) rfl c9
    refine lv_aload_n hx hb dX5_put_12 rfl (lv_at hl 0 rfl) ?_
    refine va_get (D := (dC, dI)) (ci := 5) (v := .ref lS) (C := RX5) (T := TX5) (N := 3) hx hb hts iX5 hown hK hP 0 rfl rfl 0 (by decide) (hts _ qw170) (fun _ h9 => h9) rfl dX5_put_13 ?_
    refine lv_aload_n hx hb dX5_put_16 rfl (lv_at hl 0 rfl) ?_
    refine va_get (D := (dC, dI)) (ci := 5) (v := .int sz5) (C := RX5) (T := TX5) (N := 3) hx hb hts iX5 hown hK hP 0 rfl rfl 1 (by decide) (hts _ qw171) (fun _ h9 => h9) rfl dX5_put_17 ?_
    refine lv_iload_n hx hb dX5_put_20 rfl (lv_at hl 1 rfl) ?_
    refine lv_iload_n hx hb dX5_put_21 rfl (lv_at hl 2 rfl) ?_
    refine lv_bipush (v := 8) hx hb dX5_put_22 (by decide) ?_
    refine lv_ishl hx hb dX5_put_24 ?_
    refine lv_topi (fun v24 e24 => ?_)
    obtain rfl : v24 = 0 := e24.trans (by decide)
    refine lv_ior hx hb dX5_put_25 ?_
    refine lv_topi (fun v25 e25 => ?_)
    refine va_iast hx hb hK hP hD hS 1 0 rfl rfl (vp_in_iff.mpr ⟨by omega, by omega⟩) dX5_put_26 (fun H locs hP9 hD9 hS9 => ?_)
    clear hP hD hS
    obtain ⟨v26_f, e26⟩ : ∃ g : Nat → Int32, g = upd fS (sz5).toNatClampNeg v25 := ⟨_, rfl⟩
    rw [← e26] at hP9 hD9
    obtain ⟨hP, hD⟩ := zst (wX := [(h0, .inr (5, [.ref lS, .int sz5, .ref tp])), (lS, .inl (cI, 241, .inl v26_f))]) hP9 hD9 rfl
    have hS := hS9
    clear hP9 hD9 hS9
    have cq26_zSt : zSt v26_f := zSt_0 ci_fS_zSt e24 e25 e26 (by omega) (by omega)
    refine lv_aload_n hx hb dX5_put_27 rfl (lv_at hl 0 rfl) ?_
    refine lv_dup hx hb dX5_put_28 rfl ?_
    refine va_get (D := (dC, dI)) (ci := 5) (v := .int sz5) (C := RX5) (T := TX5) (N := 3) hx hb hts iX5 hown hK hP 0 rfl rfl 1 (by decide) (hts _ qw171) (fun _ h9 => h9) rfl dX5_put_29 ?_
    refine lv_iconst (v := 1) hx hb dX5_put_32 (by decide) ?_
    refine lv_iadd hx hb dX5_put_33 ?_
    refine lv_topi (fun v33 e33 => ?_)
    have i33 : v33.toInt = sz5.toInt + 1 := zadd e33 rfl (by decide) (by omega) (by omega)
    refine va_put (D := (dC, dI)) (ci := 5) (v := .int v33) (ty := .int) (C := RX5) (T := TX5) (N := 3) hx hb hts iX5 tyX5 tyX5_ok nmX5 hown hK hP hD hS 0 rfl rfl 1 (by decide) (hts _ qw171) (fun _ h9 => h9) rfl (by decide +kernel) rfl rfl (Nat.le_of_ble_eq_true rfl) dX5_put_34 (fun H locs hP9 hD9 hS9 => ?_)
    clear hP hD hS
    obtain ⟨hP, hD⟩ := zst (wX := [(h0, .inr (5, [.ref lS, .int v33, .ref tp])), (lS, .inl (cI, 241, .inl v26_f))]) hP9 hD9 rfl
    have hS := hS9
    clear hP9 hD9 hS9
    rw [hQ]
    exact W.vret hx hb hr (fun t ht hW => ⟨⟨(v33, v26_f), rfl, ⟨by (try dsimp only); omega, by (try dsimp only); omega, by (try dsimp only); omega, fun _ => zEm_z e26 e25 i33 (by omega), cq26_zSt⟩, ⟨by rw [ht]; exact hP, hD⟩⟩, hS.F ht⟩) hS.2.2 dX5_put_37
set_option maxHeartbeats 4000000 in
set_option maxRecDepth 100000 in
theorem g_X5_isComparison (l : Launch) (dC : Nat → ClassId) (dI : Nat → Nat → Nat) (cI cJ : ClassId) (p0 : Int32) (sz : Nat)     : Met l yX5_isComparison (.code yX5_isComparison cX5_isComparison 1 (some .boolean) :: wA) ({ frames := 0, cells := 0, slots := 0, locals := 0 }) (zP (dC, dI) [(cI, .int), (cJ, .long)] [.int p0] sz []) (va_Qi (fun (r : Int32) (u : Unit) => (0 ≤ r.toInt) ∧ (r.toInt ≤ 1) ∧ (¬ r.toInt = 0 → (60 ≤ p0.toInt ∧ p0.toInt ≤ 62)) ∧ (zIs (oQ p0.toInt) r)) (fun (_ : Unit) (_ : State) => True) (va_A [] sz)) 0 0 (va_A [] sz) := by
  refine Met.ofW (cc := cX5_isComparison) (maxL := 1) (ret := (some .boolean)) (by decide) rfl ?_
  intro p e s m args below meth c s₁ B hml hv
  obtain ⟨hargs, hsz, hP, hK, hT⟩ := hv
  have hx := B.exec
  have hb := B.bytes
  have hr := B.returns
  have hts : ∀ w ∈ wA, w.before args s = true := fun w h => atoms_spec (ws := .code yX5_isComparison cX5_isComparison 1 (some .boolean) :: wA) B.pre w (List.mem_cons_of_mem _ h)
  have hown : s.vm.findClass RX5 = some m.cls := findClass_of_methodNamed B.named
  have hlocks := B.notSynchronized
  subst hsz
  have hD : va_D (va_A [] s.heap.size) [] := zD0
  generalize hAe : va_A [] s.heap.size = A at hD ⊢
  have hA : ∀ q : Nat, s.heap.size ≤ q → A q := fun q h => by rw [← hAe]; exact Or.inr h
  have hl := lv_entry ([.int p0]) (n := 1) (Nat.le_of_ble_eq_true rfl)
  rw [show entryFrame m args 1 = entryFrame m ([.int p0] : List Value).toArray 1 by rw [hargs], lg_entry_eq]
  generalize (lg_sl ([.int p0]) ++ List.replicate (1 - (lg_sl ([.int p0])).length) Slot.unset).toArray = ls at hl ⊢
  have hl : lv_has ls 1 [(0, .int p0)] := hl
  refine zstart (fun H hH => ?_)
  rw [← hH] at hP
  have hS : va_S A s.heap H [] := by rw [hH]; exact va_S.rf
  generalize ([] : List Loc) = locs at hS ⊢
  refine zgen (fun R Q hR hQ => ?_)
  refine lv_iload_n hx hb dX5_isComparison_0 rfl (lv_at hl 0 rfl) ?_
  refine lv_bipush (v := 61) hx hb dX5_isComparison_1 (by decide) ?_
  refine lv_icmp_eq (tgt := 18) hx hb dX5_isComparison_3 (by decide) (fun c3 => ?_) (fun c3 => ?_)
  · have c3 : p0.toInt = 61 := z5 rfl (by decide) c3
    refine lv_iconst (v := 1) hx hb dX5_isComparison_18 (by decide) ?_
    refine lv_goto (tgt := 23) hx hb dX5_isComparison_19 (by decide) ?_
    have zr0 : (1 : Int32).toInt = 1 := by decide
    rw [hQ]
    exact W.zret (v := 1) (ty := .boolean) hx hb hr rfl (fun t ht hW => ⟨⟨1, (), rfl, ⟨by (try dsimp only); omega, by (try dsimp only); omega, by (try dsimp only); omega, zIsT (oQ_iff.mpr (by omega))⟩, trivial⟩, hS.F ht⟩) hS.2.2 dX5_isComparison_23
  · have c3 : ¬ p0.toInt = 61 := z6 rfl (by decide) c3
    refine lv_iload_n hx hb dX5_isComparison_6 rfl (lv_at hl 0 rfl) ?_
    refine lv_bipush (v := 60) hx hb dX5_isComparison_7 (by decide) ?_
    refine lv_icmp_eq (tgt := 18) hx hb dX5_isComparison_9 (by decide) (fun c9 => ?_) (fun c9 => ?_)
    · have c9 : p0.toInt = 60 := z5 rfl (by decide) c9
      refine lv_iconst (v := 1) hx hb dX5_isComparison_18 (by decide) ?_
      refine lv_goto (tgt := 23) hx hb dX5_isComparison_19 (by decide) ?_
      have zr0 : (1 : Int32).toInt = 1 := by decide
      rw [hQ]
      exact W.zret (v := 1) (ty := .boolean) hx hb hr rfl (fun t ht hW => ⟨⟨1, (), rfl, ⟨by (try dsimp only); omega, by (try dsimp only); omega, by (try dsimp only); omega, zIsT (oQ_iff.mpr (by omega))⟩, trivial⟩, hS.F ht⟩) hS.2.2 dX5_isComparison_23
    · have c9 : ¬ p0.toInt = 60 := z6 rfl (by decide) c9
      refine lv_iload_n hx hb dX5_isComparison_12 rfl (lv_at hl 0 rfl) ?_
      refine lv_bipush (v := 62) hx hb dX5_isComparison_13 (by decide) ?_
      refine lv_icmp_ne (tgt := 22) hx hb dX5_isComparison_15 (by decide) (fun c15 => ?_) (fun c15 => ?_)
      · have c15 : ¬ p0.toInt = 62 := z6 rfl (by decide) c15
        refine lv_iconst (v := 0) hx hb dX5_isComparison_22 (by decide) ?_
        have zr0 : (0 : Int32).toInt = 0 := by decide
        rw [hQ]
        exact W.zret (v := 0) (ty := .boolean) hx hb hr rfl (fun t ht hW => ⟨⟨0, (), rfl, ⟨by (try dsimp only); omega, by (try dsimp only); omega, by (try dsimp only); omega, zIsN (fun q => by have := oQ_iff.mp q; omega)⟩, trivial⟩, hS.F ht⟩) hS.2.2 dX5_isComparison_23
      · have c15 : p0.toInt = 62 := z5 rfl (by decide) c15
        refine lv_iconst (v := 1) hx hb dX5_isComparison_18 (by decide) ?_
        refine lv_goto (tgt := 23) hx hb dX5_isComparison_19 (by decide) ?_
        have zr0 : (1 : Int32).toInt = 1 := by decide
        rw [hQ]
        exact W.zret (v := 1) (ty := .boolean) hx hb hr rfl (fun t ht hW => ⟨⟨1, (), rfl, ⟨by (try dsimp only); omega, by (try dsimp only); omega, by (try dsimp only); omega, zIsT (oQ_iff.mpr (by omega))⟩, trivial⟩, hS.F ht⟩) hS.2.2 dX5_isComparison_23
set_option maxHeartbeats 4000000 in
set_option maxRecDepth 100000 in
theorem g_X5_isArithmetic (l : Launch) (dC : Nat → ClassId) (dI : Nat → Nat → Nat) (cI cJ : ClassId) (p0 : Int32) (sz : Nat)     : Met l yX5_isArithmetic (.code yX5_isArithmetic cX5_isArithmetic 1 (some .boolean) :: wA) ({ frames := 0, cells := 0, slots := 0, locals := 0 }) (zP (dC, dI) [(cI, .int), (cJ, .long)] [.int p0] sz []) (va_Qi (fun (r : Int32) (u : Unit) => (0 ≤ r.toInt) ∧ (r.toInt ≤ 1) ∧ (¬ r.toInt = 0 → (42 ≤ p0.toInt ∧ p0.toInt ≤ 47)) ∧ (zIs (oA p0.toInt) r)) (fun (_ : Unit) (_ : State) => True) (va_A [] sz)) 0 0 (va_A [] sz) := by
  refine Met.ofW (cc := cX5_isArithmetic) (maxL := 1) (ret := (some .boolean)) (by decide) rfl ?_
  intro p e s m args below meth c s₁ B hml hv
  obtain ⟨hargs, hsz, hP, hK, hT⟩ := hv
  have hx := B.exec
  have hb := B.bytes
  have hr := B.returns
  have hts : ∀ w ∈ wA, w.before args s = true := fun w h => atoms_spec (ws := .code yX5_isArithmetic cX5_isArithmetic 1 (some .boolean) :: wA) B.pre w (List.mem_cons_of_mem _ h)
  have hown : s.vm.findClass RX5 = some m.cls := findClass_of_methodNamed B.named
  have hlocks := B.notSynchronized
  subst hsz
  have hD : va_D (va_A [] s.heap.size) [] := zD0
  generalize hAe : va_A [] s.heap.size = A at hD ⊢
  have hA : ∀ q : Nat, s.heap.size ≤ q → A q := fun q h => by rw [← hAe]; exact Or.inr h
  have hl := lv_entry ([.int p0]) (n := 1) (Nat.le_of_ble_eq_true rfl)
  rw [show entryFrame m args 1 = entryFrame m ([.int p0] : List Value).toArray 1 by rw [hargs], lg_entry_eq]
  generalize (lg_sl ([.int p0]) ++ List.replicate (1 - (lg_sl ([.int p0])).length) Slot.unset).toArray = ls at hl ⊢
  have hl : lv_has ls 1 [(0, .int p0)] := hl
  refine zstart (fun H hH => ?_)
  rw [← hH] at hP
  have hS : va_S A s.heap H [] := by rw [hH]; exact va_S.rf
  generalize ([] : List Loc) = locs at hS ⊢
  refine zgen (fun R Q hR hQ => ?_)
  refine lv_iload_n hx hb dX5_isArithmetic_0 rfl (lv_at hl 0 rfl) ?_
  refine lv_bipush (v := 43) hx hb dX5_isArithmetic_1 (by decide) ?_
  refine lv_icmp_eq (tgt := 24) hx hb dX5_isArithmetic_3 (by decide) (fun c3 => ?_) (fun c3 => ?_)
  · have c3 : p0.toInt = 43 := z5 rfl (by decide) c3
    refine lv_iconst (v := 1) hx hb dX5_isArithmetic_24 (by decide) ?_
    refine lv_goto (tgt := 29) hx hb dX5_isArithmetic_25 (by decide) ?_
    have zr0 : (1 : Int32).toInt = 1 := by decide
    rw [hQ]
    exact W.zret (v := 1) (ty := .boolean) hx hb hr rfl (fun t ht hW => ⟨⟨1, (), rfl, ⟨by (try dsimp only); omega, by (try dsimp only); omega, by (try dsimp only); omega, zIsT (oA_iff.mpr (by omega))⟩, trivial⟩, hS.F ht⟩) hS.2.2 dX5_isArithmetic_29
  · have c3 : ¬ p0.toInt = 43 := z6 rfl (by decide) c3
    refine lv_iload_n hx hb dX5_isArithmetic_6 rfl (lv_at hl 0 rfl) ?_
    refine lv_bipush (v := 45) hx hb dX5_isArithmetic_7 (by decide) ?_
    refine lv_icmp_eq (tgt := 24) hx hb dX5_isArithmetic_9 (by decide) (fun c9 => ?_) (fun c9 => ?_)
    · have c9 : p0.toInt = 45 := z5 rfl (by decide) c9
      refine lv_iconst (v := 1) hx hb dX5_isArithmetic_24 (by decide) ?_
      refine lv_goto (tgt := 29) hx hb dX5_isArithmetic_25 (by decide) ?_
      have zr0 : (1 : Int32).toInt = 1 := by decide
      rw [hQ]
      exact W.zret (v := 1) (ty := .boolean) hx hb hr rfl (fun t ht hW => ⟨⟨1, (), rfl, ⟨by (try dsimp only); omega, by (try dsimp only); omega, by (try dsimp only); omega, zIsT (oA_iff.mpr (by omega))⟩, trivial⟩, hS.F ht⟩) hS.2.2 dX5_isArithmetic_29
    · have c9 : ¬ p0.toInt = 45 := z6 rfl (by decide) c9
      refine lv_iload_n hx hb dX5_isArithmetic_12 rfl (lv_at hl 0 rfl) ?_
      refine lv_bipush (v := 42) hx hb dX5_isArithmetic_13 (by decide) ?_
      refine lv_icmp_eq (tgt := 24) hx hb dX5_isArithmetic_15 (by decide) (fun c15 => ?_) (fun c15 => ?_)
      · have c15 : p0.toInt = 42 := z5 rfl (by decide) c15
        refine lv_iconst (v := 1) hx hb dX5_isArithmetic_24 (by decide) ?_
        refine lv_goto (tgt := 29) hx hb dX5_isArithmetic_25 (by decide) ?_
        have zr0 : (1 : Int32).toInt = 1 := by decide
        rw [hQ]
        exact W.zret (v := 1) (ty := .boolean) hx hb hr rfl (fun t ht hW => ⟨⟨1, (), rfl, ⟨by (try dsimp only); omega, by (try dsimp only); omega, by (try dsimp only); omega, zIsT (oA_iff.mpr (by omega))⟩, trivial⟩, hS.F ht⟩) hS.2.2 dX5_isArithmetic_29
      · have c15 : ¬ p0.toInt = 42 := z6 rfl (by decide) c15
        refine lv_iload_n hx hb dX5_isArithmetic_18 rfl (lv_at hl 0 rfl) ?_
        refine lv_bipush (v := 47) hx hb dX5_isArithmetic_19 (by decide) ?_
        refine lv_icmp_ne (tgt := 28) hx hb dX5_isArithmetic_21 (by decide) (fun c21 => ?_) (fun c21 => ?_)
        · have c21 : ¬ p0.toInt = 47 := z6 rfl (by decide) c21
          refine lv_iconst (v := 0) hx hb dX5_isArithmetic_28 (by decide) ?_
          have zr0 : (0 : Int32).toInt = 0 := by decide
          rw [hQ]
          exact W.zret (v := 0) (ty := .boolean) hx hb hr rfl (fun t ht hW => ⟨⟨0, (), rfl, ⟨by (try dsimp only); omega, by (try dsimp only); omega, by (try dsimp only); omega, zIsN (fun q => by have := oA_iff.mp q; omega)⟩, trivial⟩, hS.F ht⟩) hS.2.2 dX5_isArithmetic_29
        · have c21 : p0.toInt = 47 := z5 rfl (by decide) c21
          refine lv_iconst (v := 1) hx hb dX5_isArithmetic_24 (by decide) ?_
          refine lv_goto (tgt := 29) hx hb dX5_isArithmetic_25 (by decide) ?_
          have zr0 : (1 : Int32).toInt = 1 := by decide
          rw [hQ]
          exact W.zret (v := 1) (ty := .boolean) hx hb hr rfl (fun t ht hW => ⟨⟨1, (), rfl, ⟨by (try dsimp only); omega, by (try dsimp only); omega, by (try dsimp only); omega, zIsT (oA_iff.mpr (by omega))⟩, trivial⟩, hS.F ht⟩) hS.2.2 dX5_isArithmetic_29
def zQ_X5_sum (l : Launch) (K fr lo : Nat) : Prop := ∀ (dC : Nat → ClassId) (dI : Nat → Nat → Nat) (cI cJ : ClassId) (h0 : Nat) (p0 : Int32) (lS : Nat) (sz5 : Int32) (tp : Nat) (fS : Nat → Int32) (tB : Nat) (tl : Int32) (ta : Int32) (fB : Nat → Int32) (sz : Nat) (n_p0 : 0 ≤ p0.toInt ∧ p0.toInt ≤ 6) (n_sz5 : 0 ≤ sz5.toInt ∧ sz5.toInt ≤ 241) (n_ta : 0 ≤ ta.toInt ∧ ta.toInt ≤ 240) (n_tl : 0 ≤ tl.toInt ∧ tl.toInt ≤ 240) (hty : zTy tl fB) (hsz : sz5.toInt ≤ ta.toInt) (hKd : p0.toInt = 6 - ((K : Nat) : Int)) (ci_fS_zSt : zSt fS) , Met l yX5_sum (.code yX5_sum cX5_sum 6 (some .boolean) :: wA) ({ frames := fr, cells := 0, slots := 0, locals := lo }) (zPW (dC, dI) [(cI, .int), (cJ, .long)] [.ref h0, .int p0] sz [(h0, .inr (5, [.ref lS, .int sz5, .ref tp])), (lS, .inl (cI, 241, .inl fS)), (tp, .inr (9, [.ref tB, .int tl, .int ta])), (tB, .inl (cI, 260, .inl fB))] (va_A [(h0, .inr (5, [.ref lS, .int sz5, .ref tp])), (lS, .inl (cI, 241, .inl fS)), (tp, .inr (9, [.ref tB, .int tl, .int ta])), (tB, .inl (cI, 260, .inl fB))] sz)) (va_Qi (fun (r : Int32) (u : Int32 × (Nat → Int32) × Int32) => (0 ≤ r.toInt) ∧ (r.toInt ≤ 1) ∧ (0 ≤ u.1.toInt) ∧ (u.1.toInt ≤ 241) ∧ (0 ≤ u.2.2.toInt) ∧ (u.2.2.toInt ≤ 240) ∧ (zF (sSum (sB fB tl.toInt) tl.toInt K ta.toInt) r u.2.2) ∧ (¬ r.toInt = 0 → ta.toInt < u.2.2.toInt) ∧ (¬ r.toInt = 0 → u.1.toInt + ta.toInt ≤ sz5.toInt + u.2.2.toInt) ∧ (¬ r.toInt = 0 → zEm fS sz5 (eSum (sB fB tl.toInt) tl.toInt K ta.toInt) u.2.1 u.1) ∧ (zSt u.2.1)) (fun (u : Int32 × (Nat → Int32) × Int32) (t : State) => va_P (dC, dI) vwCl [(h0, .inr (5, [.ref lS, .int u.1, .ref tp])), (lS, .inl (cI, 241, .inl u.2.1)), (tp, .inr (9, [.ref tB, .int tl, .int u.2.2])), (tB, .inl (cI, 260, .inl fB))] t.heap ∧ va_D (va_A [(h0, .inr (5, [.ref lS, .int sz5, .ref tp])), (lS, .inl (cI, 241, .inl fS)), (tp, .inr (9, [.ref tB, .int tl, .int ta])), (tB, .inl (cI, 260, .inl fB))] sz) [(h0, .inr (5, [.ref lS, .int u.1, .ref tp])), (lS, .inl (cI, 241, .inl u.2.1)), (tp, .inr (9, [.ref tB, .int tl, .int u.2.2])), (tB, .inl (cI, 260, .inl fB))]) (va_A [(h0, .inr (5, [.ref lS, .int sz5, .ref tp])), (lS, .inl (cI, 241, .inl fS)), (tp, .inr (9, [.ref tB, .int tl, .int ta])), (tB, .inl (cI, 260, .inl fB))] sz)) 0 0 (va_A [(h0, .inr (5, [.ref lS, .int sz5, .ref tp])), (lS, .inl (cI, 241, .inl fS)), (tp, .inr (9, [.ref tB, .int tl, .int ta])), (tB, .inl (cI, 260, .inl fB))] sz)
def zQ_X5_atom (l : Launch) (K fr lo : Nat) : Prop := ∀ (dC : Nat → ClassId) (dI : Nat → Nat → Nat) (cI cJ : ClassId) (h0 : Nat) (p0 : Int32) (lS : Nat) (sz5 : Int32) (tp : Nat) (fS : Nat → Int32) (tB : Nat) (tl : Int32) (ta : Int32) (fB : Nat → Int32) (sz : Nat) (n_p0 : 0 ≤ p0.toInt ∧ p0.toInt ≤ 6) (n_sz5 : 0 ≤ sz5.toInt ∧ sz5.toInt ≤ 241) (n_ta : 0 ≤ ta.toInt ∧ ta.toInt ≤ 240) (n_tl : 0 ≤ tl.toInt ∧ tl.toInt ≤ 240) (hty : zTy tl fB) (hsz : sz5.toInt ≤ ta.toInt) (hKd : p0.toInt = 6 - ((K : Nat) : Int)) (ci_fS_zSt : zSt fS) , Met l yX5_atom (.code yX5_atom cX5_atom 4 (some .boolean) :: wA) ({ frames := fr, cells := 0, slots := 0, locals := lo }) (zPW (dC, dI) [(cI, .int), (cJ, .long)] [.ref h0, .int p0] sz [(h0, .inr (5, [.ref lS, .int sz5, .ref tp])), (lS, .inl (cI, 241, .inl fS)), (tp, .inr (9, [.ref tB, .int tl, .int ta])), (tB, .inl (cI, 260, .inl fB))] (va_A [(h0, .inr (5, [.ref lS, .int sz5, .ref tp])), (lS, .inl (cI, 241, .inl fS)), (tp, .inr (9, [.ref tB, .int tl, .int ta])), (tB, .inl (cI, 260, .inl fB))] sz)) (va_Qi (fun (r : Int32) (u : Int32 × (Nat → Int32) × Int32) => (0 ≤ r.toInt) ∧ (r.toInt ≤ 1) ∧ (0 ≤ u.1.toInt) ∧ (u.1.toInt ≤ 241) ∧ (0 ≤ u.2.2.toInt) ∧ (u.2.2.toInt ≤ 240) ∧ (zF (sAtm (sB fB tl.toInt) tl.toInt K ta.toInt) r u.2.2) ∧ (¬ r.toInt = 0 → ta.toInt < u.2.2.toInt) ∧ (¬ r.toInt = 0 → u.1.toInt + ta.toInt ≤ sz5.toInt + u.2.2.toInt) ∧ (¬ r.toInt = 0 → zEm fS sz5 (eAtm (sB fB tl.toInt) tl.toInt K ta.toInt) u.2.1 u.1) ∧ (zSt u.2.1)) (fun (u : Int32 × (Nat → Int32) × Int32) (t : State) => va_P (dC, dI) vwCl [(h0, .inr (5, [.ref lS, .int u.1, .ref tp])), (lS, .inl (cI, 241, .inl u.2.1)), (tp, .inr (9, [.ref tB, .int tl, .int u.2.2])), (tB, .inl (cI, 260, .inl fB))] t.heap ∧ va_D (va_A [(h0, .inr (5, [.ref lS, .int sz5, .ref tp])), (lS, .inl (cI, 241, .inl fS)), (tp, .inr (9, [.ref tB, .int tl, .int ta])), (tB, .inl (cI, 260, .inl fB))] sz) [(h0, .inr (5, [.ref lS, .int u.1, .ref tp])), (lS, .inl (cI, 241, .inl u.2.1)), (tp, .inr (9, [.ref tB, .int tl, .int u.2.2])), (tB, .inl (cI, 260, .inl fB))]) (va_A [(h0, .inr (5, [.ref lS, .int sz5, .ref tp])), (lS, .inl (cI, 241, .inl fS)), (tp, .inr (9, [.ref tB, .int tl, .int ta])), (tB, .inl (cI, 260, .inl fB))] sz)) 0 0 (va_A [(h0, .inr (5, [.ref lS, .int sz5, .ref tp])), (lS, .inl (cI, 241, .inl fS)), (tp, .inr (9, [.ref tB, .int tl, .int ta])), (tB, .inl (cI, 260, .inl fB))] sz)
def zQ_X5_unit (l : Launch) (K fr lo : Nat) : Prop := ∀ (dC : Nat → ClassId) (dI : Nat → Nat → Nat) (cI cJ : ClassId) (h0 : Nat) (p0 : Int32) (lS : Nat) (sz5 : Int32) (tp : Nat) (fS : Nat → Int32) (tB : Nat) (tl : Int32) (ta : Int32) (fB : Nat → Int32) (sz : Nat) (n_p0 : 0 ≤ p0.toInt ∧ p0.toInt ≤ 6) (n_sz5 : 0 ≤ sz5.toInt ∧ sz5.toInt ≤ 241) (n_ta : 0 ≤ ta.toInt ∧ ta.toInt ≤ 240) (n_tl : 0 ≤ tl.toInt ∧ tl.toInt ≤ 240) (hty : zTy tl fB) (hsz : sz5.toInt ≤ ta.toInt) (hKd : p0.toInt = 6 - ((K : Nat) : Int)) (ci_fS_zSt : zSt fS) , Met l yX5_unit (.code yX5_unit cX5_unit 5 (some .boolean) :: wA) ({ frames := fr, cells := 0, slots := 0, locals := lo }) (zPW (dC, dI) [(cI, .int), (cJ, .long)] [.ref h0, .int p0, .int 0] sz [(h0, .inr (5, [.ref lS, .int sz5, .ref tp])), (lS, .inl (cI, 241, .inl fS)), (tp, .inr (9, [.ref tB, .int tl, .int ta])), (tB, .inl (cI, 260, .inl fB))] (va_A [(h0, .inr (5, [.ref lS, .int sz5, .ref tp])), (lS, .inl (cI, 241, .inl fS)), (tp, .inr (9, [.ref tB, .int tl, .int ta])), (tB, .inl (cI, 260, .inl fB))] sz)) (va_Qi (fun (r : Int32) (u : Int32 × (Nat → Int32) × Int32) => (0 ≤ r.toInt) ∧ (r.toInt ≤ 1) ∧ (0 ≤ u.1.toInt) ∧ (u.1.toInt ≤ 241) ∧ (0 ≤ u.2.2.toInt) ∧ (u.2.2.toInt ≤ 240) ∧ (zF (sUn (sB fB tl.toInt) tl.toInt K ta.toInt) r u.2.2) ∧ (¬ r.toInt = 0 → ta.toInt < u.2.2.toInt) ∧ (¬ r.toInt = 0 → u.1.toInt + ta.toInt ≤ sz5.toInt + u.2.2.toInt) ∧ (¬ r.toInt = 0 → zEm fS sz5 (eUn (sB fB tl.toInt) tl.toInt K ta.toInt) u.2.1 u.1) ∧ (zSt u.2.1)) (fun (u : Int32 × (Nat → Int32) × Int32) (t : State) => va_P (dC, dI) vwCl [(h0, .inr (5, [.ref lS, .int u.1, .ref tp])), (lS, .inl (cI, 241, .inl u.2.1)), (tp, .inr (9, [.ref tB, .int tl, .int u.2.2])), (tB, .inl (cI, 260, .inl fB))] t.heap ∧ va_D (va_A [(h0, .inr (5, [.ref lS, .int sz5, .ref tp])), (lS, .inl (cI, 241, .inl fS)), (tp, .inr (9, [.ref tB, .int tl, .int ta])), (tB, .inl (cI, 260, .inl fB))] sz) [(h0, .inr (5, [.ref lS, .int u.1, .ref tp])), (lS, .inl (cI, 241, .inl u.2.1)), (tp, .inr (9, [.ref tB, .int tl, .int u.2.2])), (tB, .inl (cI, 260, .inl fB))]) (va_A [(h0, .inr (5, [.ref lS, .int sz5, .ref tp])), (lS, .inl (cI, 241, .inl fS)), (tp, .inr (9, [.ref tB, .int tl, .int ta])), (tB, .inl (cI, 260, .inl fB))] sz)) 0 0 (va_A [(h0, .inr (5, [.ref lS, .int sz5, .ref tp])), (lS, .inl (cI, 241, .inl fS)), (tp, .inr (9, [.ref tB, .int tl, .int ta])), (tB, .inl (cI, 260, .inl fB))] sz)
def zQ_X5_condition (l : Launch) (K fr lo : Nat) : Prop := ∀ (dC : Nat → ClassId) (dI : Nat → Nat → Nat) (cI cJ : ClassId) (h0 : Nat) (p0 : Int32) (lS : Nat) (sz5 : Int32) (tp : Nat) (fS : Nat → Int32) (tB : Nat) (tl : Int32) (ta : Int32) (fB : Nat → Int32) (sz : Nat) (n_p0 : 0 ≤ p0.toInt ∧ p0.toInt ≤ 6) (n_sz5 : 0 ≤ sz5.toInt ∧ sz5.toInt ≤ 241) (n_ta : 0 ≤ ta.toInt ∧ ta.toInt ≤ 240) (n_tl : 0 ≤ tl.toInt ∧ tl.toInt ≤ 240) (hty : zTy tl fB) (hsz : sz5.toInt ≤ ta.toInt) (hKd : p0.toInt = 6 - ((K : Nat) : Int)) (ci_fS_zSt : zSt fS) , Met l yX5_condition (.code yX5_condition cX5_condition 6 (some .boolean) :: wA) ({ frames := fr, cells := 0, slots := 0, locals := lo }) (zPW (dC, dI) [(cI, .int), (cJ, .long)] [.ref h0, .int p0, .int 0] sz [(h0, .inr (5, [.ref lS, .int sz5, .ref tp])), (lS, .inl (cI, 241, .inl fS)), (tp, .inr (9, [.ref tB, .int tl, .int ta])), (tB, .inl (cI, 260, .inl fB))] (va_A [(h0, .inr (5, [.ref lS, .int sz5, .ref tp])), (lS, .inl (cI, 241, .inl fS)), (tp, .inr (9, [.ref tB, .int tl, .int ta])), (tB, .inl (cI, 260, .inl fB))] sz)) (va_Qi (fun (r : Int32) (u : Int32 × (Nat → Int32) × Int32) => (0 ≤ r.toInt) ∧ (r.toInt ≤ 1) ∧ (0 ≤ u.1.toInt) ∧ (u.1.toInt ≤ 241) ∧ (0 ≤ u.2.2.toInt) ∧ (u.2.2.toInt ≤ 240) ∧ (zF (sCon (sB fB tl.toInt) tl.toInt K ta.toInt) r u.2.2) ∧ (¬ r.toInt = 0 → ta.toInt < u.2.2.toInt) ∧ (¬ r.toInt = 0 → u.1.toInt + ta.toInt ≤ sz5.toInt + u.2.2.toInt) ∧ (¬ r.toInt = 0 → zEm fS sz5 (eCon (sB fB tl.toInt) tl.toInt K ta.toInt) u.2.1 u.1) ∧ (zSt u.2.1)) (fun (u : Int32 × (Nat → Int32) × Int32) (t : State) => va_P (dC, dI) vwCl [(h0, .inr (5, [.ref lS, .int u.1, .ref tp])), (lS, .inl (cI, 241, .inl u.2.1)), (tp, .inr (9, [.ref tB, .int tl, .int u.2.2])), (tB, .inl (cI, 260, .inl fB))] t.heap ∧ va_D (va_A [(h0, .inr (5, [.ref lS, .int sz5, .ref tp])), (lS, .inl (cI, 241, .inl fS)), (tp, .inr (9, [.ref tB, .int tl, .int ta])), (tB, .inl (cI, 260, .inl fB))] sz) [(h0, .inr (5, [.ref lS, .int u.1, .ref tp])), (lS, .inl (cI, 241, .inl u.2.1)), (tp, .inr (9, [.ref tB, .int tl, .int u.2.2])), (tB, .inl (cI, 260, .inl fB))]) (va_A [(h0, .inr (5, [.ref lS, .int sz5, .ref tp])), (lS, .inl (cI, 241, .inl fS)), (tp, .inr (9, [.ref tB, .int tl, .int ta])), (tB, .inl (cI, 260, .inl fB))] sz)) 0 0 (va_A [(h0, .inr (5, [.ref lS, .int sz5, .ref tp])), (lS, .inl (cI, 241, .inl fS)), (tp, .inr (9, [.ref tB, .int tl, .int ta])), (tB, .inl (cI, 260, .inl fB))] sz)
set_option maxHeartbeats 4000000 in
set_option maxRecDepth 100000 in
theorem g_X5_sum_k (l : Launch) (K fr lo : Nat) (ihA : zQ_X5_atom l K fr lo) (hfr : 0 ≤ fr) (hlo : 22 ≤ lo) : zQ_X5_sum l K (fr + 1) (lo + 40) := by
  intro dC dI cI cJ h0 p0 lS sz5 tp fS tB tl ta fB sz n_p0 n_sz5 n_ta n_tl hty hsz hKd ci_fS_zSt
  refine Met.ofW (cc := cX5_sum) (maxL := 6) (ret := (some .boolean)) (by decide) rfl ?_
  intro p e s m args below meth c s₁ B hml hv
  obtain ⟨⟨hargs, hsz, hP, hK, hT⟩, hV⟩ := hv
  have hx := B.exec
  have hb := B.bytes
  have hr := B.returns
  have hts : ∀ w ∈ wA, w.before args s = true := fun w h => atoms_spec (ws := .code yX5_sum cX5_sum 6 (some .boolean) :: wA) B.pre w (List.mem_cons_of_mem _ h)
  have hown : s.vm.findClass RX5 = some m.cls := findClass_of_methodNamed B.named
  have hlocks := B.notSynchronized
  subst hsz
  have hD := hT.self (sz := s.heap.size)
  generalize hAe : va_A [(h0, .inr (5, [.ref lS, .int sz5, .ref tp])), (lS, .inl (cI, 241, .inl fS)), (tp, .inr (9, [.ref tB, .int tl, .int ta])), (tB, .inl (cI, 260, .inl fB))] s.heap.size = A at hD hV ⊢
  have hA : ∀ q : Nat, s.heap.size ≤ q → A q := fun q h => by rw [← hAe]; exact Or.inr h
  have hl := lv_entry ([.ref h0, .int p0]) (n := 6) (Nat.le_of_ble_eq_true rfl)
  rw [show entryFrame m args 6 = entryFrame m ([.ref h0, .int p0] : List Value).toArray 6 by rw [hargs], lg_entry_eq]
  generalize (lg_sl ([.ref h0, .int p0]) ++ List.replicate (6 - (lg_sl ([.ref h0, .int p0])).length) Slot.unset).toArray = ls at hl ⊢
  have hl : lv_has ls 6 [(0, .ref h0), (1, .int p0)] := hl
  refine zstart (fun H hH => ?_)
  rw [← hH] at hP
  have hS : va_S A s.heap H [] := by rw [hH]; exact va_S.rf
  generalize ([] : List Loc) = locs at hS ⊢
  refine zgen (fun R Q hR hQ => ?_)
  have hRf : R.frames = fr + 1 := by rw [hR]; rfl
  have hRl : R.locals = lo + 40 := by rw [hR]; rfl
  refine lv_aload_n hx hb dX5_sum_0 rfl (lv_at hl 0 rfl) ?_
  refine lv_iload_n hx hb dX5_sum_1 rfl (lv_at hl 1 rfl) ?_
  obtain ⟨hPc, hDc, hFc⟩ := zc3 (wc := [(h0, .inr (5, [.ref lS, .int sz5, .ref tp])), (lS, .inl (cI, 241, .inl fS)), (tp, .inr (9, [.ref tB, .int tl, .int ta])), (tB, .inl (cI, 260, .inl fB))]) hP hD hS hA [0, 1, 2, 3] (by decide +kernel) rfl
  refine va_calli (va_runV (As := [.int p0]) (rest := []) ⟨hx, hb, hml, hown, hts⟩ (ihA dC dI cI cJ h0 p0 lS sz5 tp fS tB tl ta fB H.size n_p0 n_sz5 n_ta n_tl (hty) (by omega) (by omega) ci_fS_zSt) (cwV 1 hts (zgV qw490 qw492 qw4 qw101 qw493) rfl rfl rfl hd_X5_atom ⟨by (try dsimp only) <;> omega, by (try dsimp only) <;> omega⟩) (zPWV hPc hK hDc (va_recv (q := (RX5, TX5, 3)) hK hP (ci := 5) (q0 := 0) rfl rfl) (zV_call hV hS hFc)) rfl rfl hl.1 rfl (lv_room (Nat.le_of_ble_eq_true rfl)) dX5_sum_2 ⟨Nat.zero_le _, Nat.zero_le _⟩) hS (fun q _ h => hFc q h) hFc (fun v2 u2 t H locs ht hvm hw hB hz1 hk1 hS9 => ?_)
  obtain ⟨u2_0, u2_1, u2_2⟩ := u2
  obtain ⟨hP9, hD9⟩ := zj2 (wX := [(h0, .inr (5, [.ref lS, .int u2_0, .ref tp])), (lS, .inl (cI, 241, .inl u2_1)), (tp, .inr (9, [.ref tB, .int tl, .int u2_2])), (tB, .inl (cI, 260, .inl fB))]) hP hD hk1 hFc ht hB [0, 1, 2, 3] [(true, 0), (true, 1), (true, 2), (true, 3)] rfl (by decide +kernel) (by decide +kernel) rfl
  clear hP hD hS hPc hDc hFc hB hk1 hz1 hvm
  have hP := hP9
  have hD := hD9
  have hS := hS9
  clear hP9 hD9 hS9
  obtain ⟨f2_0, f2_1, f2_2, f2_3, f2_4, f2_5, f2_6, f2_7, f2_8, f2_9, f2_10⟩ : (0 ≤ v2.toInt) ∧ (v2.toInt ≤ 1) ∧ (0 ≤ u2_0.toInt) ∧ (u2_0.toInt ≤ 241) ∧ (0 ≤ u2_2.toInt) ∧ (u2_2.toInt ≤ 240) ∧ (zF (sAtm (sB fB tl.toInt) tl.toInt K ta.toInt) v2 u2_2) ∧ (¬ v2.toInt = 0 → ta.toInt < u2_2.toInt) ∧ (¬ v2.toInt = 0 → u2_0.toInt + ta.toInt ≤ sz5.toInt + u2_2.toInt) ∧ (¬ v2.toInt = 0 → zEm fS sz5 (eAtm (sB fB tl.toInt) tl.toInt K ta.toInt) u2_1 u2_0) ∧ (zSt u2_1) := hw
  have F2 := f2_6
  have F2_1 := f2_9
  refine lv_if_ne (tgt := 10) hx hb dX5_sum_5 (by decide) (fun c5 => ?_) (fun c5 => ?_)
  · have c5 : ¬ v2.toInt = 0 := z6 rfl (by decide) c5
    refine lv_iconst (v := 0) hx hb dX5_sum_10 (by decide) ?_
    refine lv_istore_n (lv' := [(2, .int 0), (0, .ref h0), (1, .int p0)]) hx hb dX5_sum_11 rfl hl (by decide) rfl (fun ls hl => ?_)
    refine lv_aload_n hx hb dX5_sum_12 rfl (lv_at hl 1 rfl) ?_
    refine va_get (D := (dC, dI)) (ci := 5) (v := .ref tp) (C := RX5) (T := TX5) (N := 3) hx hb hts iX5 hown hK hP 0 rfl rfl 2 (by decide) (hts _ qw172) (fun _ h9 => h9) rfl dX5_sum_13 ?_
    obtain ⟨hPc, hDc, hFc⟩ := zc3 (wc := [(tp, .inr (9, [.ref tB, .int tl, .int u2_2])), (tB, .inl (cI, 260, .inl fB))]) hP hD hS hA [2, 3] (by decide +kernel) rfl
    refine va_calli (va_runV (As := []) (rest := []) ⟨hx, hb, hml, hown, hts⟩ (g_X9_peek l dC dI cI cJ tp tB tl u2_2 fB H.size ⟨f2_4, f2_5⟩ n_tl (hty)) (cwV 0 hts (zgV qw485 qw438 qw439 qw99 qw440) rfl rfl rfl hd_X9_peek ⟨by (try dsimp only) <;> omega, by (try dsimp only) <;> omega⟩) (zPV hPc hK hDc (va_recv (q := (RX9, TX9, 3)) hK hP (ci := 9) (q0 := 2) rfl rfl)) rfl rfl hl.1 rfl (lv_room (Nat.le_of_ble_eq_true rfl)) dX5_sum_16 ⟨Nat.zero_le _, Nat.zero_le _⟩) hS (fun q _ h => hFc q h) hFc (fun v16 u16 t H locs ht hvm hw hB hz1 hk1 hS9 => ?_)
    obtain ⟨u16_0, rfl⟩ : ∃ z, z = u16 := ⟨_, rfl⟩
    obtain ⟨hP9, hD9⟩ := zj2 (wX := [(h0, .inr (5, [.ref lS, .int u2_0, .ref tp])), (lS, .inl (cI, 241, .inl u2_1)), (tp, .inr (9, [.ref tB, .int tl, .int u16_0])), (tB, .inl (cI, 260, .inl fB))]) hP hD hk1 hFc ht hB [2, 3] [(false, 0), (false, 1), (true, 0), (true, 1)] rfl (by decide +kernel) (by decide +kernel) rfl
    clear hP hD hS hPc hDc hFc hB hk1 hz1 hvm
    have hP := hP9
    have hD := hD9
    have hS := hS9
    clear hP9 hD9 hS9
    obtain ⟨f16_0, f16_1, f16_2, f16_3, f16_4⟩ : (0 ≤ u16_0.toInt) ∧ (u16_0.toInt ≤ 240) ∧ (¬ v16.toInt = 0 → u16_0.toInt < tl.toInt) ∧ (u2_2.toInt ≤ u16_0.toInt) ∧ (zPK fB tl u2_2 v16 u16_0) := hw
    have F16 := f16_4
    refine lv_istore_n (lv' := [(3, .int v16), (2, .int 0), (0, .ref h0), (1, .int p0)]) hx hb dX5_sum_19 rfl hl (by decide) rfl (fun ls hl => ?_)
    refine lv_iconst (v := 0) hx hb dX5_sum_20 (by decide) ?_
    have J23 : ∀ (n : Nat) (m23_A_lS : Nat → Int32) (m23_F_h0_1 : Int32) (m23_F_tp_2 : Int32) (m23_L_2 : Int32) (m23_L_3 : Int32) (m23_L_4 : Int32), (0 ≤ m23_F_h0_1.toInt ∧ m23_F_h0_1.toInt ≤ 241) → (0 ≤ m23_F_tp_2.toInt ∧ m23_F_tp_2.toInt ≤ 240) → (0 ≤ m23_L_2.toInt ∧ m23_L_2.toInt ≤ 46) → (0 ≤ m23_L_4.toInt ∧ m23_L_4.toInt ≤ 240) → (¬ m23_L_3.toInt = 0 → m23_F_tp_2.toInt < tl.toInt) → (m23_L_4.toInt ≤ m23_F_tp_2.toInt) → (sSum (sB fB tl.toInt) tl.toInt K ta.toInt = sLp (sB fB tl.toInt) tl.toInt oA (sAtm (sB fB tl.toInt) tl.toInt K) m23_F_tp_2.toInt) → (zSg fB tl m23_F_tp_2 m23_L_3) → (m23_F_h0_1.toInt + ta.toInt ≤ sz5.toInt + m23_F_tp_2.toInt) → (¬ m23_L_2.toInt = 0 → m23_F_h0_1.toInt + 1 + ta.toInt ≤ sz5.toInt + m23_F_tp_2.toInt) → (zSe fB tl oA oM (sAtm (sB fB tl.toInt) tl.toInt K) (eAtm (sB fB tl.toInt) tl.toInt K) (eSum (sB fB tl.toInt) tl.toInt K ta.toInt) fS sz5 m23_A_lS m23_F_h0_1 m23_L_2.toInt m23_F_tp_2) → (zSt m23_A_lS) → (241 - m23_L_4.toInt).toNat = n → ∀ (H : Heap) (locs : List Loc) (ls : Array Slot), va_P (dC, dI) vwCl [(h0, .inr (5, [.ref lS, .int m23_F_h0_1, .ref tp])), (lS, .inl (cI, 241, .inl m23_A_lS)), (tp, .inr (9, [.ref tB, .int tl, .int m23_F_tp_2])), (tB, .inl (cI, 260, .inl fB))] H → va_D A [(h0, .inr (5, [.ref lS, .int m23_F_h0_1, .ref tp])), (lS, .inl (cI, 241, .inl m23_A_lS)), (tp, .inr (9, [.ref tB, .int tl, .int m23_F_tp_2])), (tB, .inl (cI, 260, .inl fB))] → va_S A s.heap H locs → lv_has ls 6 [(4, .int m23_L_4), (3, .int m23_L_3), (2, .int m23_L_2), (0, .ref h0), (1, .int p0)] → W p l e R s m args below meth c H locs 0 0 Q (F0 m 23 ls []) := by
      intro n23
      induction n23 using Nat.strongRecOn with
      | _ n23 ih23 =>
        intro m23_A_lS m23_F_h0_1 m23_F_tp_2 m23_L_2 m23_L_3 m23_L_4 jf23_0 jf23_1 jf23_2 jf23_3 jf23_4 jf23_5 jv23_0 jv23_1 jf23_8 jf23_9 jv23_2 jf23_11 hmu23 H locs ls hP hD hS hl
        refine lv_iload hx hb dX5_sum_23 (lv_at hl 0 rfl) ?_
        refine lv_aload_n hx hb dX5_sum_25 rfl (lv_at hl 3 rfl) ?_
        refine va_get (D := (dC, dI)) (ci := 5) (v := .ref tp) (C := RX5) (T := TX5) (N := 3) hx hb hts iX5 hown hK hP 0 rfl rfl 2 (by decide) (hts _ qw172) (fun _ h9 => h9) rfl dX5_sum_26 ?_
        refine va_get (D := (dC, dI)) (ci := 9) (v := .int tl) (C := RX9) (T := TX9) (N := 3) hx hb hts iX9 hown hK hP 2 rfl rfl 1 (by decide) (hts _ qw135) (fun _ h9 => h9) rfl dX5_sum_29 ?_
        have J129 : (sSum (sB fB tl.toInt) tl.toInt K ta.toInt = (1, m23_F_tp_2.toInt)) → (∀ (g : Nat → Int32) (s : Int32), zEm m23_A_lS m23_F_h0_1 (eW m23_L_2.toInt) g s → zEm fS sz5 (eSum (sB fB tl.toInt) tl.toInt K ta.toInt) g s) → ∀ (H : Heap) (locs : List Loc) (ls : Array Slot), va_P (dC, dI) vwCl [(h0, .inr (5, [.ref lS, .int m23_F_h0_1, .ref tp])), (lS, .inl (cI, 241, .inl m23_A_lS)), (tp, .inr (9, [.ref tB, .int tl, .int m23_F_tp_2])), (tB, .inl (cI, 260, .inl fB))] H → va_D A [(h0, .inr (5, [.ref lS, .int m23_F_h0_1, .ref tp])), (lS, .inl (cI, 241, .inl m23_A_lS)), (tp, .inr (9, [.ref tB, .int tl, .int m23_F_tp_2])), (tB, .inl (cI, 260, .inl fB))] → va_S A s.heap H locs → lv_has ls 6 [(4, .int m23_L_4), (3, .int m23_L_3), (2, .int m23_L_2), (0, .ref h0), (1, .int p0)] → W p l e R s m args below meth c H locs 0 0 Q (F0 m 129 ls []) := by
          intro  jv129_0 jv129_1 H locs ls hP hD hS hl
          refine lv_iload_n hx hb dX5_sum_129 rfl (lv_at hl 2 rfl) ?_
          refine lv_if_eq (tgt := 139) hx hb dX5_sum_130 (by decide) (fun c130 => ?_) (fun c130 => ?_)
          · have c130 : m23_L_2.toInt = 0 := z5 rfl (by decide) c130
            refine lv_iconst (v := 1) hx hb dX5_sum_139 (by decide) ?_
            have zr0 : (1 : Int32).toInt = 1 := by decide
            rw [hQ]
            exact W.zret (v := 1) (ty := .boolean) hx hb hr rfl (fun t ht hW => ⟨⟨1, (m23_F_h0_1, m23_A_lS, m23_F_tp_2), rfl, ⟨by (try dsimp only); omega, by (try dsimp only); omega, by (try dsimp only); omega, by (try dsimp only); omega, by (try dsimp only); omega, by (try dsimp only); omega, zF1 (jv129_0), (fun _ => zFm (x := sSum (sB fB tl.toInt) tl.toInt K) (sSum_mono (sB fB tl.toInt) tl.toInt K) (zF1 (jv129_0))), by (try dsimp only); omega, (fun _ => jv129_1 _ _ (eW_0 (by omega))), jf23_11⟩, ⟨by rw [ht]; exact hP, hD⟩⟩, hS.F ht⟩) hS.2.2 dX5_sum_140
          · have c130 : ¬ m23_L_2.toInt = 0 := z6 rfl (by decide) c130
            refine lv_aload_n hx hb dX5_sum_133 rfl (lv_at hl 3 rfl) ?_
            refine lv_iload_n hx hb dX5_sum_134 rfl (lv_at hl 2 rfl) ?_
            refine lv_iconst (v := 0) hx hb dX5_sum_135 (by decide) ?_
            obtain ⟨hPc, hDc, hFc⟩ := zc3 (wc := [(h0, .inr (5, [.ref lS, .int m23_F_h0_1, .ref tp])), (lS, .inl (cI, 241, .inl m23_A_lS))]) hP hD hS hA [0, 1] (by decide +kernel) rfl
            refine va_callv (va_runV (As := [.int m23_L_2, .int 0]) (rest := []) ⟨hx, hb, hml, hown, hts⟩ (g_X5_put_0 l dC dI cI cJ h0 m23_L_2 lS m23_F_h0_1 tp m23_A_lS H.size (by omega) jf23_0 jf23_11) (cwV 2 hts (zgV qw496 qw498 qw5 qw101 qw499) rfl rfl rfl hd_X5_put ⟨by (try dsimp only) <;> omega, by (try dsimp only) <;> omega⟩) (zPV hPc hK hDc (va_recv (q := (RX5, TX5, 3)) hK hP (ci := 5) (q0 := 0) rfl rfl)) rfl rfl hl.1 rfl (lv_room (Nat.le_of_ble_eq_true rfl)) dX5_sum_136 ⟨Nat.zero_le _, Nat.zero_le _⟩) hS (fun q _ h => hFc q h) hFc (fun u136 t H locs ht hvm hw hB hz1 hk1 hS9 => ?_)
            obtain ⟨u136_0, u136_1⟩ := u136
            obtain ⟨hP9, hD9⟩ := zj2 (wX := [(h0, .inr (5, [.ref lS, .int u136_0, .ref tp])), (lS, .inl (cI, 241, .inl u136_1)), (tp, .inr (9, [.ref tB, .int tl, .int m23_F_tp_2])), (tB, .inl (cI, 260, .inl fB))]) hP hD hk1 hFc ht hB [0, 1] [(true, 0), (true, 1), (false, 2), (false, 3)] rfl (by decide +kernel) (by decide +kernel) rfl
            clear hP hD hS hPc hDc hFc hB hk1 hz1 hvm
            have hP := hP9
            have hD := hD9
            have hS := hS9
            clear hP9 hD9 hS9
            obtain ⟨f136_0, f136_1, f136_2, f136_3, f136_4⟩ : (1 ≤ u136_0.toInt) ∧ (u136_0.toInt ≤ 241) ∧ (u136_0.toInt ≤ m23_F_h0_1.toInt + 1 ∧ m23_F_h0_1.toInt ≤ u136_0.toInt) ∧ (m23_F_h0_1.toInt < 241 → zEm m23_A_lS m23_F_h0_1 [(m23_L_2.toInt, 0)] u136_1 u136_0) ∧ (zSt u136_1) := hw
            have F136 := f136_3
            refine lv_iconst (v := 1) hx hb dX5_sum_139 (by decide) ?_
            have zr0 : (1 : Int32).toInt = 1 := by decide
            rw [hQ]
            exact W.zret (v := 1) (ty := .boolean) hx hb hr rfl (fun t ht hW => ⟨⟨1, (u136_0, u136_1, m23_F_tp_2), rfl, ⟨by (try dsimp only); omega, by (try dsimp only); omega, by (try dsimp only); omega, by (try dsimp only); omega, by (try dsimp only); omega, by (try dsimp only); omega, zF1 (jv129_0), (fun _ => zFm (x := sSum (sB fB tl.toInt) tl.toInt K) (sSum_mono (sB fB tl.toInt) tl.toInt K) (zF1 (jv129_0))), by (try dsimp only); omega, (fun _ => jv129_1 _ _ (eW_1 (by omega) rfl (F136 (by omega)))), f136_4⟩, ⟨by rw [ht]; exact hP, hD⟩⟩, hS.F ht⟩) hS.2.2 dX5_sum_140
        refine lv_icmp_ge (tgt := 129) hx hb dX5_sum_32 (by decide) (fun c32 => ?_) (fun c32 => ?_)
        · have c32 : tl.toInt ≤ m23_L_4.toInt := z3 rfl rfl c32
          exact J129  (by first | exact fl_n jv23_0 jv23_1 (zIs_f F36 (by omega)) | exact fl_e jv23_0 (by omega)) (by first | exact fun g s hb => fse_e jv23_2 (Or.inr ⟨jv23_1, zIs_f F36 (by omega)⟩) hb (by omega) | exact fun g s hb => fse_e (t := m23_L_3) jv23_2 (Or.inl (by omega)) hb (by omega)) H locs ls hP hD hS (lv_sub hl [0, 1, 2, 3, 4] rfl)
        · have c32 : m23_L_4.toInt < tl.toInt := z4 rfl rfl c32
          refine lv_iload_n hx hb dX5_sum_35 rfl (lv_at hl 1 rfl) ?_
          have hPc : va_P (dC, dI) vwCl [] H := zP0
          have hDc : va_D (fun _ => True) [] := zD0
          have hFc := zfr hS hA
          refine va_calli (va_runS (As := [.int m23_L_3]) (rest := []) ⟨hx, hb, hml, hown, hts⟩ (g_X5_isArithmetic l dC dI cI cJ m23_L_3 H.size) (cwS 1 hts (zgS qw501 qw502 qw101 qw503) rfl rfl rfl hd_X5_isArithmetic ⟨by (try dsimp only) <;> omega, by (try dsimp only) <;> omega⟩) (zPS hPc hK hDc) rfl rfl hl.1 rfl (lv_room (Nat.le_of_ble_eq_true rfl)) dX5_sum_36 ⟨Nat.zero_le _, Nat.zero_le _⟩) hS (fun q _ h => hFc q h) hFc (fun v36 u36 t H locs ht hvm hw hB hz1 hk1 hS9 => ?_)
          replace hP := zkeep hP hk1
          replace hS := hS9
          clear hPc hDc hFc hk1 hz1 hvm hS9
          obtain ⟨f36_0, f36_1, f36_2, f36_3⟩ : (0 ≤ v36.toInt) ∧ (v36.toInt ≤ 1) ∧ (¬ v36.toInt = 0 → (42 ≤ m23_L_3.toInt ∧ m23_L_3.toInt ≤ 47)) ∧ (zIs (oA m23_L_3.toInt) v36) := hw
          have F36 := f36_3
          refine lv_if_eq (tgt := 129) hx hb dX5_sum_39 (by decide) (fun c39 => ?_) (fun c39 => ?_)
          · have c39 : v36.toInt = 0 := z5 rfl (by decide) c39
            exact J129  (by first | exact fl_n jv23_0 jv23_1 (zIs_f F36 (by omega)) | exact fl_e jv23_0 (by omega)) (by first | exact fun g s hb => fse_e jv23_2 (Or.inr ⟨jv23_1, zIs_f F36 (by omega)⟩) hb (by omega) | exact fun g s hb => fse_e (t := m23_L_3) jv23_2 (Or.inl (by omega)) hb (by omega)) H locs ls hP hD hS (lv_sub hl [0, 1, 2, 3, 4] rfl)
          · have c39 : ¬ v36.toInt = 0 := z6 rfl (by decide) c39
            refine lv_iload_n hx hb dX5_sum_42 rfl (lv_at hl 1 rfl) ?_
            refine lv_bipush (v := 42) hx hb dX5_sum_43 (by decide) ?_
            refine lv_icmp_eq (tgt := 54) hx hb dX5_sum_45 (by decide) (fun c45 => ?_) (fun c45 => ?_)
            · have c45 : m23_L_3.toInt = 42 := z5 rfl (by decide) c45
              refine lv_iconst (v := 1) hx hb dX5_sum_54 (by decide) ?_
              refine lv_goto (tgt := 59) hx hb dX5_sum_55 (by decide) ?_
              refine lv_istore (lv' := [(5, .int 1), (4, .int m23_L_4), (3, .int m23_L_3), (2, .int m23_L_2), (0, .ref h0), (1, .int p0)]) hx hb dX5_sum_59 hl (by decide) rfl (fun ls hl => ?_)
              refine lv_iload hx hb dX5_sum_61 (lv_at hl 0 rfl) ?_
              refine lv_if_ne (tgt := 76) hx hb dX5_sum_63 (by decide) (fun _ => ?_) (fun c => absurd c (by decide))
              refine lv_aload_n hx hb dX5_sum_76 rfl (lv_at hl 4 rfl) ?_
              refine va_get (D := (dC, dI)) (ci := 5) (v := .ref tp) (C := RX5) (T := TX5) (N := 3) hx hb hts iX5 hown hK hP 0 rfl rfl 2 (by decide) (hts _ qw172) (fun _ h9 => h9) rfl dX5_sum_77 ?_
              refine lv_dup hx hb dX5_sum_80 rfl ?_
              refine va_get (D := (dC, dI)) (ci := 9) (v := .int m23_F_tp_2) (C := RX9) (T := TX9) (N := 3) hx hb hts iX9 hown hK hP 2 rfl rfl 2 (by decide) (hts _ qw137) (fun _ h9 => h9) rfl dX5_sum_81 ?_
              refine lv_iconst (v := 1) hx hb dX5_sum_84 (by decide) ?_
              refine lv_iadd hx hb dX5_sum_85 ?_
              refine lv_topi (fun v85 e85 => ?_)
              have i85 : v85.toInt = m23_F_tp_2.toInt + 1 := zadd e85 rfl (by decide) (by omega) (by omega)
              refine va_put (D := (dC, dI)) (ci := 9) (v := .int v85) (ty := .int) (C := RX9) (T := TX9) (N := 3) hx hb hts iX9 tyX9 tyX9_ok nmX9 hown hK hP hD hS 2 rfl rfl 2 (by decide) (hts _ qw137) (fun _ h9 => h9) rfl (by decide +kernel) rfl rfl (Nat.le_of_ble_eq_true rfl) dX5_sum_86 (fun H locs hP9 hD9 hS9 => ?_)
              clear hP hD hS
              obtain ⟨hP, hD⟩ := zst (wX := [(h0, .inr (5, [.ref lS, .int m23_F_h0_1, .ref tp])), (lS, .inl (cI, 241, .inl m23_A_lS)), (tp, .inr (9, [.ref tB, .int tl, .int v85])), (tB, .inl (cI, 260, .inl fB))]) hP9 hD9 rfl
              have hS := hS9
              clear hP9 hD9 hS9
              refine lv_aload_n hx hb dX5_sum_89 rfl (lv_at hl 4 rfl) ?_
              refine lv_iload_n hx hb dX5_sum_90 rfl (lv_at hl 5 rfl) ?_
              obtain ⟨hPc, hDc, hFc⟩ := zc3 (wc := [(h0, .inr (5, [.ref lS, .int m23_F_h0_1, .ref tp])), (lS, .inl (cI, 241, .inl m23_A_lS)), (tp, .inr (9, [.ref tB, .int tl, .int v85])), (tB, .inl (cI, 260, .inl fB))]) hP hD hS hA [0, 1, 2, 3] (by decide +kernel) rfl
              refine va_calli (va_runV (As := [.int p0]) (rest := []) ⟨hx, hb, hml, hown, hts⟩ (ihA dC dI cI cJ h0 p0 lS m23_F_h0_1 tp m23_A_lS tB tl v85 fB H.size n_p0 jf23_0 (by omega) n_tl (hty) (by omega) (by omega) jf23_11) (cwV 1 hts (zgV qw490 qw492 qw4 qw101 qw493) rfl rfl rfl hd_X5_atom ⟨by (try dsimp only) <;> omega, by (try dsimp only) <;> omega⟩) (zPWV hPc hK hDc (va_recv (q := (RX5, TX5, 3)) hK hP (ci := 5) (q0 := 0) rfl rfl) (zV_call hV hS hFc)) rfl rfl hl.1 rfl (lv_room (Nat.le_of_ble_eq_true rfl)) dX5_sum_91 ⟨Nat.zero_le _, Nat.zero_le _⟩) hS (fun q _ h => hFc q h) hFc (fun v91 u91 t H locs ht hvm hw hB hz1 hk1 hS9 => ?_)
              obtain ⟨u91_0, u91_1, u91_2⟩ := u91
              obtain ⟨hP9, hD9⟩ := zj2 (wX := [(h0, .inr (5, [.ref lS, .int u91_0, .ref tp])), (lS, .inl (cI, 241, .inl u91_1)), (tp, .inr (9, [.ref tB, .int tl, .int u91_2])), (tB, .inl (cI, 260, .inl fB))]) hP hD hk1 hFc ht hB [0, 1, 2, 3] [(true, 0), (true, 1), (true, 2), (true, 3)] rfl (by decide +kernel) (by decide +kernel) rfl
              clear hP hD hS hPc hDc hFc hB hk1 hz1 hvm
              have hP := hP9
              have hD := hD9
              have hS := hS9
              clear hP9 hD9 hS9
              obtain ⟨f91_0, f91_1, f91_2, f91_3, f91_4, f91_5, f91_6, f91_7, f91_8, f91_9, f91_10⟩ : (0 ≤ v91.toInt) ∧ (v91.toInt ≤ 1) ∧ (0 ≤ u91_0.toInt) ∧ (u91_0.toInt ≤ 241) ∧ (0 ≤ u91_2.toInt) ∧ (u91_2.toInt ≤ 240) ∧ (zF (sAtm (sB fB tl.toInt) tl.toInt K v85.toInt) v91 u91_2) ∧ (¬ v91.toInt = 0 → v85.toInt < u91_2.toInt) ∧ (¬ v91.toInt = 0 → u91_0.toInt + v85.toInt ≤ m23_F_h0_1.toInt + u91_2.toInt) ∧ (¬ v91.toInt = 0 → zEm m23_A_lS m23_F_h0_1 (eAtm (sB fB tl.toInt) tl.toInt K v85.toInt) u91_1 u91_0) ∧ (zSt u91_1) := hw
              have F91 := f91_6
              have F91_1 := f91_9
              refine lv_if_ne (tgt := 99) hx hb dX5_sum_94 (by decide) (fun c94 => ?_) (fun c94 => ?_)
              · have c94 : ¬ v91.toInt = 0 := z6 rfl (by decide) c94
                refine lv_iload hx hb dX5_sum_99 (lv_at hl 0 rfl) ?_
                refine lv_if_eq (tgt := 113) hx hb dX5_sum_101 (by decide) (fun c => absurd c (by decide)) (fun _ => ?_)
                refine lv_aload_n hx hb dX5_sum_104 rfl (lv_at hl 4 rfl) ?_
                refine lv_iload_n hx hb dX5_sum_105 rfl (lv_at hl 2 rfl) ?_
                refine lv_iconst (v := 0) hx hb dX5_sum_106 (by decide) ?_
                obtain ⟨hPc, hDc, hFc⟩ := zc3 (wc := [(h0, .inr (5, [.ref lS, .int u91_0, .ref tp])), (lS, .inl (cI, 241, .inl u91_1))]) hP hD hS hA [0, 1] (by decide +kernel) rfl
                refine va_callv (va_runV (As := [.int m23_L_3, .int 0]) (rest := []) ⟨hx, hb, hml, hown, hts⟩ (g_X5_put_0 l dC dI cI cJ h0 m23_L_3 lS u91_0 tp u91_1 H.size (by omega) ⟨f91_2, f91_3⟩ f91_10) (cwV 2 hts (zgV qw496 qw498 qw5 qw101 qw499) rfl rfl rfl hd_X5_put ⟨by (try dsimp only) <;> omega, by (try dsimp only) <;> omega⟩) (zPV hPc hK hDc (va_recv (q := (RX5, TX5, 3)) hK hP (ci := 5) (q0 := 0) rfl rfl)) rfl rfl hl.1 rfl (lv_room (Nat.le_of_ble_eq_true rfl)) dX5_sum_107 ⟨Nat.zero_le _, Nat.zero_le _⟩) hS (fun q _ h => hFc q h) hFc (fun u107 t H locs ht hvm hw hB hz1 hk1 hS9 => ?_)
                obtain ⟨u107_0, u107_1⟩ := u107
                obtain ⟨hP9, hD9⟩ := zj2 (wX := [(h0, .inr (5, [.ref lS, .int u107_0, .ref tp])), (lS, .inl (cI, 241, .inl u107_1)), (tp, .inr (9, [.ref tB, .int tl, .int u91_2])), (tB, .inl (cI, 260, .inl fB))]) hP hD hk1 hFc ht hB [0, 1] [(true, 0), (true, 1), (false, 2), (false, 3)] rfl (by decide +kernel) (by decide +kernel) rfl
                clear hP hD hS hPc hDc hFc hB hk1 hz1 hvm
                have hP := hP9
                have hD := hD9
                have hS := hS9
                clear hP9 hD9 hS9
                obtain ⟨f107_0, f107_1, f107_2, f107_3, f107_4⟩ : (1 ≤ u107_0.toInt) ∧ (u107_0.toInt ≤ 241) ∧ (u107_0.toInt ≤ u91_0.toInt + 1 ∧ u91_0.toInt ≤ u107_0.toInt) ∧ (u91_0.toInt < 241 → zEm u91_1 u91_0 [(m23_L_3.toInt, 0)] u107_1 u107_0) ∧ (zSt u107_1) := hw
                have F107 := f107_3
                refine lv_goto (tgt := 115) hx hb dX5_sum_110 (by decide) ?_
                refine lv_aload_n hx hb dX5_sum_115 rfl (lv_at hl 4 rfl) ?_
                refine va_get (D := (dC, dI)) (ci := 5) (v := .ref tp) (C := RX5) (T := TX5) (N := 3) hx hb hts iX5 hown hK hP 0 rfl rfl 2 (by decide) (hts _ qw172) (fun _ h9 => h9) rfl dX5_sum_116 ?_
                obtain ⟨hPc, hDc, hFc⟩ := zc3 (wc := [(tp, .inr (9, [.ref tB, .int tl, .int u91_2])), (tB, .inl (cI, 260, .inl fB))]) hP hD hS hA [2, 3] (by decide +kernel) rfl
                refine va_calli (va_runV (As := []) (rest := []) ⟨hx, hb, hml, hown, hts⟩ (g_X9_peek l dC dI cI cJ tp tB tl u91_2 fB H.size ⟨f91_4, f91_5⟩ n_tl (hty)) (cwV 0 hts (zgV qw485 qw438 qw439 qw99 qw440) rfl rfl rfl hd_X9_peek ⟨by (try dsimp only) <;> omega, by (try dsimp only) <;> omega⟩) (zPV hPc hK hDc (va_recv (q := (RX9, TX9, 3)) hK hP (ci := 9) (q0 := 2) rfl rfl)) rfl rfl hl.1 rfl (lv_room (Nat.le_of_ble_eq_true rfl)) dX5_sum_119 ⟨Nat.zero_le _, Nat.zero_le _⟩) hS (fun q _ h => hFc q h) hFc (fun v119 u119 t H locs ht hvm hw hB hz1 hk1 hS9 => ?_)
                obtain ⟨u119_0, rfl⟩ : ∃ z, z = u119 := ⟨_, rfl⟩
                obtain ⟨hP9, hD9⟩ := zj2 (wX := [(h0, .inr (5, [.ref lS, .int u107_0, .ref tp])), (lS, .inl (cI, 241, .inl u107_1)), (tp, .inr (9, [.ref tB, .int tl, .int u119_0])), (tB, .inl (cI, 260, .inl fB))]) hP hD hk1 hFc ht hB [2, 3] [(false, 0), (false, 1), (true, 0), (true, 1)] rfl (by decide +kernel) (by decide +kernel) rfl
                clear hP hD hS hPc hDc hFc hB hk1 hz1 hvm
                have hP := hP9
                have hD := hD9
                have hS := hS9
                clear hP9 hD9 hS9
                obtain ⟨f119_0, f119_1, f119_2, f119_3, f119_4⟩ : (0 ≤ u119_0.toInt) ∧ (u119_0.toInt ≤ 240) ∧ (¬ v119.toInt = 0 → u119_0.toInt < tl.toInt) ∧ (u91_2.toInt ≤ u119_0.toInt) ∧ (zPK fB tl u91_2 v119 u119_0) := hw
                have F119 := f119_4
                refine lv_istore_n (lv' := [(3, .int v119), (5, .int 1), (4, .int m23_L_4), (2, .int m23_L_2), (0, .ref h0), (1, .int p0)]) hx hb dX5_sum_122 rfl hl (by decide) rfl (fun ls hl => ?_)
                obtain ⟨v123, e123⟩ : ∃ y : Int32, y = m23_L_4 + Int32.ofInt (1) := ⟨_, rfl⟩
                refine lv_iinc (v := v123) (lv' := [(4, .int v123), (3, .int v119), (5, .int 1), (2, .int m23_L_2), (0, .ref h0), (1, .int p0)]) hx hb dX5_sum_123 hl (k := 2) rfl e123.symm (by decide) rfl (fun ls hl => ?_)
                have i123 : v123.toInt = m23_L_4.toInt + 1 := zaddI e123 (by decide) (by omega) (by omega)
                refine lv_goto (tgt := 23) hx hb dX5_sum_126 (by decide) ?_
                exact ih23 _ (by omega) u107_1 u107_0 u119_0 m23_L_2 v119 v123 (by omega) ⟨f119_0, f119_1⟩ jf23_2 (by omega) (by omega) (by omega) (fl_s jv23_0 jv23_1 (zIs_t F36 (by omega)) (by decide) i85 F91 (by omega) (by omega) F119) (F119.2) (by omega) (by omega) (by first | exact fse_y jv23_2 jv23_1 (zIs_t F36 (by omega)) (by decide) i85 F91 (by omega) (by omega) F119 (oM_iff.mpr (by omega)) (F91_1 (by omega)) (F107 (by omega)) rfl (by omega) (by omega) | exact fse_n jv23_2 jv23_1 (zIs_t F36 (by omega)) (by decide) i85 F91 (by omega) (by omega) F119 (fun z => by have := oM_iff.mp z; omega) (eW_0 (by omega)) (F91_1 (by omega)) rfl (by omega) (by omega) | exact fse_n jv23_2 jv23_1 (zIs_t F36 (by omega)) (by decide) i85 F91 (by omega) (by omega) F119 (fun z => by have := oM_iff.mp z; omega) (eW_1 (by omega) rfl (F73 (by omega))) (F91_1 (by omega)) rfl (by omega) (by omega)) f107_4 rfl H locs ls hP hD hS (lv_sub hl [0, 1, 3, 4, 5] rfl)
              · have c94 : v91.toInt = 0 := z5 rfl (by decide) c94
                refine lv_iconst (v := 0) hx hb dX5_sum_97 (by decide) ?_
                have zr0 : (0 : Int32).toInt = 0 := by decide
                rw [hQ]
                exact W.zret (v := 0) (ty := .boolean) hx hb hr rfl (fun t ht hW => ⟨⟨0, (u91_0, u91_1, u91_2), rfl, ⟨by (try dsimp only); omega, by (try dsimp only); omega, by (try dsimp only); omega, by (try dsimp only); omega, by (try dsimp only); omega, by (try dsimp only); omega, zF0 (fl_x jv23_0 jv23_1 (zIs_t F36 (by omega)) (by decide) i85 F91 (by omega)), (fun z => absurd (by decide) z), by (try dsimp only); omega, (fun z => absurd (by decide) z), f91_10⟩, ⟨by rw [ht]; exact hP, hD⟩⟩, hS.F ht⟩) hS.2.2 dX5_sum_98
            · have c45 : ¬ m23_L_3.toInt = 42 := z6 rfl (by decide) c45
              refine lv_iload_n hx hb dX5_sum_48 rfl (lv_at hl 1 rfl) ?_
              refine lv_bipush (v := 47) hx hb dX5_sum_49 (by decide) ?_
              refine lv_icmp_ne (tgt := 58) hx hb dX5_sum_51 (by decide) (fun c51 => ?_) (fun c51 => ?_)
              · have c51 : ¬ m23_L_3.toInt = 47 := z6 rfl (by decide) c51
                refine lv_iconst (v := 0) hx hb dX5_sum_58 (by decide) ?_
                refine lv_istore (lv' := [(5, .int 0), (4, .int m23_L_4), (3, .int m23_L_3), (2, .int m23_L_2), (0, .ref h0), (1, .int p0)]) hx hb dX5_sum_59 hl (by decide) rfl (fun ls hl => ?_)
                refine lv_iload hx hb dX5_sum_61 (lv_at hl 0 rfl) ?_
                refine lv_if_ne (tgt := 76) hx hb dX5_sum_63 (by decide) (fun c => absurd (by decide) c) (fun _ => ?_)
                refine lv_iload_n hx hb dX5_sum_66 rfl (lv_at hl 3 rfl) ?_
                refine lv_if_eq (tgt := 76) hx hb dX5_sum_67 (by decide) (fun c67 => ?_) (fun c67 => ?_)
                · have c67 : m23_L_2.toInt = 0 := z5 rfl (by decide) c67
                  refine lv_aload_n hx hb dX5_sum_76 rfl (lv_at hl 4 rfl) ?_
                  refine va_get (D := (dC, dI)) (ci := 5) (v := .ref tp) (C := RX5) (T := TX5) (N := 3) hx hb hts iX5 hown hK hP 0 rfl rfl 2 (by decide) (hts _ qw172) (fun _ h9 => h9) rfl dX5_sum_77 ?_
                  refine lv_dup hx hb dX5_sum_80 rfl ?_
                  refine va_get (D := (dC, dI)) (ci := 9) (v := .int m23_F_tp_2) (C := RX9) (T := TX9) (N := 3) hx hb hts iX9 hown hK hP 2 rfl rfl 2 (by decide) (hts _ qw137) (fun _ h9 => h9) rfl dX5_sum_81 ?_
                  refine lv_iconst (v := 1) hx hb dX5_sum_84 (by decide) ?_
                  refine lv_iadd hx hb dX5_sum_85 ?_
                  refine lv_topi (fun v85 e85 => ?_)
                  have i85 : v85.toInt = m23_F_tp_2.toInt + 1 := zadd e85 rfl (by decide) (by omega) (by omega)
                  refine va_put (D := (dC, dI)) (ci := 9) (v := .int v85) (ty := .int) (C := RX9) (T := TX9) (N := 3) hx hb hts iX9 tyX9 tyX9_ok nmX9 hown hK hP hD hS 2 rfl rfl 2 (by decide) (hts _ qw137) (fun _ h9 => h9) rfl (by decide +kernel) rfl rfl (Nat.le_of_ble_eq_true rfl) dX5_sum_86 (fun H locs hP9 hD9 hS9 => ?_)
                  clear hP hD hS
                  obtain ⟨hP, hD⟩ := zst (wX := [(h0, .inr (5, [.ref lS, .int m23_F_h0_1, .ref tp])), (lS, .inl (cI, 241, .inl m23_A_lS)), (tp, .inr (9, [.ref tB, .int tl, .int v85])), (tB, .inl (cI, 260, .inl fB))]) hP9 hD9 rfl
                  have hS := hS9
                  clear hP9 hD9 hS9
                  refine lv_aload_n hx hb dX5_sum_89 rfl (lv_at hl 4 rfl) ?_
                  refine lv_iload_n hx hb dX5_sum_90 rfl (lv_at hl 5 rfl) ?_
                  obtain ⟨hPc, hDc, hFc⟩ := zc3 (wc := [(h0, .inr (5, [.ref lS, .int m23_F_h0_1, .ref tp])), (lS, .inl (cI, 241, .inl m23_A_lS)), (tp, .inr (9, [.ref tB, .int tl, .int v85])), (tB, .inl (cI, 260, .inl fB))]) hP hD hS hA [0, 1, 2, 3] (by decide +kernel) rfl
                  refine va_calli (va_runV (As := [.int p0]) (rest := []) ⟨hx, hb, hml, hown, hts⟩ (ihA dC dI cI cJ h0 p0 lS m23_F_h0_1 tp m23_A_lS tB tl v85 fB H.size n_p0 jf23_0 (by omega) n_tl (hty) (by omega) (by omega) jf23_11) (cwV 1 hts (zgV qw490 qw492 qw4 qw101 qw493) rfl rfl rfl hd_X5_atom ⟨by (try dsimp only) <;> omega, by (try dsimp only) <;> omega⟩) (zPWV hPc hK hDc (va_recv (q := (RX5, TX5, 3)) hK hP (ci := 5) (q0 := 0) rfl rfl) (zV_call hV hS hFc)) rfl rfl hl.1 rfl (lv_room (Nat.le_of_ble_eq_true rfl)) dX5_sum_91 ⟨Nat.zero_le _, Nat.zero_le _⟩) hS (fun q _ h => hFc q h) hFc (fun v91 u91 t H locs ht hvm hw hB hz1 hk1 hS9 => ?_)
                  obtain ⟨u91_0, u91_1, u91_2⟩ := u91
                  obtain ⟨hP9, hD9⟩ := zj2 (wX := [(h0, .inr (5, [.ref lS, .int u91_0, .ref tp])), (lS, .inl (cI, 241, .inl u91_1)), (tp, .inr (9, [.ref tB, .int tl, .int u91_2])), (tB, .inl (cI, 260, .inl fB))]) hP hD hk1 hFc ht hB [0, 1, 2, 3] [(true, 0), (true, 1), (true, 2), (true, 3)] rfl (by decide +kernel) (by decide +kernel) rfl
                  clear hP hD hS hPc hDc hFc hB hk1 hz1 hvm
                  have hP := hP9
                  have hD := hD9
                  have hS := hS9
                  clear hP9 hD9 hS9
                  obtain ⟨f91_0, f91_1, f91_2, f91_3, f91_4, f91_5, f91_6, f91_7, f91_8, f91_9, f91_10⟩ : (0 ≤ v91.toInt) ∧ (v91.toInt ≤ 1) ∧ (0 ≤ u91_0.toInt) ∧ (u91_0.toInt ≤ 241) ∧ (0 ≤ u91_2.toInt) ∧ (u91_2.toInt ≤ 240) ∧ (zF (sAtm (sB fB tl.toInt) tl.toInt K v85.toInt) v91 u91_2) ∧ (¬ v91.toInt = 0 → v85.toInt < u91_2.toInt) ∧ (¬ v91.toInt = 0 → u91_0.toInt + v85.toInt ≤ m23_F_h0_1.toInt + u91_2.toInt) ∧ (¬ v91.toInt = 0 → zEm m23_A_lS m23_F_h0_1 (eAtm (sB fB tl.toInt) tl.toInt K v85.toInt) u91_1 u91_0) ∧ (zSt u91_1) := hw
                  have F91 := f91_6
                  have F91_1 := f91_9
                  refine lv_if_ne (tgt := 99) hx hb dX5_sum_94 (by decide) (fun c94 => ?_) (fun c94 => ?_)
                  · have c94 : ¬ v91.toInt = 0 := z6 rfl (by decide) c94
                    refine lv_iload hx hb dX5_sum_99 (lv_at hl 0 rfl) ?_
                    refine lv_if_eq (tgt := 113) hx hb dX5_sum_101 (by decide) (fun _ => ?_) (fun c => absurd (by decide) c)
                    refine lv_iload_n hx hb dX5_sum_113 rfl (lv_at hl 2 rfl) ?_
                    refine lv_istore_n (lv' := [(2, .int m23_L_3), (5, .int 0), (4, .int m23_L_4), (3, .int m23_L_3), (0, .ref h0), (1, .int p0)]) hx hb dX5_sum_114 rfl hl (by decide) rfl (fun ls hl => ?_)
                    refine lv_aload_n hx hb dX5_sum_115 rfl (lv_at hl 4 rfl) ?_
                    refine va_get (D := (dC, dI)) (ci := 5) (v := .ref tp) (C := RX5) (T := TX5) (N := 3) hx hb hts iX5 hown hK hP 0 rfl rfl 2 (by decide) (hts _ qw172) (fun _ h9 => h9) rfl dX5_sum_116 ?_
                    obtain ⟨hPc, hDc, hFc⟩ := zc3 (wc := [(tp, .inr (9, [.ref tB, .int tl, .int u91_2])), (tB, .inl (cI, 260, .inl fB))]) hP hD hS hA [2, 3] (by decide +kernel) rfl
                    refine va_calli (va_runV (As := []) (rest := []) ⟨hx, hb, hml, hown, hts⟩ (g_X9_peek l dC dI cI cJ tp tB tl u91_2 fB H.size ⟨f91_4, f91_5⟩ n_tl (hty)) (cwV 0 hts (zgV qw485 qw438 qw439 qw99 qw440) rfl rfl rfl hd_X9_peek ⟨by (try dsimp only) <;> omega, by (try dsimp only) <;> omega⟩) (zPV hPc hK hDc (va_recv (q := (RX9, TX9, 3)) hK hP (ci := 9) (q0 := 2) rfl rfl)) rfl rfl hl.1 rfl (lv_room (Nat.le_of_ble_eq_true rfl)) dX5_sum_119 ⟨Nat.zero_le _, Nat.zero_le _⟩) hS (fun q _ h => hFc q h) hFc (fun v119 u119 t H locs ht hvm hw hB hz1 hk1 hS9 => ?_)
                    obtain ⟨u119_0, rfl⟩ : ∃ z, z = u119 := ⟨_, rfl⟩
                    obtain ⟨hP9, hD9⟩ := zj2 (wX := [(h0, .inr (5, [.ref lS, .int u91_0, .ref tp])), (lS, .inl (cI, 241, .inl u91_1)), (tp, .inr (9, [.ref tB, .int tl, .int u119_0])), (tB, .inl (cI, 260, .inl fB))]) hP hD hk1 hFc ht hB [2, 3] [(false, 0), (false, 1), (true, 0), (true, 1)] rfl (by decide +kernel) (by decide +kernel) rfl
                    clear hP hD hS hPc hDc hFc hB hk1 hz1 hvm
                    have hP := hP9
                    have hD := hD9
                    have hS := hS9
                    clear hP9 hD9 hS9
                    obtain ⟨f119_0, f119_1, f119_2, f119_3, f119_4⟩ : (0 ≤ u119_0.toInt) ∧ (u119_0.toInt ≤ 240) ∧ (¬ v119.toInt = 0 → u119_0.toInt < tl.toInt) ∧ (u91_2.toInt ≤ u119_0.toInt) ∧ (zPK fB tl u91_2 v119 u119_0) := hw
                    have F119 := f119_4
                    refine lv_istore_n (lv' := [(3, .int v119), (2, .int m23_L_3), (5, .int 0), (4, .int m23_L_4), (0, .ref h0), (1, .int p0)]) hx hb dX5_sum_122 rfl hl (by decide) rfl (fun ls hl => ?_)
                    obtain ⟨v123, e123⟩ : ∃ y : Int32, y = m23_L_4 + Int32.ofInt (1) := ⟨_, rfl⟩
                    refine lv_iinc (v := v123) (lv' := [(4, .int v123), (3, .int v119), (2, .int m23_L_3), (5, .int 0), (0, .ref h0), (1, .int p0)]) hx hb dX5_sum_123 hl (k := 3) rfl e123.symm (by decide) rfl (fun ls hl => ?_)
                    have i123 : v123.toInt = m23_L_4.toInt + 1 := zaddI e123 (by decide) (by omega) (by omega)
                    refine lv_goto (tgt := 23) hx hb dX5_sum_126 (by decide) ?_
                    exact ih23 _ (by omega) u91_1 u91_0 u119_0 m23_L_3 v119 v123 ⟨f91_2, f91_3⟩ ⟨f119_0, f119_1⟩ (by omega) (by omega) (by omega) (by omega) (fl_s jv23_0 jv23_1 (zIs_t F36 (by omega)) (by decide) i85 F91 (by omega) (by omega) F119) (F119.2) (by omega) (by omega) (by first | exact fse_y jv23_2 jv23_1 (zIs_t F36 (by omega)) (by decide) i85 F91 (by omega) (by omega) F119 (oM_iff.mpr (by omega)) (F91_1 (by omega)) (F107 (by omega)) rfl (by omega) (by omega) | exact fse_n jv23_2 jv23_1 (zIs_t F36 (by omega)) (by decide) i85 F91 (by omega) (by omega) F119 (fun z => by have := oM_iff.mp z; omega) (eW_0 (by omega)) (F91_1 (by omega)) rfl (by omega) (by omega) | exact fse_n jv23_2 jv23_1 (zIs_t F36 (by omega)) (by decide) i85 F91 (by omega) (by omega) F119 (fun z => by have := oM_iff.mp z; omega) (eW_1 (by omega) rfl (F73 (by omega))) (F91_1 (by omega)) rfl (by omega) (by omega)) f91_10 rfl H locs ls hP hD hS (lv_sub hl [0, 1, 2, 4, 5] rfl)
                  · have c94 : v91.toInt = 0 := z5 rfl (by decide) c94
                    refine lv_iconst (v := 0) hx hb dX5_sum_97 (by decide) ?_
                    have zr0 : (0 : Int32).toInt = 0 := by decide
                    rw [hQ]
                    exact W.zret (v := 0) (ty := .boolean) hx hb hr rfl (fun t ht hW => ⟨⟨0, (u91_0, u91_1, u91_2), rfl, ⟨by (try dsimp only); omega, by (try dsimp only); omega, by (try dsimp only); omega, by (try dsimp only); omega, by (try dsimp only); omega, by (try dsimp only); omega, zF0 (fl_x jv23_0 jv23_1 (zIs_t F36 (by omega)) (by decide) i85 F91 (by omega)), (fun z => absurd (by decide) z), by (try dsimp only); omega, (fun z => absurd (by decide) z), f91_10⟩, ⟨by rw [ht]; exact hP, hD⟩⟩, hS.F ht⟩) hS.2.2 dX5_sum_98
                · have c67 : ¬ m23_L_2.toInt = 0 := z6 rfl (by decide) c67
                  refine lv_aload_n hx hb dX5_sum_70 rfl (lv_at hl 4 rfl) ?_
                  refine lv_iload_n hx hb dX5_sum_71 rfl (lv_at hl 3 rfl) ?_
                  refine lv_iconst (v := 0) hx hb dX5_sum_72 (by decide) ?_
                  obtain ⟨hPc, hDc, hFc⟩ := zc3 (wc := [(h0, .inr (5, [.ref lS, .int m23_F_h0_1, .ref tp])), (lS, .inl (cI, 241, .inl m23_A_lS))]) hP hD hS hA [0, 1] (by decide +kernel) rfl
                  refine va_callv (va_runV (As := [.int m23_L_2, .int 0]) (rest := []) ⟨hx, hb, hml, hown, hts⟩ (g_X5_put_0 l dC dI cI cJ h0 m23_L_2 lS m23_F_h0_1 tp m23_A_lS H.size (by omega) jf23_0 jf23_11) (cwV 2 hts (zgV qw496 qw498 qw5 qw101 qw499) rfl rfl rfl hd_X5_put ⟨by (try dsimp only) <;> omega, by (try dsimp only) <;> omega⟩) (zPV hPc hK hDc (va_recv (q := (RX5, TX5, 3)) hK hP (ci := 5) (q0 := 0) rfl rfl)) rfl rfl hl.1 rfl (lv_room (Nat.le_of_ble_eq_true rfl)) dX5_sum_73 ⟨Nat.zero_le _, Nat.zero_le _⟩) hS (fun q _ h => hFc q h) hFc (fun u73 t H locs ht hvm hw hB hz1 hk1 hS9 => ?_)
                  obtain ⟨u73_0, u73_1⟩ := u73
                  obtain ⟨hP9, hD9⟩ := zj2 (wX := [(h0, .inr (5, [.ref lS, .int u73_0, .ref tp])), (lS, .inl (cI, 241, .inl u73_1)), (tp, .inr (9, [.ref tB, .int tl, .int m23_F_tp_2])), (tB, .inl (cI, 260, .inl fB))]) hP hD hk1 hFc ht hB [0, 1] [(true, 0), (true, 1), (false, 2), (false, 3)] rfl (by decide +kernel) (by decide +kernel) rfl
                  clear hP hD hS hPc hDc hFc hB hk1 hz1 hvm
                  have hP := hP9
                  have hD := hD9
                  have hS := hS9
                  clear hP9 hD9 hS9
                  obtain ⟨f73_0, f73_1, f73_2, f73_3, f73_4⟩ : (1 ≤ u73_0.toInt) ∧ (u73_0.toInt ≤ 241) ∧ (u73_0.toInt ≤ m23_F_h0_1.toInt + 1 ∧ m23_F_h0_1.toInt ≤ u73_0.toInt) ∧ (m23_F_h0_1.toInt < 241 → zEm m23_A_lS m23_F_h0_1 [(m23_L_2.toInt, 0)] u73_1 u73_0) ∧ (zSt u73_1) := hw
                  have F73 := f73_3
                  refine lv_aload_n hx hb dX5_sum_76 rfl (lv_at hl 4 rfl) ?_
                  refine va_get (D := (dC, dI)) (ci := 5) (v := .ref tp) (C := RX5) (T := TX5) (N := 3) hx hb hts iX5 hown hK hP 0 rfl rfl 2 (by decide) (hts _ qw172) (fun _ h9 => h9) rfl dX5_sum_77 ?_
                  refine lv_dup hx hb dX5_sum_80 rfl ?_
                  refine va_get (D := (dC, dI)) (ci := 9) (v := .int m23_F_tp_2) (C := RX9) (T := TX9) (N := 3) hx hb hts iX9 hown hK hP 2 rfl rfl 2 (by decide) (hts _ qw137) (fun _ h9 => h9) rfl dX5_sum_81 ?_
                  refine lv_iconst (v := 1) hx hb dX5_sum_84 (by decide) ?_
                  refine lv_iadd hx hb dX5_sum_85 ?_
                  refine lv_topi (fun v85 e85 => ?_)
                  have i85 : v85.toInt = m23_F_tp_2.toInt + 1 := zadd e85 rfl (by decide) (by omega) (by omega)
                  refine va_put (D := (dC, dI)) (ci := 9) (v := .int v85) (ty := .int) (C := RX9) (T := TX9) (N := 3) hx hb hts iX9 tyX9 tyX9_ok nmX9 hown hK hP hD hS 2 rfl rfl 2 (by decide) (hts _ qw137) (fun _ h9 => h9) rfl (by decide +kernel) rfl rfl (Nat.le_of_ble_eq_true rfl) dX5_sum_86 (fun H locs hP9 hD9 hS9 => ?_)
                  clear hP hD hS
                  obtain ⟨hP, hD⟩ := zst (wX := [(h0, .inr (5, [.ref lS, .int u73_0, .ref tp])), (lS, .inl (cI, 241, .inl u73_1)), (tp, .inr (9, [.ref tB, .int tl, .int v85])), (tB, .inl (cI, 260, .inl fB))]) hP9 hD9 rfl
                  have hS := hS9
                  clear hP9 hD9 hS9
                  refine lv_aload_n hx hb dX5_sum_89 rfl (lv_at hl 4 rfl) ?_
                  refine lv_iload_n hx hb dX5_sum_90 rfl (lv_at hl 5 rfl) ?_
                  obtain ⟨hPc, hDc, hFc⟩ := zc3 (wc := [(h0, .inr (5, [.ref lS, .int u73_0, .ref tp])), (lS, .inl (cI, 241, .inl u73_1)), (tp, .inr (9, [.ref tB, .int tl, .int v85])), (tB, .inl (cI, 260, .inl fB))]) hP hD hS hA [0, 1, 2, 3] (by decide +kernel) rfl
                  refine va_calli (va_runV (As := [.int p0]) (rest := []) ⟨hx, hb, hml, hown, hts⟩ (ihA dC dI cI cJ h0 p0 lS u73_0 tp u73_1 tB tl v85 fB H.size n_p0 (by omega) (by omega) n_tl (hty) (by omega) (by omega) f73_4) (cwV 1 hts (zgV qw490 qw492 qw4 qw101 qw493) rfl rfl rfl hd_X5_atom ⟨by (try dsimp only) <;> omega, by (try dsimp only) <;> omega⟩) (zPWV hPc hK hDc (va_recv (q := (RX5, TX5, 3)) hK hP (ci := 5) (q0 := 0) rfl rfl) (zV_call hV hS hFc)) rfl rfl hl.1 rfl (lv_room (Nat.le_of_ble_eq_true rfl)) dX5_sum_91 ⟨Nat.zero_le _, Nat.zero_le _⟩) hS (fun q _ h => hFc q h) hFc (fun v91 u91 t H locs ht hvm hw hB hz1 hk1 hS9 => ?_)
                  obtain ⟨u91_0, u91_1, u91_2⟩ := u91
                  obtain ⟨hP9, hD9⟩ := zj2 (wX := [(h0, .inr (5, [.ref lS, .int u91_0, .ref tp])), (lS, .inl (cI, 241, .inl u91_1)), (tp, .inr (9, [.ref tB, .int tl, .int u91_2])), (tB, .inl (cI, 260, .inl fB))]) hP hD hk1 hFc ht hB [0, 1, 2, 3] [(true, 0), (true, 1), (true, 2), (true, 3)] rfl (by decide +kernel) (by decide +kernel) rfl
                  clear hP hD hS hPc hDc hFc hB hk1 hz1 hvm
                  have hP := hP9
                  have hD := hD9
                  have hS := hS9
                  clear hP9 hD9 hS9
                  obtain ⟨f91_0, f91_1, f91_2, f91_3, f91_4, f91_5, f91_6, f91_7, f91_8, f91_9, f91_10⟩ : (0 ≤ v91.toInt) ∧ (v91.toInt ≤ 1) ∧ (0 ≤ u91_0.toInt) ∧ (u91_0.toInt ≤ 241) ∧ (0 ≤ u91_2.toInt) ∧ (u91_2.toInt ≤ 240) ∧ (zF (sAtm (sB fB tl.toInt) tl.toInt K v85.toInt) v91 u91_2) ∧ (¬ v91.toInt = 0 → v85.toInt < u91_2.toInt) ∧ (¬ v91.toInt = 0 → u91_0.toInt + v85.toInt ≤ u73_0.toInt + u91_2.toInt) ∧ (¬ v91.toInt = 0 → zEm u73_1 u73_0 (eAtm (sB fB tl.toInt) tl.toInt K v85.toInt) u91_1 u91_0) ∧ (zSt u91_1) := hw
                  have F91 := f91_6
                  have F91_1 := f91_9
                  refine lv_if_ne (tgt := 99) hx hb dX5_sum_94 (by decide) (fun c94 => ?_) (fun c94 => ?_)
                  · have c94 : ¬ v91.toInt = 0 := z6 rfl (by decide) c94
                    refine lv_iload hx hb dX5_sum_99 (lv_at hl 0 rfl) ?_
                    refine lv_if_eq (tgt := 113) hx hb dX5_sum_101 (by decide) (fun _ => ?_) (fun c => absurd (by decide) c)
                    refine lv_iload_n hx hb dX5_sum_113 rfl (lv_at hl 2 rfl) ?_
                    refine lv_istore_n (lv' := [(2, .int m23_L_3), (5, .int 0), (4, .int m23_L_4), (3, .int m23_L_3), (0, .ref h0), (1, .int p0)]) hx hb dX5_sum_114 rfl hl (by decide) rfl (fun ls hl => ?_)
                    refine lv_aload_n hx hb dX5_sum_115 rfl (lv_at hl 4 rfl) ?_
                    refine va_get (D := (dC, dI)) (ci := 5) (v := .ref tp) (C := RX5) (T := TX5) (N := 3) hx hb hts iX5 hown hK hP 0 rfl rfl 2 (by decide) (hts _ qw172) (fun _ h9 => h9) rfl dX5_sum_116 ?_
                    obtain ⟨hPc, hDc, hFc⟩ := zc3 (wc := [(tp, .inr (9, [.ref tB, .int tl, .int u91_2])), (tB, .inl (cI, 260, .inl fB))]) hP hD hS hA [2, 3] (by decide +kernel) rfl
                    refine va_calli (va_runV (As := []) (rest := []) ⟨hx, hb, hml, hown, hts⟩ (g_X9_peek l dC dI cI cJ tp tB tl u91_2 fB H.size ⟨f91_4, f91_5⟩ n_tl (hty)) (cwV 0 hts (zgV qw485 qw438 qw439 qw99 qw440) rfl rfl rfl hd_X9_peek ⟨by (try dsimp only) <;> omega, by (try dsimp only) <;> omega⟩) (zPV hPc hK hDc (va_recv (q := (RX9, TX9, 3)) hK hP (ci := 9) (q0 := 2) rfl rfl)) rfl rfl hl.1 rfl (lv_room (Nat.le_of_ble_eq_true rfl)) dX5_sum_119 ⟨Nat.zero_le _, Nat.zero_le _⟩) hS (fun q _ h => hFc q h) hFc (fun v119 u119 t H locs ht hvm hw hB hz1 hk1 hS9 => ?_)
                    obtain ⟨u119_0, rfl⟩ : ∃ z, z = u119 := ⟨_, rfl⟩
                    obtain ⟨hP9, hD9⟩ := zj2 (wX := [(h0, .inr (5, [.ref lS, .int u91_0, .ref tp])), (lS, .inl (cI, 241, .inl u91_1)), (tp, .inr (9, [.ref tB, .int tl, .int u119_0])), (tB, .inl (cI, 260, .inl fB))]) hP hD hk1 hFc ht hB [2, 3] [(false, 0), (false, 1), (true, 0), (true, 1)] rfl (by decide +kernel) (by decide +kernel) rfl
                    clear hP hD hS hPc hDc hFc hB hk1 hz1 hvm
                    have hP := hP9
                    have hD := hD9
                    have hS := hS9
                    clear hP9 hD9 hS9
                    obtain ⟨f119_0, f119_1, f119_2, f119_3, f119_4⟩ : (0 ≤ u119_0.toInt) ∧ (u119_0.toInt ≤ 240) ∧ (¬ v119.toInt = 0 → u119_0.toInt < tl.toInt) ∧ (u91_2.toInt ≤ u119_0.toInt) ∧ (zPK fB tl u91_2 v119 u119_0) := hw
                    have F119 := f119_4
                    refine lv_istore_n (lv' := [(3, .int v119), (2, .int m23_L_3), (5, .int 0), (4, .int m23_L_4), (0, .ref h0), (1, .int p0)]) hx hb dX5_sum_122 rfl hl (by decide) rfl (fun ls hl => ?_)
                    obtain ⟨v123, e123⟩ : ∃ y : Int32, y = m23_L_4 + Int32.ofInt (1) := ⟨_, rfl⟩
                    refine lv_iinc (v := v123) (lv' := [(4, .int v123), (3, .int v119), (2, .int m23_L_3), (5, .int 0), (0, .ref h0), (1, .int p0)]) hx hb dX5_sum_123 hl (k := 3) rfl e123.symm (by decide) rfl (fun ls hl => ?_)
                    have i123 : v123.toInt = m23_L_4.toInt + 1 := zaddI e123 (by decide) (by omega) (by omega)
                    refine lv_goto (tgt := 23) hx hb dX5_sum_126 (by decide) ?_
                    exact ih23 _ (by omega) u91_1 u91_0 u119_0 m23_L_3 v119 v123 ⟨f91_2, f91_3⟩ ⟨f119_0, f119_1⟩ (by omega) (by omega) (by omega) (by omega) (fl_s jv23_0 jv23_1 (zIs_t F36 (by omega)) (by decide) i85 F91 (by omega) (by omega) F119) (F119.2) (by omega) (by omega) (by first | exact fse_y jv23_2 jv23_1 (zIs_t F36 (by omega)) (by decide) i85 F91 (by omega) (by omega) F119 (oM_iff.mpr (by omega)) (F91_1 (by omega)) (F107 (by omega)) rfl (by omega) (by omega) | exact fse_n jv23_2 jv23_1 (zIs_t F36 (by omega)) (by decide) i85 F91 (by omega) (by omega) F119 (fun z => by have := oM_iff.mp z; omega) (eW_0 (by omega)) (F91_1 (by omega)) rfl (by omega) (by omega) | exact fse_n jv23_2 jv23_1 (zIs_t F36 (by omega)) (by decide) i85 F91 (by omega) (by omega) F119 (fun z => by have := oM_iff.mp z; omega) (eW_1 (by omega) rfl (F73 (by omega))) (F91_1 (by omega)) rfl (by omega) (by omega)) f91_10 rfl H locs ls hP hD hS (lv_sub hl [0, 1, 2, 4, 5] rfl)
                  · have c94 : v91.toInt = 0 := z5 rfl (by decide) c94
                    refine lv_iconst (v := 0) hx hb dX5_sum_97 (by decide) ?_
                    have zr0 : (0 : Int32).toInt = 0 := by decide
                    rw [hQ]
                    exact W.zret (v := 0) (ty := .boolean) hx hb hr rfl (fun t ht hW => ⟨⟨0, (u91_0, u91_1, u91_2), rfl, ⟨by (try dsimp only); omega, by (try dsimp only); omega, by (try dsimp only); omega, by (try dsimp only); omega, by (try dsimp only); omega, by (try dsimp only); omega, zF0 (fl_x jv23_0 jv23_1 (zIs_t F36 (by omega)) (by decide) i85 F91 (by omega)), (fun z => absurd (by decide) z), by (try dsimp only); omega, (fun z => absurd (by decide) z), f91_10⟩, ⟨by rw [ht]; exact hP, hD⟩⟩, hS.F ht⟩) hS.2.2 dX5_sum_98
              · have c51 : m23_L_3.toInt = 47 := z5 rfl (by decide) c51
                refine lv_iconst (v := 1) hx hb dX5_sum_54 (by decide) ?_
                refine lv_goto (tgt := 59) hx hb dX5_sum_55 (by decide) ?_
                refine lv_istore (lv' := [(5, .int 1), (4, .int m23_L_4), (3, .int m23_L_3), (2, .int m23_L_2), (0, .ref h0), (1, .int p0)]) hx hb dX5_sum_59 hl (by decide) rfl (fun ls hl => ?_)
                refine lv_iload hx hb dX5_sum_61 (lv_at hl 0 rfl) ?_
                refine lv_if_ne (tgt := 76) hx hb dX5_sum_63 (by decide) (fun _ => ?_) (fun c => absurd c (by decide))
                refine lv_aload_n hx hb dX5_sum_76 rfl (lv_at hl 4 rfl) ?_
                refine va_get (D := (dC, dI)) (ci := 5) (v := .ref tp) (C := RX5) (T := TX5) (N := 3) hx hb hts iX5 hown hK hP 0 rfl rfl 2 (by decide) (hts _ qw172) (fun _ h9 => h9) rfl dX5_sum_77 ?_
                refine lv_dup hx hb dX5_sum_80 rfl ?_
                refine va_get (D := (dC, dI)) (ci := 9) (v := .int m23_F_tp_2) (C := RX9) (T := TX9) (N := 3) hx hb hts iX9 hown hK hP 2 rfl rfl 2 (by decide) (hts _ qw137) (fun _ h9 => h9) rfl dX5_sum_81 ?_
                refine lv_iconst (v := 1) hx hb dX5_sum_84 (by decide) ?_
                refine lv_iadd hx hb dX5_sum_85 ?_
                refine lv_topi (fun v85 e85 => ?_)
                have i85 : v85.toInt = m23_F_tp_2.toInt + 1 := zadd e85 rfl (by decide) (by omega) (by omega)
                refine va_put (D := (dC, dI)) (ci := 9) (v := .int v85) (ty := .int) (C := RX9) (T := TX9) (N := 3) hx hb hts iX9 tyX9 tyX9_ok nmX9 hown hK hP hD hS 2 rfl rfl 2 (by decide) (hts _ qw137) (fun _ h9 => h9) rfl (by decide +kernel) rfl rfl (Nat.le_of_ble_eq_true rfl) dX5_sum_86 (fun H locs hP9 hD9 hS9 => ?_)
                clear hP hD hS
                obtain ⟨hP, hD⟩ := zst (wX := [(h0, .inr (5, [.ref lS, .int m23_F_h0_1, .ref tp])), (lS, .inl (cI, 241, .inl m23_A_lS)), (tp, .inr (9, [.ref tB, .int tl, .int v85])), (tB, .inl (cI, 260, .inl fB))]) hP9 hD9 rfl
                have hS := hS9
                clear hP9 hD9 hS9
                refine lv_aload_n hx hb dX5_sum_89 rfl (lv_at hl 4 rfl) ?_
                refine lv_iload_n hx hb dX5_sum_90 rfl (lv_at hl 5 rfl) ?_
                obtain ⟨hPc, hDc, hFc⟩ := zc3 (wc := [(h0, .inr (5, [.ref lS, .int m23_F_h0_1, .ref tp])), (lS, .inl (cI, 241, .inl m23_A_lS)), (tp, .inr (9, [.ref tB, .int tl, .int v85])), (tB, .inl (cI, 260, .inl fB))]) hP hD hS hA [0, 1, 2, 3] (by decide +kernel) rfl
                refine va_calli (va_runV (As := [.int p0]) (rest := []) ⟨hx, hb, hml, hown, hts⟩ (ihA dC dI cI cJ h0 p0 lS m23_F_h0_1 tp m23_A_lS tB tl v85 fB H.size n_p0 jf23_0 (by omega) n_tl (hty) (by omega) (by omega) jf23_11) (cwV 1 hts (zgV qw490 qw492 qw4 qw101 qw493) rfl rfl rfl hd_X5_atom ⟨by (try dsimp only) <;> omega, by (try dsimp only) <;> omega⟩) (zPWV hPc hK hDc (va_recv (q := (RX5, TX5, 3)) hK hP (ci := 5) (q0 := 0) rfl rfl) (zV_call hV hS hFc)) rfl rfl hl.1 rfl (lv_room (Nat.le_of_ble_eq_true rfl)) dX5_sum_91 ⟨Nat.zero_le _, Nat.zero_le _⟩) hS (fun q _ h => hFc q h) hFc (fun v91 u91 t H locs ht hvm hw hB hz1 hk1 hS9 => ?_)
                obtain ⟨u91_0, u91_1, u91_2⟩ := u91
                obtain ⟨hP9, hD9⟩ := zj2 (wX := [(h0, .inr (5, [.ref lS, .int u91_0, .ref tp])), (lS, .inl (cI, 241, .inl u91_1)), (tp, .inr (9, [.ref tB, .int tl, .int u91_2])), (tB, .inl (cI, 260, .inl fB))]) hP hD hk1 hFc ht hB [0, 1, 2, 3] [(true, 0), (true, 1), (true, 2), (true, 3)] rfl (by decide +kernel) (by decide +kernel) rfl
                clear hP hD hS hPc hDc hFc hB hk1 hz1 hvm
                have hP := hP9
                have hD := hD9
                have hS := hS9
                clear hP9 hD9 hS9
                obtain ⟨f91_0, f91_1, f91_2, f91_3, f91_4, f91_5, f91_6, f91_7, f91_8, f91_9, f91_10⟩ : (0 ≤ v91.toInt) ∧ (v91.toInt ≤ 1) ∧ (0 ≤ u91_0.toInt) ∧ (u91_0.toInt ≤ 241) ∧ (0 ≤ u91_2.toInt) ∧ (u91_2.toInt ≤ 240) ∧ (zF (sAtm (sB fB tl.toInt) tl.toInt K v85.toInt) v91 u91_2) ∧ (¬ v91.toInt = 0 → v85.toInt < u91_2.toInt) ∧ (¬ v91.toInt = 0 → u91_0.toInt + v85.toInt ≤ m23_F_h0_1.toInt + u91_2.toInt) ∧ (¬ v91.toInt = 0 → zEm m23_A_lS m23_F_h0_1 (eAtm (sB fB tl.toInt) tl.toInt K v85.toInt) u91_1 u91_0) ∧ (zSt u91_1) := hw
                have F91 := f91_6
                have F91_1 := f91_9
                refine lv_if_ne (tgt := 99) hx hb dX5_sum_94 (by decide) (fun c94 => ?_) (fun c94 => ?_)
                · have c94 : ¬ v91.toInt = 0 := z6 rfl (by decide) c94
                  refine lv_iload hx hb dX5_sum_99 (lv_at hl 0 rfl) ?_
                  refine lv_if_eq (tgt := 113) hx hb dX5_sum_101 (by decide) (fun c => absurd c (by decide)) (fun _ => ?_)
                  refine lv_aload_n hx hb dX5_sum_104 rfl (lv_at hl 4 rfl) ?_
                  refine lv_iload_n hx hb dX5_sum_105 rfl (lv_at hl 2 rfl) ?_
                  refine lv_iconst (v := 0) hx hb dX5_sum_106 (by decide) ?_
                  obtain ⟨hPc, hDc, hFc⟩ := zc3 (wc := [(h0, .inr (5, [.ref lS, .int u91_0, .ref tp])), (lS, .inl (cI, 241, .inl u91_1))]) hP hD hS hA [0, 1] (by decide +kernel) rfl
                  refine va_callv (va_runV (As := [.int m23_L_3, .int 0]) (rest := []) ⟨hx, hb, hml, hown, hts⟩ (g_X5_put_0 l dC dI cI cJ h0 m23_L_3 lS u91_0 tp u91_1 H.size (by omega) ⟨f91_2, f91_3⟩ f91_10) (cwV 2 hts (zgV qw496 qw498 qw5 qw101 qw499) rfl rfl rfl hd_X5_put ⟨by (try dsimp only) <;> omega, by (try dsimp only) <;> omega⟩) (zPV hPc hK hDc (va_recv (q := (RX5, TX5, 3)) hK hP (ci := 5) (q0 := 0) rfl rfl)) rfl rfl hl.1 rfl (lv_room (Nat.le_of_ble_eq_true rfl)) dX5_sum_107 ⟨Nat.zero_le _, Nat.zero_le _⟩) hS (fun q _ h => hFc q h) hFc (fun u107 t H locs ht hvm hw hB hz1 hk1 hS9 => ?_)
                  obtain ⟨u107_0, u107_1⟩ := u107
                  obtain ⟨hP9, hD9⟩ := zj2 (wX := [(h0, .inr (5, [.ref lS, .int u107_0, .ref tp])), (lS, .inl (cI, 241, .inl u107_1)), (tp, .inr (9, [.ref tB, .int tl, .int u91_2])), (tB, .inl (cI, 260, .inl fB))]) hP hD hk1 hFc ht hB [0, 1] [(true, 0), (true, 1), (false, 2), (false, 3)] rfl (by decide +kernel) (by decide +kernel) rfl
                  clear hP hD hS hPc hDc hFc hB hk1 hz1 hvm
                  have hP := hP9
                  have hD := hD9
                  have hS := hS9
                  clear hP9 hD9 hS9
                  obtain ⟨f107_0, f107_1, f107_2, f107_3, f107_4⟩ : (1 ≤ u107_0.toInt) ∧ (u107_0.toInt ≤ 241) ∧ (u107_0.toInt ≤ u91_0.toInt + 1 ∧ u91_0.toInt ≤ u107_0.toInt) ∧ (u91_0.toInt < 241 → zEm u91_1 u91_0 [(m23_L_3.toInt, 0)] u107_1 u107_0) ∧ (zSt u107_1) := hw
                  have F107 := f107_3
                  refine lv_goto (tgt := 115) hx hb dX5_sum_110 (by decide) ?_
                  refine lv_aload_n hx hb dX5_sum_115 rfl (lv_at hl 4 rfl) ?_
                  refine va_get (D := (dC, dI)) (ci := 5) (v := .ref tp) (C := RX5) (T := TX5) (N := 3) hx hb hts iX5 hown hK hP 0 rfl rfl 2 (by decide) (hts _ qw172) (fun _ h9 => h9) rfl dX5_sum_116 ?_
                  obtain ⟨hPc, hDc, hFc⟩ := zc3 (wc := [(tp, .inr (9, [.ref tB, .int tl, .int u91_2])), (tB, .inl (cI, 260, .inl fB))]) hP hD hS hA [2, 3] (by decide +kernel) rfl
                  refine va_calli (va_runV (As := []) (rest := []) ⟨hx, hb, hml, hown, hts⟩ (g_X9_peek l dC dI cI cJ tp tB tl u91_2 fB H.size ⟨f91_4, f91_5⟩ n_tl (hty)) (cwV 0 hts (zgV qw485 qw438 qw439 qw99 qw440) rfl rfl rfl hd_X9_peek ⟨by (try dsimp only) <;> omega, by (try dsimp only) <;> omega⟩) (zPV hPc hK hDc (va_recv (q := (RX9, TX9, 3)) hK hP (ci := 9) (q0 := 2) rfl rfl)) rfl rfl hl.1 rfl (lv_room (Nat.le_of_ble_eq_true rfl)) dX5_sum_119 ⟨Nat.zero_le _, Nat.zero_le _⟩) hS (fun q _ h => hFc q h) hFc (fun v119 u119 t H locs ht hvm hw hB hz1 hk1 hS9 => ?_)
                  obtain ⟨u119_0, rfl⟩ : ∃ z, z = u119 := ⟨_, rfl⟩
                  obtain ⟨hP9, hD9⟩ := zj2 (wX := [(h0, .inr (5, [.ref lS, .int u107_0, .ref tp])), (lS, .inl (cI, 241, .inl u107_1)), (tp, .inr (9, [.ref tB, .int tl, .int u119_0])), (tB, .inl (cI, 260, .inl fB))]) hP hD hk1 hFc ht hB [2, 3] [(false, 0), (false, 1), (true, 0), (true, 1)] rfl (by decide +kernel) (by decide +kernel) rfl
                  clear hP hD hS hPc hDc hFc hB hk1 hz1 hvm
                  have hP := hP9
                  have hD := hD9
                  have hS := hS9
                  clear hP9 hD9 hS9
                  obtain ⟨f119_0, f119_1, f119_2, f119_3, f119_4⟩ : (0 ≤ u119_0.toInt) ∧ (u119_0.toInt ≤ 240) ∧ (¬ v119.toInt = 0 → u119_0.toInt < tl.toInt) ∧ (u91_2.toInt ≤ u119_0.toInt) ∧ (zPK fB tl u91_2 v119 u119_0) := hw
                  have F119 := f119_4
                  refine lv_istore_n (lv' := [(3, .int v119), (5, .int 1), (4, .int m23_L_4), (2, .int m23_L_2), (0, .ref h0), (1, .int p0)]) hx hb dX5_sum_122 rfl hl (by decide) rfl (fun ls hl => ?_)
                  obtain ⟨v123, e123⟩ : ∃ y : Int32, y = m23_L_4 + Int32.ofInt (1) := ⟨_, rfl⟩
                  refine lv_iinc (v := v123) (lv' := [(4, .int v123), (3, .int v119), (5, .int 1), (2, .int m23_L_2), (0, .ref h0), (1, .int p0)]) hx hb dX5_sum_123 hl (k := 2) rfl e123.symm (by decide) rfl (fun ls hl => ?_)
                  have i123 : v123.toInt = m23_L_4.toInt + 1 := zaddI e123 (by decide) (by omega) (by omega)
                  refine lv_goto (tgt := 23) hx hb dX5_sum_126 (by decide) ?_
                  exact ih23 _ (by omega) u107_1 u107_0 u119_0 m23_L_2 v119 v123 (by omega) ⟨f119_0, f119_1⟩ jf23_2 (by omega) (by omega) (by omega) (fl_s jv23_0 jv23_1 (zIs_t F36 (by omega)) (by decide) i85 F91 (by omega) (by omega) F119) (F119.2) (by omega) (by omega) (by first | exact fse_y jv23_2 jv23_1 (zIs_t F36 (by omega)) (by decide) i85 F91 (by omega) (by omega) F119 (oM_iff.mpr (by omega)) (F91_1 (by omega)) (F107 (by omega)) rfl (by omega) (by omega) | exact fse_n jv23_2 jv23_1 (zIs_t F36 (by omega)) (by decide) i85 F91 (by omega) (by omega) F119 (fun z => by have := oM_iff.mp z; omega) (eW_0 (by omega)) (F91_1 (by omega)) rfl (by omega) (by omega) | exact fse_n jv23_2 jv23_1 (zIs_t F36 (by omega)) (by decide) i85 F91 (by omega) (by omega) F119 (fun z => by have := oM_iff.mp z; omega) (eW_1 (by omega) rfl (F73 (by omega))) (F91_1 (by omega)) rfl (by omega) (by omega)) f107_4 rfl H locs ls hP hD hS (lv_sub hl [0, 1, 3, 4, 5] rfl)
                · have c94 : v91.toInt = 0 := z5 rfl (by decide) c94
                  refine lv_iconst (v := 0) hx hb dX5_sum_97 (by decide) ?_
                  have zr0 : (0 : Int32).toInt = 0 := by decide
                  rw [hQ]
                  exact W.zret (v := 0) (ty := .boolean) hx hb hr rfl (fun t ht hW => ⟨⟨0, (u91_0, u91_1, u91_2), rfl, ⟨by (try dsimp only); omega, by (try dsimp only); omega, by (try dsimp only); omega, by (try dsimp only); omega, by (try dsimp only); omega, by (try dsimp only); omega, zF0 (fl_x jv23_0 jv23_1 (zIs_t F36 (by omega)) (by decide) i85 F91 (by omega)), (fun z => absurd (by decide) z), by (try dsimp only); omega, (fun z => absurd (by decide) z), f91_10⟩, ⟨by rw [ht]; exact hP, hD⟩⟩, hS.F ht⟩) hS.2.2 dX5_sum_98
    refine lv_istore (lv' := [(4, .int 0), (3, .int v16), (2, .int 0), (0, .ref h0), (1, .int p0)]) hx hb dX5_sum_21 hl (by decide) rfl (fun ls hl => ?_)
    have zj23_m23_L_2 : (0 : Int32).toInt = 0 := by decide
    have zj23_m23_L_4 : (0 : Int32).toInt = 0 := by decide
    exact J23 _ u2_1 u2_0 u16_0 0 v16 0 ⟨f2_2, f2_3⟩ ⟨f16_0, f16_1⟩ (by decide) (by decide) (by omega) (by omega) (sSum_tm (fl_b F2 (by omega) F16)) (F16.2) (by omega) (by omega) (fse_b (eSum_eq _ _ _ _) F2 (by omega) F16 (F2_1 (by omega)) (by decide)) f2_10 rfl H locs ls hP hD hS (lv_sub hl [0, 1, 2, 3, 4] rfl)
  · have c5 : v2.toInt = 0 := z5 rfl (by decide) c5
    refine lv_iconst (v := 0) hx hb dX5_sum_8 (by decide) ?_
    have zr0 : (0 : Int32).toInt = 0 := by decide
    rw [hQ]
    exact W.zret (v := 0) (ty := .boolean) hx hb hr rfl (fun t ht hW => ⟨⟨0, (u2_0, u2_1, u2_2), rfl, ⟨by (try dsimp only); omega, by (try dsimp only); omega, by (try dsimp only); omega, by (try dsimp only); omega, by (try dsimp only); omega, by (try dsimp only); omega, zF0 (sSum_tm (fl_0 F2 (by omega))), (fun z => absurd (by decide) z), by (try dsimp only); omega, (fun z => absurd (by decide) z), f2_10⟩, ⟨by rw [ht]; exact hP, hD⟩⟩, hS.F ht⟩) hS.2.2 dX5_sum_9
set_option maxHeartbeats 4000000 in
set_option maxRecDepth 100000 in
theorem g_X5_atom_z (l : Launch) (K fr lo : Nat)  (hfr : 0 ≤ fr) (hlo : 24 ≤ lo) : zQ_X5_atom l 0 (fr + 1) (lo + 40) := by
  intro dC dI cI cJ h0 p0 lS sz5 tp fS tB tl ta fB sz n_p0 n_sz5 n_ta n_tl hty hsz hKd ci_fS_zSt
  obtain rfl : p0 = 6 := z7 (a := 6) (by decide) (by omega)
  refine Met.ofW (cc := cX5_atom) (maxL := 4) (ret := (some .boolean)) (by decide) rfl ?_
  intro p e s m args below meth c s₁ B hml hv
  obtain ⟨⟨hargs, hsz, hP, hK, hT⟩, hV⟩ := hv
  have hx := B.exec
  have hb := B.bytes
  have hr := B.returns
  have hts : ∀ w ∈ wA, w.before args s = true := fun w h => atoms_spec (ws := .code yX5_atom cX5_atom 4 (some .boolean) :: wA) B.pre w (List.mem_cons_of_mem _ h)
  have hown : s.vm.findClass RX5 = some m.cls := findClass_of_methodNamed B.named
  have hlocks := B.notSynchronized
  subst hsz
  have hD := hT.self (sz := s.heap.size)
  generalize hAe : va_A [(h0, .inr (5, [.ref lS, .int sz5, .ref tp])), (lS, .inl (cI, 241, .inl fS)), (tp, .inr (9, [.ref tB, .int tl, .int ta])), (tB, .inl (cI, 260, .inl fB))] s.heap.size = A at hD hV ⊢
  have hA : ∀ q : Nat, s.heap.size ≤ q → A q := fun q h => by rw [← hAe]; exact Or.inr h
  have hl := lv_entry ([.ref h0, .int 6]) (n := 4) (Nat.le_of_ble_eq_true rfl)
  rw [show entryFrame m args 4 = entryFrame m ([.ref h0, .int 6] : List Value).toArray 4 by rw [hargs], lg_entry_eq]
  generalize (lg_sl ([.ref h0, .int 6]) ++ List.replicate (4 - (lg_sl ([.ref h0, .int 6])).length) Slot.unset).toArray = ls at hl ⊢
  have hl : lv_has ls 4 [(0, .ref h0), (1, .int 6)] := hl
  refine zstart (fun H hH => ?_)
  rw [← hH] at hP
  have hS : va_S A s.heap H [] := by rw [hH]; exact va_S.rf
  generalize ([] : List Loc) = locs at hS ⊢
  refine zgen (fun R Q hR hQ => ?_)
  have hRf : R.frames = fr + 1 := by rw [hR]; rfl
  have hRl : R.locals = lo + 40 := by rw [hR]; rfl
  refine lv_aload_n hx hb dX5_atom_0 rfl (lv_at hl 0 rfl) ?_
  refine va_get (D := (dC, dI)) (ci := 5) (v := .ref tp) (C := RX5) (T := TX5) (N := 3) hx hb hts iX5 hown hK hP 0 rfl rfl 2 (by decide) (hts _ qw172) (fun _ h9 => h9) rfl dX5_atom_1 ?_
  obtain ⟨hPc, hDc, hFc⟩ := zc3 (wc := [(tp, .inr (9, [.ref tB, .int tl, .int ta])), (tB, .inl (cI, 260, .inl fB))]) hP hD hS hA [2, 3] (by decide +kernel) rfl
  refine va_calli (va_runV (As := []) (rest := []) ⟨hx, hb, hml, hown, hts⟩ (g_X9_peek l dC dI cI cJ tp tB tl ta fB H.size n_ta n_tl (hty)) (cwV 0 hts (zgV qw485 qw438 qw439 qw99 qw440) rfl rfl rfl hd_X9_peek ⟨by (try dsimp only) <;> omega, by (try dsimp only) <;> omega⟩) (zPV hPc hK hDc (va_recv (q := (RX9, TX9, 3)) hK hP (ci := 9) (q0 := 2) rfl rfl)) rfl rfl hl.1 rfl (lv_room (Nat.le_of_ble_eq_true rfl)) dX5_atom_4 ⟨Nat.zero_le _, Nat.zero_le _⟩) hS (fun q _ h => hFc q h) hFc (fun v4 u4 t H locs ht hvm hw hB hz1 hk1 hS9 => ?_)
  obtain ⟨u4_0, rfl⟩ : ∃ z, z = u4 := ⟨_, rfl⟩
  obtain ⟨hP9, hD9⟩ := zj2 (wX := [(h0, .inr (5, [.ref lS, .int sz5, .ref tp])), (lS, .inl (cI, 241, .inl fS)), (tp, .inr (9, [.ref tB, .int tl, .int u4_0])), (tB, .inl (cI, 260, .inl fB))]) hP hD hk1 hFc ht hB [2, 3] [(false, 0), (false, 1), (true, 0), (true, 1)] rfl (by decide +kernel) (by decide +kernel) rfl
  clear hP hD hS hPc hDc hFc hB hk1 hz1 hvm
  have hP := hP9
  have hD := hD9
  have hS := hS9
  clear hP9 hD9 hS9
  obtain ⟨f4_0, f4_1, f4_2, f4_3, f4_4⟩ : (0 ≤ u4_0.toInt) ∧ (u4_0.toInt ≤ 240) ∧ (¬ v4.toInt = 0 → u4_0.toInt < tl.toInt) ∧ (ta.toInt ≤ u4_0.toInt) ∧ (zPK fB tl ta v4 u4_0) := hw
  have F4 := f4_4
  refine lv_istore_n (lv' := [(2, .int v4), (0, .ref h0), (1, .int 6)]) hx hb dX5_atom_7 rfl hl (by decide) rfl (fun ls hl => ?_)
  refine lv_iload_n hx hb dX5_atom_8 rfl (lv_at hl 0 rfl) ?_
  refine lv_bipush (v := 91) hx hb dX5_atom_9 (by decide) ?_
  refine lv_icmp_ne (tgt := 74) hx hb dX5_atom_11 (by decide) (fun c11 => ?_) (fun c11 => ?_)
  · have c11 : ¬ v4.toInt = 91 := z6 rfl (by decide) c11
    refine lv_iconst (v := 0) hx hb dX5_atom_74 (by decide) ?_
    have J76 : ∀ (n : Nat) (m76_L_3 : Int32), (0 ≤ m76_L_3.toInt ∧ m76_L_3.toInt ≤ 6) → (zNl m76_L_3 v4) → (7 - m76_L_3.toInt).toNat = n → ∀ (H : Heap) (locs : List Loc) (ls : Array Slot), va_P (dC, dI) vwCl [(h0, .inr (5, [.ref lS, .int sz5, .ref tp])), (lS, .inl (cI, 241, .inl fS)), (tp, .inr (9, [.ref tB, .int tl, .int u4_0])), (tB, .inl (cI, 260, .inl fB))] H → va_D A [(h0, .inr (5, [.ref lS, .int sz5, .ref tp])), (lS, .inl (cI, 241, .inl fS)), (tp, .inr (9, [.ref tB, .int tl, .int u4_0])), (tB, .inl (cI, 260, .inl fB))] → va_S A s.heap H locs → lv_has ls 4 [(3, .int m76_L_3), (2, .int v4), (0, .ref h0), (1, .int 6)] → W p l e R s m args below meth c H locs 0 0 Q (F0 m 76 ls []) := by
      intro n76
      induction n76 using Nat.strongRecOn with
      | _ n76 ih76 =>
        intro m76_L_3 jf76_0 jv76_0 hmu76 H locs ls hP hD hS hl
        refine lv_iload_n hx hb dX5_atom_76 rfl (lv_at hl 0 rfl) ?_
        obtain ⟨g77, hz77, hE77⟩ := hV.2.2.1
        obtain ⟨tf77, ht77, hr77⟩ : zTt 0 .char g77 6 A s := hE77
        refine va_gets hx hb hz77 hS hown (hts _ qw494) (fun _ h9 => h9) dX5_atom_77 ?_
        refine va_tlen (v := 6) hx hb ht77 hS (by decide) dX5_atom_80 ?_
        refine lv_icmp_ge (tgt := 120) hx hb dX5_atom_81 (by decide) (fun c81 => ?_) (fun c81 => ?_)
        · have c81 : 6 ≤ m76_L_3.toInt := z3 (by decide) rfl c81
          refine lv_aload_n hx hb dX5_atom_120 rfl (lv_at hl 2 rfl) ?_
          refine va_get (D := (dC, dI)) (ci := 5) (v := .ref tp) (C := RX5) (T := TX5) (N := 3) hx hb hts iX5 hown hK hP 0 rfl rfl 2 (by decide) (hts _ qw172) (fun _ h9 => h9) rfl dX5_atom_121 ?_
          refine lv_iconst (v := 4) hx hb dX5_atom_124 (by decide) ?_
          refine lv_sipush (v := 9999) hx hb dX5_atom_125 (by decide) ?_
          obtain ⟨hPc, hDc, hFc⟩ := zc3 (wc := [(tp, .inr (9, [.ref tB, .int tl, .int u4_0])), (tB, .inl (cI, 260, .inl fB))]) hP hD hS hA [2, 3] (by decide +kernel) rfl
          refine va_calli (va_runV (As := [.int 4, .int 9999]) (rest := []) ⟨hx, hb, hml, hown, hts⟩ (g_X9_number_4 l dC dI cI cJ tp tB tl u4_0 fB H.size ⟨f4_0, f4_1⟩ n_tl) (cwV 2 hts (zgV qw500 qw456 qw457 qw99 qw458) rfl rfl rfl hd_X9_number ⟨by (try dsimp only) <;> omega, by (try dsimp only) <;> omega⟩) (zPV hPc hK hDc (va_recv (q := (RX9, TX9, 3)) hK hP (ci := 9) (q0 := 2) rfl rfl)) rfl rfl hl.1 rfl (lv_room (Nat.le_of_ble_eq_true rfl)) dX5_atom_128 ⟨Nat.zero_le _, Nat.zero_le _⟩) hS (fun q _ h => hFc q h) hFc (fun v128 u128 t H locs ht hvm hw hB hz1 hk1 hS9 => ?_)
          obtain ⟨u128_0, rfl⟩ : ∃ z, z = u128 := ⟨_, rfl⟩
          obtain ⟨hP9, hD9⟩ := zj2 (wX := [(h0, .inr (5, [.ref lS, .int sz5, .ref tp])), (lS, .inl (cI, 241, .inl fS)), (tp, .inr (9, [.ref tB, .int tl, .int u128_0])), (tB, .inl (cI, 260, .inl fB))]) hP hD hk1 hFc ht hB [2, 3] [(false, 0), (false, 1), (true, 0), (true, 1)] rfl (by decide +kernel) (by decide +kernel) rfl
          clear hP hD hS hPc hDc hFc hB hk1 hz1 hvm
          have hP := hP9
          have hD := hD9
          have hS := hS9
          clear hP9 hD9 hS9
          obtain ⟨f128_0, f128_1, f128_2, f128_3, f128_4, f128_5⟩ : ((-1) ≤ v128.toInt) ∧ (v128.toInt ≤ 9999) ∧ (0 ≤ u128_0.toInt) ∧ (u128_0.toInt ≤ 240) ∧ (zN4 fB tl u4_0 v128 u128_0) ∧ (0 ≤ v128.toInt → v128.toInt = sNv (sB fB tl.toInt) u4_0.toInt) := hw
          have F128 := f128_4
          have F128_1 := f128_5
          refine lv_istore_n (lv' := [(3, .int v128), (2, .int v4), (0, .ref h0), (1, .int 6)]) hx hb dX5_atom_131 rfl hl (by decide) rfl (fun ls hl => ?_)
          refine lv_iload_n hx hb dX5_atom_132 rfl (lv_at hl 0 rfl) ?_
          refine lv_iconst (v := (-1)) hx hb dX5_atom_133 (by decide) ?_
          refine lv_icmp_ne (tgt := 139) hx hb dX5_atom_134 (by decide) (fun c134 => ?_) (fun c134 => ?_)
          · have c134 : ¬ v128.toInt = (-1) := z6 rfl (by decide) c134
            have q139 := zN4L F128 (by omega)
            refine lv_aload_n hx hb dX5_atom_139 rfl (lv_at hl 2 rfl) ?_
            refine lv_iconst (v := 1) hx hb dX5_atom_140 (by decide) ?_
            refine lv_iload_n hx hb dX5_atom_141 rfl (lv_at hl 0 rfl) ?_
            obtain ⟨hPc, hDc, hFc⟩ := zc3 (wc := [(h0, .inr (5, [.ref lS, .int sz5, .ref tp])), (lS, .inl (cI, 241, .inl fS))]) hP hD hS hA [0, 1] (by decide +kernel) rfl
            refine va_callv (va_runV (As := [.int 1, .int v128]) (rest := []) ⟨hx, hb, hml, hown, hts⟩ (g_X5_put_1 l dC dI cI cJ h0 v128 lS sz5 tp fS H.size n_sz5 ci_fS_zSt) (cwV 2 hts (zgV qw496 qw498 qw5 qw101 qw499) rfl rfl rfl hd_X5_put ⟨by (try dsimp only) <;> omega, by (try dsimp only) <;> omega⟩) (zPV hPc hK hDc (va_recv (q := (RX5, TX5, 3)) hK hP (ci := 5) (q0 := 0) rfl rfl)) rfl rfl hl.1 rfl (lv_room (Nat.le_of_ble_eq_true rfl)) dX5_atom_142 ⟨Nat.zero_le _, Nat.zero_le _⟩) hS (fun q _ h => hFc q h) hFc (fun u142 t H locs ht hvm hw hB hz1 hk1 hS9 => ?_)
            obtain ⟨u142_0, u142_1⟩ := u142
            obtain ⟨hP9, hD9⟩ := zj2 (wX := [(h0, .inr (5, [.ref lS, .int u142_0, .ref tp])), (lS, .inl (cI, 241, .inl u142_1)), (tp, .inr (9, [.ref tB, .int tl, .int u128_0])), (tB, .inl (cI, 260, .inl fB))]) hP hD hk1 hFc ht hB [0, 1] [(true, 0), (true, 1), (false, 2), (false, 3)] rfl (by decide +kernel) (by decide +kernel) rfl
            clear hP hD hS hPc hDc hFc hB hk1 hz1 hvm
            have hP := hP9
            have hD := hD9
            have hS := hS9
            clear hP9 hD9 hS9
            have zn142_1 : (1 : Int32).toInt = 1 := by decide
            obtain ⟨f142_0, f142_1, f142_2, f142_3, f142_4⟩ : (1 ≤ u142_0.toInt) ∧ (u142_0.toInt ≤ 241) ∧ (u142_0.toInt ≤ sz5.toInt + 1 ∧ sz5.toInt ≤ u142_0.toInt) ∧ (sz5.toInt < 241 → zEm fS sz5 [((1 : Int32).toInt, v128.toInt)] u142_1 u142_0) ∧ (zSt u142_1) := hw
            have F142 := f142_3
            refine lv_iconst (v := 1) hx hb dX5_atom_145 (by decide) ?_
            have zr0 : (1 : Int32).toInt = 1 := by decide
            rw [hQ]
            exact W.zret (v := 1) (ty := .boolean) hx hb hr rfl (fun t ht hW => ⟨⟨1, (u142_0, u142_1, u128_0), rfl, ⟨by (try dsimp only); omega, by (try dsimp only); omega, by (try dsimp only); omega, by (try dsimp only); omega, by (try dsimp only); omega, by (try dsimp only); omega, zF1 (fa_n1 F4 (by omega) jv76_0 (by omega) F128 (by omega)), (fun _ => zFm (x := sAtm (sB fB tl.toInt) tl.toInt 0) (sAtm_mono (sB fB tl.toInt) tl.toInt 0) (zF1 (fa_n1 F4 (by omega) jv76_0 (by omega) F128 (by omega)))), by (try dsimp only); omega, (fun _ => fea_n F4 (by omega) jv76_0 (by omega) (F128_1 (by omega)) (F142 (by omega))), f142_4⟩, ⟨by rw [ht]; exact hP, hD⟩⟩, hS.F ht⟩) hS.2.2 dX5_atom_146
          · have c134 : v128.toInt = (-1) := z5 rfl (by decide) c134
            refine lv_iconst (v := 0) hx hb dX5_atom_137 (by decide) ?_
            have zr0 : (0 : Int32).toInt = 0 := by decide
            rw [hQ]
            exact W.zret (v := 0) (ty := .boolean) hx hb hr rfl (fun t ht hW => ⟨⟨0, (sz5, fS, u128_0), rfl, ⟨by (try dsimp only); omega, by (try dsimp only); omega, by (try dsimp only); omega, by (try dsimp only); omega, by (try dsimp only); omega, by (try dsimp only); omega, zF0 (fa_n0 F4 (by omega) jv76_0 (by omega) F128 (by omega)), (fun z => absurd (by decide) z), by (try dsimp only); omega, (fun z => absurd (by decide) z), ci_fS_zSt⟩, ⟨by rw [ht]; exact hP, hD⟩⟩, hS.F ht⟩) hS.2.2 dX5_atom_138
        · have c81 : m76_L_3.toInt < 6 := z4 (by decide) rfl c81
          refine lv_iload_n hx hb dX5_atom_84 rfl (lv_at hl 1 rfl) ?_
          obtain ⟨g85, hz85, hE85⟩ := hV.2.2.1
          obtain ⟨tf85, ht85, hr85⟩ : zTt 0 .char g85 6 A s := hE85
          refine va_gets hx hb hz85 hS hown (hts _ qw494) (fun _ h9 => h9) dX5_atom_85 ?_
          refine lv_iload_n hx hb dX5_atom_88 rfl (lv_at hl 0 rfl) ?_
          refine va_tc hx hb ht85 hS (vp_in_iff.mpr ⟨by omega, by omega⟩) rfl dX5_atom_89 ?_
          refine lv_topi (fun v89 e89 => ?_)
          have i89 : 97 ≤ v89.toInt ∧ v89.toInt ≤ 121 := ztl (t := 0) (lo := 97) (hi := 121) hr85 (by decide) e89 (by omega) (by omega)
          have x89 := ztx (t := 0) hr85 e89 (by omega) (by omega)
          refine lv_icmp_ne (tgt := 114) hx hb dX5_atom_90 (by decide) (fun c90 => ?_) (fun c90 => ?_)
          · have c90 : ¬ v4.toInt = v89.toInt := z6 rfl rfl c90
            obtain ⟨v114, e114⟩ : ∃ y : Int32, y = m76_L_3 + Int32.ofInt (1) := ⟨_, rfl⟩
            refine lv_iinc (v := v114) (lv' := [(3, .int v114), (2, .int v4), (0, .ref h0), (1, .int 6)]) hx hb dX5_atom_114 hl (k := 0) rfl e114.symm (by decide) rfl (fun ls hl => ?_)
            have i114 : v114.toInt = m76_L_3.toInt + 1 := zaddI e114 (by decide) (by omega) (by omega)
            refine lv_goto (tgt := 76) hx hb dX5_atom_117 (by decide) ?_
            exact ih76 _ (by omega) v114 (by omega) (zNlS jv76_0 x89 (by omega) (by omega) i114) rfl H locs ls hP hD hS (lv_sub hl [0, 1, 2, 3] rfl)
          · have c90 : v4.toInt = v89.toInt := z5 rfl rfl c90
            refine lv_aload_n hx hb dX5_atom_93 rfl (lv_at hl 2 rfl) ?_
            refine va_get (D := (dC, dI)) (ci := 5) (v := .ref tp) (C := RX5) (T := TX5) (N := 3) hx hb hts iX5 hown hK hP 0 rfl rfl 2 (by decide) (hts _ qw172) (fun _ h9 => h9) rfl dX5_atom_94 ?_
            refine lv_dup hx hb dX5_atom_97 rfl ?_
            refine va_get (D := (dC, dI)) (ci := 9) (v := .int u4_0) (C := RX9) (T := TX9) (N := 3) hx hb hts iX9 hown hK hP 2 rfl rfl 2 (by decide) (hts _ qw137) (fun _ h9 => h9) rfl dX5_atom_98 ?_
            refine lv_iconst (v := 1) hx hb dX5_atom_101 (by decide) ?_
            refine lv_iadd hx hb dX5_atom_102 ?_
            refine lv_topi (fun v102 e102 => ?_)
            have i102 : v102.toInt = u4_0.toInt + 1 := zadd e102 rfl (by decide) (by omega) (by omega)
            refine va_put (D := (dC, dI)) (ci := 9) (v := .int v102) (ty := .int) (C := RX9) (T := TX9) (N := 3) hx hb hts iX9 tyX9 tyX9_ok nmX9 hown hK hP hD hS 2 rfl rfl 2 (by decide) (hts _ qw137) (fun _ h9 => h9) rfl (by decide +kernel) rfl rfl (Nat.le_of_ble_eq_true rfl) dX5_atom_103 (fun H locs hP9 hD9 hS9 => ?_)
            clear hP hD hS
            obtain ⟨hP, hD⟩ := zst (wX := [(h0, .inr (5, [.ref lS, .int sz5, .ref tp])), (lS, .inl (cI, 241, .inl fS)), (tp, .inr (9, [.ref tB, .int tl, .int v102])), (tB, .inl (cI, 260, .inl fB))]) hP9 hD9 rfl
            have hS := hS9
            clear hP9 hD9 hS9
            refine lv_aload_n hx hb dX5_atom_106 rfl (lv_at hl 2 rfl) ?_
            refine lv_iconst (v := 2) hx hb dX5_atom_107 (by decide) ?_
            refine lv_iload_n hx hb dX5_atom_108 rfl (lv_at hl 0 rfl) ?_
            obtain ⟨hPc, hDc, hFc⟩ := zc3 (wc := [(h0, .inr (5, [.ref lS, .int sz5, .ref tp])), (lS, .inl (cI, 241, .inl fS))]) hP hD hS hA [0, 1] (by decide +kernel) rfl
            refine va_callv (va_runV (As := [.int 2, .int m76_L_3]) (rest := []) ⟨hx, hb, hml, hown, hts⟩ (g_X5_put_2 l dC dI cI cJ h0 m76_L_3 lS sz5 tp fS H.size (by omega) n_sz5 ci_fS_zSt) (cwV 2 hts (zgV qw496 qw498 qw5 qw101 qw499) rfl rfl rfl hd_X5_put ⟨by (try dsimp only) <;> omega, by (try dsimp only) <;> omega⟩) (zPV hPc hK hDc (va_recv (q := (RX5, TX5, 3)) hK hP (ci := 5) (q0 := 0) rfl rfl)) rfl rfl hl.1 rfl (lv_room (Nat.le_of_ble_eq_true rfl)) dX5_atom_109 ⟨Nat.zero_le _, Nat.zero_le _⟩) hS (fun q _ h => hFc q h) hFc (fun u109 t H locs ht hvm hw hB hz1 hk1 hS9 => ?_)
            obtain ⟨u109_0, u109_1⟩ := u109
            obtain ⟨hP9, hD9⟩ := zj2 (wX := [(h0, .inr (5, [.ref lS, .int u109_0, .ref tp])), (lS, .inl (cI, 241, .inl u109_1)), (tp, .inr (9, [.ref tB, .int tl, .int v102])), (tB, .inl (cI, 260, .inl fB))]) hP hD hk1 hFc ht hB [0, 1] [(true, 0), (true, 1), (false, 2), (false, 3)] rfl (by decide +kernel) (by decide +kernel) rfl
            clear hP hD hS hPc hDc hFc hB hk1 hz1 hvm
            have hP := hP9
            have hD := hD9
            have hS := hS9
            clear hP9 hD9 hS9
            have zn109_2 : (2 : Int32).toInt = 2 := by decide
            obtain ⟨f109_0, f109_1, f109_2, f109_3, f109_4⟩ : (1 ≤ u109_0.toInt) ∧ (u109_0.toInt ≤ 241) ∧ (u109_0.toInt ≤ sz5.toInt + 1 ∧ sz5.toInt ≤ u109_0.toInt) ∧ (sz5.toInt < 241 → zEm fS sz5 [((2 : Int32).toInt, m76_L_3.toInt)] u109_1 u109_0) ∧ (zSt u109_1) := hw
            have F109 := f109_3
            refine lv_iconst (v := 1) hx hb dX5_atom_112 (by decide) ?_
            have zr0 : (1 : Int32).toInt = 1 := by decide
            rw [hQ]
            exact W.zret (v := 1) (ty := .boolean) hx hb hr rfl (fun t ht hW => ⟨⟨1, (u109_0, u109_1, v102), rfl, ⟨by (try dsimp only); omega, by (try dsimp only); omega, by (try dsimp only); omega, by (try dsimp only); omega, by (try dsimp only); omega, by (try dsimp only); omega, zF1 (fa_let F4 (by omega) x89 (by omega) (by omega) (by omega) i102), (fun _ => zFm (x := sAtm (sB fB tl.toInt) tl.toInt 0) (sAtm_mono (sB fB tl.toInt) tl.toInt 0) (zF1 (fa_let F4 (by omega) x89 (by omega) (by omega) (by omega) i102))), by (try dsimp only); omega, (fun _ => fea_l F4 (by omega) x89 (by omega) (by omega) (by omega) (F109 (by omega))), f109_4⟩, ⟨by rw [ht]; exact hP, hD⟩⟩, hS.F ht⟩) hS.2.2 dX5_atom_113
    refine lv_istore_n (lv' := [(3, .int 0), (2, .int v4), (0, .ref h0), (1, .int 6)]) hx hb dX5_atom_75 rfl hl (by decide) rfl (fun ls hl => ?_)
    have zj76_m76_L_3 : (0 : Int32).toInt = 0 := by decide
    exact J76 _ 0 (by decide) (zNl0) rfl H locs ls hP hD hS (lv_sub hl [0, 1, 2, 3] rfl)
  · have c11 : v4.toInt = 91 := z5 rfl (by decide) c11
    refine lv_iload_n hx hb dX5_atom_14 rfl (lv_at hl 2 rfl) ?_
    refine lv_bipush (v := 6) hx hb dX5_atom_15 (by decide) ?_
    refine lv_icmp_lt (tgt := 22) hx hb dX5_atom_17 (by decide) (fun c => absurd c (by decide)) (fun _ => ?_)
    refine lv_iconst (v := 0) hx hb dX5_atom_20 (by decide) ?_
    have zr0 : (0 : Int32).toInt = 0 := by decide
    rw [hQ]
    exact W.zret (v := 0) (ty := .boolean) hx hb hr rfl (fun t ht hW => ⟨⟨0, (sz5, fS, u4_0), rfl, ⟨by (try dsimp only); omega, by (try dsimp only); omega, by (try dsimp only); omega, by (try dsimp only); omega, by (try dsimp only); omega, by (try dsimp only); omega, zF0 (fa_top F4 (by omega)), (fun z => absurd (by decide) z), by (try dsimp only); omega, (fun z => absurd (by decide) z), ci_fS_zSt⟩, ⟨by rw [ht]; exact hP, hD⟩⟩, hS.F ht⟩) hS.2.2 dX5_atom_21
set_option maxHeartbeats 4000000 in
set_option maxRecDepth 100000 in
theorem g_X5_atom_k (l : Launch) (K fr lo : Nat) (ihS : zQ_X5_sum l K fr lo) (hfr : 0 ≤ fr) (hlo : 24 ≤ lo) : zQ_X5_atom l (K + 1) (fr + 1) (lo + 40) := by
  intro dC dI cI cJ h0 p0 lS sz5 tp fS tB tl ta fB sz n_p0 n_sz5 n_ta n_tl hty hsz hKd ci_fS_zSt
  refine Met.ofW (cc := cX5_atom) (maxL := 4) (ret := (some .boolean)) (by decide) rfl ?_
  intro p e s m args below meth c s₁ B hml hv
  obtain ⟨⟨hargs, hsz, hP, hK, hT⟩, hV⟩ := hv
  have hx := B.exec
  have hb := B.bytes
  have hr := B.returns
  have hts : ∀ w ∈ wA, w.before args s = true := fun w h => atoms_spec (ws := .code yX5_atom cX5_atom 4 (some .boolean) :: wA) B.pre w (List.mem_cons_of_mem _ h)
  have hown : s.vm.findClass RX5 = some m.cls := findClass_of_methodNamed B.named
  have hlocks := B.notSynchronized
  subst hsz
  have hD := hT.self (sz := s.heap.size)
  generalize hAe : va_A [(h0, .inr (5, [.ref lS, .int sz5, .ref tp])), (lS, .inl (cI, 241, .inl fS)), (tp, .inr (9, [.ref tB, .int tl, .int ta])), (tB, .inl (cI, 260, .inl fB))] s.heap.size = A at hD hV ⊢
  have hA : ∀ q : Nat, s.heap.size ≤ q → A q := fun q h => by rw [← hAe]; exact Or.inr h
  have hl := lv_entry ([.ref h0, .int p0]) (n := 4) (Nat.le_of_ble_eq_true rfl)
  rw [show entryFrame m args 4 = entryFrame m ([.ref h0, .int p0] : List Value).toArray 4 by rw [hargs], lg_entry_eq]
  generalize (lg_sl ([.ref h0, .int p0]) ++ List.replicate (4 - (lg_sl ([.ref h0, .int p0])).length) Slot.unset).toArray = ls at hl ⊢
  have hl : lv_has ls 4 [(0, .ref h0), (1, .int p0)] := hl
  refine zstart (fun H hH => ?_)
  rw [← hH] at hP
  have hS : va_S A s.heap H [] := by rw [hH]; exact va_S.rf
  generalize ([] : List Loc) = locs at hS ⊢
  refine zgen (fun R Q hR hQ => ?_)
  have hRf : R.frames = fr + 1 := by rw [hR]; rfl
  have hRl : R.locals = lo + 40 := by rw [hR]; rfl
  refine lv_aload_n hx hb dX5_atom_0 rfl (lv_at hl 0 rfl) ?_
  refine va_get (D := (dC, dI)) (ci := 5) (v := .ref tp) (C := RX5) (T := TX5) (N := 3) hx hb hts iX5 hown hK hP 0 rfl rfl 2 (by decide) (hts _ qw172) (fun _ h9 => h9) rfl dX5_atom_1 ?_
  obtain ⟨hPc, hDc, hFc⟩ := zc3 (wc := [(tp, .inr (9, [.ref tB, .int tl, .int ta])), (tB, .inl (cI, 260, .inl fB))]) hP hD hS hA [2, 3] (by decide +kernel) rfl
  refine va_calli (va_runV (As := []) (rest := []) ⟨hx, hb, hml, hown, hts⟩ (g_X9_peek l dC dI cI cJ tp tB tl ta fB H.size n_ta n_tl (hty)) (cwV 0 hts (zgV qw485 qw438 qw439 qw99 qw440) rfl rfl rfl hd_X9_peek ⟨by (try dsimp only) <;> omega, by (try dsimp only) <;> omega⟩) (zPV hPc hK hDc (va_recv (q := (RX9, TX9, 3)) hK hP (ci := 9) (q0 := 2) rfl rfl)) rfl rfl hl.1 rfl (lv_room (Nat.le_of_ble_eq_true rfl)) dX5_atom_4 ⟨Nat.zero_le _, Nat.zero_le _⟩) hS (fun q _ h => hFc q h) hFc (fun v4 u4 t H locs ht hvm hw hB hz1 hk1 hS9 => ?_)
  obtain ⟨u4_0, rfl⟩ : ∃ z, z = u4 := ⟨_, rfl⟩
  obtain ⟨hP9, hD9⟩ := zj2 (wX := [(h0, .inr (5, [.ref lS, .int sz5, .ref tp])), (lS, .inl (cI, 241, .inl fS)), (tp, .inr (9, [.ref tB, .int tl, .int u4_0])), (tB, .inl (cI, 260, .inl fB))]) hP hD hk1 hFc ht hB [2, 3] [(false, 0), (false, 1), (true, 0), (true, 1)] rfl (by decide +kernel) (by decide +kernel) rfl
  clear hP hD hS hPc hDc hFc hB hk1 hz1 hvm
  have hP := hP9
  have hD := hD9
  have hS := hS9
  clear hP9 hD9 hS9
  obtain ⟨f4_0, f4_1, f4_2, f4_3, f4_4⟩ : (0 ≤ u4_0.toInt) ∧ (u4_0.toInt ≤ 240) ∧ (¬ v4.toInt = 0 → u4_0.toInt < tl.toInt) ∧ (ta.toInt ≤ u4_0.toInt) ∧ (zPK fB tl ta v4 u4_0) := hw
  have F4 := f4_4
  refine lv_istore_n (lv' := [(2, .int v4), (0, .ref h0), (1, .int p0)]) hx hb dX5_atom_7 rfl hl (by decide) rfl (fun ls hl => ?_)
  refine lv_iload_n hx hb dX5_atom_8 rfl (lv_at hl 0 rfl) ?_
  refine lv_bipush (v := 91) hx hb dX5_atom_9 (by decide) ?_
  refine lv_icmp_ne (tgt := 74) hx hb dX5_atom_11 (by decide) (fun c11 => ?_) (fun c11 => ?_)
  · have c11 : ¬ v4.toInt = 91 := z6 rfl (by decide) c11
    refine lv_iconst (v := 0) hx hb dX5_atom_74 (by decide) ?_
    have J76 : ∀ (n : Nat) (m76_L_3 : Int32), (0 ≤ m76_L_3.toInt ∧ m76_L_3.toInt ≤ 6) → (zNl m76_L_3 v4) → (7 - m76_L_3.toInt).toNat = n → ∀ (H : Heap) (locs : List Loc) (ls : Array Slot), va_P (dC, dI) vwCl [(h0, .inr (5, [.ref lS, .int sz5, .ref tp])), (lS, .inl (cI, 241, .inl fS)), (tp, .inr (9, [.ref tB, .int tl, .int u4_0])), (tB, .inl (cI, 260, .inl fB))] H → va_D A [(h0, .inr (5, [.ref lS, .int sz5, .ref tp])), (lS, .inl (cI, 241, .inl fS)), (tp, .inr (9, [.ref tB, .int tl, .int u4_0])), (tB, .inl (cI, 260, .inl fB))] → va_S A s.heap H locs → lv_has ls 4 [(3, .int m76_L_3), (2, .int v4), (0, .ref h0), (1, .int p0)] → W p l e R s m args below meth c H locs 0 0 Q (F0 m 76 ls []) := by
      intro n76
      induction n76 using Nat.strongRecOn with
      | _ n76 ih76 =>
        intro m76_L_3 jf76_0 jv76_0 hmu76 H locs ls hP hD hS hl
        refine lv_iload_n hx hb dX5_atom_76 rfl (lv_at hl 0 rfl) ?_
        obtain ⟨g77, hz77, hE77⟩ := hV.2.2.1
        obtain ⟨tf77, ht77, hr77⟩ : zTt 0 .char g77 6 A s := hE77
        refine va_gets hx hb hz77 hS hown (hts _ qw494) (fun _ h9 => h9) dX5_atom_77 ?_
        refine va_tlen (v := 6) hx hb ht77 hS (by decide) dX5_atom_80 ?_
        refine lv_icmp_ge (tgt := 120) hx hb dX5_atom_81 (by decide) (fun c81 => ?_) (fun c81 => ?_)
        · have c81 : 6 ≤ m76_L_3.toInt := z3 (by decide) rfl c81
          refine lv_aload_n hx hb dX5_atom_120 rfl (lv_at hl 2 rfl) ?_
          refine va_get (D := (dC, dI)) (ci := 5) (v := .ref tp) (C := RX5) (T := TX5) (N := 3) hx hb hts iX5 hown hK hP 0 rfl rfl 2 (by decide) (hts _ qw172) (fun _ h9 => h9) rfl dX5_atom_121 ?_
          refine lv_iconst (v := 4) hx hb dX5_atom_124 (by decide) ?_
          refine lv_sipush (v := 9999) hx hb dX5_atom_125 (by decide) ?_
          obtain ⟨hPc, hDc, hFc⟩ := zc3 (wc := [(tp, .inr (9, [.ref tB, .int tl, .int u4_0])), (tB, .inl (cI, 260, .inl fB))]) hP hD hS hA [2, 3] (by decide +kernel) rfl
          refine va_calli (va_runV (As := [.int 4, .int 9999]) (rest := []) ⟨hx, hb, hml, hown, hts⟩ (g_X9_number_4 l dC dI cI cJ tp tB tl u4_0 fB H.size ⟨f4_0, f4_1⟩ n_tl) (cwV 2 hts (zgV qw500 qw456 qw457 qw99 qw458) rfl rfl rfl hd_X9_number ⟨by (try dsimp only) <;> omega, by (try dsimp only) <;> omega⟩) (zPV hPc hK hDc (va_recv (q := (RX9, TX9, 3)) hK hP (ci := 9) (q0 := 2) rfl rfl)) rfl rfl hl.1 rfl (lv_room (Nat.le_of_ble_eq_true rfl)) dX5_atom_128 ⟨Nat.zero_le _, Nat.zero_le _⟩) hS (fun q _ h => hFc q h) hFc (fun v128 u128 t H locs ht hvm hw hB hz1 hk1 hS9 => ?_)
          obtain ⟨u128_0, rfl⟩ : ∃ z, z = u128 := ⟨_, rfl⟩
          obtain ⟨hP9, hD9⟩ := zj2 (wX := [(h0, .inr (5, [.ref lS, .int sz5, .ref tp])), (lS, .inl (cI, 241, .inl fS)), (tp, .inr (9, [.ref tB, .int tl, .int u128_0])), (tB, .inl (cI, 260, .inl fB))]) hP hD hk1 hFc ht hB [2, 3] [(false, 0), (false, 1), (true, 0), (true, 1)] rfl (by decide +kernel) (by decide +kernel) rfl
          clear hP hD hS hPc hDc hFc hB hk1 hz1 hvm
          have hP := hP9
          have hD := hD9
          have hS := hS9
          clear hP9 hD9 hS9
          obtain ⟨f128_0, f128_1, f128_2, f128_3, f128_4, f128_5⟩ : ((-1) ≤ v128.toInt) ∧ (v128.toInt ≤ 9999) ∧ (0 ≤ u128_0.toInt) ∧ (u128_0.toInt ≤ 240) ∧ (zN4 fB tl u4_0 v128 u128_0) ∧ (0 ≤ v128.toInt → v128.toInt = sNv (sB fB tl.toInt) u4_0.toInt) := hw
          have F128 := f128_4
          have F128_1 := f128_5
          refine lv_istore_n (lv' := [(3, .int v128), (2, .int v4), (0, .ref h0), (1, .int p0)]) hx hb dX5_atom_131 rfl hl (by decide) rfl (fun ls hl => ?_)
          refine lv_iload_n hx hb dX5_atom_132 rfl (lv_at hl 0 rfl) ?_
          refine lv_iconst (v := (-1)) hx hb dX5_atom_133 (by decide) ?_
          refine lv_icmp_ne (tgt := 139) hx hb dX5_atom_134 (by decide) (fun c134 => ?_) (fun c134 => ?_)
          · have c134 : ¬ v128.toInt = (-1) := z6 rfl (by decide) c134
            have q139 := zN4L F128 (by omega)
            refine lv_aload_n hx hb dX5_atom_139 rfl (lv_at hl 2 rfl) ?_
            refine lv_iconst (v := 1) hx hb dX5_atom_140 (by decide) ?_
            refine lv_iload_n hx hb dX5_atom_141 rfl (lv_at hl 0 rfl) ?_
            obtain ⟨hPc, hDc, hFc⟩ := zc3 (wc := [(h0, .inr (5, [.ref lS, .int sz5, .ref tp])), (lS, .inl (cI, 241, .inl fS))]) hP hD hS hA [0, 1] (by decide +kernel) rfl
            refine va_callv (va_runV (As := [.int 1, .int v128]) (rest := []) ⟨hx, hb, hml, hown, hts⟩ (g_X5_put_1 l dC dI cI cJ h0 v128 lS sz5 tp fS H.size n_sz5 ci_fS_zSt) (cwV 2 hts (zgV qw496 qw498 qw5 qw101 qw499) rfl rfl rfl hd_X5_put ⟨by (try dsimp only) <;> omega, by (try dsimp only) <;> omega⟩) (zPV hPc hK hDc (va_recv (q := (RX5, TX5, 3)) hK hP (ci := 5) (q0 := 0) rfl rfl)) rfl rfl hl.1 rfl (lv_room (Nat.le_of_ble_eq_true rfl)) dX5_atom_142 ⟨Nat.zero_le _, Nat.zero_le _⟩) hS (fun q _ h => hFc q h) hFc (fun u142 t H locs ht hvm hw hB hz1 hk1 hS9 => ?_)
            obtain ⟨u142_0, u142_1⟩ := u142
            obtain ⟨hP9, hD9⟩ := zj2 (wX := [(h0, .inr (5, [.ref lS, .int u142_0, .ref tp])), (lS, .inl (cI, 241, .inl u142_1)), (tp, .inr (9, [.ref tB, .int tl, .int u128_0])), (tB, .inl (cI, 260, .inl fB))]) hP hD hk1 hFc ht hB [0, 1] [(true, 0), (true, 1), (false, 2), (false, 3)] rfl (by decide +kernel) (by decide +kernel) rfl
            clear hP hD hS hPc hDc hFc hB hk1 hz1 hvm
            have hP := hP9
            have hD := hD9
            have hS := hS9
            clear hP9 hD9 hS9
            have zn142_1 : (1 : Int32).toInt = 1 := by decide
            obtain ⟨f142_0, f142_1, f142_2, f142_3, f142_4⟩ : (1 ≤ u142_0.toInt) ∧ (u142_0.toInt ≤ 241) ∧ (u142_0.toInt ≤ sz5.toInt + 1 ∧ sz5.toInt ≤ u142_0.toInt) ∧ (sz5.toInt < 241 → zEm fS sz5 [((1 : Int32).toInt, v128.toInt)] u142_1 u142_0) ∧ (zSt u142_1) := hw
            have F142 := f142_3
            refine lv_iconst (v := 1) hx hb dX5_atom_145 (by decide) ?_
            have zr0 : (1 : Int32).toInt = 1 := by decide
            rw [hQ]
            exact W.zret (v := 1) (ty := .boolean) hx hb hr rfl (fun t ht hW => ⟨⟨1, (u142_0, u142_1, u128_0), rfl, ⟨by (try dsimp only); omega, by (try dsimp only); omega, by (try dsimp only); omega, by (try dsimp only); omega, by (try dsimp only); omega, by (try dsimp only); omega, zF1 (fa_n1 F4 (by omega) jv76_0 (by omega) F128 (by omega)), (fun _ => zFm (x := sAtm (sB fB tl.toInt) tl.toInt (K + 1)) (sAtm_mono (sB fB tl.toInt) tl.toInt (K + 1)) (zF1 (fa_n1 F4 (by omega) jv76_0 (by omega) F128 (by omega)))), by (try dsimp only); omega, (fun _ => fea_n F4 (by omega) jv76_0 (by omega) (F128_1 (by omega)) (F142 (by omega))), f142_4⟩, ⟨by rw [ht]; exact hP, hD⟩⟩, hS.F ht⟩) hS.2.2 dX5_atom_146
          · have c134 : v128.toInt = (-1) := z5 rfl (by decide) c134
            refine lv_iconst (v := 0) hx hb dX5_atom_137 (by decide) ?_
            have zr0 : (0 : Int32).toInt = 0 := by decide
            rw [hQ]
            exact W.zret (v := 0) (ty := .boolean) hx hb hr rfl (fun t ht hW => ⟨⟨0, (sz5, fS, u128_0), rfl, ⟨by (try dsimp only); omega, by (try dsimp only); omega, by (try dsimp only); omega, by (try dsimp only); omega, by (try dsimp only); omega, by (try dsimp only); omega, zF0 (fa_n0 F4 (by omega) jv76_0 (by omega) F128 (by omega)), (fun z => absurd (by decide) z), by (try dsimp only); omega, (fun z => absurd (by decide) z), ci_fS_zSt⟩, ⟨by rw [ht]; exact hP, hD⟩⟩, hS.F ht⟩) hS.2.2 dX5_atom_138
        · have c81 : m76_L_3.toInt < 6 := z4 (by decide) rfl c81
          refine lv_iload_n hx hb dX5_atom_84 rfl (lv_at hl 1 rfl) ?_
          obtain ⟨g85, hz85, hE85⟩ := hV.2.2.1
          obtain ⟨tf85, ht85, hr85⟩ : zTt 0 .char g85 6 A s := hE85
          refine va_gets hx hb hz85 hS hown (hts _ qw494) (fun _ h9 => h9) dX5_atom_85 ?_
          refine lv_iload_n hx hb dX5_atom_88 rfl (lv_at hl 0 rfl) ?_
          refine va_tc hx hb ht85 hS (vp_in_iff.mpr ⟨by omega, by omega⟩) rfl dX5_atom_89 ?_
          refine lv_topi (fun v89 e89 => ?_)
          have i89 : 97 ≤ v89.toInt ∧ v89.toInt ≤ 121 := ztl (t := 0) (lo := 97) (hi := 121) hr85 (by decide) e89 (by omega) (by omega)
          have x89 := ztx (t := 0) hr85 e89 (by omega) (by omega)
          refine lv_icmp_ne (tgt := 114) hx hb dX5_atom_90 (by decide) (fun c90 => ?_) (fun c90 => ?_)
          · have c90 : ¬ v4.toInt = v89.toInt := z6 rfl rfl c90
            obtain ⟨v114, e114⟩ : ∃ y : Int32, y = m76_L_3 + Int32.ofInt (1) := ⟨_, rfl⟩
            refine lv_iinc (v := v114) (lv' := [(3, .int v114), (2, .int v4), (0, .ref h0), (1, .int p0)]) hx hb dX5_atom_114 hl (k := 0) rfl e114.symm (by decide) rfl (fun ls hl => ?_)
            have i114 : v114.toInt = m76_L_3.toInt + 1 := zaddI e114 (by decide) (by omega) (by omega)
            refine lv_goto (tgt := 76) hx hb dX5_atom_117 (by decide) ?_
            exact ih76 _ (by omega) v114 (by omega) (zNlS jv76_0 x89 (by omega) (by omega) i114) rfl H locs ls hP hD hS (lv_sub hl [0, 1, 2, 3] rfl)
          · have c90 : v4.toInt = v89.toInt := z5 rfl rfl c90
            refine lv_aload_n hx hb dX5_atom_93 rfl (lv_at hl 2 rfl) ?_
            refine va_get (D := (dC, dI)) (ci := 5) (v := .ref tp) (C := RX5) (T := TX5) (N := 3) hx hb hts iX5 hown hK hP 0 rfl rfl 2 (by decide) (hts _ qw172) (fun _ h9 => h9) rfl dX5_atom_94 ?_
            refine lv_dup hx hb dX5_atom_97 rfl ?_
            refine va_get (D := (dC, dI)) (ci := 9) (v := .int u4_0) (C := RX9) (T := TX9) (N := 3) hx hb hts iX9 hown hK hP 2 rfl rfl 2 (by decide) (hts _ qw137) (fun _ h9 => h9) rfl dX5_atom_98 ?_
            refine lv_iconst (v := 1) hx hb dX5_atom_101 (by decide) ?_
            refine lv_iadd hx hb dX5_atom_102 ?_
            refine lv_topi (fun v102 e102 => ?_)
            have i102 : v102.toInt = u4_0.toInt + 1 := zadd e102 rfl (by decide) (by omega) (by omega)
            refine va_put (D := (dC, dI)) (ci := 9) (v := .int v102) (ty := .int) (C := RX9) (T := TX9) (N := 3) hx hb hts iX9 tyX9 tyX9_ok nmX9 hown hK hP hD hS 2 rfl rfl 2 (by decide) (hts _ qw137) (fun _ h9 => h9) rfl (by decide +kernel) rfl rfl (Nat.le_of_ble_eq_true rfl) dX5_atom_103 (fun H locs hP9 hD9 hS9 => ?_)
            clear hP hD hS
            obtain ⟨hP, hD⟩ := zst (wX := [(h0, .inr (5, [.ref lS, .int sz5, .ref tp])), (lS, .inl (cI, 241, .inl fS)), (tp, .inr (9, [.ref tB, .int tl, .int v102])), (tB, .inl (cI, 260, .inl fB))]) hP9 hD9 rfl
            have hS := hS9
            clear hP9 hD9 hS9
            refine lv_aload_n hx hb dX5_atom_106 rfl (lv_at hl 2 rfl) ?_
            refine lv_iconst (v := 2) hx hb dX5_atom_107 (by decide) ?_
            refine lv_iload_n hx hb dX5_atom_108 rfl (lv_at hl 0 rfl) ?_
            obtain ⟨hPc, hDc, hFc⟩ := zc3 (wc := [(h0, .inr (5, [.ref lS, .int sz5, .ref tp])), (lS, .inl (cI, 241, .inl fS))]) hP hD hS hA [0, 1] (by decide +kernel) rfl
            refine va_callv (va_runV (As := [.int 2, .int m76_L_3]) (rest := []) ⟨hx, hb, hml, hown, hts⟩ (g_X5_put_2 l dC dI cI cJ h0 m76_L_3 lS sz5 tp fS H.size (by omega) n_sz5 ci_fS_zSt) (cwV 2 hts (zgV qw496 qw498 qw5 qw101 qw499) rfl rfl rfl hd_X5_put ⟨by (try dsimp only) <;> omega, by (try dsimp only) <;> omega⟩) (zPV hPc hK hDc (va_recv (q := (RX5, TX5, 3)) hK hP (ci := 5) (q0 := 0) rfl rfl)) rfl rfl hl.1 rfl (lv_room (Nat.le_of_ble_eq_true rfl)) dX5_atom_109 ⟨Nat.zero_le _, Nat.zero_le _⟩) hS (fun q _ h => hFc q h) hFc (fun u109 t H locs ht hvm hw hB hz1 hk1 hS9 => ?_)
            obtain ⟨u109_0, u109_1⟩ := u109
            obtain ⟨hP9, hD9⟩ := zj2 (wX := [(h0, .inr (5, [.ref lS, .int u109_0, .ref tp])), (lS, .inl (cI, 241, .inl u109_1)), (tp, .inr (9, [.ref tB, .int tl, .int v102])), (tB, .inl (cI, 260, .inl fB))]) hP hD hk1 hFc ht hB [0, 1] [(true, 0), (true, 1), (false, 2), (false, 3)] rfl (by decide +kernel) (by decide +kernel) rfl
            clear hP hD hS hPc hDc hFc hB hk1 hz1 hvm
            have hP := hP9
            have hD := hD9
            have hS := hS9
            clear hP9 hD9 hS9
            have zn109_2 : (2 : Int32).toInt = 2 := by decide
            obtain ⟨f109_0, f109_1, f109_2, f109_3, f109_4⟩ : (1 ≤ u109_0.toInt) ∧ (u109_0.toInt ≤ 241) ∧ (u109_0.toInt ≤ sz5.toInt + 1 ∧ sz5.toInt ≤ u109_0.toInt) ∧ (sz5.toInt < 241 → zEm fS sz5 [((2 : Int32).toInt, m76_L_3.toInt)] u109_1 u109_0) ∧ (zSt u109_1) := hw
            have F109 := f109_3
            refine lv_iconst (v := 1) hx hb dX5_atom_112 (by decide) ?_
            have zr0 : (1 : Int32).toInt = 1 := by decide
            rw [hQ]
            exact W.zret (v := 1) (ty := .boolean) hx hb hr rfl (fun t ht hW => ⟨⟨1, (u109_0, u109_1, v102), rfl, ⟨by (try dsimp only); omega, by (try dsimp only); omega, by (try dsimp only); omega, by (try dsimp only); omega, by (try dsimp only); omega, by (try dsimp only); omega, zF1 (fa_let F4 (by omega) x89 (by omega) (by omega) (by omega) i102), (fun _ => zFm (x := sAtm (sB fB tl.toInt) tl.toInt (K + 1)) (sAtm_mono (sB fB tl.toInt) tl.toInt (K + 1)) (zF1 (fa_let F4 (by omega) x89 (by omega) (by omega) (by omega) i102))), by (try dsimp only); omega, (fun _ => fea_l F4 (by omega) x89 (by omega) (by omega) (by omega) (F109 (by omega))), f109_4⟩, ⟨by rw [ht]; exact hP, hD⟩⟩, hS.F ht⟩) hS.2.2 dX5_atom_113
    refine lv_istore_n (lv' := [(3, .int 0), (2, .int v4), (0, .ref h0), (1, .int p0)]) hx hb dX5_atom_75 rfl hl (by decide) rfl (fun ls hl => ?_)
    have zj76_m76_L_3 : (0 : Int32).toInt = 0 := by decide
    exact J76 _ 0 (by decide) (zNl0) rfl H locs ls hP hD hS (lv_sub hl [0, 1, 2, 3] rfl)
  · have c11 : v4.toInt = 91 := z5 rfl (by decide) c11
    have q14 : p0.toInt ≤ 5 := by omega
    refine lv_iload_n hx hb dX5_atom_14 rfl (lv_at hl 2 rfl) ?_
    refine lv_bipush (v := 6) hx hb dX5_atom_15 (by decide) ?_
    refine lv_icmp_lt (tgt := 22) hx hb dX5_atom_17 (by decide) (fun c17 => ?_) (fun c17 => by exfalso; have c17 : 6 ≤ p0.toInt := z2 rfl (by decide) c17; omega)
    have c17 : p0.toInt < 6 := z1 rfl (by decide) c17
    refine lv_aload_n hx hb dX5_atom_22 rfl (lv_at hl 1 rfl) ?_
    refine va_get (D := (dC, dI)) (ci := 5) (v := .ref tp) (C := RX5) (T := TX5) (N := 3) hx hb hts iX5 hown hK hP 0 rfl rfl 2 (by decide) (hts _ qw172) (fun _ h9 => h9) rfl dX5_atom_23 ?_
    refine lv_dup hx hb dX5_atom_26 rfl ?_
    refine va_get (D := (dC, dI)) (ci := 9) (v := .int u4_0) (C := RX9) (T := TX9) (N := 3) hx hb hts iX9 hown hK hP 2 rfl rfl 2 (by decide) (hts _ qw137) (fun _ h9 => h9) rfl dX5_atom_27 ?_
    refine lv_iconst (v := 1) hx hb dX5_atom_30 (by decide) ?_
    refine lv_iadd hx hb dX5_atom_31 ?_
    refine lv_topi (fun v31 e31 => ?_)
    have i31 : v31.toInt = u4_0.toInt + 1 := zadd e31 rfl (by decide) (by omega) (by omega)
    refine va_put (D := (dC, dI)) (ci := 9) (v := .int v31) (ty := .int) (C := RX9) (T := TX9) (N := 3) hx hb hts iX9 tyX9 tyX9_ok nmX9 hown hK hP hD hS 2 rfl rfl 2 (by decide) (hts _ qw137) (fun _ h9 => h9) rfl (by decide +kernel) rfl rfl (Nat.le_of_ble_eq_true rfl) dX5_atom_32 (fun H locs hP9 hD9 hS9 => ?_)
    clear hP hD hS
    obtain ⟨hP, hD⟩ := zst (wX := [(h0, .inr (5, [.ref lS, .int sz5, .ref tp])), (lS, .inl (cI, 241, .inl fS)), (tp, .inr (9, [.ref tB, .int tl, .int v31])), (tB, .inl (cI, 260, .inl fB))]) hP9 hD9 rfl
    have hS := hS9
    clear hP9 hD9 hS9
    refine lv_aload_n hx hb dX5_atom_35 rfl (lv_at hl 1 rfl) ?_
    refine lv_iload_n hx hb dX5_atom_36 rfl (lv_at hl 2 rfl) ?_
    refine lv_iconst (v := 1) hx hb dX5_atom_37 (by decide) ?_
    refine lv_iadd hx hb dX5_atom_38 ?_
    refine lv_topi (fun v38 e38 => ?_)
    have i38 : v38.toInt = p0.toInt + 1 := zadd e38 rfl (by decide) (by omega) (by omega)
    obtain ⟨hPc, hDc, hFc⟩ := zc3 (wc := [(h0, .inr (5, [.ref lS, .int sz5, .ref tp])), (lS, .inl (cI, 241, .inl fS)), (tp, .inr (9, [.ref tB, .int tl, .int v31])), (tB, .inl (cI, 260, .inl fB))]) hP hD hS hA [0, 1, 2, 3] (by decide +kernel) rfl
    refine va_calli (va_runV (As := [.int v38]) (rest := []) ⟨hx, hb, hml, hown, hts⟩ (ihS dC dI cI cJ h0 v38 lS sz5 tp fS tB tl v31 fB H.size (by omega) n_sz5 (by omega) n_tl (hty) (by omega) (by omega) ci_fS_zSt) (cwV 1 hts (zgV qw486 qw488 qw3 qw101 qw489) rfl rfl rfl hd_X5_sum ⟨by (try dsimp only) <;> omega, by (try dsimp only) <;> omega⟩) (zPWV hPc hK hDc (va_recv (q := (RX5, TX5, 3)) hK hP (ci := 5) (q0 := 0) rfl rfl) (zV_call hV hS hFc)) rfl rfl hl.1 rfl (lv_room (Nat.le_of_ble_eq_true rfl)) dX5_atom_39 ⟨Nat.zero_le _, Nat.zero_le _⟩) hS (fun q _ h => hFc q h) hFc (fun v39 u39 t H locs ht hvm hw hB hz1 hk1 hS9 => ?_)
    obtain ⟨u39_0, u39_1, u39_2⟩ := u39
    obtain ⟨hP9, hD9⟩ := zj2 (wX := [(h0, .inr (5, [.ref lS, .int u39_0, .ref tp])), (lS, .inl (cI, 241, .inl u39_1)), (tp, .inr (9, [.ref tB, .int tl, .int u39_2])), (tB, .inl (cI, 260, .inl fB))]) hP hD hk1 hFc ht hB [0, 1, 2, 3] [(true, 0), (true, 1), (true, 2), (true, 3)] rfl (by decide +kernel) (by decide +kernel) rfl
    clear hP hD hS hPc hDc hFc hB hk1 hz1 hvm
    have hP := hP9
    have hD := hD9
    have hS := hS9
    clear hP9 hD9 hS9
    obtain ⟨f39_0, f39_1, f39_2, f39_3, f39_4, f39_5, f39_6, f39_7, f39_8, f39_9, f39_10⟩ : (0 ≤ v39.toInt) ∧ (v39.toInt ≤ 1) ∧ (0 ≤ u39_0.toInt) ∧ (u39_0.toInt ≤ 241) ∧ (0 ≤ u39_2.toInt) ∧ (u39_2.toInt ≤ 240) ∧ (zF (sSum (sB fB tl.toInt) tl.toInt K v31.toInt) v39 u39_2) ∧ (¬ v39.toInt = 0 → v31.toInt < u39_2.toInt) ∧ (¬ v39.toInt = 0 → u39_0.toInt + v31.toInt ≤ sz5.toInt + u39_2.toInt) ∧ (¬ v39.toInt = 0 → zEm fS sz5 (eSum (sB fB tl.toInt) tl.toInt K v31.toInt) u39_1 u39_0) ∧ (zSt u39_1) := hw
    have F39 := f39_6
    have F39_1 := f39_9
    refine lv_if_eq (tgt := 57) hx hb dX5_atom_42 (by decide) (fun c42 => ?_) (fun c42 => ?_)
    · have c42 : v39.toInt = 0 := z5 rfl (by decide) c42
      refine lv_iconst (v := 0) hx hb dX5_atom_57 (by decide) ?_
      have zr0 : (0 : Int32).toInt = 0 := by decide
      rw [hQ]
      exact W.zret (v := 0) (ty := .boolean) hx hb hr rfl (fun t ht hW => ⟨⟨0, (u39_0, u39_1, u39_2), rfl, ⟨by (try dsimp only); omega, by (try dsimp only); omega, by (try dsimp only); omega, by (try dsimp only); omega, by (try dsimp only); omega, by (try dsimp only); omega, zF0 (fa_sb F4 (by omega) F39 i31 (by omega)), (fun z => absurd (by decide) z), by (try dsimp only); omega, (fun z => absurd (by decide) z), f39_10⟩, ⟨by rw [ht]; exact hP, hD⟩⟩, hS.F ht⟩) hS.2.2 dX5_atom_58
    · have c42 : ¬ v39.toInt = 0 := z6 rfl (by decide) c42
      refine lv_aload_n hx hb dX5_atom_45 rfl (lv_at hl 1 rfl) ?_
      refine va_get (D := (dC, dI)) (ci := 5) (v := .ref tp) (C := RX5) (T := TX5) (N := 3) hx hb hts iX5 hown hK hP 0 rfl rfl 2 (by decide) (hts _ qw172) (fun _ h9 => h9) rfl dX5_atom_46 ?_
      obtain ⟨hPc, hDc, hFc⟩ := zc3 (wc := [(tp, .inr (9, [.ref tB, .int tl, .int u39_2])), (tB, .inl (cI, 260, .inl fB))]) hP hD hS hA [2, 3] (by decide +kernel) rfl
      refine va_calli (va_runV (As := []) (rest := []) ⟨hx, hb, hml, hown, hts⟩ (g_X9_peek l dC dI cI cJ tp tB tl u39_2 fB H.size ⟨f39_4, f39_5⟩ n_tl (hty)) (cwV 0 hts (zgV qw485 qw438 qw439 qw99 qw440) rfl rfl rfl hd_X9_peek ⟨by (try dsimp only) <;> omega, by (try dsimp only) <;> omega⟩) (zPV hPc hK hDc (va_recv (q := (RX9, TX9, 3)) hK hP (ci := 9) (q0 := 2) rfl rfl)) rfl rfl hl.1 rfl (lv_room (Nat.le_of_ble_eq_true rfl)) dX5_atom_49 ⟨Nat.zero_le _, Nat.zero_le _⟩) hS (fun q _ h => hFc q h) hFc (fun v49 u49 t H locs ht hvm hw hB hz1 hk1 hS9 => ?_)
      obtain ⟨u49_0, rfl⟩ : ∃ z, z = u49 := ⟨_, rfl⟩
      obtain ⟨hP9, hD9⟩ := zj2 (wX := [(h0, .inr (5, [.ref lS, .int u39_0, .ref tp])), (lS, .inl (cI, 241, .inl u39_1)), (tp, .inr (9, [.ref tB, .int tl, .int u49_0])), (tB, .inl (cI, 260, .inl fB))]) hP hD hk1 hFc ht hB [2, 3] [(false, 0), (false, 1), (true, 0), (true, 1)] rfl (by decide +kernel) (by decide +kernel) rfl
      clear hP hD hS hPc hDc hFc hB hk1 hz1 hvm
      have hP := hP9
      have hD := hD9
      have hS := hS9
      clear hP9 hD9 hS9
      obtain ⟨f49_0, f49_1, f49_2, f49_3, f49_4⟩ : (0 ≤ u49_0.toInt) ∧ (u49_0.toInt ≤ 240) ∧ (¬ v49.toInt = 0 → u49_0.toInt < tl.toInt) ∧ (u39_2.toInt ≤ u49_0.toInt) ∧ (zPK fB tl u39_2 v49 u49_0) := hw
      have F49 := f49_4
      refine lv_bipush (v := 93) hx hb dX5_atom_52 (by decide) ?_
      refine lv_icmp_eq (tgt := 59) hx hb dX5_atom_54 (by decide) (fun c54 => ?_) (fun c54 => ?_)
      · have c54 : v49.toInt = 93 := z5 rfl (by decide) c54
        refine lv_aload_n hx hb dX5_atom_59 rfl (lv_at hl 1 rfl) ?_
        refine va_get (D := (dC, dI)) (ci := 5) (v := .ref tp) (C := RX5) (T := TX5) (N := 3) hx hb hts iX5 hown hK hP 0 rfl rfl 2 (by decide) (hts _ qw172) (fun _ h9 => h9) rfl dX5_atom_60 ?_
        refine lv_dup hx hb dX5_atom_63 rfl ?_
        refine va_get (D := (dC, dI)) (ci := 9) (v := .int u49_0) (C := RX9) (T := TX9) (N := 3) hx hb hts iX9 hown hK hP 2 rfl rfl 2 (by decide) (hts _ qw137) (fun _ h9 => h9) rfl dX5_atom_64 ?_
        refine lv_iconst (v := 1) hx hb dX5_atom_67 (by decide) ?_
        refine lv_iadd hx hb dX5_atom_68 ?_
        refine lv_topi (fun v68 e68 => ?_)
        have i68 : v68.toInt = u49_0.toInt + 1 := zadd e68 rfl (by decide) (by omega) (by omega)
        refine va_put (D := (dC, dI)) (ci := 9) (v := .int v68) (ty := .int) (C := RX9) (T := TX9) (N := 3) hx hb hts iX9 tyX9 tyX9_ok nmX9 hown hK hP hD hS 2 rfl rfl 2 (by decide) (hts _ qw137) (fun _ h9 => h9) rfl (by decide +kernel) rfl rfl (Nat.le_of_ble_eq_true rfl) dX5_atom_69 (fun H locs hP9 hD9 hS9 => ?_)
        clear hP hD hS
        obtain ⟨hP, hD⟩ := zst (wX := [(h0, .inr (5, [.ref lS, .int u39_0, .ref tp])), (lS, .inl (cI, 241, .inl u39_1)), (tp, .inr (9, [.ref tB, .int tl, .int v68])), (tB, .inl (cI, 260, .inl fB))]) hP9 hD9 rfl
        have hS := hS9
        clear hP9 hD9 hS9
        refine lv_iconst (v := 1) hx hb dX5_atom_72 (by decide) ?_
        have zr0 : (1 : Int32).toInt = 1 := by decide
        rw [hQ]
        exact W.zret (v := 1) (ty := .boolean) hx hb hr rfl (fun t ht hW => ⟨⟨1, (u39_0, u39_1, v68), rfl, ⟨by (try dsimp only); omega, by (try dsimp only); omega, by (try dsimp only); omega, by (try dsimp only); omega, by (try dsimp only); omega, by (try dsimp only); omega, zF1 (fa_yb F4 (by omega) F39 i31 (by omega) F49 (by omega) i68), (fun _ => zFm (x := sAtm (sB fB tl.toInt) tl.toInt (K + 1)) (sAtm_mono (sB fB tl.toInt) tl.toInt (K + 1)) (zF1 (fa_yb F4 (by omega) F39 i31 (by omega) F49 (by omega) i68))), by (try dsimp only); omega, (fun _ => fea_b F4 (by omega) i31 (F39_1 (by omega))), f39_10⟩, ⟨by rw [ht]; exact hP, hD⟩⟩, hS.F ht⟩) hS.2.2 dX5_atom_73
      · have c54 : ¬ v49.toInt = 93 := z6 rfl (by decide) c54
        refine lv_iconst (v := 0) hx hb dX5_atom_57 (by decide) ?_
        have zr0 : (0 : Int32).toInt = 0 := by decide
        rw [hQ]
        exact W.zret (v := 0) (ty := .boolean) hx hb hr rfl (fun t ht hW => ⟨⟨0, (u39_0, u39_1, u49_0), rfl, ⟨by (try dsimp only); omega, by (try dsimp only); omega, by (try dsimp only); omega, by (try dsimp only); omega, by (try dsimp only); omega, by (try dsimp only); omega, zF0 (fa_nb F4 (by omega) F39 i31 (by omega) F49 (by omega)), (fun z => absurd (by decide) z), by (try dsimp only); omega, (fun z => absurd (by decide) z), f39_10⟩, ⟨by rw [ht]; exact hP, hD⟩⟩, hS.F ht⟩) hS.2.2 dX5_atom_58
set_option maxHeartbeats 4000000 in
set_option maxRecDepth 100000 in
theorem g_X5_unit_z (l : Launch) (K fr lo : Nat) (ihS : zQ_X5_sum l 0 fr lo) (hfr : 0 ≤ fr) (hlo : 22 ≤ lo) : zQ_X5_unit l 0 (fr + 1) (lo + 40) := by
  intro dC dI cI cJ h0 p0 lS sz5 tp fS tB tl ta fB sz n_p0 n_sz5 n_ta n_tl hty hsz hKd ci_fS_zSt
  obtain rfl : p0 = 6 := z7 (a := 6) (by decide) (by omega)
  refine Met.ofW (cc := cX5_unit) (maxL := 5) (ret := (some .boolean)) (by decide) rfl ?_
  intro p e s m args below meth c s₁ B hml hv
  obtain ⟨⟨hargs, hsz, hP, hK, hT⟩, hV⟩ := hv
  have hx := B.exec
  have hb := B.bytes
  have hr := B.returns
  have hts : ∀ w ∈ wA, w.before args s = true := fun w h => atoms_spec (ws := .code yX5_unit cX5_unit 5 (some .boolean) :: wA) B.pre w (List.mem_cons_of_mem _ h)
  have hown : s.vm.findClass RX5 = some m.cls := findClass_of_methodNamed B.named
  have hlocks := B.notSynchronized
  subst hsz
  have hD := hT.self (sz := s.heap.size)
  generalize hAe : va_A [(h0, .inr (5, [.ref lS, .int sz5, .ref tp])), (lS, .inl (cI, 241, .inl fS)), (tp, .inr (9, [.ref tB, .int tl, .int ta])), (tB, .inl (cI, 260, .inl fB))] s.heap.size = A at hD hV ⊢
  have hA : ∀ q : Nat, s.heap.size ≤ q → A q := fun q h => by rw [← hAe]; exact Or.inr h
  have hl := lv_entry ([.ref h0, .int 6, .int 0]) (n := 5) (Nat.le_of_ble_eq_true rfl)
  rw [show entryFrame m args 5 = entryFrame m ([.ref h0, .int 6, .int 0] : List Value).toArray 5 by rw [hargs], lg_entry_eq]
  generalize (lg_sl ([.ref h0, .int 6, .int 0]) ++ List.replicate (5 - (lg_sl ([.ref h0, .int 6, .int 0])).length) Slot.unset).toArray = ls at hl ⊢
  have hl : lv_has ls 5 [(0, .ref h0), (1, .int 6), (2, .int 0)] := hl
  refine zstart (fun H hH => ?_)
  rw [← hH] at hP
  have hS : va_S A s.heap H [] := by rw [hH]; exact va_S.rf
  generalize ([] : List Loc) = locs at hS ⊢
  refine zgen (fun R Q hR hQ => ?_)
  have hRf : R.frames = fr + 1 := by rw [hR]; rfl
  have hRl : R.locals = lo + 40 := by rw [hR]; rfl
  refine lv_aload_n hx hb dX5_unit_0 rfl (lv_at hl 0 rfl) ?_
  refine va_get (D := (dC, dI)) (ci := 5) (v := .ref tp) (C := RX5) (T := TX5) (N := 3) hx hb hts iX5 hown hK hP 0 rfl rfl 2 (by decide) (hts _ qw172) (fun _ h9 => h9) rfl dX5_unit_1 ?_
  obtain ⟨hPc, hDc, hFc⟩ := zc3 (wc := [(tp, .inr (9, [.ref tB, .int tl, .int ta])), (tB, .inl (cI, 260, .inl fB))]) hP hD hS hA [2, 3] (by decide +kernel) rfl
  refine va_calli (va_runV (As := []) (rest := []) ⟨hx, hb, hml, hown, hts⟩ (g_X9_peek l dC dI cI cJ tp tB tl ta fB H.size n_ta n_tl (hty)) (cwV 0 hts (zgV qw485 qw438 qw439 qw99 qw440) rfl rfl rfl hd_X9_peek ⟨by (try dsimp only) <;> omega, by (try dsimp only) <;> omega⟩) (zPV hPc hK hDc (va_recv (q := (RX9, TX9, 3)) hK hP (ci := 9) (q0 := 2) rfl rfl)) rfl rfl hl.1 rfl (lv_room (Nat.le_of_ble_eq_true rfl)) dX5_unit_4 ⟨Nat.zero_le _, Nat.zero_le _⟩) hS (fun q _ h => hFc q h) hFc (fun v4 u4 t H locs ht hvm hw hB hz1 hk1 hS9 => ?_)
  obtain ⟨u4_0, rfl⟩ : ∃ z, z = u4 := ⟨_, rfl⟩
  obtain ⟨hP9, hD9⟩ := zj2 (wX := [(h0, .inr (5, [.ref lS, .int sz5, .ref tp])), (lS, .inl (cI, 241, .inl fS)), (tp, .inr (9, [.ref tB, .int tl, .int u4_0])), (tB, .inl (cI, 260, .inl fB))]) hP hD hk1 hFc ht hB [2, 3] [(false, 0), (false, 1), (true, 0), (true, 1)] rfl (by decide +kernel) (by decide +kernel) rfl
  clear hP hD hS hPc hDc hFc hB hk1 hz1 hvm
  have hP := hP9
  have hD := hD9
  have hS := hS9
  clear hP9 hD9 hS9
  obtain ⟨f4_0, f4_1, f4_2, f4_3, f4_4⟩ : (0 ≤ u4_0.toInt) ∧ (u4_0.toInt ≤ 240) ∧ (¬ v4.toInt = 0 → u4_0.toInt < tl.toInt) ∧ (ta.toInt ≤ u4_0.toInt) ∧ (zPK fB tl ta v4 u4_0) := hw
  have F4 := f4_4
  refine lv_istore_n (lv' := [(3, .int v4), (0, .ref h0), (1, .int 6), (2, .int 0)]) hx hb dX5_unit_7 rfl hl (by decide) rfl (fun ls hl => ?_)
  refine lv_iload_n hx hb dX5_unit_8 rfl (lv_at hl 3 rfl) ?_
  refine lv_if_ne (tgt := 102) hx hb dX5_unit_9 (by decide) (fun c => absurd (by decide) c) (fun _ => ?_)
  refine lv_iload_n hx hb dX5_unit_12 rfl (lv_at hl 0 rfl) ?_
  refine lv_bipush (v := 33) hx hb dX5_unit_13 (by decide) ?_
  have J24 : (0 ≤ u4_0.toInt ∧ u4_0.toInt ≤ 239) → (33 ≤ v4.toInt ∧ v4.toInt ≤ 40) → (v4.toInt = 33 ∨ v4.toInt = 40) → ∀ (H : Heap) (locs : List Loc) (ls : Array Slot), va_P (dC, dI) vwCl [(h0, .inr (5, [.ref lS, .int sz5, .ref tp])), (lS, .inl (cI, 241, .inl fS)), (tp, .inr (9, [.ref tB, .int tl, .int u4_0])), (tB, .inl (cI, 260, .inl fB))] H → va_D A [(h0, .inr (5, [.ref lS, .int sz5, .ref tp])), (lS, .inl (cI, 241, .inl fS)), (tp, .inr (9, [.ref tB, .int tl, .int u4_0])), (tB, .inl (cI, 260, .inl fB))] → va_S A s.heap H locs → lv_has ls 5 [(3, .int v4), (0, .ref h0), (1, .int 6), (2, .int 0)] → W p l e R s m args below meth c H locs 0 0 Q (F0 m 24 ls []) := by
    intro  jf24_0 jf24_1 jf24_2 H locs ls hP hD hS hl
    refine lv_iload_n hx hb dX5_unit_24 rfl (lv_at hl 2 rfl) ?_
    refine lv_bipush (v := 6) hx hb dX5_unit_25 (by decide) ?_
    refine lv_icmp_lt (tgt := 32) hx hb dX5_unit_27 (by decide) (fun c => absurd c (by decide)) (fun _ => ?_)
    refine lv_iconst (v := 0) hx hb dX5_unit_30 (by decide) ?_
    have zr0 : (0 : Int32).toInt = 0 := by decide
    rw [hQ]
    exact W.zret (v := 0) (ty := .boolean) hx hb hr rfl (fun t ht hW => ⟨⟨0, (sz5, fS, u4_0), rfl, ⟨by (try dsimp only); omega, by (try dsimp only); omega, by (try dsimp only); omega, by (try dsimp only); omega, by (try dsimp only); omega, by (try dsimp only); omega, zF0 (fu_t F4 (by omega)), (fun z => absurd (by decide) z), by (try dsimp only); omega, (fun z => absurd (by decide) z), ci_fS_zSt⟩, ⟨by rw [ht]; exact hP, hD⟩⟩, hS.F ht⟩) hS.2.2 dX5_unit_31
  refine lv_icmp_eq (tgt := 24) hx hb dX5_unit_15 (by decide) (fun c15 => ?_) (fun c15 => ?_)
  · have c15 : v4.toInt = 33 := z5 rfl (by decide) c15
    exact J24  (by omega) (by omega) (by omega) H locs ls hP hD hS (lv_sub hl [0, 1, 2, 3] rfl)
  · have c15 : ¬ v4.toInt = 33 := z6 rfl (by decide) c15
    refine lv_iload_n hx hb dX5_unit_18 rfl (lv_at hl 0 rfl) ?_
    refine lv_bipush (v := 40) hx hb dX5_unit_19 (by decide) ?_
    refine lv_icmp_ne (tgt := 102) hx hb dX5_unit_21 (by decide) (fun c21 => ?_) (fun c21 => ?_)
    · have c21 : ¬ v4.toInt = 40 := z6 rfl (by decide) c21
      refine lv_iload_n hx hb dX5_unit_102 rfl (lv_at hl 3 rfl) ?_
      refine lv_if_ne (tgt := 116) hx hb dX5_unit_103 (by decide) (fun c => absurd (by decide) c) (fun _ => ?_)
      refine lv_aload_n hx hb dX5_unit_106 rfl (lv_at hl 1 rfl) ?_
      refine lv_iload_n hx hb dX5_unit_107 rfl (lv_at hl 2 rfl) ?_
      obtain ⟨hPc, hDc, hFc⟩ := zc3 (wc := [(h0, .inr (5, [.ref lS, .int sz5, .ref tp])), (lS, .inl (cI, 241, .inl fS)), (tp, .inr (9, [.ref tB, .int tl, .int u4_0])), (tB, .inl (cI, 260, .inl fB))]) hP hD hS hA [0, 1, 2, 3] (by decide +kernel) rfl
      refine va_calli (va_runV (As := [.int 6]) (rest := []) ⟨hx, hb, hml, hown, hts⟩ (ihS dC dI cI cJ h0 6 lS sz5 tp fS tB tl u4_0 fB H.size (by decide) n_sz5 ⟨f4_0, f4_1⟩ n_tl (hty) (by omega) (by decide) ci_fS_zSt) (cwV 1 hts (zgV qw486 qw488 qw3 qw101 qw489) rfl rfl rfl hd_X5_sum ⟨by (try dsimp only) <;> omega, by (try dsimp only) <;> omega⟩) (zPWV hPc hK hDc (va_recv (q := (RX5, TX5, 3)) hK hP (ci := 5) (q0 := 0) rfl rfl) (zV_call hV hS hFc)) rfl rfl hl.1 rfl (lv_room (Nat.le_of_ble_eq_true rfl)) dX5_unit_108 ⟨Nat.zero_le _, Nat.zero_le _⟩) hS (fun q _ h => hFc q h) hFc (fun v108 u108 t H locs ht hvm hw hB hz1 hk1 hS9 => ?_)
      obtain ⟨u108_0, u108_1, u108_2⟩ := u108
      obtain ⟨hP9, hD9⟩ := zj2 (wX := [(h0, .inr (5, [.ref lS, .int u108_0, .ref tp])), (lS, .inl (cI, 241, .inl u108_1)), (tp, .inr (9, [.ref tB, .int tl, .int u108_2])), (tB, .inl (cI, 260, .inl fB))]) hP hD hk1 hFc ht hB [0, 1, 2, 3] [(true, 0), (true, 1), (true, 2), (true, 3)] rfl (by decide +kernel) (by decide +kernel) rfl
      clear hP hD hS hPc hDc hFc hB hk1 hz1 hvm
      have hP := hP9
      have hD := hD9
      have hS := hS9
      clear hP9 hD9 hS9
      obtain ⟨f108_0, f108_1, f108_2, f108_3, f108_4, f108_5, f108_6, f108_7, f108_8, f108_9, f108_10⟩ : (0 ≤ v108.toInt) ∧ (v108.toInt ≤ 1) ∧ (0 ≤ u108_0.toInt) ∧ (u108_0.toInt ≤ 241) ∧ (0 ≤ u108_2.toInt) ∧ (u108_2.toInt ≤ 240) ∧ (zF (sSum (sB fB tl.toInt) tl.toInt 0 u4_0.toInt) v108 u108_2) ∧ (¬ v108.toInt = 0 → u4_0.toInt < u108_2.toInt) ∧ (¬ v108.toInt = 0 → u108_0.toInt + u4_0.toInt ≤ sz5.toInt + u108_2.toInt) ∧ (¬ v108.toInt = 0 → zEm fS sz5 (eSum (sB fB tl.toInt) tl.toInt 0 u4_0.toInt) u108_1 u108_0) ∧ (zSt u108_1) := hw
      have F108 := f108_6
      have F108_1 := f108_9
      refine lv_if_ne (tgt := 116) hx hb dX5_unit_111 (by decide) (fun c111 => ?_) (fun c111 => ?_)
      · have c111 : ¬ v108.toInt = 0 := z6 rfl (by decide) c111
        refine lv_aload_n hx hb dX5_unit_116 rfl (lv_at hl 1 rfl) ?_
        refine va_get (D := (dC, dI)) (ci := 5) (v := .ref tp) (C := RX5) (T := TX5) (N := 3) hx hb hts iX5 hown hK hP 0 rfl rfl 2 (by decide) (hts _ qw172) (fun _ h9 => h9) rfl dX5_unit_117 ?_
        obtain ⟨hPc, hDc, hFc⟩ := zc3 (wc := [(tp, .inr (9, [.ref tB, .int tl, .int u108_2])), (tB, .inl (cI, 260, .inl fB))]) hP hD hS hA [2, 3] (by decide +kernel) rfl
        refine va_calli (va_runV (As := []) (rest := []) ⟨hx, hb, hml, hown, hts⟩ (g_X9_peek l dC dI cI cJ tp tB tl u108_2 fB H.size ⟨f108_4, f108_5⟩ n_tl (hty)) (cwV 0 hts (zgV qw485 qw438 qw439 qw99 qw440) rfl rfl rfl hd_X9_peek ⟨by (try dsimp only) <;> omega, by (try dsimp only) <;> omega⟩) (zPV hPc hK hDc (va_recv (q := (RX9, TX9, 3)) hK hP (ci := 9) (q0 := 2) rfl rfl)) rfl rfl hl.1 rfl (lv_room (Nat.le_of_ble_eq_true rfl)) dX5_unit_120 ⟨Nat.zero_le _, Nat.zero_le _⟩) hS (fun q _ h => hFc q h) hFc (fun v120 u120 t H locs ht hvm hw hB hz1 hk1 hS9 => ?_)
        obtain ⟨u120_0, rfl⟩ : ∃ z, z = u120 := ⟨_, rfl⟩
        obtain ⟨hP9, hD9⟩ := zj2 (wX := [(h0, .inr (5, [.ref lS, .int u108_0, .ref tp])), (lS, .inl (cI, 241, .inl u108_1)), (tp, .inr (9, [.ref tB, .int tl, .int u120_0])), (tB, .inl (cI, 260, .inl fB))]) hP hD hk1 hFc ht hB [2, 3] [(false, 0), (false, 1), (true, 0), (true, 1)] rfl (by decide +kernel) (by decide +kernel) rfl
        clear hP hD hS hPc hDc hFc hB hk1 hz1 hvm
        have hP := hP9
        have hD := hD9
        have hS := hS9
        clear hP9 hD9 hS9
        obtain ⟨f120_0, f120_1, f120_2, f120_3, f120_4⟩ : (0 ≤ u120_0.toInt) ∧ (u120_0.toInt ≤ 240) ∧ (¬ v120.toInt = 0 → u120_0.toInt < tl.toInt) ∧ (u108_2.toInt ≤ u120_0.toInt) ∧ (zPK fB tl u108_2 v120 u120_0) := hw
        have F120 := f120_4
        refine lv_istore (lv' := [(4, .int v120), (3, .int v4), (0, .ref h0), (1, .int 6), (2, .int 0)]) hx hb dX5_unit_123 hl (by decide) rfl (fun ls hl => ?_)
        refine lv_iload hx hb dX5_unit_125 (lv_at hl 0 rfl) ?_
        have hPc : va_P (dC, dI) vwCl [] H := zP0
        have hDc : va_D (fun _ => True) [] := zD0
        have hFc := zfr hS hA
        refine va_calli (va_runS (As := [.int v120]) (rest := []) ⟨hx, hb, hml, hown, hts⟩ (g_X5_isComparison l dC dI cI cJ v120 H.size) (cwS 1 hts (zgS qw504 qw505 qw101 qw506) rfl rfl rfl hd_X5_isComparison ⟨by (try dsimp only) <;> omega, by (try dsimp only) <;> omega⟩) (zPS hPc hK hDc) rfl rfl hl.1 rfl (lv_room (Nat.le_of_ble_eq_true rfl)) dX5_unit_127 ⟨Nat.zero_le _, Nat.zero_le _⟩) hS (fun q _ h => hFc q h) hFc (fun v127 u127 t H locs ht hvm hw hB hz1 hk1 hS9 => ?_)
        replace hP := zkeep hP hk1
        replace hS := hS9
        clear hPc hDc hFc hk1 hz1 hvm hS9
        obtain ⟨f127_0, f127_1, f127_2, f127_3⟩ : (0 ≤ v127.toInt) ∧ (v127.toInt ≤ 1) ∧ (¬ v127.toInt = 0 → (60 ≤ v120.toInt ∧ v120.toInt ≤ 62)) ∧ (zIs (oQ v120.toInt) v127) := hw
        have F127 := f127_3
        refine lv_if_ne (tgt := 135) hx hb dX5_unit_130 (by decide) (fun c130 => ?_) (fun c130 => ?_)
        · have c130 : ¬ v127.toInt = 0 := z6 rfl (by decide) c130
          refine lv_aload_n hx hb dX5_unit_135 rfl (lv_at hl 2 rfl) ?_
          refine va_get (D := (dC, dI)) (ci := 5) (v := .ref tp) (C := RX5) (T := TX5) (N := 3) hx hb hts iX5 hown hK hP 0 rfl rfl 2 (by decide) (hts _ qw172) (fun _ h9 => h9) rfl dX5_unit_136 ?_
          refine lv_dup hx hb dX5_unit_139 rfl ?_
          refine va_get (D := (dC, dI)) (ci := 9) (v := .int u120_0) (C := RX9) (T := TX9) (N := 3) hx hb hts iX9 hown hK hP 2 rfl rfl 2 (by decide) (hts _ qw137) (fun _ h9 => h9) rfl dX5_unit_140 ?_
          refine lv_iconst (v := 1) hx hb dX5_unit_143 (by decide) ?_
          refine lv_iadd hx hb dX5_unit_144 ?_
          refine lv_topi (fun v144 e144 => ?_)
          have i144 : v144.toInt = u120_0.toInt + 1 := zadd e144 rfl (by decide) (by omega) (by omega)
          refine va_put (D := (dC, dI)) (ci := 9) (v := .int v144) (ty := .int) (C := RX9) (T := TX9) (N := 3) hx hb hts iX9 tyX9 tyX9_ok nmX9 hown hK hP hD hS 2 rfl rfl 2 (by decide) (hts _ qw137) (fun _ h9 => h9) rfl (by decide +kernel) rfl rfl (Nat.le_of_ble_eq_true rfl) dX5_unit_145 (fun H locs hP9 hD9 hS9 => ?_)
          clear hP hD hS
          obtain ⟨hP, hD⟩ := zst (wX := [(h0, .inr (5, [.ref lS, .int u108_0, .ref tp])), (lS, .inl (cI, 241, .inl u108_1)), (tp, .inr (9, [.ref tB, .int tl, .int v144])), (tB, .inl (cI, 260, .inl fB))]) hP9 hD9 rfl
          have hS := hS9
          clear hP9 hD9 hS9
          refine lv_aload_n hx hb dX5_unit_148 rfl (lv_at hl 2 rfl) ?_
          refine lv_iload_n hx hb dX5_unit_149 rfl (lv_at hl 3 rfl) ?_
          obtain ⟨hPc, hDc, hFc⟩ := zc3 (wc := [(h0, .inr (5, [.ref lS, .int u108_0, .ref tp])), (lS, .inl (cI, 241, .inl u108_1)), (tp, .inr (9, [.ref tB, .int tl, .int v144])), (tB, .inl (cI, 260, .inl fB))]) hP hD hS hA [0, 1, 2, 3] (by decide +kernel) rfl
          refine va_calli (va_runV (As := [.int 6]) (rest := []) ⟨hx, hb, hml, hown, hts⟩ (ihS dC dI cI cJ h0 6 lS u108_0 tp u108_1 tB tl v144 fB H.size (by decide) ⟨f108_2, f108_3⟩ (by omega) n_tl (hty) (by omega) (by decide) f108_10) (cwV 1 hts (zgV qw486 qw488 qw3 qw101 qw489) rfl rfl rfl hd_X5_sum ⟨by (try dsimp only) <;> omega, by (try dsimp only) <;> omega⟩) (zPWV hPc hK hDc (va_recv (q := (RX5, TX5, 3)) hK hP (ci := 5) (q0 := 0) rfl rfl) (zV_call hV hS hFc)) rfl rfl hl.1 rfl (lv_room (Nat.le_of_ble_eq_true rfl)) dX5_unit_150 ⟨Nat.zero_le _, Nat.zero_le _⟩) hS (fun q _ h => hFc q h) hFc (fun v150 u150 t H locs ht hvm hw hB hz1 hk1 hS9 => ?_)
          obtain ⟨u150_0, u150_1, u150_2⟩ := u150
          obtain ⟨hP9, hD9⟩ := zj2 (wX := [(h0, .inr (5, [.ref lS, .int u150_0, .ref tp])), (lS, .inl (cI, 241, .inl u150_1)), (tp, .inr (9, [.ref tB, .int tl, .int u150_2])), (tB, .inl (cI, 260, .inl fB))]) hP hD hk1 hFc ht hB [0, 1, 2, 3] [(true, 0), (true, 1), (true, 2), (true, 3)] rfl (by decide +kernel) (by decide +kernel) rfl
          clear hP hD hS hPc hDc hFc hB hk1 hz1 hvm
          have hP := hP9
          have hD := hD9
          have hS := hS9
          clear hP9 hD9 hS9
          obtain ⟨f150_0, f150_1, f150_2, f150_3, f150_4, f150_5, f150_6, f150_7, f150_8, f150_9, f150_10⟩ : (0 ≤ v150.toInt) ∧ (v150.toInt ≤ 1) ∧ (0 ≤ u150_0.toInt) ∧ (u150_0.toInt ≤ 241) ∧ (0 ≤ u150_2.toInt) ∧ (u150_2.toInt ≤ 240) ∧ (zF (sSum (sB fB tl.toInt) tl.toInt 0 v144.toInt) v150 u150_2) ∧ (¬ v150.toInt = 0 → v144.toInt < u150_2.toInt) ∧ (¬ v150.toInt = 0 → u150_0.toInt + v144.toInt ≤ u108_0.toInt + u150_2.toInt) ∧ (¬ v150.toInt = 0 → zEm u108_1 u108_0 (eSum (sB fB tl.toInt) tl.toInt 0 v144.toInt) u150_1 u150_0) ∧ (zSt u150_1) := hw
          have F150 := f150_6
          have F150_1 := f150_9
          refine lv_if_ne (tgt := 158) hx hb dX5_unit_153 (by decide) (fun c153 => ?_) (fun c153 => ?_)
          · have c153 : ¬ v150.toInt = 0 := z6 rfl (by decide) c153
            refine lv_aload_n hx hb dX5_unit_158 rfl (lv_at hl 2 rfl) ?_
            refine lv_iload hx hb dX5_unit_159 (lv_at hl 0 rfl) ?_
            refine lv_iconst (v := 0) hx hb dX5_unit_161 (by decide) ?_
            obtain ⟨hPc, hDc, hFc⟩ := zc3 (wc := [(h0, .inr (5, [.ref lS, .int u150_0, .ref tp])), (lS, .inl (cI, 241, .inl u150_1))]) hP hD hS hA [0, 1] (by decide +kernel) rfl
            refine va_callv (va_runV (As := [.int v120, .int 0]) (rest := []) ⟨hx, hb, hml, hown, hts⟩ (g_X5_put_0 l dC dI cI cJ h0 v120 lS u150_0 tp u150_1 H.size (by omega) ⟨f150_2, f150_3⟩ f150_10) (cwV 2 hts (zgV qw496 qw498 qw5 qw101 qw499) rfl rfl rfl hd_X5_put ⟨by (try dsimp only) <;> omega, by (try dsimp only) <;> omega⟩) (zPV hPc hK hDc (va_recv (q := (RX5, TX5, 3)) hK hP (ci := 5) (q0 := 0) rfl rfl)) rfl rfl hl.1 rfl (lv_room (Nat.le_of_ble_eq_true rfl)) dX5_unit_162 ⟨Nat.zero_le _, Nat.zero_le _⟩) hS (fun q _ h => hFc q h) hFc (fun u162 t H locs ht hvm hw hB hz1 hk1 hS9 => ?_)
            obtain ⟨u162_0, u162_1⟩ := u162
            obtain ⟨hP9, hD9⟩ := zj2 (wX := [(h0, .inr (5, [.ref lS, .int u162_0, .ref tp])), (lS, .inl (cI, 241, .inl u162_1)), (tp, .inr (9, [.ref tB, .int tl, .int u150_2])), (tB, .inl (cI, 260, .inl fB))]) hP hD hk1 hFc ht hB [0, 1] [(true, 0), (true, 1), (false, 2), (false, 3)] rfl (by decide +kernel) (by decide +kernel) rfl
            clear hP hD hS hPc hDc hFc hB hk1 hz1 hvm
            have hP := hP9
            have hD := hD9
            have hS := hS9
            clear hP9 hD9 hS9
            obtain ⟨f162_0, f162_1, f162_2, f162_3, f162_4⟩ : (1 ≤ u162_0.toInt) ∧ (u162_0.toInt ≤ 241) ∧ (u162_0.toInt ≤ u150_0.toInt + 1 ∧ u150_0.toInt ≤ u162_0.toInt) ∧ (u150_0.toInt < 241 → zEm u150_1 u150_0 [(v120.toInt, 0)] u162_1 u162_0) ∧ (zSt u162_1) := hw
            have F162 := f162_3
            refine lv_iconst (v := 1) hx hb dX5_unit_165 (by decide) ?_
            have zr0 : (1 : Int32).toInt = 1 := by decide
            rw [hQ]
            exact W.zret (v := 1) (ty := .boolean) hx hb hr rfl (fun t ht hW => ⟨⟨1, (u162_0, u162_1, u150_2), rfl, ⟨by (try dsimp only); omega, by (try dsimp only); omega, by (try dsimp only); omega, by (try dsimp only); omega, by (try dsimp only); omega, by (try dsimp only); omega, zF1 (fu_s1 F4 (by omega) (by omega) F108 (by omega) ((fq_y F120 F127 (by omega) i144 F150).trans (by rw [show v150.toInt = 1 by omega]))), (fun _ => zFm (x := sUn (sB fB tl.toInt) tl.toInt 0) (sUn_mono (sB fB tl.toInt) tl.toInt 0) (zF1 (fu_s1 F4 (by omega) (by omega) F108 (by omega) ((fq_y F120 F127 (by omega) i144 F150).trans (by rw [show v150.toInt = 1 by omega]))))), by (try dsimp only); omega, (fun _ => eUn_cmp F4 (by omega) (by omega) F108 (by omega) (F108_1 (by omega)) F120 (by omega) i144 (F150_1 (by omega)) (F162 (by omega)) (by omega) (by omega)), f162_4⟩, ⟨by rw [ht]; exact hP, hD⟩⟩, hS.F ht⟩) hS.2.2 dX5_unit_166
          · have c153 : v150.toInt = 0 := z5 rfl (by decide) c153
            refine lv_iconst (v := 0) hx hb dX5_unit_156 (by decide) ?_
            have zr0 : (0 : Int32).toInt = 0 := by decide
            rw [hQ]
            exact W.zret (v := 0) (ty := .boolean) hx hb hr rfl (fun t ht hW => ⟨⟨0, (u150_0, u150_1, u150_2), rfl, ⟨by (try dsimp only); omega, by (try dsimp only); omega, by (try dsimp only); omega, by (try dsimp only); omega, by (try dsimp only); omega, by (try dsimp only); omega, zF0 (fu_s1 F4 (by omega) (by omega) F108 (by omega) ((fq_y F120 F127 (by omega) i144 F150).trans (by rw [show v150.toInt = 0 by omega]))), (fun z => absurd (by decide) z), by (try dsimp only); omega, (fun z => absurd (by decide) z), f150_10⟩, ⟨by rw [ht]; exact hP, hD⟩⟩, hS.F ht⟩) hS.2.2 dX5_unit_157
        · have c130 : v127.toInt = 0 := z5 rfl (by decide) c130
          refine lv_iconst (v := 0) hx hb dX5_unit_133 (by decide) ?_
          have zr0 : (0 : Int32).toInt = 0 := by decide
          rw [hQ]
          exact W.zret (v := 0) (ty := .boolean) hx hb hr rfl (fun t ht hW => ⟨⟨0, (u108_0, u108_1, u120_0), rfl, ⟨by (try dsimp only); omega, by (try dsimp only); omega, by (try dsimp only); omega, by (try dsimp only); omega, by (try dsimp only); omega, by (try dsimp only); omega, zF0 (fu_s1 F4 (by omega) (by omega) F108 (by omega) (fq_n F120 F127 (by omega))), (fun z => absurd (by decide) z), by (try dsimp only); omega, (fun z => absurd (by decide) z), f108_10⟩, ⟨by rw [ht]; exact hP, hD⟩⟩, hS.F ht⟩) hS.2.2 dX5_unit_134
      · have c111 : v108.toInt = 0 := z5 rfl (by decide) c111
        refine lv_iconst (v := 0) hx hb dX5_unit_114 (by decide) ?_
        have zr0 : (0 : Int32).toInt = 0 := by decide
        rw [hQ]
        exact W.zret (v := 0) (ty := .boolean) hx hb hr rfl (fun t ht hW => ⟨⟨0, (u108_0, u108_1, u108_2), rfl, ⟨by (try dsimp only); omega, by (try dsimp only); omega, by (try dsimp only); omega, by (try dsimp only); omega, by (try dsimp only); omega, by (try dsimp only); omega, zF0 (fu_s0 F4 (by omega) (by omega) F108 (by omega)), (fun z => absurd (by decide) z), by (try dsimp only); omega, (fun z => absurd (by decide) z), f108_10⟩, ⟨by rw [ht]; exact hP, hD⟩⟩, hS.F ht⟩) hS.2.2 dX5_unit_115
    · have c21 : v4.toInt = 40 := z5 rfl (by decide) c21
      exact J24  (by omega) (by omega) (by omega) H locs ls hP hD hS (lv_sub hl [0, 1, 2, 3] rfl)
set_option maxHeartbeats 4000000 in
set_option maxRecDepth 100000 in
theorem g_X5_unit_k (l : Launch) (K fr lo : Nat) (f1 l1 f2 l2 f3 l3 : Nat) (ihS : zQ_X5_sum l (K + 1) f1 l1) (ihU : zQ_X5_unit l K f2 l2) (ihC : zQ_X5_condition l K f3 l3) (hfl : f1 ≤ fr ∧ l1 ≤ lo ∧ f2 ≤ fr ∧ l2 ≤ lo ∧ f3 ≤ fr ∧ l3 ≤ lo) (hfr : 1 ≤ fr) (hlo : 41 ≤ lo) : zQ_X5_unit l (K + 1) (fr + 1) (lo + 40) := by
  intro dC dI cI cJ h0 p0 lS sz5 tp fS tB tl ta fB sz n_p0 n_sz5 n_ta n_tl hty hsz hKd ci_fS_zSt
  refine Met.ofW (cc := cX5_unit) (maxL := 5) (ret := (some .boolean)) (by decide) rfl ?_
  intro p e s m args below meth c s₁ B hml hv
  obtain ⟨⟨hargs, hsz, hP, hK, hT⟩, hV⟩ := hv
  have hx := B.exec
  have hb := B.bytes
  have hr := B.returns
  have hts : ∀ w ∈ wA, w.before args s = true := fun w h => atoms_spec (ws := .code yX5_unit cX5_unit 5 (some .boolean) :: wA) B.pre w (List.mem_cons_of_mem _ h)
  have hown : s.vm.findClass RX5 = some m.cls := findClass_of_methodNamed B.named
  have hlocks := B.notSynchronized
  subst hsz
  have hD := hT.self (sz := s.heap.size)
  generalize hAe : va_A [(h0, .inr (5, [.ref lS, .int sz5, .ref tp])), (lS, .inl (cI, 241, .inl fS)), (tp, .inr (9, [.ref tB, .int tl, .int ta])), (tB, .inl (cI, 260, .inl fB))] s.heap.size = A at hD hV ⊢
  have hA : ∀ q : Nat, s.heap.size ≤ q → A q := fun q h => by rw [← hAe]; exact Or.inr h
  have hl := lv_entry ([.ref h0, .int p0, .int 0]) (n := 5) (Nat.le_of_ble_eq_true rfl)
  rw [show entryFrame m args 5 = entryFrame m ([.ref h0, .int p0, .int 0] : List Value).toArray 5 by rw [hargs], lg_entry_eq]
  generalize (lg_sl ([.ref h0, .int p0, .int 0]) ++ List.replicate (5 - (lg_sl ([.ref h0, .int p0, .int 0])).length) Slot.unset).toArray = ls at hl ⊢
  have hl : lv_has ls 5 [(0, .ref h0), (1, .int p0), (2, .int 0)] := hl
  refine zstart (fun H hH => ?_)
  rw [← hH] at hP
  have hS : va_S A s.heap H [] := by rw [hH]; exact va_S.rf
  generalize ([] : List Loc) = locs at hS ⊢
  refine zgen (fun R Q hR hQ => ?_)
  have hRf : R.frames = fr + 1 := by rw [hR]; rfl
  have hRl : R.locals = lo + 40 := by rw [hR]; rfl
  refine lv_aload_n hx hb dX5_unit_0 rfl (lv_at hl 0 rfl) ?_
  refine va_get (D := (dC, dI)) (ci := 5) (v := .ref tp) (C := RX5) (T := TX5) (N := 3) hx hb hts iX5 hown hK hP 0 rfl rfl 2 (by decide) (hts _ qw172) (fun _ h9 => h9) rfl dX5_unit_1 ?_
  obtain ⟨hPc, hDc, hFc⟩ := zc3 (wc := [(tp, .inr (9, [.ref tB, .int tl, .int ta])), (tB, .inl (cI, 260, .inl fB))]) hP hD hS hA [2, 3] (by decide +kernel) rfl
  refine va_calli (va_runV (As := []) (rest := []) ⟨hx, hb, hml, hown, hts⟩ (g_X9_peek l dC dI cI cJ tp tB tl ta fB H.size n_ta n_tl (hty)) (cwV 0 hts (zgV qw485 qw438 qw439 qw99 qw440) rfl rfl rfl hd_X9_peek ⟨by (try dsimp only) <;> omega, by (try dsimp only) <;> omega⟩) (zPV hPc hK hDc (va_recv (q := (RX9, TX9, 3)) hK hP (ci := 9) (q0 := 2) rfl rfl)) rfl rfl hl.1 rfl (lv_room (Nat.le_of_ble_eq_true rfl)) dX5_unit_4 ⟨Nat.zero_le _, Nat.zero_le _⟩) hS (fun q _ h => hFc q h) hFc (fun v4 u4 t H locs ht hvm hw hB hz1 hk1 hS9 => ?_)
  obtain ⟨u4_0, rfl⟩ : ∃ z, z = u4 := ⟨_, rfl⟩
  obtain ⟨hP9, hD9⟩ := zj2 (wX := [(h0, .inr (5, [.ref lS, .int sz5, .ref tp])), (lS, .inl (cI, 241, .inl fS)), (tp, .inr (9, [.ref tB, .int tl, .int u4_0])), (tB, .inl (cI, 260, .inl fB))]) hP hD hk1 hFc ht hB [2, 3] [(false, 0), (false, 1), (true, 0), (true, 1)] rfl (by decide +kernel) (by decide +kernel) rfl
  clear hP hD hS hPc hDc hFc hB hk1 hz1 hvm
  have hP := hP9
  have hD := hD9
  have hS := hS9
  clear hP9 hD9 hS9
  obtain ⟨f4_0, f4_1, f4_2, f4_3, f4_4⟩ : (0 ≤ u4_0.toInt) ∧ (u4_0.toInt ≤ 240) ∧ (¬ v4.toInt = 0 → u4_0.toInt < tl.toInt) ∧ (ta.toInt ≤ u4_0.toInt) ∧ (zPK fB tl ta v4 u4_0) := hw
  have F4 := f4_4
  refine lv_istore_n (lv' := [(3, .int v4), (0, .ref h0), (1, .int p0), (2, .int 0)]) hx hb dX5_unit_7 rfl hl (by decide) rfl (fun ls hl => ?_)
  refine lv_iload_n hx hb dX5_unit_8 rfl (lv_at hl 3 rfl) ?_
  refine lv_if_ne (tgt := 102) hx hb dX5_unit_9 (by decide) (fun c => absurd (by decide) c) (fun _ => ?_)
  refine lv_iload_n hx hb dX5_unit_12 rfl (lv_at hl 0 rfl) ?_
  refine lv_bipush (v := 33) hx hb dX5_unit_13 (by decide) ?_
  have J24 : (0 ≤ u4_0.toInt ∧ u4_0.toInt ≤ 239) → (33 ≤ v4.toInt ∧ v4.toInt ≤ 40) → (v4.toInt = 33 ∨ v4.toInt = 40) → ∀ (H : Heap) (locs : List Loc) (ls : Array Slot), va_P (dC, dI) vwCl [(h0, .inr (5, [.ref lS, .int sz5, .ref tp])), (lS, .inl (cI, 241, .inl fS)), (tp, .inr (9, [.ref tB, .int tl, .int u4_0])), (tB, .inl (cI, 260, .inl fB))] H → va_D A [(h0, .inr (5, [.ref lS, .int sz5, .ref tp])), (lS, .inl (cI, 241, .inl fS)), (tp, .inr (9, [.ref tB, .int tl, .int u4_0])), (tB, .inl (cI, 260, .inl fB))] → va_S A s.heap H locs → lv_has ls 5 [(3, .int v4), (0, .ref h0), (1, .int p0), (2, .int 0)] → W p l e R s m args below meth c H locs 0 0 Q (F0 m 24 ls []) := by
    intro  jf24_0 jf24_1 jf24_2 H locs ls hP hD hS hl
    have q24 : p0.toInt ≤ 5 := by omega
    refine lv_iload_n hx hb dX5_unit_24 rfl (lv_at hl 2 rfl) ?_
    refine lv_bipush (v := 6) hx hb dX5_unit_25 (by decide) ?_
    refine lv_icmp_lt (tgt := 32) hx hb dX5_unit_27 (by decide) (fun c27 => ?_) (fun c27 => by exfalso; have c27 : 6 ≤ p0.toInt := z2 rfl (by decide) c27; omega)
    have c27 : p0.toInt < 6 := z1 rfl (by decide) c27
    refine lv_aload_n hx hb dX5_unit_32 rfl (lv_at hl 1 rfl) ?_
    refine va_get (D := (dC, dI)) (ci := 5) (v := .ref tp) (C := RX5) (T := TX5) (N := 3) hx hb hts iX5 hown hK hP 0 rfl rfl 2 (by decide) (hts _ qw172) (fun _ h9 => h9) rfl dX5_unit_33 ?_
    refine lv_dup hx hb dX5_unit_36 rfl ?_
    refine va_get (D := (dC, dI)) (ci := 9) (v := .int u4_0) (C := RX9) (T := TX9) (N := 3) hx hb hts iX9 hown hK hP 2 rfl rfl 2 (by decide) (hts _ qw137) (fun _ h9 => h9) rfl dX5_unit_37 ?_
    refine lv_iconst (v := 1) hx hb dX5_unit_40 (by decide) ?_
    refine lv_iadd hx hb dX5_unit_41 ?_
    refine lv_topi (fun v41 e41 => ?_)
    have i41 : v41.toInt = u4_0.toInt + 1 := zadd e41 rfl (by decide) (by omega) (by omega)
    refine va_put (D := (dC, dI)) (ci := 9) (v := .int v41) (ty := .int) (C := RX9) (T := TX9) (N := 3) hx hb hts iX9 tyX9 tyX9_ok nmX9 hown hK hP hD hS 2 rfl rfl 2 (by decide) (hts _ qw137) (fun _ h9 => h9) rfl (by decide +kernel) rfl rfl (Nat.le_of_ble_eq_true rfl) dX5_unit_42 (fun H locs hP9 hD9 hS9 => ?_)
    clear hP hD hS
    obtain ⟨hP, hD⟩ := zst (wX := [(h0, .inr (5, [.ref lS, .int sz5, .ref tp])), (lS, .inl (cI, 241, .inl fS)), (tp, .inr (9, [.ref tB, .int tl, .int v41])), (tB, .inl (cI, 260, .inl fB))]) hP9 hD9 rfl
    have hS := hS9
    clear hP9 hD9 hS9
    refine lv_iload_n hx hb dX5_unit_45 rfl (lv_at hl 0 rfl) ?_
    refine lv_bipush (v := 40) hx hb dX5_unit_46 (by decide) ?_
    refine lv_icmp_ne (tgt := 80) hx hb dX5_unit_48 (by decide) (fun c48 => ?_) (fun c48 => ?_)
    · have c48 : ¬ v4.toInt = 40 := z6 rfl (by decide) c48
      refine lv_aload_n hx hb dX5_unit_80 rfl (lv_at hl 1 rfl) ?_
      refine lv_iload_n hx hb dX5_unit_81 rfl (lv_at hl 2 rfl) ?_
      refine lv_iconst (v := 1) hx hb dX5_unit_82 (by decide) ?_
      refine lv_iadd hx hb dX5_unit_83 ?_
      refine lv_topi (fun v83 e83 => ?_)
      have i83 : v83.toInt = p0.toInt + 1 := zadd e83 rfl (by decide) (by omega) (by omega)
      refine lv_iconst (v := 0) hx hb dX5_unit_84 (by decide) ?_
      obtain ⟨hPc, hDc, hFc⟩ := zc3 (wc := [(h0, .inr (5, [.ref lS, .int sz5, .ref tp])), (lS, .inl (cI, 241, .inl fS)), (tp, .inr (9, [.ref tB, .int tl, .int v41])), (tB, .inl (cI, 260, .inl fB))]) hP hD hS hA [0, 1, 2, 3] (by decide +kernel) rfl
      refine va_calli (va_runV (As := [.int v83, .int 0]) (rest := []) ⟨hx, hb, hml, hown, hts⟩ (ihU dC dI cI cJ h0 v83 lS sz5 tp fS tB tl v41 fB H.size (by omega) n_sz5 (by omega) n_tl (hty) (by omega) (by omega) ci_fS_zSt) (cwV 2 hts (zgV qw511 qw513 qw7 qw101 qw514) rfl rfl rfl hd_X5_unit ⟨by (try dsimp only) <;> omega, by (try dsimp only) <;> omega⟩) (zPWV hPc hK hDc (va_recv (q := (RX5, TX5, 3)) hK hP (ci := 5) (q0 := 0) rfl rfl) (zV_call hV hS hFc)) rfl rfl hl.1 rfl (lv_room (Nat.le_of_ble_eq_true rfl)) dX5_unit_85 ⟨Nat.zero_le _, Nat.zero_le _⟩) hS (fun q _ h => hFc q h) hFc (fun v85 u85 t H locs ht hvm hw hB hz1 hk1 hS9 => ?_)
      obtain ⟨u85_0, u85_1, u85_2⟩ := u85
      obtain ⟨hP9, hD9⟩ := zj2 (wX := [(h0, .inr (5, [.ref lS, .int u85_0, .ref tp])), (lS, .inl (cI, 241, .inl u85_1)), (tp, .inr (9, [.ref tB, .int tl, .int u85_2])), (tB, .inl (cI, 260, .inl fB))]) hP hD hk1 hFc ht hB [0, 1, 2, 3] [(true, 0), (true, 1), (true, 2), (true, 3)] rfl (by decide +kernel) (by decide +kernel) rfl
      clear hP hD hS hPc hDc hFc hB hk1 hz1 hvm
      have hP := hP9
      have hD := hD9
      have hS := hS9
      clear hP9 hD9 hS9
      obtain ⟨f85_0, f85_1, f85_2, f85_3, f85_4, f85_5, f85_6, f85_7, f85_8, f85_9, f85_10⟩ : (0 ≤ v85.toInt) ∧ (v85.toInt ≤ 1) ∧ (0 ≤ u85_0.toInt) ∧ (u85_0.toInt ≤ 241) ∧ (0 ≤ u85_2.toInt) ∧ (u85_2.toInt ≤ 240) ∧ (zF (sUn (sB fB tl.toInt) tl.toInt K v41.toInt) v85 u85_2) ∧ (¬ v85.toInt = 0 → v41.toInt < u85_2.toInt) ∧ (¬ v85.toInt = 0 → u85_0.toInt + v41.toInt ≤ sz5.toInt + u85_2.toInt) ∧ (¬ v85.toInt = 0 → zEm fS sz5 (eUn (sB fB tl.toInt) tl.toInt K v41.toInt) u85_1 u85_0) ∧ (zSt u85_1) := hw
      have F85 := f85_6
      have F85_1 := f85_9
      refine lv_if_ne (tgt := 93) hx hb dX5_unit_88 (by decide) (fun c88 => ?_) (fun c88 => ?_)
      · have c88 : ¬ v85.toInt = 0 := z6 rfl (by decide) c88
        refine lv_aload_n hx hb dX5_unit_93 rfl (lv_at hl 1 rfl) ?_
        refine lv_bipush (v := 33) hx hb dX5_unit_94 (by decide) ?_
        refine lv_iconst (v := 0) hx hb dX5_unit_96 (by decide) ?_
        obtain ⟨hPc, hDc, hFc⟩ := zc3 (wc := [(h0, .inr (5, [.ref lS, .int u85_0, .ref tp])), (lS, .inl (cI, 241, .inl u85_1))]) hP hD hS hA [0, 1] (by decide +kernel) rfl
        refine va_callv (va_runV (As := [.int 33, .int 0]) (rest := []) ⟨hx, hb, hml, hown, hts⟩ (g_X5_put_0 l dC dI cI cJ h0 33 lS u85_0 tp u85_1 H.size (by decide) ⟨f85_2, f85_3⟩ f85_10) (cwV 2 hts (zgV qw496 qw498 qw5 qw101 qw499) rfl rfl rfl hd_X5_put ⟨by (try dsimp only) <;> omega, by (try dsimp only) <;> omega⟩) (zPV hPc hK hDc (va_recv (q := (RX5, TX5, 3)) hK hP (ci := 5) (q0 := 0) rfl rfl)) rfl rfl hl.1 rfl (lv_room (Nat.le_of_ble_eq_true rfl)) dX5_unit_97 ⟨Nat.zero_le _, Nat.zero_le _⟩) hS (fun q _ h => hFc q h) hFc (fun u97 t H locs ht hvm hw hB hz1 hk1 hS9 => ?_)
        obtain ⟨u97_0, u97_1⟩ := u97
        obtain ⟨hP9, hD9⟩ := zj2 (wX := [(h0, .inr (5, [.ref lS, .int u97_0, .ref tp])), (lS, .inl (cI, 241, .inl u97_1)), (tp, .inr (9, [.ref tB, .int tl, .int u85_2])), (tB, .inl (cI, 260, .inl fB))]) hP hD hk1 hFc ht hB [0, 1] [(true, 0), (true, 1), (false, 2), (false, 3)] rfl (by decide +kernel) (by decide +kernel) rfl
        clear hP hD hS hPc hDc hFc hB hk1 hz1 hvm
        have hP := hP9
        have hD := hD9
        have hS := hS9
        clear hP9 hD9 hS9
        have zn97_33 : (33 : Int32).toInt = 33 := by decide
        obtain ⟨f97_0, f97_1, f97_2, f97_3, f97_4⟩ : (1 ≤ u97_0.toInt) ∧ (u97_0.toInt ≤ 241) ∧ (u97_0.toInt ≤ u85_0.toInt + 1 ∧ u85_0.toInt ≤ u97_0.toInt) ∧ (u85_0.toInt < 241 → zEm u85_1 u85_0 [((33 : Int32).toInt, 0)] u97_1 u97_0) ∧ (zSt u97_1) := hw
        have F97 := f97_3
        refine lv_iconst (v := 1) hx hb dX5_unit_100 (by decide) ?_
        have zr0 : (1 : Int32).toInt = 1 := by decide
        rw [hQ]
        exact W.zret (v := 1) (ty := .boolean) hx hb hr rfl (fun t ht hW => ⟨⟨1, (u97_0, u97_1, u85_2), rfl, ⟨by (try dsimp only); omega, by (try dsimp only); omega, by (try dsimp only); omega, by (try dsimp only); omega, by (try dsimp only); omega, by (try dsimp only); omega, zF1 ((fu_not F4 (by omega) i41 F85).trans (by rw [show v85.toInt = 1 by omega])), (fun _ => zFm (x := sUn (sB fB tl.toInt) tl.toInt (K + 1)) (sUn_mono (sB fB tl.toInt) tl.toInt (K + 1)) (zF1 ((fu_not F4 (by omega) i41 F85).trans (by rw [show v85.toInt = 1 by omega])))), by (try dsimp only); omega, (fun _ => eUn_not F4 (by omega) i41 (F85_1 (by omega)) (F97 (by omega)) (by omega)), f97_4⟩, ⟨by rw [ht]; exact hP, hD⟩⟩, hS.F ht⟩) hS.2.2 dX5_unit_101
      · have c88 : v85.toInt = 0 := z5 rfl (by decide) c88
        refine lv_iconst (v := 0) hx hb dX5_unit_91 (by decide) ?_
        have zr0 : (0 : Int32).toInt = 0 := by decide
        rw [hQ]
        exact W.zret (v := 0) (ty := .boolean) hx hb hr rfl (fun t ht hW => ⟨⟨0, (u85_0, u85_1, u85_2), rfl, ⟨by (try dsimp only); omega, by (try dsimp only); omega, by (try dsimp only); omega, by (try dsimp only); omega, by (try dsimp only); omega, by (try dsimp only); omega, zF0 ((fu_not F4 (by omega) i41 F85).trans (by rw [show v85.toInt = 0 by omega])), (fun z => absurd (by decide) z), by (try dsimp only); omega, (fun z => absurd (by decide) z), f85_10⟩, ⟨by rw [ht]; exact hP, hD⟩⟩, hS.F ht⟩) hS.2.2 dX5_unit_92
    · have c48 : v4.toInt = 40 := z5 rfl (by decide) c48
      refine lv_aload_n hx hb dX5_unit_51 rfl (lv_at hl 1 rfl) ?_
      refine lv_iload_n hx hb dX5_unit_52 rfl (lv_at hl 2 rfl) ?_
      refine lv_iconst (v := 1) hx hb dX5_unit_53 (by decide) ?_
      refine lv_iadd hx hb dX5_unit_54 ?_
      refine lv_topi (fun v54 e54 => ?_)
      have i54 : v54.toInt = p0.toInt + 1 := zadd e54 rfl (by decide) (by omega) (by omega)
      refine lv_iconst (v := 0) hx hb dX5_unit_55 (by decide) ?_
      obtain ⟨hPc, hDc, hFc⟩ := zc3 (wc := [(h0, .inr (5, [.ref lS, .int sz5, .ref tp])), (lS, .inl (cI, 241, .inl fS)), (tp, .inr (9, [.ref tB, .int tl, .int v41])), (tB, .inl (cI, 260, .inl fB))]) hP hD hS hA [0, 1, 2, 3] (by decide +kernel) rfl
      refine va_calli (va_runV (As := [.int v54, .int 0]) (rest := []) ⟨hx, hb, hml, hown, hts⟩ (ihC dC dI cI cJ h0 v54 lS sz5 tp fS tB tl v41 fB H.size (by omega) n_sz5 (by omega) n_tl (hty) (by omega) (by omega) ci_fS_zSt) (cwV 2 hts (zgV qw507 qw509 qw6 qw101 qw510) rfl rfl rfl hd_X5_condition ⟨by (try dsimp only) <;> omega, by (try dsimp only) <;> omega⟩) (zPWV hPc hK hDc (va_recv (q := (RX5, TX5, 3)) hK hP (ci := 5) (q0 := 0) rfl rfl) (zV_call hV hS hFc)) rfl rfl hl.1 rfl (lv_room (Nat.le_of_ble_eq_true rfl)) dX5_unit_56 ⟨Nat.zero_le _, Nat.zero_le _⟩) hS (fun q _ h => hFc q h) hFc (fun v56 u56 t H locs ht hvm hw hB hz1 hk1 hS9 => ?_)
      obtain ⟨u56_0, u56_1, u56_2⟩ := u56
      obtain ⟨hP9, hD9⟩ := zj2 (wX := [(h0, .inr (5, [.ref lS, .int u56_0, .ref tp])), (lS, .inl (cI, 241, .inl u56_1)), (tp, .inr (9, [.ref tB, .int tl, .int u56_2])), (tB, .inl (cI, 260, .inl fB))]) hP hD hk1 hFc ht hB [0, 1, 2, 3] [(true, 0), (true, 1), (true, 2), (true, 3)] rfl (by decide +kernel) (by decide +kernel) rfl
      clear hP hD hS hPc hDc hFc hB hk1 hz1 hvm
      have hP := hP9
      have hD := hD9
      have hS := hS9
      clear hP9 hD9 hS9
      obtain ⟨f56_0, f56_1, f56_2, f56_3, f56_4, f56_5, f56_6, f56_7, f56_8, f56_9, f56_10⟩ : (0 ≤ v56.toInt) ∧ (v56.toInt ≤ 1) ∧ (0 ≤ u56_0.toInt) ∧ (u56_0.toInt ≤ 241) ∧ (0 ≤ u56_2.toInt) ∧ (u56_2.toInt ≤ 240) ∧ (zF (sCon (sB fB tl.toInt) tl.toInt K v41.toInt) v56 u56_2) ∧ (¬ v56.toInt = 0 → v41.toInt < u56_2.toInt) ∧ (¬ v56.toInt = 0 → u56_0.toInt + v41.toInt ≤ sz5.toInt + u56_2.toInt) ∧ (¬ v56.toInt = 0 → zEm fS sz5 (eCon (sB fB tl.toInt) tl.toInt K v41.toInt) u56_1 u56_0) ∧ (zSt u56_1) := hw
      have F56 := f56_6
      have F56_1 := f56_9
      refine lv_if_eq (tgt := 78) hx hb dX5_unit_59 (by decide) (fun c59 => ?_) (fun c59 => ?_)
      · have c59 : v56.toInt = 0 := z5 rfl (by decide) c59
        refine lv_iconst (v := 0) hx hb dX5_unit_78 (by decide) ?_
        have zr0 : (0 : Int32).toInt = 0 := by decide
        rw [hQ]
        exact W.zret (v := 0) (ty := .boolean) hx hb hr rfl (fun t ht hW => ⟨⟨0, (u56_0, u56_1, u56_2), rfl, ⟨by (try dsimp only); omega, by (try dsimp only); omega, by (try dsimp only); omega, by (try dsimp only); omega, by (try dsimp only); omega, by (try dsimp only); omega, zF0 ((fu_par F4 (by omega) i41).trans (fe_0 F56 (by omega))), (fun z => absurd (by decide) z), by (try dsimp only); omega, (fun z => absurd (by decide) z), f56_10⟩, ⟨by rw [ht]; exact hP, hD⟩⟩, hS.F ht⟩) hS.2.2 dX5_unit_79
      · have c59 : ¬ v56.toInt = 0 := z6 rfl (by decide) c59
        refine lv_aload_n hx hb dX5_unit_62 rfl (lv_at hl 1 rfl) ?_
        refine va_get (D := (dC, dI)) (ci := 5) (v := .ref tp) (C := RX5) (T := TX5) (N := 3) hx hb hts iX5 hown hK hP 0 rfl rfl 2 (by decide) (hts _ qw172) (fun _ h9 => h9) rfl dX5_unit_63 ?_
        refine lv_bipush (v := 41) hx hb dX5_unit_66 (by decide) ?_
        obtain ⟨hPc, hDc, hFc⟩ := zc3 (wc := [(tp, .inr (9, [.ref tB, .int tl, .int u56_2])), (tB, .inl (cI, 260, .inl fB))]) hP hD hS hA [2, 3] (by decide +kernel) rfl
        refine va_calli (va_runV (As := [.int 41]) (rest := []) ⟨hx, hb, hml, hown, hts⟩ (g_X9_takes l dC dI cI cJ tp 41 tB tl u56_2 fB H.size (by decide) ⟨f56_4, f56_5⟩ n_tl (hty)) (cwV 1 hts (zgV qw484 qw472 qw473 qw99 qw474) rfl rfl rfl hd_X9_takes ⟨by (try dsimp only) <;> omega, by (try dsimp only) <;> omega⟩) (zPV hPc hK hDc (va_recv (q := (RX9, TX9, 3)) hK hP (ci := 9) (q0 := 2) rfl rfl)) rfl rfl hl.1 rfl (lv_room (Nat.le_of_ble_eq_true rfl)) dX5_unit_68 ⟨Nat.zero_le _, Nat.zero_le _⟩) hS (fun q _ h => hFc q h) hFc (fun v68 u68 t H locs ht hvm hw hB hz1 hk1 hS9 => ?_)
        obtain ⟨u68_0, rfl⟩ : ∃ z, z = u68 := ⟨_, rfl⟩
        obtain ⟨hP9, hD9⟩ := zj2 (wX := [(h0, .inr (5, [.ref lS, .int u56_0, .ref tp])), (lS, .inl (cI, 241, .inl u56_1)), (tp, .inr (9, [.ref tB, .int tl, .int u68_0])), (tB, .inl (cI, 260, .inl fB))]) hP hD hk1 hFc ht hB [2, 3] [(false, 0), (false, 1), (true, 0), (true, 1)] rfl (by decide +kernel) (by decide +kernel) rfl
        clear hP hD hS hPc hDc hFc hB hk1 hz1 hvm
        have hP := hP9
        have hD := hD9
        have hS := hS9
        clear hP9 hD9 hS9
        obtain ⟨f68_0, f68_1, f68_2, f68_3, f68_4, f68_5⟩ : (0 ≤ v68.toInt) ∧ (v68.toInt ≤ 1) ∧ (0 ≤ u68_0.toInt) ∧ (u68_0.toInt ≤ 240) ∧ (u56_2.toInt ≤ u68_0.toInt) ∧ (zTk fB tl u56_2 41 v68 u68_0) := hw
        have F68 := f68_5
        refine lv_if_eq (tgt := 78) hx hb dX5_unit_71 (by decide) (fun c71 => ?_) (fun c71 => ?_)
        · have c71 : v68.toInt = 0 := z5 rfl (by decide) c71
          refine lv_iconst (v := 0) hx hb dX5_unit_78 (by decide) ?_
          have zr0 : (0 : Int32).toInt = 0 := by decide
          rw [hQ]
          exact W.zret (v := 0) (ty := .boolean) hx hb hr rfl (fun t ht hW => ⟨⟨0, (u56_0, u56_1, u68_0), rfl, ⟨by (try dsimp only); omega, by (try dsimp only); omega, by (try dsimp only); omega, by (try dsimp only); omega, by (try dsimp only); omega, by (try dsimp only); omega, zF0 ((fu_par F4 (by omega) i41).trans (fe_n F56 (by omega) F68 (by omega))), (fun z => absurd (by decide) z), by (try dsimp only); omega, (fun z => absurd (by decide) z), f56_10⟩, ⟨by rw [ht]; exact hP, hD⟩⟩, hS.F ht⟩) hS.2.2 dX5_unit_79
        · have c71 : ¬ v68.toInt = 0 := z6 rfl (by decide) c71
          refine lv_iconst (v := 1) hx hb dX5_unit_74 (by decide) ?_
          refine lv_goto (tgt := 79) hx hb dX5_unit_75 (by decide) ?_
          have zr0 : (1 : Int32).toInt = 1 := by decide
          rw [hQ]
          exact W.zret (v := 1) (ty := .boolean) hx hb hr rfl (fun t ht hW => ⟨⟨1, (u56_0, u56_1, u68_0), rfl, ⟨by (try dsimp only); omega, by (try dsimp only); omega, by (try dsimp only); omega, by (try dsimp only); omega, by (try dsimp only); omega, by (try dsimp only); omega, zF1 ((fu_par F4 (by omega) i41).trans (fe_y F56 (by omega) F68 (by omega))), (fun _ => zFm (x := sUn (sB fB tl.toInt) tl.toInt (K + 1)) (sUn_mono (sB fB tl.toInt) tl.toInt (K + 1)) (zF1 ((fu_par F4 (by omega) i41).trans (fe_y F56 (by omega) F68 (by omega))))), by (try dsimp only); omega, (fun _ => eUn_par F4 (by omega) i41 (F56_1 (by omega))), f56_10⟩, ⟨by rw [ht]; exact hP, hD⟩⟩, hS.F ht⟩) hS.2.2 dX5_unit_79
  refine lv_icmp_eq (tgt := 24) hx hb dX5_unit_15 (by decide) (fun c15 => ?_) (fun c15 => ?_)
  · have c15 : v4.toInt = 33 := z5 rfl (by decide) c15
    exact J24  (by omega) (by omega) (by omega) H locs ls hP hD hS (lv_sub hl [0, 1, 2, 3] rfl)
  · have c15 : ¬ v4.toInt = 33 := z6 rfl (by decide) c15
    refine lv_iload_n hx hb dX5_unit_18 rfl (lv_at hl 0 rfl) ?_
    refine lv_bipush (v := 40) hx hb dX5_unit_19 (by decide) ?_
    refine lv_icmp_ne (tgt := 102) hx hb dX5_unit_21 (by decide) (fun c21 => ?_) (fun c21 => ?_)
    · have c21 : ¬ v4.toInt = 40 := z6 rfl (by decide) c21
      refine lv_iload_n hx hb dX5_unit_102 rfl (lv_at hl 3 rfl) ?_
      refine lv_if_ne (tgt := 116) hx hb dX5_unit_103 (by decide) (fun c => absurd (by decide) c) (fun _ => ?_)
      refine lv_aload_n hx hb dX5_unit_106 rfl (lv_at hl 1 rfl) ?_
      refine lv_iload_n hx hb dX5_unit_107 rfl (lv_at hl 2 rfl) ?_
      obtain ⟨hPc, hDc, hFc⟩ := zc3 (wc := [(h0, .inr (5, [.ref lS, .int sz5, .ref tp])), (lS, .inl (cI, 241, .inl fS)), (tp, .inr (9, [.ref tB, .int tl, .int u4_0])), (tB, .inl (cI, 260, .inl fB))]) hP hD hS hA [0, 1, 2, 3] (by decide +kernel) rfl
      refine va_calli (va_runV (As := [.int p0]) (rest := []) ⟨hx, hb, hml, hown, hts⟩ (ihS dC dI cI cJ h0 p0 lS sz5 tp fS tB tl u4_0 fB H.size n_p0 n_sz5 ⟨f4_0, f4_1⟩ n_tl (hty) (by omega) (by omega) ci_fS_zSt) (cwV 1 hts (zgV qw486 qw488 qw3 qw101 qw489) rfl rfl rfl hd_X5_sum ⟨by (try dsimp only) <;> omega, by (try dsimp only) <;> omega⟩) (zPWV hPc hK hDc (va_recv (q := (RX5, TX5, 3)) hK hP (ci := 5) (q0 := 0) rfl rfl) (zV_call hV hS hFc)) rfl rfl hl.1 rfl (lv_room (Nat.le_of_ble_eq_true rfl)) dX5_unit_108 ⟨Nat.zero_le _, Nat.zero_le _⟩) hS (fun q _ h => hFc q h) hFc (fun v108 u108 t H locs ht hvm hw hB hz1 hk1 hS9 => ?_)
      obtain ⟨u108_0, u108_1, u108_2⟩ := u108
      obtain ⟨hP9, hD9⟩ := zj2 (wX := [(h0, .inr (5, [.ref lS, .int u108_0, .ref tp])), (lS, .inl (cI, 241, .inl u108_1)), (tp, .inr (9, [.ref tB, .int tl, .int u108_2])), (tB, .inl (cI, 260, .inl fB))]) hP hD hk1 hFc ht hB [0, 1, 2, 3] [(true, 0), (true, 1), (true, 2), (true, 3)] rfl (by decide +kernel) (by decide +kernel) rfl
      clear hP hD hS hPc hDc hFc hB hk1 hz1 hvm
      have hP := hP9
      have hD := hD9
      have hS := hS9
      clear hP9 hD9 hS9
      obtain ⟨f108_0, f108_1, f108_2, f108_3, f108_4, f108_5, f108_6, f108_7, f108_8, f108_9, f108_10⟩ : (0 ≤ v108.toInt) ∧ (v108.toInt ≤ 1) ∧ (0 ≤ u108_0.toInt) ∧ (u108_0.toInt ≤ 241) ∧ (0 ≤ u108_2.toInt) ∧ (u108_2.toInt ≤ 240) ∧ (zF (sSum (sB fB tl.toInt) tl.toInt (K + 1) u4_0.toInt) v108 u108_2) ∧ (¬ v108.toInt = 0 → u4_0.toInt < u108_2.toInt) ∧ (¬ v108.toInt = 0 → u108_0.toInt + u4_0.toInt ≤ sz5.toInt + u108_2.toInt) ∧ (¬ v108.toInt = 0 → zEm fS sz5 (eSum (sB fB tl.toInt) tl.toInt (K + 1) u4_0.toInt) u108_1 u108_0) ∧ (zSt u108_1) := hw
      have F108 := f108_6
      have F108_1 := f108_9
      refine lv_if_ne (tgt := 116) hx hb dX5_unit_111 (by decide) (fun c111 => ?_) (fun c111 => ?_)
      · have c111 : ¬ v108.toInt = 0 := z6 rfl (by decide) c111
        refine lv_aload_n hx hb dX5_unit_116 rfl (lv_at hl 1 rfl) ?_
        refine va_get (D := (dC, dI)) (ci := 5) (v := .ref tp) (C := RX5) (T := TX5) (N := 3) hx hb hts iX5 hown hK hP 0 rfl rfl 2 (by decide) (hts _ qw172) (fun _ h9 => h9) rfl dX5_unit_117 ?_
        obtain ⟨hPc, hDc, hFc⟩ := zc3 (wc := [(tp, .inr (9, [.ref tB, .int tl, .int u108_2])), (tB, .inl (cI, 260, .inl fB))]) hP hD hS hA [2, 3] (by decide +kernel) rfl
        refine va_calli (va_runV (As := []) (rest := []) ⟨hx, hb, hml, hown, hts⟩ (g_X9_peek l dC dI cI cJ tp tB tl u108_2 fB H.size ⟨f108_4, f108_5⟩ n_tl (hty)) (cwV 0 hts (zgV qw485 qw438 qw439 qw99 qw440) rfl rfl rfl hd_X9_peek ⟨by (try dsimp only) <;> omega, by (try dsimp only) <;> omega⟩) (zPV hPc hK hDc (va_recv (q := (RX9, TX9, 3)) hK hP (ci := 9) (q0 := 2) rfl rfl)) rfl rfl hl.1 rfl (lv_room (Nat.le_of_ble_eq_true rfl)) dX5_unit_120 ⟨Nat.zero_le _, Nat.zero_le _⟩) hS (fun q _ h => hFc q h) hFc (fun v120 u120 t H locs ht hvm hw hB hz1 hk1 hS9 => ?_)
        obtain ⟨u120_0, rfl⟩ : ∃ z, z = u120 := ⟨_, rfl⟩
        obtain ⟨hP9, hD9⟩ := zj2 (wX := [(h0, .inr (5, [.ref lS, .int u108_0, .ref tp])), (lS, .inl (cI, 241, .inl u108_1)), (tp, .inr (9, [.ref tB, .int tl, .int u120_0])), (tB, .inl (cI, 260, .inl fB))]) hP hD hk1 hFc ht hB [2, 3] [(false, 0), (false, 1), (true, 0), (true, 1)] rfl (by decide +kernel) (by decide +kernel) rfl
        clear hP hD hS hPc hDc hFc hB hk1 hz1 hvm
        have hP := hP9
        have hD := hD9
        have hS := hS9
        clear hP9 hD9 hS9
        obtain ⟨f120_0, f120_1, f120_2, f120_3, f120_4⟩ : (0 ≤ u120_0.toInt) ∧ (u120_0.toInt ≤ 240) ∧ (¬ v120.toInt = 0 → u120_0.toInt < tl.toInt) ∧ (u108_2.toInt ≤ u120_0.toInt) ∧ (zPK fB tl u108_2 v120 u120_0) := hw
        have F120 := f120_4
        refine lv_istore (lv' := [(4, .int v120), (3, .int v4), (0, .ref h0), (1, .int p0), (2, .int 0)]) hx hb dX5_unit_123 hl (by decide) rfl (fun ls hl => ?_)
        refine lv_iload hx hb dX5_unit_125 (lv_at hl 0 rfl) ?_
        have hPc : va_P (dC, dI) vwCl [] H := zP0
        have hDc : va_D (fun _ => True) [] := zD0
        have hFc := zfr hS hA
        refine va_calli (va_runS (As := [.int v120]) (rest := []) ⟨hx, hb, hml, hown, hts⟩ (g_X5_isComparison l dC dI cI cJ v120 H.size) (cwS 1 hts (zgS qw504 qw505 qw101 qw506) rfl rfl rfl hd_X5_isComparison ⟨by (try dsimp only) <;> omega, by (try dsimp only) <;> omega⟩) (zPS hPc hK hDc) rfl rfl hl.1 rfl (lv_room (Nat.le_of_ble_eq_true rfl)) dX5_unit_127 ⟨Nat.zero_le _, Nat.zero_le _⟩) hS (fun q _ h => hFc q h) hFc (fun v127 u127 t H locs ht hvm hw hB hz1 hk1 hS9 => ?_)
        replace hP := zkeep hP hk1
        replace hS := hS9
        clear hPc hDc hFc hk1 hz1 hvm hS9
        obtain ⟨f127_0, f127_1, f127_2, f127_3⟩ : (0 ≤ v127.toInt) ∧ (v127.toInt ≤ 1) ∧ (¬ v127.toInt = 0 → (60 ≤ v120.toInt ∧ v120.toInt ≤ 62)) ∧ (zIs (oQ v120.toInt) v127) := hw
        have F127 := f127_3
        refine lv_if_ne (tgt := 135) hx hb dX5_unit_130 (by decide) (fun c130 => ?_) (fun c130 => ?_)
        · have c130 : ¬ v127.toInt = 0 := z6 rfl (by decide) c130
          refine lv_aload_n hx hb dX5_unit_135 rfl (lv_at hl 2 rfl) ?_
          refine va_get (D := (dC, dI)) (ci := 5) (v := .ref tp) (C := RX5) (T := TX5) (N := 3) hx hb hts iX5 hown hK hP 0 rfl rfl 2 (by decide) (hts _ qw172) (fun _ h9 => h9) rfl dX5_unit_136 ?_
          refine lv_dup hx hb dX5_unit_139 rfl ?_
          refine va_get (D := (dC, dI)) (ci := 9) (v := .int u120_0) (C := RX9) (T := TX9) (N := 3) hx hb hts iX9 hown hK hP 2 rfl rfl 2 (by decide) (hts _ qw137) (fun _ h9 => h9) rfl dX5_unit_140 ?_
          refine lv_iconst (v := 1) hx hb dX5_unit_143 (by decide) ?_
          refine lv_iadd hx hb dX5_unit_144 ?_
          refine lv_topi (fun v144 e144 => ?_)
          have i144 : v144.toInt = u120_0.toInt + 1 := zadd e144 rfl (by decide) (by omega) (by omega)
          refine va_put (D := (dC, dI)) (ci := 9) (v := .int v144) (ty := .int) (C := RX9) (T := TX9) (N := 3) hx hb hts iX9 tyX9 tyX9_ok nmX9 hown hK hP hD hS 2 rfl rfl 2 (by decide) (hts _ qw137) (fun _ h9 => h9) rfl (by decide +kernel) rfl rfl (Nat.le_of_ble_eq_true rfl) dX5_unit_145 (fun H locs hP9 hD9 hS9 => ?_)
          clear hP hD hS
          obtain ⟨hP, hD⟩ := zst (wX := [(h0, .inr (5, [.ref lS, .int u108_0, .ref tp])), (lS, .inl (cI, 241, .inl u108_1)), (tp, .inr (9, [.ref tB, .int tl, .int v144])), (tB, .inl (cI, 260, .inl fB))]) hP9 hD9 rfl
          have hS := hS9
          clear hP9 hD9 hS9
          refine lv_aload_n hx hb dX5_unit_148 rfl (lv_at hl 2 rfl) ?_
          refine lv_iload_n hx hb dX5_unit_149 rfl (lv_at hl 3 rfl) ?_
          obtain ⟨hPc, hDc, hFc⟩ := zc3 (wc := [(h0, .inr (5, [.ref lS, .int u108_0, .ref tp])), (lS, .inl (cI, 241, .inl u108_1)), (tp, .inr (9, [.ref tB, .int tl, .int v144])), (tB, .inl (cI, 260, .inl fB))]) hP hD hS hA [0, 1, 2, 3] (by decide +kernel) rfl
          refine va_calli (va_runV (As := [.int p0]) (rest := []) ⟨hx, hb, hml, hown, hts⟩ (ihS dC dI cI cJ h0 p0 lS u108_0 tp u108_1 tB tl v144 fB H.size n_p0 ⟨f108_2, f108_3⟩ (by omega) n_tl (hty) (by omega) (by omega) f108_10) (cwV 1 hts (zgV qw486 qw488 qw3 qw101 qw489) rfl rfl rfl hd_X5_sum ⟨by (try dsimp only) <;> omega, by (try dsimp only) <;> omega⟩) (zPWV hPc hK hDc (va_recv (q := (RX5, TX5, 3)) hK hP (ci := 5) (q0 := 0) rfl rfl) (zV_call hV hS hFc)) rfl rfl hl.1 rfl (lv_room (Nat.le_of_ble_eq_true rfl)) dX5_unit_150 ⟨Nat.zero_le _, Nat.zero_le _⟩) hS (fun q _ h => hFc q h) hFc (fun v150 u150 t H locs ht hvm hw hB hz1 hk1 hS9 => ?_)
          obtain ⟨u150_0, u150_1, u150_2⟩ := u150
          obtain ⟨hP9, hD9⟩ := zj2 (wX := [(h0, .inr (5, [.ref lS, .int u150_0, .ref tp])), (lS, .inl (cI, 241, .inl u150_1)), (tp, .inr (9, [.ref tB, .int tl, .int u150_2])), (tB, .inl (cI, 260, .inl fB))]) hP hD hk1 hFc ht hB [0, 1, 2, 3] [(true, 0), (true, 1), (true, 2), (true, 3)] rfl (by decide +kernel) (by decide +kernel) rfl
          clear hP hD hS hPc hDc hFc hB hk1 hz1 hvm
          have hP := hP9
          have hD := hD9
          have hS := hS9
          clear hP9 hD9 hS9
          obtain ⟨f150_0, f150_1, f150_2, f150_3, f150_4, f150_5, f150_6, f150_7, f150_8, f150_9, f150_10⟩ : (0 ≤ v150.toInt) ∧ (v150.toInt ≤ 1) ∧ (0 ≤ u150_0.toInt) ∧ (u150_0.toInt ≤ 241) ∧ (0 ≤ u150_2.toInt) ∧ (u150_2.toInt ≤ 240) ∧ (zF (sSum (sB fB tl.toInt) tl.toInt (K + 1) v144.toInt) v150 u150_2) ∧ (¬ v150.toInt = 0 → v144.toInt < u150_2.toInt) ∧ (¬ v150.toInt = 0 → u150_0.toInt + v144.toInt ≤ u108_0.toInt + u150_2.toInt) ∧ (¬ v150.toInt = 0 → zEm u108_1 u108_0 (eSum (sB fB tl.toInt) tl.toInt (K + 1) v144.toInt) u150_1 u150_0) ∧ (zSt u150_1) := hw
          have F150 := f150_6
          have F150_1 := f150_9
          refine lv_if_ne (tgt := 158) hx hb dX5_unit_153 (by decide) (fun c153 => ?_) (fun c153 => ?_)
          · have c153 : ¬ v150.toInt = 0 := z6 rfl (by decide) c153
            refine lv_aload_n hx hb dX5_unit_158 rfl (lv_at hl 2 rfl) ?_
            refine lv_iload hx hb dX5_unit_159 (lv_at hl 0 rfl) ?_
            refine lv_iconst (v := 0) hx hb dX5_unit_161 (by decide) ?_
            obtain ⟨hPc, hDc, hFc⟩ := zc3 (wc := [(h0, .inr (5, [.ref lS, .int u150_0, .ref tp])), (lS, .inl (cI, 241, .inl u150_1))]) hP hD hS hA [0, 1] (by decide +kernel) rfl
            refine va_callv (va_runV (As := [.int v120, .int 0]) (rest := []) ⟨hx, hb, hml, hown, hts⟩ (g_X5_put_0 l dC dI cI cJ h0 v120 lS u150_0 tp u150_1 H.size (by omega) ⟨f150_2, f150_3⟩ f150_10) (cwV 2 hts (zgV qw496 qw498 qw5 qw101 qw499) rfl rfl rfl hd_X5_put ⟨by (try dsimp only) <;> omega, by (try dsimp only) <;> omega⟩) (zPV hPc hK hDc (va_recv (q := (RX5, TX5, 3)) hK hP (ci := 5) (q0 := 0) rfl rfl)) rfl rfl hl.1 rfl (lv_room (Nat.le_of_ble_eq_true rfl)) dX5_unit_162 ⟨Nat.zero_le _, Nat.zero_le _⟩) hS (fun q _ h => hFc q h) hFc (fun u162 t H locs ht hvm hw hB hz1 hk1 hS9 => ?_)
            obtain ⟨u162_0, u162_1⟩ := u162
            obtain ⟨hP9, hD9⟩ := zj2 (wX := [(h0, .inr (5, [.ref lS, .int u162_0, .ref tp])), (lS, .inl (cI, 241, .inl u162_1)), (tp, .inr (9, [.ref tB, .int tl, .int u150_2])), (tB, .inl (cI, 260, .inl fB))]) hP hD hk1 hFc ht hB [0, 1] [(true, 0), (true, 1), (false, 2), (false, 3)] rfl (by decide +kernel) (by decide +kernel) rfl
            clear hP hD hS hPc hDc hFc hB hk1 hz1 hvm
            have hP := hP9
            have hD := hD9
            have hS := hS9
            clear hP9 hD9 hS9
            obtain ⟨f162_0, f162_1, f162_2, f162_3, f162_4⟩ : (1 ≤ u162_0.toInt) ∧ (u162_0.toInt ≤ 241) ∧ (u162_0.toInt ≤ u150_0.toInt + 1 ∧ u150_0.toInt ≤ u162_0.toInt) ∧ (u150_0.toInt < 241 → zEm u150_1 u150_0 [(v120.toInt, 0)] u162_1 u162_0) ∧ (zSt u162_1) := hw
            have F162 := f162_3
            refine lv_iconst (v := 1) hx hb dX5_unit_165 (by decide) ?_
            have zr0 : (1 : Int32).toInt = 1 := by decide
            rw [hQ]
            exact W.zret (v := 1) (ty := .boolean) hx hb hr rfl (fun t ht hW => ⟨⟨1, (u162_0, u162_1, u150_2), rfl, ⟨by (try dsimp only); omega, by (try dsimp only); omega, by (try dsimp only); omega, by (try dsimp only); omega, by (try dsimp only); omega, by (try dsimp only); omega, zF1 (fu_s1 F4 (by omega) (by omega) F108 (by omega) ((fq_y F120 F127 (by omega) i144 F150).trans (by rw [show v150.toInt = 1 by omega]))), (fun _ => zFm (x := sUn (sB fB tl.toInt) tl.toInt (K + 1)) (sUn_mono (sB fB tl.toInt) tl.toInt (K + 1)) (zF1 (fu_s1 F4 (by omega) (by omega) F108 (by omega) ((fq_y F120 F127 (by omega) i144 F150).trans (by rw [show v150.toInt = 1 by omega]))))), by (try dsimp only); omega, (fun _ => eUn_cmp F4 (by omega) (by omega) F108 (by omega) (F108_1 (by omega)) F120 (by omega) i144 (F150_1 (by omega)) (F162 (by omega)) (by omega) (by omega)), f162_4⟩, ⟨by rw [ht]; exact hP, hD⟩⟩, hS.F ht⟩) hS.2.2 dX5_unit_166
          · have c153 : v150.toInt = 0 := z5 rfl (by decide) c153
            refine lv_iconst (v := 0) hx hb dX5_unit_156 (by decide) ?_
            have zr0 : (0 : Int32).toInt = 0 := by decide
            rw [hQ]
            exact W.zret (v := 0) (ty := .boolean) hx hb hr rfl (fun t ht hW => ⟨⟨0, (u150_0, u150_1, u150_2), rfl, ⟨by (try dsimp only); omega, by (try dsimp only); omega, by (try dsimp only); omega, by (try dsimp only); omega, by (try dsimp only); omega, by (try dsimp only); omega, zF0 (fu_s1 F4 (by omega) (by omega) F108 (by omega) ((fq_y F120 F127 (by omega) i144 F150).trans (by rw [show v150.toInt = 0 by omega]))), (fun z => absurd (by decide) z), by (try dsimp only); omega, (fun z => absurd (by decide) z), f150_10⟩, ⟨by rw [ht]; exact hP, hD⟩⟩, hS.F ht⟩) hS.2.2 dX5_unit_157
        · have c130 : v127.toInt = 0 := z5 rfl (by decide) c130
          refine lv_iconst (v := 0) hx hb dX5_unit_133 (by decide) ?_
          have zr0 : (0 : Int32).toInt = 0 := by decide
          rw [hQ]
          exact W.zret (v := 0) (ty := .boolean) hx hb hr rfl (fun t ht hW => ⟨⟨0, (u108_0, u108_1, u120_0), rfl, ⟨by (try dsimp only); omega, by (try dsimp only); omega, by (try dsimp only); omega, by (try dsimp only); omega, by (try dsimp only); omega, by (try dsimp only); omega, zF0 (fu_s1 F4 (by omega) (by omega) F108 (by omega) (fq_n F120 F127 (by omega))), (fun z => absurd (by decide) z), by (try dsimp only); omega, (fun z => absurd (by decide) z), f108_10⟩, ⟨by rw [ht]; exact hP, hD⟩⟩, hS.F ht⟩) hS.2.2 dX5_unit_134
      · have c111 : v108.toInt = 0 := z5 rfl (by decide) c111
        refine lv_iconst (v := 0) hx hb dX5_unit_114 (by decide) ?_
        have zr0 : (0 : Int32).toInt = 0 := by decide
        rw [hQ]
        exact W.zret (v := 0) (ty := .boolean) hx hb hr rfl (fun t ht hW => ⟨⟨0, (u108_0, u108_1, u108_2), rfl, ⟨by (try dsimp only); omega, by (try dsimp only); omega, by (try dsimp only); omega, by (try dsimp only); omega, by (try dsimp only); omega, by (try dsimp only); omega, zF0 (fu_s0 F4 (by omega) (by omega) F108 (by omega)), (fun z => absurd (by decide) z), by (try dsimp only); omega, (fun z => absurd (by decide) z), f108_10⟩, ⟨by rw [ht]; exact hP, hD⟩⟩, hS.F ht⟩) hS.2.2 dX5_unit_115
    · have c21 : v4.toInt = 40 := z5 rfl (by decide) c21
      exact J24  (by omega) (by omega) (by omega) H locs ls hP hD hS (lv_sub hl [0, 1, 2, 3] rfl)
set_option maxHeartbeats 4000000 in
set_option maxRecDepth 100000 in
theorem g_X5_condition_k (l : Launch) (K fr lo : Nat) (ihU : zQ_X5_unit l K fr lo) (hfr : 0 ≤ fr) (hlo : 22 ≤ lo) : zQ_X5_condition l K (fr + 1) (lo + 40) := by
  intro dC dI cI cJ h0 p0 lS sz5 tp fS tB tl ta fB sz n_p0 n_sz5 n_ta n_tl hty hsz hKd ci_fS_zSt
  refine Met.ofW (cc := cX5_condition) (maxL := 6) (ret := (some .boolean)) (by decide) rfl ?_
  intro p e s m args below meth c s₁ B hml hv
  obtain ⟨⟨hargs, hsz, hP, hK, hT⟩, hV⟩ := hv
  have hx := B.exec
  have hb := B.bytes
  have hr := B.returns
  have hts : ∀ w ∈ wA, w.before args s = true := fun w h => atoms_spec (ws := .code yX5_condition cX5_condition 6 (some .boolean) :: wA) B.pre w (List.mem_cons_of_mem _ h)
  have hown : s.vm.findClass RX5 = some m.cls := findClass_of_methodNamed B.named
  have hlocks := B.notSynchronized
  subst hsz
  have hD := hT.self (sz := s.heap.size)
  generalize hAe : va_A [(h0, .inr (5, [.ref lS, .int sz5, .ref tp])), (lS, .inl (cI, 241, .inl fS)), (tp, .inr (9, [.ref tB, .int tl, .int ta])), (tB, .inl (cI, 260, .inl fB))] s.heap.size = A at hD hV ⊢
  have hA : ∀ q : Nat, s.heap.size ≤ q → A q := fun q h => by rw [← hAe]; exact Or.inr h
  have hl := lv_entry ([.ref h0, .int p0, .int 0]) (n := 6) (Nat.le_of_ble_eq_true rfl)
  rw [show entryFrame m args 6 = entryFrame m ([.ref h0, .int p0, .int 0] : List Value).toArray 6 by rw [hargs], lg_entry_eq]
  generalize (lg_sl ([.ref h0, .int p0, .int 0]) ++ List.replicate (6 - (lg_sl ([.ref h0, .int p0, .int 0])).length) Slot.unset).toArray = ls at hl ⊢
  have hl : lv_has ls 6 [(0, .ref h0), (1, .int p0), (2, .int 0)] := hl
  refine zstart (fun H hH => ?_)
  rw [← hH] at hP
  have hS : va_S A s.heap H [] := by rw [hH]; exact va_S.rf
  generalize ([] : List Loc) = locs at hS ⊢
  refine zgen (fun R Q hR hQ => ?_)
  have hRf : R.frames = fr + 1 := by rw [hR]; rfl
  have hRl : R.locals = lo + 40 := by rw [hR]; rfl
  refine lv_aload_n hx hb dX5_condition_0 rfl (lv_at hl 0 rfl) ?_
  refine lv_iload_n hx hb dX5_condition_1 rfl (lv_at hl 1 rfl) ?_
  refine lv_iload_n hx hb dX5_condition_2 rfl (lv_at hl 2 rfl) ?_
  obtain ⟨hPc, hDc, hFc⟩ := zc3 (wc := [(h0, .inr (5, [.ref lS, .int sz5, .ref tp])), (lS, .inl (cI, 241, .inl fS)), (tp, .inr (9, [.ref tB, .int tl, .int ta])), (tB, .inl (cI, 260, .inl fB))]) hP hD hS hA [0, 1, 2, 3] (by decide +kernel) rfl
  refine va_calli (va_runV (As := [.int p0, .int 0]) (rest := []) ⟨hx, hb, hml, hown, hts⟩ (ihU dC dI cI cJ h0 p0 lS sz5 tp fS tB tl ta fB H.size n_p0 n_sz5 n_ta n_tl (hty) (by omega) (by omega) ci_fS_zSt) (cwV 2 hts (zgV qw511 qw513 qw7 qw101 qw514) rfl rfl rfl hd_X5_unit ⟨by (try dsimp only) <;> omega, by (try dsimp only) <;> omega⟩) (zPWV hPc hK hDc (va_recv (q := (RX5, TX5, 3)) hK hP (ci := 5) (q0 := 0) rfl rfl) (zV_call hV hS hFc)) rfl rfl hl.1 rfl (lv_room (Nat.le_of_ble_eq_true rfl)) dX5_condition_3 ⟨Nat.zero_le _, Nat.zero_le _⟩) hS (fun q _ h => hFc q h) hFc (fun v3 u3 t H locs ht hvm hw hB hz1 hk1 hS9 => ?_)
  obtain ⟨u3_0, u3_1, u3_2⟩ := u3
  obtain ⟨hP9, hD9⟩ := zj2 (wX := [(h0, .inr (5, [.ref lS, .int u3_0, .ref tp])), (lS, .inl (cI, 241, .inl u3_1)), (tp, .inr (9, [.ref tB, .int tl, .int u3_2])), (tB, .inl (cI, 260, .inl fB))]) hP hD hk1 hFc ht hB [0, 1, 2, 3] [(true, 0), (true, 1), (true, 2), (true, 3)] rfl (by decide +kernel) (by decide +kernel) rfl
  clear hP hD hS hPc hDc hFc hB hk1 hz1 hvm
  have hP := hP9
  have hD := hD9
  have hS := hS9
  clear hP9 hD9 hS9
  obtain ⟨f3_0, f3_1, f3_2, f3_3, f3_4, f3_5, f3_6, f3_7, f3_8, f3_9, f3_10⟩ : (0 ≤ v3.toInt) ∧ (v3.toInt ≤ 1) ∧ (0 ≤ u3_0.toInt) ∧ (u3_0.toInt ≤ 241) ∧ (0 ≤ u3_2.toInt) ∧ (u3_2.toInt ≤ 240) ∧ (zF (sUn (sB fB tl.toInt) tl.toInt K ta.toInt) v3 u3_2) ∧ (¬ v3.toInt = 0 → ta.toInt < u3_2.toInt) ∧ (¬ v3.toInt = 0 → u3_0.toInt + ta.toInt ≤ sz5.toInt + u3_2.toInt) ∧ (¬ v3.toInt = 0 → zEm fS sz5 (eUn (sB fB tl.toInt) tl.toInt K ta.toInt) u3_1 u3_0) ∧ (zSt u3_1) := hw
  have F3 := f3_6
  have F3_1 := f3_9
  refine lv_if_ne (tgt := 11) hx hb dX5_condition_6 (by decide) (fun c6 => ?_) (fun c6 => ?_)
  · have c6 : ¬ v3.toInt = 0 := z6 rfl (by decide) c6
    refine lv_iconst (v := 0) hx hb dX5_condition_11 (by decide) ?_
    refine lv_istore_n (lv' := [(3, .int 0), (0, .ref h0), (1, .int p0), (2, .int 0)]) hx hb dX5_condition_12 rfl hl (by decide) rfl (fun ls hl => ?_)
    refine lv_aload_n hx hb dX5_condition_13 rfl (lv_at hl 1 rfl) ?_
    refine va_get (D := (dC, dI)) (ci := 5) (v := .ref tp) (C := RX5) (T := TX5) (N := 3) hx hb hts iX5 hown hK hP 0 rfl rfl 2 (by decide) (hts _ qw172) (fun _ h9 => h9) rfl dX5_condition_14 ?_
    obtain ⟨hPc, hDc, hFc⟩ := zc3 (wc := [(tp, .inr (9, [.ref tB, .int tl, .int u3_2])), (tB, .inl (cI, 260, .inl fB))]) hP hD hS hA [2, 3] (by decide +kernel) rfl
    refine va_calli (va_runV (As := []) (rest := []) ⟨hx, hb, hml, hown, hts⟩ (g_X9_peek l dC dI cI cJ tp tB tl u3_2 fB H.size ⟨f3_4, f3_5⟩ n_tl (hty)) (cwV 0 hts (zgV qw485 qw438 qw439 qw99 qw440) rfl rfl rfl hd_X9_peek ⟨by (try dsimp only) <;> omega, by (try dsimp only) <;> omega⟩) (zPV hPc hK hDc (va_recv (q := (RX9, TX9, 3)) hK hP (ci := 9) (q0 := 2) rfl rfl)) rfl rfl hl.1 rfl (lv_room (Nat.le_of_ble_eq_true rfl)) dX5_condition_17 ⟨Nat.zero_le _, Nat.zero_le _⟩) hS (fun q _ h => hFc q h) hFc (fun v17 u17 t H locs ht hvm hw hB hz1 hk1 hS9 => ?_)
    obtain ⟨u17_0, rfl⟩ : ∃ z, z = u17 := ⟨_, rfl⟩
    obtain ⟨hP9, hD9⟩ := zj2 (wX := [(h0, .inr (5, [.ref lS, .int u3_0, .ref tp])), (lS, .inl (cI, 241, .inl u3_1)), (tp, .inr (9, [.ref tB, .int tl, .int u17_0])), (tB, .inl (cI, 260, .inl fB))]) hP hD hk1 hFc ht hB [2, 3] [(false, 0), (false, 1), (true, 0), (true, 1)] rfl (by decide +kernel) (by decide +kernel) rfl
    clear hP hD hS hPc hDc hFc hB hk1 hz1 hvm
    have hP := hP9
    have hD := hD9
    have hS := hS9
    clear hP9 hD9 hS9
    obtain ⟨f17_0, f17_1, f17_2, f17_3, f17_4⟩ : (0 ≤ u17_0.toInt) ∧ (u17_0.toInt ≤ 240) ∧ (¬ v17.toInt = 0 → u17_0.toInt < tl.toInt) ∧ (u3_2.toInt ≤ u17_0.toInt) ∧ (zPK fB tl u3_2 v17 u17_0) := hw
    have F17 := f17_4
    refine lv_istore (lv' := [(4, .int v17), (3, .int 0), (0, .ref h0), (1, .int p0), (2, .int 0)]) hx hb dX5_condition_20 hl (by decide) rfl (fun ls hl => ?_)
    refine lv_iconst (v := 0) hx hb dX5_condition_22 (by decide) ?_
    have J25 : ∀ (n : Nat) (m25_A_lS : Nat → Int32) (m25_F_h0_1 : Int32) (m25_F_tp_2 : Int32) (m25_L_3 : Int32) (m25_L_4 : Int32) (m25_L_5 : Int32), (0 ≤ m25_F_h0_1.toInt ∧ m25_F_h0_1.toInt ≤ 241) → (0 ≤ m25_F_tp_2.toInt ∧ m25_F_tp_2.toInt ≤ 240) → (0 ≤ m25_L_3.toInt ∧ m25_L_3.toInt ≤ 1) → (0 ≤ m25_L_5.toInt ∧ m25_L_5.toInt ≤ 240) → (¬ m25_L_4.toInt = 0 → m25_F_tp_2.toInt < tl.toInt) → (m25_L_5.toInt ≤ m25_F_tp_2.toInt) → (sCon (sB fB tl.toInt) tl.toInt K ta.toInt = sLp (sB fB tl.toInt) tl.toInt oC (sUn (sB fB tl.toInt) tl.toInt K) m25_F_tp_2.toInt) → (zSg fB tl m25_F_tp_2 m25_L_4) → (m25_F_h0_1.toInt + ta.toInt ≤ sz5.toInt + m25_F_tp_2.toInt) → (¬ m25_L_3.toInt = 0 → m25_F_h0_1.toInt + 1 + ta.toInt ≤ sz5.toInt + m25_F_tp_2.toInt) → (0 ≤ m25_L_3.toInt ∧ m25_L_3.toInt ≤ 1) → (zSe fB tl oC oD (sUn (sB fB tl.toInt) tl.toInt K) (eUn (sB fB tl.toInt) tl.toInt K) (eCon (sB fB tl.toInt) tl.toInt K ta.toInt) fS sz5 m25_A_lS m25_F_h0_1 (124 * m25_L_3.toInt) m25_F_tp_2) → (zSt m25_A_lS) → (241 - m25_L_5.toInt).toNat = n → ∀ (H : Heap) (locs : List Loc) (ls : Array Slot), va_P (dC, dI) vwCl [(h0, .inr (5, [.ref lS, .int m25_F_h0_1, .ref tp])), (lS, .inl (cI, 241, .inl m25_A_lS)), (tp, .inr (9, [.ref tB, .int tl, .int m25_F_tp_2])), (tB, .inl (cI, 260, .inl fB))] H → va_D A [(h0, .inr (5, [.ref lS, .int m25_F_h0_1, .ref tp])), (lS, .inl (cI, 241, .inl m25_A_lS)), (tp, .inr (9, [.ref tB, .int tl, .int m25_F_tp_2])), (tB, .inl (cI, 260, .inl fB))] → va_S A s.heap H locs → lv_has ls 6 [(5, .int m25_L_5), (4, .int m25_L_4), (3, .int m25_L_3), (0, .ref h0), (1, .int p0), (2, .int 0)] → W p l e R s m args below meth c H locs 0 0 Q (F0 m 25 ls []) := by
      intro n25
      induction n25 using Nat.strongRecOn with
      | _ n25 ih25 =>
        intro m25_A_lS m25_F_h0_1 m25_F_tp_2 m25_L_3 m25_L_4 m25_L_5 jf25_0 jf25_1 jf25_2 jf25_3 jf25_4 jf25_5 jv25_0 jv25_1 jf25_8 jf25_9 jf25_10 jv25_2 jf25_12 hmu25 H locs ls hP hD hS hl
        refine lv_iload hx hb dX5_condition_25 (lv_at hl 0 rfl) ?_
        refine lv_aload_n hx hb dX5_condition_27 rfl (lv_at hl 3 rfl) ?_
        refine va_get (D := (dC, dI)) (ci := 5) (v := .ref tp) (C := RX5) (T := TX5) (N := 3) hx hb hts iX5 hown hK hP 0 rfl rfl 2 (by decide) (hts _ qw172) (fun _ h9 => h9) rfl dX5_condition_28 ?_
        refine va_get (D := (dC, dI)) (ci := 9) (v := .int tl) (C := RX9) (T := TX9) (N := 3) hx hb hts iX9 hown hK hP 2 rfl rfl 1 (by decide) (hts _ qw135) (fun _ h9 => h9) rfl dX5_condition_31 ?_
        have J127 : (sCon (sB fB tl.toInt) tl.toInt K ta.toInt = (1, m25_F_tp_2.toInt)) → (∀ (g : Nat → Int32) (s : Int32), zEm m25_A_lS m25_F_h0_1 (eW (124 * m25_L_3.toInt)) g s → zEm fS sz5 (eCon (sB fB tl.toInt) tl.toInt K ta.toInt) g s) → ∀ (H : Heap) (locs : List Loc) (ls : Array Slot), va_P (dC, dI) vwCl [(h0, .inr (5, [.ref lS, .int m25_F_h0_1, .ref tp])), (lS, .inl (cI, 241, .inl m25_A_lS)), (tp, .inr (9, [.ref tB, .int tl, .int m25_F_tp_2])), (tB, .inl (cI, 260, .inl fB))] H → va_D A [(h0, .inr (5, [.ref lS, .int m25_F_h0_1, .ref tp])), (lS, .inl (cI, 241, .inl m25_A_lS)), (tp, .inr (9, [.ref tB, .int tl, .int m25_F_tp_2])), (tB, .inl (cI, 260, .inl fB))] → va_S A s.heap H locs → lv_has ls 6 [(5, .int m25_L_5), (4, .int m25_L_4), (3, .int m25_L_3), (0, .ref h0), (1, .int p0), (2, .int 0)] → W p l e R s m args below meth c H locs 0 0 Q (F0 m 127 ls []) := by
          intro  jv127_0 jv127_1 H locs ls hP hD hS hl
          refine lv_iload_n hx hb dX5_condition_127 rfl (lv_at hl 2 rfl) ?_
          refine lv_if_eq (tgt := 138) hx hb dX5_condition_128 (by decide) (fun c128 => ?_) (fun c128 => ?_)
          · have c128 : m25_L_3.toInt = 0 := z5 rfl (by decide) c128
            refine lv_iconst (v := 1) hx hb dX5_condition_138 (by decide) ?_
            have zr0 : (1 : Int32).toInt = 1 := by decide
            rw [hQ]
            exact W.zret (v := 1) (ty := .boolean) hx hb hr rfl (fun t ht hW => ⟨⟨1, (m25_F_h0_1, m25_A_lS, m25_F_tp_2), rfl, ⟨by (try dsimp only); omega, by (try dsimp only); omega, by (try dsimp only); omega, by (try dsimp only); omega, by (try dsimp only); omega, by (try dsimp only); omega, zF1 (jv127_0), (fun _ => zFm (x := sCon (sB fB tl.toInt) tl.toInt K) (sCon_mono (sB fB tl.toInt) tl.toInt K) (zF1 (jv127_0))), by (try dsimp only); omega, (fun _ => jv127_1 _ _ (eW_0 (by omega))), jf25_12⟩, ⟨by rw [ht]; exact hP, hD⟩⟩, hS.F ht⟩) hS.2.2 dX5_condition_139
          · have c128 : ¬ m25_L_3.toInt = 0 := z6 rfl (by decide) c128
            refine lv_aload_n hx hb dX5_condition_131 rfl (lv_at hl 3 rfl) ?_
            refine lv_bipush (v := 124) hx hb dX5_condition_132 (by decide) ?_
            refine lv_iconst (v := 0) hx hb dX5_condition_134 (by decide) ?_
            obtain ⟨hPc, hDc, hFc⟩ := zc3 (wc := [(h0, .inr (5, [.ref lS, .int m25_F_h0_1, .ref tp])), (lS, .inl (cI, 241, .inl m25_A_lS))]) hP hD hS hA [0, 1] (by decide +kernel) rfl
            refine va_callv (va_runV (As := [.int 124, .int 0]) (rest := []) ⟨hx, hb, hml, hown, hts⟩ (g_X5_put_0 l dC dI cI cJ h0 124 lS m25_F_h0_1 tp m25_A_lS H.size (by decide) jf25_0 jf25_12) (cwV 2 hts (zgV qw496 qw498 qw5 qw101 qw499) rfl rfl rfl hd_X5_put ⟨by (try dsimp only) <;> omega, by (try dsimp only) <;> omega⟩) (zPV hPc hK hDc (va_recv (q := (RX5, TX5, 3)) hK hP (ci := 5) (q0 := 0) rfl rfl)) rfl rfl hl.1 rfl (lv_room (Nat.le_of_ble_eq_true rfl)) dX5_condition_135 ⟨Nat.zero_le _, Nat.zero_le _⟩) hS (fun q _ h => hFc q h) hFc (fun u135 t H locs ht hvm hw hB hz1 hk1 hS9 => ?_)
            obtain ⟨u135_0, u135_1⟩ := u135
            obtain ⟨hP9, hD9⟩ := zj2 (wX := [(h0, .inr (5, [.ref lS, .int u135_0, .ref tp])), (lS, .inl (cI, 241, .inl u135_1)), (tp, .inr (9, [.ref tB, .int tl, .int m25_F_tp_2])), (tB, .inl (cI, 260, .inl fB))]) hP hD hk1 hFc ht hB [0, 1] [(true, 0), (true, 1), (false, 2), (false, 3)] rfl (by decide +kernel) (by decide +kernel) rfl
            clear hP hD hS hPc hDc hFc hB hk1 hz1 hvm
            have hP := hP9
            have hD := hD9
            have hS := hS9
            clear hP9 hD9 hS9
            have zn135_124 : (124 : Int32).toInt = 124 := by decide
            obtain ⟨f135_0, f135_1, f135_2, f135_3, f135_4⟩ : (1 ≤ u135_0.toInt) ∧ (u135_0.toInt ≤ 241) ∧ (u135_0.toInt ≤ m25_F_h0_1.toInt + 1 ∧ m25_F_h0_1.toInt ≤ u135_0.toInt) ∧ (m25_F_h0_1.toInt < 241 → zEm m25_A_lS m25_F_h0_1 [((124 : Int32).toInt, 0)] u135_1 u135_0) ∧ (zSt u135_1) := hw
            have F135 := f135_3
            refine lv_iconst (v := 1) hx hb dX5_condition_138 (by decide) ?_
            have zr0 : (1 : Int32).toInt = 1 := by decide
            rw [hQ]
            exact W.zret (v := 1) (ty := .boolean) hx hb hr rfl (fun t ht hW => ⟨⟨1, (u135_0, u135_1, m25_F_tp_2), rfl, ⟨by (try dsimp only); omega, by (try dsimp only); omega, by (try dsimp only); omega, by (try dsimp only); omega, by (try dsimp only); omega, by (try dsimp only); omega, zF1 (jv127_0), (fun _ => zFm (x := sCon (sB fB tl.toInt) tl.toInt K) (sCon_mono (sB fB tl.toInt) tl.toInt K) (zF1 (jv127_0))), by (try dsimp only); omega, (fun _ => jv127_1 _ _ (eW_1 (by omega) (by omega) (F135 (by omega)))), f135_4⟩, ⟨by rw [ht]; exact hP, hD⟩⟩, hS.F ht⟩) hS.2.2 dX5_condition_139
        refine lv_icmp_ge (tgt := 127) hx hb dX5_condition_34 (by decide) (fun c34 => ?_) (fun c34 => ?_)
        · have c34 : tl.toInt ≤ m25_L_5.toInt := z3 rfl rfl c34
          exact J127  (by first | exact fl_n jv25_0 jv25_1 (fun z => by have := oC_iff.mp z; omega) | exact fl_e jv25_0 (by omega)) (by first | exact fun g s hb => fse_e jv25_2 (Or.inr ⟨jv25_1, fun z => by have := oC_iff.mp z; omega⟩) hb (by omega) | exact fun g s hb => fse_e (t := m25_L_4) jv25_2 (Or.inl (by omega)) hb (by omega)) H locs ls hP hD hS (lv_sub hl [0, 1, 2, 3, 4, 5] rfl)
        · have c34 : m25_L_5.toInt < tl.toInt := z4 rfl rfl c34
          refine lv_iload hx hb dX5_condition_37 (lv_at hl 1 rfl) ?_
          refine lv_bipush (v := 38) hx hb dX5_condition_39 (by decide) ?_
          refine lv_icmp_eq (tgt := 51) hx hb dX5_condition_41 (by decide) (fun c41 => ?_) (fun c41 => ?_)
          · have c41 : m25_L_4.toInt = 38 := z5 rfl (by decide) c41
            refine lv_iload hx hb dX5_condition_51 (lv_at hl 1 rfl) ?_
            refine lv_bipush (v := 124) hx hb dX5_condition_53 (by decide) ?_
            refine lv_icmp_ne (tgt := 69) hx hb dX5_condition_55 (by decide) (fun c55 => ?_) (fun c55 => by exfalso; have c55 : m25_L_4.toInt = 124 := z5 rfl (by decide) c55; omega)
            have c55 : ¬ m25_L_4.toInt = 124 := z6 rfl (by decide) c55
            refine lv_aload_n hx hb dX5_condition_69 rfl (lv_at hl 3 rfl) ?_
            refine va_get (D := (dC, dI)) (ci := 5) (v := .ref tp) (C := RX5) (T := TX5) (N := 3) hx hb hts iX5 hown hK hP 0 rfl rfl 2 (by decide) (hts _ qw172) (fun _ h9 => h9) rfl dX5_condition_70 ?_
            refine lv_dup hx hb dX5_condition_73 rfl ?_
            refine va_get (D := (dC, dI)) (ci := 9) (v := .int m25_F_tp_2) (C := RX9) (T := TX9) (N := 3) hx hb hts iX9 hown hK hP 2 rfl rfl 2 (by decide) (hts _ qw137) (fun _ h9 => h9) rfl dX5_condition_74 ?_
            refine lv_iconst (v := 1) hx hb dX5_condition_77 (by decide) ?_
            refine lv_iadd hx hb dX5_condition_78 ?_
            refine lv_topi (fun v78 e78 => ?_)
            have i78 : v78.toInt = m25_F_tp_2.toInt + 1 := zadd e78 rfl (by decide) (by omega) (by omega)
            refine va_put (D := (dC, dI)) (ci := 9) (v := .int v78) (ty := .int) (C := RX9) (T := TX9) (N := 3) hx hb hts iX9 tyX9 tyX9_ok nmX9 hown hK hP hD hS 2 rfl rfl 2 (by decide) (hts _ qw137) (fun _ h9 => h9) rfl (by decide +kernel) rfl rfl (Nat.le_of_ble_eq_true rfl) dX5_condition_79 (fun H locs hP9 hD9 hS9 => ?_)
            clear hP hD hS
            obtain ⟨hP, hD⟩ := zst (wX := [(h0, .inr (5, [.ref lS, .int m25_F_h0_1, .ref tp])), (lS, .inl (cI, 241, .inl m25_A_lS)), (tp, .inr (9, [.ref tB, .int tl, .int v78])), (tB, .inl (cI, 260, .inl fB))]) hP9 hD9 rfl
            have hS := hS9
            clear hP9 hD9 hS9
            refine lv_aload_n hx hb dX5_condition_82 rfl (lv_at hl 3 rfl) ?_
            refine lv_iload_n hx hb dX5_condition_83 rfl (lv_at hl 4 rfl) ?_
            refine lv_iconst (v := 0) hx hb dX5_condition_84 (by decide) ?_
            obtain ⟨hPc, hDc, hFc⟩ := zc3 (wc := [(h0, .inr (5, [.ref lS, .int m25_F_h0_1, .ref tp])), (lS, .inl (cI, 241, .inl m25_A_lS)), (tp, .inr (9, [.ref tB, .int tl, .int v78])), (tB, .inl (cI, 260, .inl fB))]) hP hD hS hA [0, 1, 2, 3] (by decide +kernel) rfl
            refine va_calli (va_runV (As := [.int p0, .int 0]) (rest := []) ⟨hx, hb, hml, hown, hts⟩ (ihU dC dI cI cJ h0 p0 lS m25_F_h0_1 tp m25_A_lS tB tl v78 fB H.size n_p0 jf25_0 (by omega) n_tl (hty) (by omega) (by omega) jf25_12) (cwV 2 hts (zgV qw511 qw513 qw7 qw101 qw514) rfl rfl rfl hd_X5_unit ⟨by (try dsimp only) <;> omega, by (try dsimp only) <;> omega⟩) (zPWV hPc hK hDc (va_recv (q := (RX5, TX5, 3)) hK hP (ci := 5) (q0 := 0) rfl rfl) (zV_call hV hS hFc)) rfl rfl hl.1 rfl (lv_room (Nat.le_of_ble_eq_true rfl)) dX5_condition_85 ⟨Nat.zero_le _, Nat.zero_le _⟩) hS (fun q _ h => hFc q h) hFc (fun v85 u85 t H locs ht hvm hw hB hz1 hk1 hS9 => ?_)
            obtain ⟨u85_0, u85_1, u85_2⟩ := u85
            obtain ⟨hP9, hD9⟩ := zj2 (wX := [(h0, .inr (5, [.ref lS, .int u85_0, .ref tp])), (lS, .inl (cI, 241, .inl u85_1)), (tp, .inr (9, [.ref tB, .int tl, .int u85_2])), (tB, .inl (cI, 260, .inl fB))]) hP hD hk1 hFc ht hB [0, 1, 2, 3] [(true, 0), (true, 1), (true, 2), (true, 3)] rfl (by decide +kernel) (by decide +kernel) rfl
            clear hP hD hS hPc hDc hFc hB hk1 hz1 hvm
            have hP := hP9
            have hD := hD9
            have hS := hS9
            clear hP9 hD9 hS9
            obtain ⟨f85_0, f85_1, f85_2, f85_3, f85_4, f85_5, f85_6, f85_7, f85_8, f85_9, f85_10⟩ : (0 ≤ v85.toInt) ∧ (v85.toInt ≤ 1) ∧ (0 ≤ u85_0.toInt) ∧ (u85_0.toInt ≤ 241) ∧ (0 ≤ u85_2.toInt) ∧ (u85_2.toInt ≤ 240) ∧ (zF (sUn (sB fB tl.toInt) tl.toInt K v78.toInt) v85 u85_2) ∧ (¬ v85.toInt = 0 → v78.toInt < u85_2.toInt) ∧ (¬ v85.toInt = 0 → u85_0.toInt + v78.toInt ≤ m25_F_h0_1.toInt + u85_2.toInt) ∧ (¬ v85.toInt = 0 → zEm m25_A_lS m25_F_h0_1 (eUn (sB fB tl.toInt) tl.toInt K v78.toInt) u85_1 u85_0) ∧ (zSt u85_1) := hw
            have F85 := f85_6
            have F85_1 := f85_9
            refine lv_if_ne (tgt := 93) hx hb dX5_condition_88 (by decide) (fun c88 => ?_) (fun c88 => ?_)
            · have c88 : ¬ v85.toInt = 0 := z6 rfl (by decide) c88
              refine lv_iload hx hb dX5_condition_93 (lv_at hl 1 rfl) ?_
              refine lv_bipush (v := 38) hx hb dX5_condition_95 (by decide) ?_
              refine lv_icmp_ne (tgt := 110) hx hb dX5_condition_97 (by decide) (fun c97 => by exfalso; have c97 : ¬ m25_L_4.toInt = 38 := z6 rfl (by decide) c97; omega) (fun c97 => ?_)
              have c97 : m25_L_4.toInt = 38 := z5 rfl (by decide) c97
              refine lv_aload_n hx hb dX5_condition_100 rfl (lv_at hl 3 rfl) ?_
              refine lv_bipush (v := 38) hx hb dX5_condition_101 (by decide) ?_
              refine lv_iconst (v := 0) hx hb dX5_condition_103 (by decide) ?_
              obtain ⟨hPc, hDc, hFc⟩ := zc3 (wc := [(h0, .inr (5, [.ref lS, .int u85_0, .ref tp])), (lS, .inl (cI, 241, .inl u85_1))]) hP hD hS hA [0, 1] (by decide +kernel) rfl
              refine va_callv (va_runV (As := [.int 38, .int 0]) (rest := []) ⟨hx, hb, hml, hown, hts⟩ (g_X5_put_0 l dC dI cI cJ h0 38 lS u85_0 tp u85_1 H.size (by decide) ⟨f85_2, f85_3⟩ f85_10) (cwV 2 hts (zgV qw496 qw498 qw5 qw101 qw499) rfl rfl rfl hd_X5_put ⟨by (try dsimp only) <;> omega, by (try dsimp only) <;> omega⟩) (zPV hPc hK hDc (va_recv (q := (RX5, TX5, 3)) hK hP (ci := 5) (q0 := 0) rfl rfl)) rfl rfl hl.1 rfl (lv_room (Nat.le_of_ble_eq_true rfl)) dX5_condition_104 ⟨Nat.zero_le _, Nat.zero_le _⟩) hS (fun q _ h => hFc q h) hFc (fun u104 t H locs ht hvm hw hB hz1 hk1 hS9 => ?_)
              obtain ⟨u104_0, u104_1⟩ := u104
              obtain ⟨hP9, hD9⟩ := zj2 (wX := [(h0, .inr (5, [.ref lS, .int u104_0, .ref tp])), (lS, .inl (cI, 241, .inl u104_1)), (tp, .inr (9, [.ref tB, .int tl, .int u85_2])), (tB, .inl (cI, 260, .inl fB))]) hP hD hk1 hFc ht hB [0, 1] [(true, 0), (true, 1), (false, 2), (false, 3)] rfl (by decide +kernel) (by decide +kernel) rfl
              clear hP hD hS hPc hDc hFc hB hk1 hz1 hvm
              have hP := hP9
              have hD := hD9
              have hS := hS9
              clear hP9 hD9 hS9
              have zn104_38 : (38 : Int32).toInt = 38 := by decide
              obtain ⟨f104_0, f104_1, f104_2, f104_3, f104_4⟩ : (1 ≤ u104_0.toInt) ∧ (u104_0.toInt ≤ 241) ∧ (u104_0.toInt ≤ u85_0.toInt + 1 ∧ u85_0.toInt ≤ u104_0.toInt) ∧ (u85_0.toInt < 241 → zEm u85_1 u85_0 [((38 : Int32).toInt, 0)] u104_1 u104_0) ∧ (zSt u104_1) := hw
              have F104 := f104_3
              refine lv_goto (tgt := 112) hx hb dX5_condition_107 (by decide) ?_
              refine lv_aload_n hx hb dX5_condition_112 rfl (lv_at hl 3 rfl) ?_
              refine va_get (D := (dC, dI)) (ci := 5) (v := .ref tp) (C := RX5) (T := TX5) (N := 3) hx hb hts iX5 hown hK hP 0 rfl rfl 2 (by decide) (hts _ qw172) (fun _ h9 => h9) rfl dX5_condition_113 ?_
              obtain ⟨hPc, hDc, hFc⟩ := zc3 (wc := [(tp, .inr (9, [.ref tB, .int tl, .int u85_2])), (tB, .inl (cI, 260, .inl fB))]) hP hD hS hA [2, 3] (by decide +kernel) rfl
              refine va_calli (va_runV (As := []) (rest := []) ⟨hx, hb, hml, hown, hts⟩ (g_X9_peek l dC dI cI cJ tp tB tl u85_2 fB H.size ⟨f85_4, f85_5⟩ n_tl (hty)) (cwV 0 hts (zgV qw485 qw438 qw439 qw99 qw440) rfl rfl rfl hd_X9_peek ⟨by (try dsimp only) <;> omega, by (try dsimp only) <;> omega⟩) (zPV hPc hK hDc (va_recv (q := (RX9, TX9, 3)) hK hP (ci := 9) (q0 := 2) rfl rfl)) rfl rfl hl.1 rfl (lv_room (Nat.le_of_ble_eq_true rfl)) dX5_condition_116 ⟨Nat.zero_le _, Nat.zero_le _⟩) hS (fun q _ h => hFc q h) hFc (fun v116 u116 t H locs ht hvm hw hB hz1 hk1 hS9 => ?_)
              obtain ⟨u116_0, rfl⟩ : ∃ z, z = u116 := ⟨_, rfl⟩
              obtain ⟨hP9, hD9⟩ := zj2 (wX := [(h0, .inr (5, [.ref lS, .int u104_0, .ref tp])), (lS, .inl (cI, 241, .inl u104_1)), (tp, .inr (9, [.ref tB, .int tl, .int u116_0])), (tB, .inl (cI, 260, .inl fB))]) hP hD hk1 hFc ht hB [2, 3] [(false, 0), (false, 1), (true, 0), (true, 1)] rfl (by decide +kernel) (by decide +kernel) rfl
              clear hP hD hS hPc hDc hFc hB hk1 hz1 hvm
              have hP := hP9
              have hD := hD9
              have hS := hS9
              clear hP9 hD9 hS9
              obtain ⟨f116_0, f116_1, f116_2, f116_3, f116_4⟩ : (0 ≤ u116_0.toInt) ∧ (u116_0.toInt ≤ 240) ∧ (¬ v116.toInt = 0 → u116_0.toInt < tl.toInt) ∧ (u85_2.toInt ≤ u116_0.toInt) ∧ (zPK fB tl u85_2 v116 u116_0) := hw
              have F116 := f116_4
              refine lv_istore (lv' := [(4, .int v116), (5, .int m25_L_5), (3, .int m25_L_3), (0, .ref h0), (1, .int p0), (2, .int 0)]) hx hb dX5_condition_119 hl (by decide) rfl (fun ls hl => ?_)
              obtain ⟨v121, e121⟩ : ∃ y : Int32, y = m25_L_5 + Int32.ofInt (1) := ⟨_, rfl⟩
              refine lv_iinc (v := v121) (lv' := [(5, .int v121), (4, .int v116), (3, .int m25_L_3), (0, .ref h0), (1, .int p0), (2, .int 0)]) hx hb dX5_condition_121 hl (k := 1) rfl e121.symm (by decide) rfl (fun ls hl => ?_)
              have i121 : v121.toInt = m25_L_5.toInt + 1 := zaddI e121 (by decide) (by omega) (by omega)
              refine lv_goto (tgt := 25) hx hb dX5_condition_124 (by decide) ?_
              exact ih25 _ (by omega) u104_1 u104_0 u116_0 m25_L_3 v116 v121 (by omega) ⟨f116_0, f116_1⟩ jf25_2 (by omega) (by omega) (by omega) (fl_s jv25_0 jv25_1 (oC_iff.mpr (by omega)) (by decide) i78 F85 (by omega) (by omega) F116) (F116.2) (by omega) (by omega) (by omega) (by first | exact fse_y jv25_2 jv25_1 (oC_iff.mpr (by omega)) (by decide) i78 F85 (by omega) (by omega) F116 (oD_iff.mpr (by omega)) (F85_1 (by omega)) (F104 (by omega)) (by omega) (by omega) (by omega) | exact fse_n jv25_2 jv25_1 (oC_iff.mpr (by omega)) (by decide) i78 F85 (by omega) (by omega) F116 (fun z => by have := oD_iff.mp z; omega) (eW_0 (by omega)) (F85_1 (by omega)) (by omega) (by omega) (by omega) | exact fse_n jv25_2 jv25_1 (oC_iff.mpr (by omega)) (by decide) i78 F85 (by omega) (by omega) F116 (fun z => by have := oD_iff.mp z; omega) (eW_1 (by omega) (by omega) (F66 (by omega))) (F85_1 (by omega)) (by omega) (by omega) (by omega)) f104_4 rfl H locs ls hP hD hS (lv_sub hl [0, 1, 2, 3, 4, 5] rfl)
            · have c88 : v85.toInt = 0 := z5 rfl (by decide) c88
              refine lv_iconst (v := 0) hx hb dX5_condition_91 (by decide) ?_
              have zr0 : (0 : Int32).toInt = 0 := by decide
              rw [hQ]
              exact W.zret (v := 0) (ty := .boolean) hx hb hr rfl (fun t ht hW => ⟨⟨0, (u85_0, u85_1, u85_2), rfl, ⟨by (try dsimp only); omega, by (try dsimp only); omega, by (try dsimp only); omega, by (try dsimp only); omega, by (try dsimp only); omega, by (try dsimp only); omega, zF0 (fl_x jv25_0 jv25_1 (oC_iff.mpr (by omega)) (by decide) i78 F85 (by omega)), (fun z => absurd (by decide) z), by (try dsimp only); omega, (fun z => absurd (by decide) z), f85_10⟩, ⟨by rw [ht]; exact hP, hD⟩⟩, hS.F ht⟩) hS.2.2 dX5_condition_92
          · have c41 : ¬ m25_L_4.toInt = 38 := z6 rfl (by decide) c41
            refine lv_iload hx hb dX5_condition_44 (lv_at hl 1 rfl) ?_
            refine lv_bipush (v := 124) hx hb dX5_condition_46 (by decide) ?_
            refine lv_icmp_ne (tgt := 127) hx hb dX5_condition_48 (by decide) (fun c48 => ?_) (fun c48 => ?_)
            · have c48 : ¬ m25_L_4.toInt = 124 := z6 rfl (by decide) c48
              exact J127  (by first | exact fl_n jv25_0 jv25_1 (fun z => by have := oC_iff.mp z; omega) | exact fl_e jv25_0 (by omega)) (by first | exact fun g s hb => fse_e jv25_2 (Or.inr ⟨jv25_1, fun z => by have := oC_iff.mp z; omega⟩) hb (by omega) | exact fun g s hb => fse_e (t := m25_L_4) jv25_2 (Or.inl (by omega)) hb (by omega)) H locs ls hP hD hS (lv_sub hl [0, 1, 2, 3, 4, 5] rfl)
            · have c48 : m25_L_4.toInt = 124 := z5 rfl (by decide) c48
              refine lv_iload hx hb dX5_condition_51 (lv_at hl 1 rfl) ?_
              refine lv_bipush (v := 124) hx hb dX5_condition_53 (by decide) ?_
              refine lv_icmp_ne (tgt := 69) hx hb dX5_condition_55 (by decide) (fun c55 => by exfalso; have c55 : ¬ m25_L_4.toInt = 124 := z6 rfl (by decide) c55; omega) (fun c55 => ?_)
              have c55 : m25_L_4.toInt = 124 := z5 rfl (by decide) c55
              refine lv_iload_n hx hb dX5_condition_58 rfl (lv_at hl 2 rfl) ?_
              refine lv_if_eq (tgt := 69) hx hb dX5_condition_59 (by decide) (fun c59 => ?_) (fun c59 => ?_)
              · have c59 : m25_L_3.toInt = 0 := z5 rfl (by decide) c59
                refine lv_aload_n hx hb dX5_condition_69 rfl (lv_at hl 3 rfl) ?_
                refine va_get (D := (dC, dI)) (ci := 5) (v := .ref tp) (C := RX5) (T := TX5) (N := 3) hx hb hts iX5 hown hK hP 0 rfl rfl 2 (by decide) (hts _ qw172) (fun _ h9 => h9) rfl dX5_condition_70 ?_
                refine lv_dup hx hb dX5_condition_73 rfl ?_
                refine va_get (D := (dC, dI)) (ci := 9) (v := .int m25_F_tp_2) (C := RX9) (T := TX9) (N := 3) hx hb hts iX9 hown hK hP 2 rfl rfl 2 (by decide) (hts _ qw137) (fun _ h9 => h9) rfl dX5_condition_74 ?_
                refine lv_iconst (v := 1) hx hb dX5_condition_77 (by decide) ?_
                refine lv_iadd hx hb dX5_condition_78 ?_
                refine lv_topi (fun v78 e78 => ?_)
                have i78 : v78.toInt = m25_F_tp_2.toInt + 1 := zadd e78 rfl (by decide) (by omega) (by omega)
                refine va_put (D := (dC, dI)) (ci := 9) (v := .int v78) (ty := .int) (C := RX9) (T := TX9) (N := 3) hx hb hts iX9 tyX9 tyX9_ok nmX9 hown hK hP hD hS 2 rfl rfl 2 (by decide) (hts _ qw137) (fun _ h9 => h9) rfl (by decide +kernel) rfl rfl (Nat.le_of_ble_eq_true rfl) dX5_condition_79 (fun H locs hP9 hD9 hS9 => ?_)
                clear hP hD hS
                obtain ⟨hP, hD⟩ := zst (wX := [(h0, .inr (5, [.ref lS, .int m25_F_h0_1, .ref tp])), (lS, .inl (cI, 241, .inl m25_A_lS)), (tp, .inr (9, [.ref tB, .int tl, .int v78])), (tB, .inl (cI, 260, .inl fB))]) hP9 hD9 rfl
                have hS := hS9
                clear hP9 hD9 hS9
                refine lv_aload_n hx hb dX5_condition_82 rfl (lv_at hl 3 rfl) ?_
                refine lv_iload_n hx hb dX5_condition_83 rfl (lv_at hl 4 rfl) ?_
                refine lv_iconst (v := 0) hx hb dX5_condition_84 (by decide) ?_
                obtain ⟨hPc, hDc, hFc⟩ := zc3 (wc := [(h0, .inr (5, [.ref lS, .int m25_F_h0_1, .ref tp])), (lS, .inl (cI, 241, .inl m25_A_lS)), (tp, .inr (9, [.ref tB, .int tl, .int v78])), (tB, .inl (cI, 260, .inl fB))]) hP hD hS hA [0, 1, 2, 3] (by decide +kernel) rfl
                refine va_calli (va_runV (As := [.int p0, .int 0]) (rest := []) ⟨hx, hb, hml, hown, hts⟩ (ihU dC dI cI cJ h0 p0 lS m25_F_h0_1 tp m25_A_lS tB tl v78 fB H.size n_p0 jf25_0 (by omega) n_tl (hty) (by omega) (by omega) jf25_12) (cwV 2 hts (zgV qw511 qw513 qw7 qw101 qw514) rfl rfl rfl hd_X5_unit ⟨by (try dsimp only) <;> omega, by (try dsimp only) <;> omega⟩) (zPWV hPc hK hDc (va_recv (q := (RX5, TX5, 3)) hK hP (ci := 5) (q0 := 0) rfl rfl) (zV_call hV hS hFc)) rfl rfl hl.1 rfl (lv_room (Nat.le_of_ble_eq_true rfl)) dX5_condition_85 ⟨Nat.zero_le _, Nat.zero_le _⟩) hS (fun q _ h => hFc q h) hFc (fun v85 u85 t H locs ht hvm hw hB hz1 hk1 hS9 => ?_)
                obtain ⟨u85_0, u85_1, u85_2⟩ := u85
                obtain ⟨hP9, hD9⟩ := zj2 (wX := [(h0, .inr (5, [.ref lS, .int u85_0, .ref tp])), (lS, .inl (cI, 241, .inl u85_1)), (tp, .inr (9, [.ref tB, .int tl, .int u85_2])), (tB, .inl (cI, 260, .inl fB))]) hP hD hk1 hFc ht hB [0, 1, 2, 3] [(true, 0), (true, 1), (true, 2), (true, 3)] rfl (by decide +kernel) (by decide +kernel) rfl
                clear hP hD hS hPc hDc hFc hB hk1 hz1 hvm
                have hP := hP9
                have hD := hD9
                have hS := hS9
                clear hP9 hD9 hS9
                obtain ⟨f85_0, f85_1, f85_2, f85_3, f85_4, f85_5, f85_6, f85_7, f85_8, f85_9, f85_10⟩ : (0 ≤ v85.toInt) ∧ (v85.toInt ≤ 1) ∧ (0 ≤ u85_0.toInt) ∧ (u85_0.toInt ≤ 241) ∧ (0 ≤ u85_2.toInt) ∧ (u85_2.toInt ≤ 240) ∧ (zF (sUn (sB fB tl.toInt) tl.toInt K v78.toInt) v85 u85_2) ∧ (¬ v85.toInt = 0 → v78.toInt < u85_2.toInt) ∧ (¬ v85.toInt = 0 → u85_0.toInt + v78.toInt ≤ m25_F_h0_1.toInt + u85_2.toInt) ∧ (¬ v85.toInt = 0 → zEm m25_A_lS m25_F_h0_1 (eUn (sB fB tl.toInt) tl.toInt K v78.toInt) u85_1 u85_0) ∧ (zSt u85_1) := hw
                have F85 := f85_6
                have F85_1 := f85_9
                refine lv_if_ne (tgt := 93) hx hb dX5_condition_88 (by decide) (fun c88 => ?_) (fun c88 => ?_)
                · have c88 : ¬ v85.toInt = 0 := z6 rfl (by decide) c88
                  refine lv_iload hx hb dX5_condition_93 (lv_at hl 1 rfl) ?_
                  refine lv_bipush (v := 38) hx hb dX5_condition_95 (by decide) ?_
                  refine lv_icmp_ne (tgt := 110) hx hb dX5_condition_97 (by decide) (fun c97 => ?_) (fun c97 => by exfalso; have c97 : m25_L_4.toInt = 38 := z5 rfl (by decide) c97; omega)
                  have c97 : ¬ m25_L_4.toInt = 38 := z6 rfl (by decide) c97
                  refine lv_iconst (v := 1) hx hb dX5_condition_110 (by decide) ?_
                  refine lv_istore_n (lv' := [(3, .int 1), (5, .int m25_L_5), (4, .int m25_L_4), (0, .ref h0), (1, .int p0), (2, .int 0)]) hx hb dX5_condition_111 rfl hl (by decide) rfl (fun ls hl => ?_)
                  refine lv_aload_n hx hb dX5_condition_112 rfl (lv_at hl 3 rfl) ?_
                  refine va_get (D := (dC, dI)) (ci := 5) (v := .ref tp) (C := RX5) (T := TX5) (N := 3) hx hb hts iX5 hown hK hP 0 rfl rfl 2 (by decide) (hts _ qw172) (fun _ h9 => h9) rfl dX5_condition_113 ?_
                  obtain ⟨hPc, hDc, hFc⟩ := zc3 (wc := [(tp, .inr (9, [.ref tB, .int tl, .int u85_2])), (tB, .inl (cI, 260, .inl fB))]) hP hD hS hA [2, 3] (by decide +kernel) rfl
                  refine va_calli (va_runV (As := []) (rest := []) ⟨hx, hb, hml, hown, hts⟩ (g_X9_peek l dC dI cI cJ tp tB tl u85_2 fB H.size ⟨f85_4, f85_5⟩ n_tl (hty)) (cwV 0 hts (zgV qw485 qw438 qw439 qw99 qw440) rfl rfl rfl hd_X9_peek ⟨by (try dsimp only) <;> omega, by (try dsimp only) <;> omega⟩) (zPV hPc hK hDc (va_recv (q := (RX9, TX9, 3)) hK hP (ci := 9) (q0 := 2) rfl rfl)) rfl rfl hl.1 rfl (lv_room (Nat.le_of_ble_eq_true rfl)) dX5_condition_116 ⟨Nat.zero_le _, Nat.zero_le _⟩) hS (fun q _ h => hFc q h) hFc (fun v116 u116 t H locs ht hvm hw hB hz1 hk1 hS9 => ?_)
                  obtain ⟨u116_0, rfl⟩ : ∃ z, z = u116 := ⟨_, rfl⟩
                  obtain ⟨hP9, hD9⟩ := zj2 (wX := [(h0, .inr (5, [.ref lS, .int u85_0, .ref tp])), (lS, .inl (cI, 241, .inl u85_1)), (tp, .inr (9, [.ref tB, .int tl, .int u116_0])), (tB, .inl (cI, 260, .inl fB))]) hP hD hk1 hFc ht hB [2, 3] [(false, 0), (false, 1), (true, 0), (true, 1)] rfl (by decide +kernel) (by decide +kernel) rfl
                  clear hP hD hS hPc hDc hFc hB hk1 hz1 hvm
                  have hP := hP9
                  have hD := hD9
                  have hS := hS9
                  clear hP9 hD9 hS9
                  obtain ⟨f116_0, f116_1, f116_2, f116_3, f116_4⟩ : (0 ≤ u116_0.toInt) ∧ (u116_0.toInt ≤ 240) ∧ (¬ v116.toInt = 0 → u116_0.toInt < tl.toInt) ∧ (u85_2.toInt ≤ u116_0.toInt) ∧ (zPK fB tl u85_2 v116 u116_0) := hw
                  have F116 := f116_4
                  refine lv_istore (lv' := [(4, .int v116), (3, .int 1), (5, .int m25_L_5), (0, .ref h0), (1, .int p0), (2, .int 0)]) hx hb dX5_condition_119 hl (by decide) rfl (fun ls hl => ?_)
                  obtain ⟨v121, e121⟩ : ∃ y : Int32, y = m25_L_5 + Int32.ofInt (1) := ⟨_, rfl⟩
                  refine lv_iinc (v := v121) (lv' := [(5, .int v121), (4, .int v116), (3, .int 1), (0, .ref h0), (1, .int p0), (2, .int 0)]) hx hb dX5_condition_121 hl (k := 2) rfl e121.symm (by decide) rfl (fun ls hl => ?_)
                  have i121 : v121.toInt = m25_L_5.toInt + 1 := zaddI e121 (by decide) (by omega) (by omega)
                  refine lv_goto (tgt := 25) hx hb dX5_condition_124 (by decide) ?_
                  have zj25_m25_L_3 : (1 : Int32).toInt = 1 := by decide
                  exact ih25 _ (by omega) u85_1 u85_0 u116_0 1 v116 v121 ⟨f85_2, f85_3⟩ ⟨f116_0, f116_1⟩ (by decide) (by omega) (by omega) (by omega) (fl_s jv25_0 jv25_1 (oC_iff.mpr (by omega)) (by decide) i78 F85 (by omega) (by omega) F116) (F116.2) (by omega) (by omega) (by omega) (by first | exact fse_y jv25_2 jv25_1 (oC_iff.mpr (by omega)) (by decide) i78 F85 (by omega) (by omega) F116 (oD_iff.mpr (by omega)) (F85_1 (by omega)) (F104 (by omega)) (by omega) (by omega) (by omega) | exact fse_n jv25_2 jv25_1 (oC_iff.mpr (by omega)) (by decide) i78 F85 (by omega) (by omega) F116 (fun z => by have := oD_iff.mp z; omega) (eW_0 (by omega)) (F85_1 (by omega)) (by omega) (by omega) (by omega) | exact fse_n jv25_2 jv25_1 (oC_iff.mpr (by omega)) (by decide) i78 F85 (by omega) (by omega) F116 (fun z => by have := oD_iff.mp z; omega) (eW_1 (by omega) (by omega) (F66 (by omega))) (F85_1 (by omega)) (by omega) (by omega) (by omega)) f85_10 rfl H locs ls hP hD hS (lv_sub hl [0, 1, 2, 3, 4, 5] rfl)
                · have c88 : v85.toInt = 0 := z5 rfl (by decide) c88
                  refine lv_iconst (v := 0) hx hb dX5_condition_91 (by decide) ?_
                  have zr0 : (0 : Int32).toInt = 0 := by decide
                  rw [hQ]
                  exact W.zret (v := 0) (ty := .boolean) hx hb hr rfl (fun t ht hW => ⟨⟨0, (u85_0, u85_1, u85_2), rfl, ⟨by (try dsimp only); omega, by (try dsimp only); omega, by (try dsimp only); omega, by (try dsimp only); omega, by (try dsimp only); omega, by (try dsimp only); omega, zF0 (fl_x jv25_0 jv25_1 (oC_iff.mpr (by omega)) (by decide) i78 F85 (by omega)), (fun z => absurd (by decide) z), by (try dsimp only); omega, (fun z => absurd (by decide) z), f85_10⟩, ⟨by rw [ht]; exact hP, hD⟩⟩, hS.F ht⟩) hS.2.2 dX5_condition_92
              · have c59 : ¬ m25_L_3.toInt = 0 := z6 rfl (by decide) c59
                refine lv_aload_n hx hb dX5_condition_62 rfl (lv_at hl 3 rfl) ?_
                refine lv_bipush (v := 124) hx hb dX5_condition_63 (by decide) ?_
                refine lv_iconst (v := 0) hx hb dX5_condition_65 (by decide) ?_
                obtain ⟨hPc, hDc, hFc⟩ := zc3 (wc := [(h0, .inr (5, [.ref lS, .int m25_F_h0_1, .ref tp])), (lS, .inl (cI, 241, .inl m25_A_lS))]) hP hD hS hA [0, 1] (by decide +kernel) rfl
                refine va_callv (va_runV (As := [.int 124, .int 0]) (rest := []) ⟨hx, hb, hml, hown, hts⟩ (g_X5_put_0 l dC dI cI cJ h0 124 lS m25_F_h0_1 tp m25_A_lS H.size (by decide) jf25_0 jf25_12) (cwV 2 hts (zgV qw496 qw498 qw5 qw101 qw499) rfl rfl rfl hd_X5_put ⟨by (try dsimp only) <;> omega, by (try dsimp only) <;> omega⟩) (zPV hPc hK hDc (va_recv (q := (RX5, TX5, 3)) hK hP (ci := 5) (q0 := 0) rfl rfl)) rfl rfl hl.1 rfl (lv_room (Nat.le_of_ble_eq_true rfl)) dX5_condition_66 ⟨Nat.zero_le _, Nat.zero_le _⟩) hS (fun q _ h => hFc q h) hFc (fun u66 t H locs ht hvm hw hB hz1 hk1 hS9 => ?_)
                obtain ⟨u66_0, u66_1⟩ := u66
                obtain ⟨hP9, hD9⟩ := zj2 (wX := [(h0, .inr (5, [.ref lS, .int u66_0, .ref tp])), (lS, .inl (cI, 241, .inl u66_1)), (tp, .inr (9, [.ref tB, .int tl, .int m25_F_tp_2])), (tB, .inl (cI, 260, .inl fB))]) hP hD hk1 hFc ht hB [0, 1] [(true, 0), (true, 1), (false, 2), (false, 3)] rfl (by decide +kernel) (by decide +kernel) rfl
                clear hP hD hS hPc hDc hFc hB hk1 hz1 hvm
                have hP := hP9
                have hD := hD9
                have hS := hS9
                clear hP9 hD9 hS9
                have zn66_124 : (124 : Int32).toInt = 124 := by decide
                obtain ⟨f66_0, f66_1, f66_2, f66_3, f66_4⟩ : (1 ≤ u66_0.toInt) ∧ (u66_0.toInt ≤ 241) ∧ (u66_0.toInt ≤ m25_F_h0_1.toInt + 1 ∧ m25_F_h0_1.toInt ≤ u66_0.toInt) ∧ (m25_F_h0_1.toInt < 241 → zEm m25_A_lS m25_F_h0_1 [((124 : Int32).toInt, 0)] u66_1 u66_0) ∧ (zSt u66_1) := hw
                have F66 := f66_3
                refine lv_aload_n hx hb dX5_condition_69 rfl (lv_at hl 3 rfl) ?_
                refine va_get (D := (dC, dI)) (ci := 5) (v := .ref tp) (C := RX5) (T := TX5) (N := 3) hx hb hts iX5 hown hK hP 0 rfl rfl 2 (by decide) (hts _ qw172) (fun _ h9 => h9) rfl dX5_condition_70 ?_
                refine lv_dup hx hb dX5_condition_73 rfl ?_
                refine va_get (D := (dC, dI)) (ci := 9) (v := .int m25_F_tp_2) (C := RX9) (T := TX9) (N := 3) hx hb hts iX9 hown hK hP 2 rfl rfl 2 (by decide) (hts _ qw137) (fun _ h9 => h9) rfl dX5_condition_74 ?_
                refine lv_iconst (v := 1) hx hb dX5_condition_77 (by decide) ?_
                refine lv_iadd hx hb dX5_condition_78 ?_
                refine lv_topi (fun v78 e78 => ?_)
                have i78 : v78.toInt = m25_F_tp_2.toInt + 1 := zadd e78 rfl (by decide) (by omega) (by omega)
                refine va_put (D := (dC, dI)) (ci := 9) (v := .int v78) (ty := .int) (C := RX9) (T := TX9) (N := 3) hx hb hts iX9 tyX9 tyX9_ok nmX9 hown hK hP hD hS 2 rfl rfl 2 (by decide) (hts _ qw137) (fun _ h9 => h9) rfl (by decide +kernel) rfl rfl (Nat.le_of_ble_eq_true rfl) dX5_condition_79 (fun H locs hP9 hD9 hS9 => ?_)
                clear hP hD hS
                obtain ⟨hP, hD⟩ := zst (wX := [(h0, .inr (5, [.ref lS, .int u66_0, .ref tp])), (lS, .inl (cI, 241, .inl u66_1)), (tp, .inr (9, [.ref tB, .int tl, .int v78])), (tB, .inl (cI, 260, .inl fB))]) hP9 hD9 rfl
                have hS := hS9
                clear hP9 hD9 hS9
                refine lv_aload_n hx hb dX5_condition_82 rfl (lv_at hl 3 rfl) ?_
                refine lv_iload_n hx hb dX5_condition_83 rfl (lv_at hl 4 rfl) ?_
                refine lv_iconst (v := 0) hx hb dX5_condition_84 (by decide) ?_
                obtain ⟨hPc, hDc, hFc⟩ := zc3 (wc := [(h0, .inr (5, [.ref lS, .int u66_0, .ref tp])), (lS, .inl (cI, 241, .inl u66_1)), (tp, .inr (9, [.ref tB, .int tl, .int v78])), (tB, .inl (cI, 260, .inl fB))]) hP hD hS hA [0, 1, 2, 3] (by decide +kernel) rfl
                refine va_calli (va_runV (As := [.int p0, .int 0]) (rest := []) ⟨hx, hb, hml, hown, hts⟩ (ihU dC dI cI cJ h0 p0 lS u66_0 tp u66_1 tB tl v78 fB H.size n_p0 (by omega) (by omega) n_tl (hty) (by omega) (by omega) f66_4) (cwV 2 hts (zgV qw511 qw513 qw7 qw101 qw514) rfl rfl rfl hd_X5_unit ⟨by (try dsimp only) <;> omega, by (try dsimp only) <;> omega⟩) (zPWV hPc hK hDc (va_recv (q := (RX5, TX5, 3)) hK hP (ci := 5) (q0 := 0) rfl rfl) (zV_call hV hS hFc)) rfl rfl hl.1 rfl (lv_room (Nat.le_of_ble_eq_true rfl)) dX5_condition_85 ⟨Nat.zero_le _, Nat.zero_le _⟩) hS (fun q _ h => hFc q h) hFc (fun v85 u85 t H locs ht hvm hw hB hz1 hk1 hS9 => ?_)
                obtain ⟨u85_0, u85_1, u85_2⟩ := u85
                obtain ⟨hP9, hD9⟩ := zj2 (wX := [(h0, .inr (5, [.ref lS, .int u85_0, .ref tp])), (lS, .inl (cI, 241, .inl u85_1)), (tp, .inr (9, [.ref tB, .int tl, .int u85_2])), (tB, .inl (cI, 260, .inl fB))]) hP hD hk1 hFc ht hB [0, 1, 2, 3] [(true, 0), (true, 1), (true, 2), (true, 3)] rfl (by decide +kernel) (by decide +kernel) rfl
                clear hP hD hS hPc hDc hFc hB hk1 hz1 hvm
                have hP := hP9
                have hD := hD9
                have hS := hS9
                clear hP9 hD9 hS9
                obtain ⟨f85_0, f85_1, f85_2, f85_3, f85_4, f85_5, f85_6, f85_7, f85_8, f85_9, f85_10⟩ : (0 ≤ v85.toInt) ∧ (v85.toInt ≤ 1) ∧ (0 ≤ u85_0.toInt) ∧ (u85_0.toInt ≤ 241) ∧ (0 ≤ u85_2.toInt) ∧ (u85_2.toInt ≤ 240) ∧ (zF (sUn (sB fB tl.toInt) tl.toInt K v78.toInt) v85 u85_2) ∧ (¬ v85.toInt = 0 → v78.toInt < u85_2.toInt) ∧ (¬ v85.toInt = 0 → u85_0.toInt + v78.toInt ≤ u66_0.toInt + u85_2.toInt) ∧ (¬ v85.toInt = 0 → zEm u66_1 u66_0 (eUn (sB fB tl.toInt) tl.toInt K v78.toInt) u85_1 u85_0) ∧ (zSt u85_1) := hw
                have F85 := f85_6
                have F85_1 := f85_9
                refine lv_if_ne (tgt := 93) hx hb dX5_condition_88 (by decide) (fun c88 => ?_) (fun c88 => ?_)
                · have c88 : ¬ v85.toInt = 0 := z6 rfl (by decide) c88
                  refine lv_iload hx hb dX5_condition_93 (lv_at hl 1 rfl) ?_
                  refine lv_bipush (v := 38) hx hb dX5_condition_95 (by decide) ?_
                  refine lv_icmp_ne (tgt := 110) hx hb dX5_condition_97 (by decide) (fun c97 => ?_) (fun c97 => by exfalso; have c97 : m25_L_4.toInt = 38 := z5 rfl (by decide) c97; omega)
                  have c97 : ¬ m25_L_4.toInt = 38 := z6 rfl (by decide) c97
                  refine lv_iconst (v := 1) hx hb dX5_condition_110 (by decide) ?_
                  refine lv_istore_n (lv' := [(3, .int 1), (5, .int m25_L_5), (4, .int m25_L_4), (0, .ref h0), (1, .int p0), (2, .int 0)]) hx hb dX5_condition_111 rfl hl (by decide) rfl (fun ls hl => ?_)
                  refine lv_aload_n hx hb dX5_condition_112 rfl (lv_at hl 3 rfl) ?_
                  refine va_get (D := (dC, dI)) (ci := 5) (v := .ref tp) (C := RX5) (T := TX5) (N := 3) hx hb hts iX5 hown hK hP 0 rfl rfl 2 (by decide) (hts _ qw172) (fun _ h9 => h9) rfl dX5_condition_113 ?_
                  obtain ⟨hPc, hDc, hFc⟩ := zc3 (wc := [(tp, .inr (9, [.ref tB, .int tl, .int u85_2])), (tB, .inl (cI, 260, .inl fB))]) hP hD hS hA [2, 3] (by decide +kernel) rfl
                  refine va_calli (va_runV (As := []) (rest := []) ⟨hx, hb, hml, hown, hts⟩ (g_X9_peek l dC dI cI cJ tp tB tl u85_2 fB H.size ⟨f85_4, f85_5⟩ n_tl (hty)) (cwV 0 hts (zgV qw485 qw438 qw439 qw99 qw440) rfl rfl rfl hd_X9_peek ⟨by (try dsimp only) <;> omega, by (try dsimp only) <;> omega⟩) (zPV hPc hK hDc (va_recv (q := (RX9, TX9, 3)) hK hP (ci := 9) (q0 := 2) rfl rfl)) rfl rfl hl.1 rfl (lv_room (Nat.le_of_ble_eq_true rfl)) dX5_condition_116 ⟨Nat.zero_le _, Nat.zero_le _⟩) hS (fun q _ h => hFc q h) hFc (fun v116 u116 t H locs ht hvm hw hB hz1 hk1 hS9 => ?_)
                  obtain ⟨u116_0, rfl⟩ : ∃ z, z = u116 := ⟨_, rfl⟩
                  obtain ⟨hP9, hD9⟩ := zj2 (wX := [(h0, .inr (5, [.ref lS, .int u85_0, .ref tp])), (lS, .inl (cI, 241, .inl u85_1)), (tp, .inr (9, [.ref tB, .int tl, .int u116_0])), (tB, .inl (cI, 260, .inl fB))]) hP hD hk1 hFc ht hB [2, 3] [(false, 0), (false, 1), (true, 0), (true, 1)] rfl (by decide +kernel) (by decide +kernel) rfl
                  clear hP hD hS hPc hDc hFc hB hk1 hz1 hvm
                  have hP := hP9
                  have hD := hD9
                  have hS := hS9
                  clear hP9 hD9 hS9
                  obtain ⟨f116_0, f116_1, f116_2, f116_3, f116_4⟩ : (0 ≤ u116_0.toInt) ∧ (u116_0.toInt ≤ 240) ∧ (¬ v116.toInt = 0 → u116_0.toInt < tl.toInt) ∧ (u85_2.toInt ≤ u116_0.toInt) ∧ (zPK fB tl u85_2 v116 u116_0) := hw
                  have F116 := f116_4
                  refine lv_istore (lv' := [(4, .int v116), (3, .int 1), (5, .int m25_L_5), (0, .ref h0), (1, .int p0), (2, .int 0)]) hx hb dX5_condition_119 hl (by decide) rfl (fun ls hl => ?_)
                  obtain ⟨v121, e121⟩ : ∃ y : Int32, y = m25_L_5 + Int32.ofInt (1) := ⟨_, rfl⟩
                  refine lv_iinc (v := v121) (lv' := [(5, .int v121), (4, .int v116), (3, .int 1), (0, .ref h0), (1, .int p0), (2, .int 0)]) hx hb dX5_condition_121 hl (k := 2) rfl e121.symm (by decide) rfl (fun ls hl => ?_)
                  have i121 : v121.toInt = m25_L_5.toInt + 1 := zaddI e121 (by decide) (by omega) (by omega)
                  refine lv_goto (tgt := 25) hx hb dX5_condition_124 (by decide) ?_
                  have zj25_m25_L_3 : (1 : Int32).toInt = 1 := by decide
                  exact ih25 _ (by omega) u85_1 u85_0 u116_0 1 v116 v121 ⟨f85_2, f85_3⟩ ⟨f116_0, f116_1⟩ (by decide) (by omega) (by omega) (by omega) (fl_s jv25_0 jv25_1 (oC_iff.mpr (by omega)) (by decide) i78 F85 (by omega) (by omega) F116) (F116.2) (by omega) (by omega) (by omega) (by first | exact fse_y jv25_2 jv25_1 (oC_iff.mpr (by omega)) (by decide) i78 F85 (by omega) (by omega) F116 (oD_iff.mpr (by omega)) (F85_1 (by omega)) (F104 (by omega)) (by omega) (by omega) (by omega) | exact fse_n jv25_2 jv25_1 (oC_iff.mpr (by omega)) (by decide) i78 F85 (by omega) (by omega) F116 (fun z => by have := oD_iff.mp z; omega) (eW_0 (by omega)) (F85_1 (by omega)) (by omega) (by omega) (by omega) | exact fse_n jv25_2 jv25_1 (oC_iff.mpr (by omega)) (by decide) i78 F85 (by omega) (by omega) F116 (fun z => by have := oD_iff.mp z; omega) (eW_1 (by omega) (by omega) (F66 (by omega))) (F85_1 (by omega)) (by omega) (by omega) (by omega)) f85_10 rfl H locs ls hP hD hS (lv_sub hl [0, 1, 2, 3, 4, 5] rfl)
                · have c88 : v85.toInt = 0 := z5 rfl (by decide) c88
                  refine lv_iconst (v := 0) hx hb dX5_condition_91 (by decide) ?_
                  have zr0 : (0 : Int32).toInt = 0 := by decide
                  rw [hQ]
                  exact W.zret (v := 0) (ty := .boolean) hx hb hr rfl (fun t ht hW => ⟨⟨0, (u85_0, u85_1, u85_2), rfl, ⟨by (try dsimp only); omega, by (try dsimp only); omega, by (try dsimp only); omega, by (try dsimp only); omega, by (try dsimp only); omega, by (try dsimp only); omega, zF0 (fl_x jv25_0 jv25_1 (oC_iff.mpr (by omega)) (by decide) i78 F85 (by omega)), (fun z => absurd (by decide) z), by (try dsimp only); omega, (fun z => absurd (by decide) z), f85_10⟩, ⟨by rw [ht]; exact hP, hD⟩⟩, hS.F ht⟩) hS.2.2 dX5_condition_92
    refine lv_istore (lv' := [(5, .int 0), (4, .int v17), (3, .int 0), (0, .ref h0), (1, .int p0), (2, .int 0)]) hx hb dX5_condition_23 hl (by decide) rfl (fun ls hl => ?_)
    have zj25_m25_L_3 : (0 : Int32).toInt = 0 := by decide
    have zj25_m25_L_5 : (0 : Int32).toInt = 0 := by decide
    exact J25 _ u3_1 u3_0 u17_0 0 v17 0 ⟨f3_2, f3_3⟩ ⟨f17_0, f17_1⟩ (by decide) (by decide) (by omega) (by omega) (fl_b F3 (by omega) F17) (F17.2) (by omega) (by omega) (by omega) (fse_b rfl F3 (by omega) F17 (F3_1 (by omega)) (by decide)) f3_10 rfl H locs ls hP hD hS (lv_sub hl [0, 1, 2, 3, 4, 5] rfl)
  · have c6 : v3.toInt = 0 := z5 rfl (by decide) c6
    refine lv_iconst (v := 0) hx hb dX5_condition_9 (by decide) ?_
    have zr0 : (0 : Int32).toInt = 0 := by decide
    rw [hQ]
    exact W.zret (v := 0) (ty := .boolean) hx hb hr rfl (fun t ht hW => ⟨⟨0, (u3_0, u3_1, u3_2), rfl, ⟨by (try dsimp only); omega, by (try dsimp only); omega, by (try dsimp only); omega, by (try dsimp only); omega, by (try dsimp only); omega, by (try dsimp only); omega, zF0 (fl_0 F3 (by omega)), (fun z => absurd (by decide) z), by (try dsimp only); omega, (fun z => absurd (by decide) z), f3_10⟩, ⟨by rw [ht]; exact hP, hD⟩⟩, hS.F ht⟩) hS.2.2 dX5_condition_10
theorem zD_A0 (l : Launch) : zQ_X5_atom l 0 21 81 := g_X5_atom_z l 0 20 41 (by omega) (by omega)
theorem zD_S0 (l : Launch) : zQ_X5_sum l 0 22 121 := g_X5_sum_k l 0 21 81 (zD_A0 l) (by omega) (by omega)
theorem zD_A1 (l : Launch) : zQ_X5_atom l 1 23 161 := g_X5_atom_k l 0 22 121 (zD_S0 l) (by omega) (by omega)
theorem zD_S1 (l : Launch) : zQ_X5_sum l 1 24 201 := g_X5_sum_k l 1 23 161 (zD_A1 l) (by omega) (by omega)
theorem zD_A2 (l : Launch) : zQ_X5_atom l 2 25 241 := g_X5_atom_k l 1 24 201 (zD_S1 l) (by omega) (by omega)
theorem zD_S2 (l : Launch) : zQ_X5_sum l 2 26 281 := g_X5_sum_k l 2 25 241 (zD_A2 l) (by omega) (by omega)
theorem zD_A3 (l : Launch) : zQ_X5_atom l 3 27 321 := g_X5_atom_k l 2 26 281 (zD_S2 l) (by omega) (by omega)
theorem zD_S3 (l : Launch) : zQ_X5_sum l 3 28 361 := g_X5_sum_k l 3 27 321 (zD_A3 l) (by omega) (by omega)
theorem zD_A4 (l : Launch) : zQ_X5_atom l 4 29 401 := g_X5_atom_k l 3 28 361 (zD_S3 l) (by omega) (by omega)
theorem zD_S4 (l : Launch) : zQ_X5_sum l 4 30 441 := g_X5_sum_k l 4 29 401 (zD_A4 l) (by omega) (by omega)
theorem zD_A5 (l : Launch) : zQ_X5_atom l 5 31 481 := g_X5_atom_k l 4 30 441 (zD_S4 l) (by omega) (by omega)
theorem zD_S5 (l : Launch) : zQ_X5_sum l 5 32 521 := g_X5_sum_k l 5 31 481 (zD_A5 l) (by omega) (by omega)
theorem zD_A6 (l : Launch) : zQ_X5_atom l 6 33 561 := g_X5_atom_k l 5 32 521 (zD_S5 l) (by omega) (by omega)
theorem zD_S6 (l : Launch) : zQ_X5_sum l 6 34 601 := g_X5_sum_k l 6 33 561 (zD_A6 l) (by omega) (by omega)
theorem zD_U0 (l : Launch) : zQ_X5_unit l 0 23 161 := g_X5_unit_z l 0 22 121 (zD_S0 l) (by omega) (by omega)
theorem zD_C0 (l : Launch) : zQ_X5_condition l 0 24 201 := g_X5_condition_k l 0 23 161 (zD_U0 l) (by omega) (by omega)
theorem zD_U1 (l : Launch) : zQ_X5_unit l 1 25 241 := g_X5_unit_k l 0 24 201 24 201 23 161 24 201 (zD_S1 l) (zD_U0 l) (zD_C0 l) (by omega) (by omega) (by omega)
theorem zD_C1 (l : Launch) : zQ_X5_condition l 1 26 281 := g_X5_condition_k l 1 25 241 (zD_U1 l) (by omega) (by omega)
theorem zD_U2 (l : Launch) : zQ_X5_unit l 2 27 321 := g_X5_unit_k l 1 26 281 26 281 25 241 26 281 (zD_S2 l) (zD_U1 l) (zD_C1 l) (by omega) (by omega) (by omega)
theorem zD_C2 (l : Launch) : zQ_X5_condition l 2 28 361 := g_X5_condition_k l 2 27 321 (zD_U2 l) (by omega) (by omega)
theorem zD_U3 (l : Launch) : zQ_X5_unit l 3 29 401 := g_X5_unit_k l 2 28 361 28 361 27 321 28 361 (zD_S3 l) (zD_U2 l) (zD_C2 l) (by omega) (by omega) (by omega)
theorem zD_C3 (l : Launch) : zQ_X5_condition l 3 30 441 := g_X5_condition_k l 3 29 401 (zD_U3 l) (by omega) (by omega)
theorem zD_U4 (l : Launch) : zQ_X5_unit l 4 31 481 := g_X5_unit_k l 3 30 441 30 441 29 401 30 441 (zD_S4 l) (zD_U3 l) (zD_C3 l) (by omega) (by omega) (by omega)
theorem zD_C4 (l : Launch) : zQ_X5_condition l 4 32 521 := g_X5_condition_k l 4 31 481 (zD_U4 l) (by omega) (by omega)
theorem zD_U5 (l : Launch) : zQ_X5_unit l 5 33 561 := g_X5_unit_k l 4 32 521 32 521 31 481 32 521 (zD_S5 l) (zD_U4 l) (zD_C4 l) (by omega) (by omega) (by omega)
theorem zD_C5 (l : Launch) : zQ_X5_condition l 5 34 601 := g_X5_condition_k l 5 33 561 (zD_U5 l) (by omega) (by omega)
theorem zD_U6 (l : Launch) : zQ_X5_unit l 6 35 641 := g_X5_unit_k l 5 34 601 34 601 33 561 34 601 (zD_S6 l) (zD_U5 l) (zD_C5 l) (by omega) (by omega) (by omega)
theorem zD_C6 (l : Launch) : zQ_X5_condition l 6 36 681 := g_X5_condition_k l 6 35 641 (zD_U6 l) (by omega) (by omega)
set_option maxHeartbeats 4000000 in
set_option maxRecDepth 100000 in
theorem g_X5_unit_0_1 (l : Launch) (dC : Nat → ClassId) (dI : Nat → Nat → Nat) (cI cJ : ClassId) (h0 : Nat) (lS : Nat) (sz5 : Int32) (tp : Nat) (fS : Nat → Int32) (tB : Nat) (tl : Int32) (ta : Int32) (fB : Nat → Int32) (sz : Nat) (n_sz5 : 0 ≤ sz5.toInt ∧ sz5.toInt ≤ 241) (n_ta : 0 ≤ ta.toInt ∧ ta.toInt ≤ 240) (n_tl : 0 ≤ tl.toInt ∧ tl.toInt ≤ 240) (hty : zTy tl fB) (hsz : sz5.toInt ≤ ta.toInt) (ci_fS_zSt : zSt fS)  : Met l yX5_unit (.code yX5_unit cX5_unit 5 (some .boolean) :: wA) ({ frames := 35, cells := 0, slots := 0, locals := 626 }) (zPW (dC, dI) [(cI, .int), (cJ, .long)] [.ref h0, .int 0, .int 1] sz [(h0, .inr (5, [.ref lS, .int sz5, .ref tp])), (lS, .inl (cI, 241, .inl fS)), (tp, .inr (9, [.ref tB, .int tl, .int ta])), (tB, .inl (cI, 260, .inl fB))] (va_A [(h0, .inr (5, [.ref lS, .int sz5, .ref tp])), (lS, .inl (cI, 241, .inl fS)), (tp, .inr (9, [.ref tB, .int tl, .int ta])), (tB, .inl (cI, 260, .inl fB))] sz)) (va_Qi (fun (r : Int32) (u : Int32 × (Nat → Int32) × Int32) => (0 ≤ r.toInt) ∧ (r.toInt ≤ 1) ∧ (0 ≤ u.1.toInt) ∧ (u.1.toInt ≤ 241) ∧ (0 ≤ u.2.2.toInt) ∧ (u.2.2.toInt ≤ 240) ∧ (zF (sCmp (sB fB tl.toInt) tl.toInt (sSum (sB fB tl.toInt) tl.toInt 6) ta.toInt) r u.2.2) ∧ (¬ r.toInt = 0 → ta.toInt < u.2.2.toInt) ∧ (¬ r.toInt = 0 → u.1.toInt + ta.toInt ≤ sz5.toInt + u.2.2.toInt) ∧ (¬ r.toInt = 0 → zEm fS sz5 (eCmp (sB fB tl.toInt) tl.toInt (eSum (sB fB tl.toInt) tl.toInt 6) ta.toInt) u.2.1 u.1) ∧ (zSt u.2.1)) (fun (u : Int32 × (Nat → Int32) × Int32) (t : State) => va_P (dC, dI) vwCl [(h0, .inr (5, [.ref lS, .int u.1, .ref tp])), (lS, .inl (cI, 241, .inl u.2.1)), (tp, .inr (9, [.ref tB, .int tl, .int u.2.2])), (tB, .inl (cI, 260, .inl fB))] t.heap ∧ va_D (va_A [(h0, .inr (5, [.ref lS, .int sz5, .ref tp])), (lS, .inl (cI, 241, .inl fS)), (tp, .inr (9, [.ref tB, .int tl, .int ta])), (tB, .inl (cI, 260, .inl fB))] sz) [(h0, .inr (5, [.ref lS, .int u.1, .ref tp])), (lS, .inl (cI, 241, .inl u.2.1)), (tp, .inr (9, [.ref tB, .int tl, .int u.2.2])), (tB, .inl (cI, 260, .inl fB))]) (va_A [(h0, .inr (5, [.ref lS, .int sz5, .ref tp])), (lS, .inl (cI, 241, .inl fS)), (tp, .inr (9, [.ref tB, .int tl, .int ta])), (tB, .inl (cI, 260, .inl fB))] sz)) 0 0 (va_A [(h0, .inr (5, [.ref lS, .int sz5, .ref tp])), (lS, .inl (cI, 241, .inl fS)), (tp, .inr (9, [.ref tB, .int tl, .int ta])), (tB, .inl (cI, 260, .inl fB))] sz) := by
  refine Met.ofW (cc := cX5_unit) (maxL := 5) (ret := (some .boolean)) (by decide) rfl ?_
  intro p e s m args below meth c s₁ B hml hv
  obtain ⟨⟨hargs, hsz, hP, hK, hT⟩, hV⟩ := hv
  have hx := B.exec
  have hb := B.bytes
  have hr := B.returns
  have hts : ∀ w ∈ wA, w.before args s = true := fun w h => atoms_spec (ws := .code yX5_unit cX5_unit 5 (some .boolean) :: wA) B.pre w (List.mem_cons_of_mem _ h)
  have hown : s.vm.findClass RX5 = some m.cls := findClass_of_methodNamed B.named
  have hlocks := B.notSynchronized
  subst hsz
  have hD := hT.self (sz := s.heap.size)
  generalize hAe : va_A [(h0, .inr (5, [.ref lS, .int sz5, .ref tp])), (lS, .inl (cI, 241, .inl fS)), (tp, .inr (9, [.ref tB, .int tl, .int ta])), (tB, .inl (cI, 260, .inl fB))] s.heap.size = A at hD hV ⊢
  have hA : ∀ q : Nat, s.heap.size ≤ q → A q := fun q h => by rw [← hAe]; exact Or.inr h
  have hl := lv_entry ([.ref h0, .int 0, .int 1]) (n := 5) (Nat.le_of_ble_eq_true rfl)
  rw [show entryFrame m args 5 = entryFrame m ([.ref h0, .int 0, .int 1] : List Value).toArray 5 by rw [hargs], lg_entry_eq]
  generalize (lg_sl ([.ref h0, .int 0, .int 1]) ++ List.replicate (5 - (lg_sl ([.ref h0, .int 0, .int 1])).length) Slot.unset).toArray = ls at hl ⊢
  have hl : lv_has ls 5 [(0, .ref h0), (1, .int 0), (2, .int 1)] := hl
  refine zstart (fun H hH => ?_)
  rw [← hH] at hP
  have hS : va_S A s.heap H [] := by rw [hH]; exact va_S.rf
  generalize ([] : List Loc) = locs at hS ⊢
  refine zgen (fun R Q hR hQ => ?_)
  refine lv_aload_n hx hb dX5_unit_0 rfl (lv_at hl 0 rfl) ?_
  refine va_get (D := (dC, dI)) (ci := 5) (v := .ref tp) (C := RX5) (T := TX5) (N := 3) hx hb hts iX5 hown hK hP 0 rfl rfl 2 (by decide) (hts _ qw172) (fun _ h9 => h9) rfl dX5_unit_1 ?_
  obtain ⟨hPc, hDc, hFc⟩ := zc3 (wc := [(tp, .inr (9, [.ref tB, .int tl, .int ta])), (tB, .inl (cI, 260, .inl fB))]) hP hD hS hA [2, 3] (by decide +kernel) rfl
  refine va_calli (va_runV (As := []) (rest := []) ⟨hx, hb, hml, hown, hts⟩ (g_X9_peek l dC dI cI cJ tp tB tl ta fB H.size n_ta n_tl (hty)) (cwV 0 hts (zgV qw485 qw438 qw439 qw99 qw440) rfl rfl rfl hd_X9_peek ⟨by rw [hR]; exact Nat.le_of_ble_eq_true rfl, by rw [hR]; exact Nat.le_of_ble_eq_true rfl⟩) (zPV hPc hK hDc (va_recv (q := (RX9, TX9, 3)) hK hP (ci := 9) (q0 := 2) rfl rfl)) rfl rfl hl.1 rfl (lv_room (Nat.le_of_ble_eq_true rfl)) dX5_unit_4 ⟨Nat.zero_le _, Nat.zero_le _⟩) hS (fun q _ h => hFc q h) hFc (fun v4 u4 t H locs ht hvm hw hB hz1 hk1 hS9 => ?_)
  obtain ⟨u4_0, rfl⟩ : ∃ z, z = u4 := ⟨_, rfl⟩
  obtain ⟨hP9, hD9⟩ := zj2 (wX := [(h0, .inr (5, [.ref lS, .int sz5, .ref tp])), (lS, .inl (cI, 241, .inl fS)), (tp, .inr (9, [.ref tB, .int tl, .int u4_0])), (tB, .inl (cI, 260, .inl fB))]) hP hD hk1 hFc ht hB [2, 3] [(false, 0), (false, 1), (true, 0), (true, 1)] rfl (by decide +kernel) (by decide +kernel) rfl
  clear hP hD hS hPc hDc hFc hB hk1 hz1 hvm
  have hP := hP9
  have hD := hD9
  have hS := hS9
  clear hP9 hD9 hS9
  obtain ⟨f4_0, f4_1, f4_2, f4_3, f4_4⟩ : (0 ≤ u4_0.toInt) ∧ (u4_0.toInt ≤ 240) ∧ (¬ v4.toInt = 0 → u4_0.toInt < tl.toInt) ∧ (ta.toInt ≤ u4_0.toInt) ∧ (zPK fB tl ta v4 u4_0) := hw
  have F4 := f4_4
  refine lv_istore_n (lv' := [(3, .int v4), (0, .ref h0), (1, .int 0), (2, .int 1)]) hx hb dX5_unit_7 rfl hl (by decide) rfl (fun ls hl => ?_)
  refine lv_iload_n hx hb dX5_unit_8 rfl (lv_at hl 3 rfl) ?_
  refine lv_if_ne (tgt := 102) hx hb dX5_unit_9 (by decide) (fun _ => ?_) (fun c => absurd c (by decide))
  refine lv_iload_n hx hb dX5_unit_102 rfl (lv_at hl 3 rfl) ?_
  refine lv_if_ne (tgt := 116) hx hb dX5_unit_103 (by decide) (fun _ => ?_) (fun c => absurd c (by decide))
  refine lv_aload_n hx hb dX5_unit_116 rfl (lv_at hl 1 rfl) ?_
  refine va_get (D := (dC, dI)) (ci := 5) (v := .ref tp) (C := RX5) (T := TX5) (N := 3) hx hb hts iX5 hown hK hP 0 rfl rfl 2 (by decide) (hts _ qw172) (fun _ h9 => h9) rfl dX5_unit_117 ?_
  obtain ⟨hPc, hDc, hFc⟩ := zc3 (wc := [(tp, .inr (9, [.ref tB, .int tl, .int u4_0])), (tB, .inl (cI, 260, .inl fB))]) hP hD hS hA [2, 3] (by decide +kernel) rfl
  refine va_calli (va_runV (As := []) (rest := []) ⟨hx, hb, hml, hown, hts⟩ (g_X9_peek l dC dI cI cJ tp tB tl u4_0 fB H.size ⟨f4_0, f4_1⟩ n_tl (hty)) (cwV 0 hts (zgV qw485 qw438 qw439 qw99 qw440) rfl rfl rfl hd_X9_peek ⟨by rw [hR]; exact Nat.le_of_ble_eq_true rfl, by rw [hR]; exact Nat.le_of_ble_eq_true rfl⟩) (zPV hPc hK hDc (va_recv (q := (RX9, TX9, 3)) hK hP (ci := 9) (q0 := 2) rfl rfl)) rfl rfl hl.1 rfl (lv_room (Nat.le_of_ble_eq_true rfl)) dX5_unit_120 ⟨Nat.zero_le _, Nat.zero_le _⟩) hS (fun q _ h => hFc q h) hFc (fun v120 u120 t H locs ht hvm hw hB hz1 hk1 hS9 => ?_)
  obtain ⟨u120_0, rfl⟩ : ∃ z, z = u120 := ⟨_, rfl⟩
  obtain ⟨hP9, hD9⟩ := zj2 (wX := [(h0, .inr (5, [.ref lS, .int sz5, .ref tp])), (lS, .inl (cI, 241, .inl fS)), (tp, .inr (9, [.ref tB, .int tl, .int u120_0])), (tB, .inl (cI, 260, .inl fB))]) hP hD hk1 hFc ht hB [2, 3] [(false, 0), (false, 1), (true, 0), (true, 1)] rfl (by decide +kernel) (by decide +kernel) rfl
  clear hP hD hS hPc hDc hFc hB hk1 hz1 hvm
  have hP := hP9
  have hD := hD9
  have hS := hS9
  clear hP9 hD9 hS9
  obtain ⟨f120_0, f120_1, f120_2, f120_3, f120_4⟩ : (0 ≤ u120_0.toInt) ∧ (u120_0.toInt ≤ 240) ∧ (¬ v120.toInt = 0 → u120_0.toInt < tl.toInt) ∧ (u4_0.toInt ≤ u120_0.toInt) ∧ (zPK fB tl u4_0 v120 u120_0) := hw
  have F120 := f120_4
  refine lv_istore (lv' := [(4, .int v120), (3, .int v4), (0, .ref h0), (1, .int 0), (2, .int 1)]) hx hb dX5_unit_123 hl (by decide) rfl (fun ls hl => ?_)
  refine lv_iload hx hb dX5_unit_125 (lv_at hl 0 rfl) ?_
  have hPc : va_P (dC, dI) vwCl [] H := zP0
  have hDc : va_D (fun _ => True) [] := zD0
  have hFc := zfr hS hA
  refine va_calli (va_runS (As := [.int v120]) (rest := []) ⟨hx, hb, hml, hown, hts⟩ (g_X5_isComparison l dC dI cI cJ v120 H.size) (cwS 1 hts (zgS qw504 qw505 qw101 qw506) rfl rfl rfl hd_X5_isComparison ⟨by rw [hR]; exact Nat.le_of_ble_eq_true rfl, by rw [hR]; exact Nat.le_of_ble_eq_true rfl⟩) (zPS hPc hK hDc) rfl rfl hl.1 rfl (lv_room (Nat.le_of_ble_eq_true rfl)) dX5_unit_127 ⟨Nat.zero_le _, Nat.zero_le _⟩) hS (fun q _ h => hFc q h) hFc (fun v127 u127 t H locs ht hvm hw hB hz1 hk1 hS9 => ?_)
  replace hP := zkeep hP hk1
  replace hS := hS9
  clear hPc hDc hFc hk1 hz1 hvm hS9
  obtain ⟨f127_0, f127_1, f127_2, f127_3⟩ : (0 ≤ v127.toInt) ∧ (v127.toInt ≤ 1) ∧ (¬ v127.toInt = 0 → (60 ≤ v120.toInt ∧ v120.toInt ≤ 62)) ∧ (zIs (oQ v120.toInt) v127) := hw
  have F127 := f127_3
  refine lv_if_ne (tgt := 135) hx hb dX5_unit_130 (by decide) (fun c130 => ?_) (fun c130 => ?_)
  · have c130 : ¬ v127.toInt = 0 := z6 rfl (by decide) c130
    refine lv_aload_n hx hb dX5_unit_135 rfl (lv_at hl 2 rfl) ?_
    refine va_get (D := (dC, dI)) (ci := 5) (v := .ref tp) (C := RX5) (T := TX5) (N := 3) hx hb hts iX5 hown hK hP 0 rfl rfl 2 (by decide) (hts _ qw172) (fun _ h9 => h9) rfl dX5_unit_136 ?_
    refine lv_dup hx hb dX5_unit_139 rfl ?_
    refine va_get (D := (dC, dI)) (ci := 9) (v := .int u120_0) (C := RX9) (T := TX9) (N := 3) hx hb hts iX9 hown hK hP 2 rfl rfl 2 (by decide) (hts _ qw137) (fun _ h9 => h9) rfl dX5_unit_140 ?_
    refine lv_iconst (v := 1) hx hb dX5_unit_143 (by decide) ?_
    refine lv_iadd hx hb dX5_unit_144 ?_
    refine lv_topi (fun v144 e144 => ?_)
    have i144 : v144.toInt = u120_0.toInt + 1 := zadd e144 rfl (by decide) (by omega) (by omega)
    refine va_put (D := (dC, dI)) (ci := 9) (v := .int v144) (ty := .int) (C := RX9) (T := TX9) (N := 3) hx hb hts iX9 tyX9 tyX9_ok nmX9 hown hK hP hD hS 2 rfl rfl 2 (by decide) (hts _ qw137) (fun _ h9 => h9) rfl (by decide +kernel) rfl rfl (Nat.le_of_ble_eq_true rfl) dX5_unit_145 (fun H locs hP9 hD9 hS9 => ?_)
    clear hP hD hS
    obtain ⟨hP, hD⟩ := zst (wX := [(h0, .inr (5, [.ref lS, .int sz5, .ref tp])), (lS, .inl (cI, 241, .inl fS)), (tp, .inr (9, [.ref tB, .int tl, .int v144])), (tB, .inl (cI, 260, .inl fB))]) hP9 hD9 rfl
    have hS := hS9
    clear hP9 hD9 hS9
    refine lv_aload_n hx hb dX5_unit_148 rfl (lv_at hl 2 rfl) ?_
    refine lv_iload_n hx hb dX5_unit_149 rfl (lv_at hl 3 rfl) ?_
    obtain ⟨hPc, hDc, hFc⟩ := zc3 (wc := [(h0, .inr (5, [.ref lS, .int sz5, .ref tp])), (lS, .inl (cI, 241, .inl fS)), (tp, .inr (9, [.ref tB, .int tl, .int v144])), (tB, .inl (cI, 260, .inl fB))]) hP hD hS hA [0, 1, 2, 3] (by decide +kernel) rfl
    refine va_calli (va_runV (As := [.int 0]) (rest := []) ⟨hx, hb, hml, hown, hts⟩ (zD_S6 l dC dI cI cJ h0 0 lS sz5 tp fS tB tl v144 fB H.size (by decide) n_sz5 (by omega) n_tl (hty) (by omega) (by decide) ci_fS_zSt) (cwV 1 hts (zgV qw486 qw488 qw3 qw101 qw489) rfl rfl rfl hd_X5_sum ⟨by rw [hR]; exact Nat.le_of_ble_eq_true rfl, by rw [hR]; exact Nat.le_of_ble_eq_true rfl⟩) (zPWV hPc hK hDc (va_recv (q := (RX5, TX5, 3)) hK hP (ci := 5) (q0 := 0) rfl rfl) (zV_call hV hS hFc)) rfl rfl hl.1 rfl (lv_room (Nat.le_of_ble_eq_true rfl)) dX5_unit_150 ⟨Nat.zero_le _, Nat.zero_le _⟩) hS (fun q _ h => hFc q h) hFc (fun v150 u150 t H locs ht hvm hw hB hz1 hk1 hS9 => ?_)
    obtain ⟨u150_0, u150_1, u150_2⟩ := u150
    obtain ⟨hP9, hD9⟩ := zj2 (wX := [(h0, .inr (5, [.ref lS, .int u150_0, .ref tp])), (lS, .inl (cI, 241, .inl u150_1)), (tp, .inr (9, [.ref tB, .int tl, .int u150_2])), (tB, .inl (cI, 260, .inl fB))]) hP hD hk1 hFc ht hB [0, 1, 2, 3] [(true, 0), (true, 1), (true, 2), (true, 3)] rfl (by decide +kernel) (by decide +kernel) rfl
    clear hP hD hS hPc hDc hFc hB hk1 hz1 hvm
    have hP := hP9
    have hD := hD9
    have hS := hS9
    clear hP9 hD9 hS9
    obtain ⟨f150_0, f150_1, f150_2, f150_3, f150_4, f150_5, f150_6, f150_7, f150_8, f150_9, f150_10⟩ : (0 ≤ v150.toInt) ∧ (v150.toInt ≤ 1) ∧ (0 ≤ u150_0.toInt) ∧ (u150_0.toInt ≤ 241) ∧ (0 ≤ u150_2.toInt) ∧ (u150_2.toInt ≤ 240) ∧ (zF (sSum (sB fB tl.toInt) tl.toInt 6 v144.toInt) v150 u150_2) ∧ (¬ v150.toInt = 0 → v144.toInt < u150_2.toInt) ∧ (¬ v150.toInt = 0 → u150_0.toInt + v144.toInt ≤ sz5.toInt + u150_2.toInt) ∧ (¬ v150.toInt = 0 → zEm fS sz5 (eSum (sB fB tl.toInt) tl.toInt 6 v144.toInt) u150_1 u150_0) ∧ (zSt u150_1) := hw
    have F150 := f150_6
    have F150_1 := f150_9
    refine lv_if_ne (tgt := 158) hx hb dX5_unit_153 (by decide) (fun c153 => ?_) (fun c153 => ?_)
    · have c153 : ¬ v150.toInt = 0 := z6 rfl (by decide) c153
      refine lv_aload_n hx hb dX5_unit_158 rfl (lv_at hl 2 rfl) ?_
      refine lv_iload hx hb dX5_unit_159 (lv_at hl 0 rfl) ?_
      refine lv_iconst (v := 0) hx hb dX5_unit_161 (by decide) ?_
      obtain ⟨hPc, hDc, hFc⟩ := zc3 (wc := [(h0, .inr (5, [.ref lS, .int u150_0, .ref tp])), (lS, .inl (cI, 241, .inl u150_1))]) hP hD hS hA [0, 1] (by decide +kernel) rfl
      refine va_callv (va_runV (As := [.int v120, .int 0]) (rest := []) ⟨hx, hb, hml, hown, hts⟩ (g_X5_put_0 l dC dI cI cJ h0 v120 lS u150_0 tp u150_1 H.size (by omega) ⟨f150_2, f150_3⟩ f150_10) (cwV 2 hts (zgV qw496 qw498 qw5 qw101 qw499) rfl rfl rfl hd_X5_put ⟨by rw [hR]; exact Nat.le_of_ble_eq_true rfl, by rw [hR]; exact Nat.le_of_ble_eq_true rfl⟩) (zPV hPc hK hDc (va_recv (q := (RX5, TX5, 3)) hK hP (ci := 5) (q0 := 0) rfl rfl)) rfl rfl hl.1 rfl (lv_room (Nat.le_of_ble_eq_true rfl)) dX5_unit_162 ⟨Nat.zero_le _, Nat.zero_le _⟩) hS (fun q _ h => hFc q h) hFc (fun u162 t H locs ht hvm hw hB hz1 hk1 hS9 => ?_)
      obtain ⟨u162_0, u162_1⟩ := u162
      obtain ⟨hP9, hD9⟩ := zj2 (wX := [(h0, .inr (5, [.ref lS, .int u162_0, .ref tp])), (lS, .inl (cI, 241, .inl u162_1)), (tp, .inr (9, [.ref tB, .int tl, .int u150_2])), (tB, .inl (cI, 260, .inl fB))]) hP hD hk1 hFc ht hB [0, 1] [(true, 0), (true, 1), (false, 2), (false, 3)] rfl (by decide +kernel) (by decide +kernel) rfl
      clear hP hD hS hPc hDc hFc hB hk1 hz1 hvm
      have hP := hP9
      have hD := hD9
      have hS := hS9
      clear hP9 hD9 hS9
      obtain ⟨f162_0, f162_1, f162_2, f162_3, f162_4⟩ : (1 ≤ u162_0.toInt) ∧ (u162_0.toInt ≤ 241) ∧ (u162_0.toInt ≤ u150_0.toInt + 1 ∧ u150_0.toInt ≤ u162_0.toInt) ∧ (u150_0.toInt < 241 → zEm u150_1 u150_0 [(v120.toInt, 0)] u162_1 u162_0) ∧ (zSt u162_1) := hw
      have F162 := f162_3
      refine lv_iconst (v := 1) hx hb dX5_unit_165 (by decide) ?_
      have zr0 : (1 : Int32).toInt = 1 := by decide
      rw [hQ]
      exact W.zret (v := 1) (ty := .boolean) hx hb hr rfl (fun t ht hW => ⟨⟨1, (u162_0, u162_1, u150_2), rfl, ⟨by (try dsimp only); omega, by (try dsimp only); omega, by (try dsimp only); omega, by (try dsimp only); omega, by (try dsimp only); omega, by (try dsimp only); omega, zF1 ((fq_sk F4).symm.trans ((fq_y F120 F127 (by omega) i144 F150).trans (by rw [show v150.toInt = 1 by omega]))), (fun _ => zFm (x := sCmp (sB fB tl.toInt) tl.toInt (sSum (sB fB tl.toInt) tl.toInt 6)) (sCmp_mono (sSum_mono (sB fB tl.toInt) tl.toInt 6)) (zF1 ((fq_sk F4).symm.trans ((fq_y F120 F127 (by omega) i144 F150).trans (by rw [show v150.toInt = 1 by omega]))))), by (try dsimp only); omega, (fun _ => eCmp_em2 F4 F120 (by omega) i144 (F150_1 (by omega)) (F162 (by omega)) (by omega)), f162_4⟩, ⟨by rw [ht]; exact hP, hD⟩⟩, hS.F ht⟩) hS.2.2 dX5_unit_166
    · have c153 : v150.toInt = 0 := z5 rfl (by decide) c153
      refine lv_iconst (v := 0) hx hb dX5_unit_156 (by decide) ?_
      have zr0 : (0 : Int32).toInt = 0 := by decide
      rw [hQ]
      exact W.zret (v := 0) (ty := .boolean) hx hb hr rfl (fun t ht hW => ⟨⟨0, (u150_0, u150_1, u150_2), rfl, ⟨by (try dsimp only); omega, by (try dsimp only); omega, by (try dsimp only); omega, by (try dsimp only); omega, by (try dsimp only); omega, by (try dsimp only); omega, zF0 ((fq_sk F4).symm.trans ((fq_y F120 F127 (by omega) i144 F150).trans (by rw [show v150.toInt = 0 by omega]))), (fun z => absurd (by decide) z), by (try dsimp only); omega, (fun z => absurd (by decide) z), f150_10⟩, ⟨by rw [ht]; exact hP, hD⟩⟩, hS.F ht⟩) hS.2.2 dX5_unit_157
  · have c130 : v127.toInt = 0 := z5 rfl (by decide) c130
    refine lv_iconst (v := 0) hx hb dX5_unit_133 (by decide) ?_
    have zr0 : (0 : Int32).toInt = 0 := by decide
    rw [hQ]
    exact W.zret (v := 0) (ty := .boolean) hx hb hr rfl (fun t ht hW => ⟨⟨0, (sz5, fS, u120_0), rfl, ⟨by (try dsimp only); omega, by (try dsimp only); omega, by (try dsimp only); omega, by (try dsimp only); omega, by (try dsimp only); omega, by (try dsimp only); omega, zF0 ((fq_sk F4).symm.trans (fq_n F120 F127 (by omega))), (fun z => absurd (by decide) z), by (try dsimp only); omega, (fun z => absurd (by decide) z), ci_fS_zSt⟩, ⟨by rw [ht]; exact hP, hD⟩⟩, hS.F ht⟩) hS.2.2 dX5_unit_134
set_option maxHeartbeats 4000000 in
set_option maxRecDepth 100000 in
theorem g_X5_condition_0_1 (l : Launch) (dC : Nat → ClassId) (dI : Nat → Nat → Nat) (cI cJ : ClassId) (h0 : Nat) (lS : Nat) (sz5 : Int32) (tp : Nat) (fS : Nat → Int32) (tB : Nat) (tl : Int32) (ta : Int32) (fB : Nat → Int32) (sz : Nat) (n_sz5 : 0 ≤ sz5.toInt ∧ sz5.toInt ≤ 241) (n_ta : 0 ≤ ta.toInt ∧ ta.toInt ≤ 240) (n_tl : 0 ≤ tl.toInt ∧ tl.toInt ≤ 240) (hty : zTy tl fB) (hsz : sz5.toInt ≤ ta.toInt) (ci_fS_zSt : zSt fS)  : Met l yX5_condition (.code yX5_condition cX5_condition 6 (some .boolean) :: wA) ({ frames := 36, cells := 0, slots := 0, locals := 665 }) (zPW (dC, dI) [(cI, .int), (cJ, .long)] [.ref h0, .int 0, .int 1] sz [(h0, .inr (5, [.ref lS, .int sz5, .ref tp])), (lS, .inl (cI, 241, .inl fS)), (tp, .inr (9, [.ref tB, .int tl, .int ta])), (tB, .inl (cI, 260, .inl fB))] (va_A [(h0, .inr (5, [.ref lS, .int sz5, .ref tp])), (lS, .inl (cI, 241, .inl fS)), (tp, .inr (9, [.ref tB, .int tl, .int ta])), (tB, .inl (cI, 260, .inl fB))] sz)) (va_Qi (fun (r : Int32) (u : Int32 × (Nat → Int32) × Int32) => (0 ≤ r.toInt) ∧ (r.toInt ≤ 1) ∧ (0 ≤ u.1.toInt) ∧ (u.1.toInt ≤ 241) ∧ (0 ≤ u.2.2.toInt) ∧ (u.2.2.toInt ≤ 240) ∧ (zF (sGo (sB fB tl.toInt) tl.toInt ta.toInt) r u.2.2) ∧ (¬ r.toInt = 0 → ta.toInt < u.2.2.toInt) ∧ (¬ r.toInt = 0 → u.1.toInt + ta.toInt ≤ sz5.toInt + u.2.2.toInt) ∧ (¬ r.toInt = 0 → zEm fS sz5 (eGo (sB fB tl.toInt) tl.toInt ta.toInt) u.2.1 u.1) ∧ (zSt u.2.1)) (fun (u : Int32 × (Nat → Int32) × Int32) (t : State) => va_P (dC, dI) vwCl [(h0, .inr (5, [.ref lS, .int u.1, .ref tp])), (lS, .inl (cI, 241, .inl u.2.1)), (tp, .inr (9, [.ref tB, .int tl, .int u.2.2])), (tB, .inl (cI, 260, .inl fB))] t.heap ∧ va_D (va_A [(h0, .inr (5, [.ref lS, .int sz5, .ref tp])), (lS, .inl (cI, 241, .inl fS)), (tp, .inr (9, [.ref tB, .int tl, .int ta])), (tB, .inl (cI, 260, .inl fB))] sz) [(h0, .inr (5, [.ref lS, .int u.1, .ref tp])), (lS, .inl (cI, 241, .inl u.2.1)), (tp, .inr (9, [.ref tB, .int tl, .int u.2.2])), (tB, .inl (cI, 260, .inl fB))]) (va_A [(h0, .inr (5, [.ref lS, .int sz5, .ref tp])), (lS, .inl (cI, 241, .inl fS)), (tp, .inr (9, [.ref tB, .int tl, .int ta])), (tB, .inl (cI, 260, .inl fB))] sz)) 0 0 (va_A [(h0, .inr (5, [.ref lS, .int sz5, .ref tp])), (lS, .inl (cI, 241, .inl fS)), (tp, .inr (9, [.ref tB, .int tl, .int ta])), (tB, .inl (cI, 260, .inl fB))] sz) := by
  refine Met.ofW (cc := cX5_condition) (maxL := 6) (ret := (some .boolean)) (by decide) rfl ?_
  intro p e s m args below meth c s₁ B hml hv
  obtain ⟨⟨hargs, hsz, hP, hK, hT⟩, hV⟩ := hv
  have hx := B.exec
  have hb := B.bytes
  have hr := B.returns
  have hts : ∀ w ∈ wA, w.before args s = true := fun w h => atoms_spec (ws := .code yX5_condition cX5_condition 6 (some .boolean) :: wA) B.pre w (List.mem_cons_of_mem _ h)
  have hown : s.vm.findClass RX5 = some m.cls := findClass_of_methodNamed B.named
  have hlocks := B.notSynchronized
  subst hsz
  have hD := hT.self (sz := s.heap.size)
  generalize hAe : va_A [(h0, .inr (5, [.ref lS, .int sz5, .ref tp])), (lS, .inl (cI, 241, .inl fS)), (tp, .inr (9, [.ref tB, .int tl, .int ta])), (tB, .inl (cI, 260, .inl fB))] s.heap.size = A at hD hV ⊢
  have hA : ∀ q : Nat, s.heap.size ≤ q → A q := fun q h => by rw [← hAe]; exact Or.inr h
  have hl := lv_entry ([.ref h0, .int 0, .int 1]) (n := 6) (Nat.le_of_ble_eq_true rfl)
  rw [show entryFrame m args 6 = entryFrame m ([.ref h0, .int 0, .int 1] : List Value).toArray 6 by rw [hargs], lg_entry_eq]
  generalize (lg_sl ([.ref h0, .int 0, .int 1]) ++ List.replicate (6 - (lg_sl ([.ref h0, .int 0, .int 1])).length) Slot.unset).toArray = ls at hl ⊢
  have hl : lv_has ls 6 [(0, .ref h0), (1, .int 0), (2, .int 1)] := hl
  refine zstart (fun H hH => ?_)
  rw [← hH] at hP
  have hS : va_S A s.heap H [] := by rw [hH]; exact va_S.rf
  generalize ([] : List Loc) = locs at hS ⊢
  refine zgen (fun R Q hR hQ => ?_)
  refine lv_aload_n hx hb dX5_condition_0 rfl (lv_at hl 0 rfl) ?_
  refine lv_iload_n hx hb dX5_condition_1 rfl (lv_at hl 1 rfl) ?_
  refine lv_iload_n hx hb dX5_condition_2 rfl (lv_at hl 2 rfl) ?_
  obtain ⟨hPc, hDc, hFc⟩ := zc3 (wc := [(h0, .inr (5, [.ref lS, .int sz5, .ref tp])), (lS, .inl (cI, 241, .inl fS)), (tp, .inr (9, [.ref tB, .int tl, .int ta])), (tB, .inl (cI, 260, .inl fB))]) hP hD hS hA [0, 1, 2, 3] (by decide +kernel) rfl
  refine va_calli (va_runV (As := [.int 0, .int 1]) (rest := []) ⟨hx, hb, hml, hown, hts⟩ (g_X5_unit_0_1 l dC dI cI cJ h0 lS sz5 tp fS tB tl ta fB H.size n_sz5 n_ta n_tl (hty) (by omega) ci_fS_zSt) (cwV 2 hts (zgV qw511 qw513 qw7 qw101 qw514) rfl rfl rfl hd_X5_unit ⟨by rw [hR]; exact Nat.le_of_ble_eq_true rfl, by rw [hR]; exact Nat.le_of_ble_eq_true rfl⟩) (zPWV hPc hK hDc (va_recv (q := (RX5, TX5, 3)) hK hP (ci := 5) (q0 := 0) rfl rfl) (zV_call hV hS hFc)) rfl rfl hl.1 rfl (lv_room (Nat.le_of_ble_eq_true rfl)) dX5_condition_3 ⟨Nat.zero_le _, Nat.zero_le _⟩) hS (fun q _ h => hFc q h) hFc (fun v3 u3 t H locs ht hvm hw hB hz1 hk1 hS9 => ?_)
  obtain ⟨u3_0, u3_1, u3_2⟩ := u3
  obtain ⟨hP9, hD9⟩ := zj2 (wX := [(h0, .inr (5, [.ref lS, .int u3_0, .ref tp])), (lS, .inl (cI, 241, .inl u3_1)), (tp, .inr (9, [.ref tB, .int tl, .int u3_2])), (tB, .inl (cI, 260, .inl fB))]) hP hD hk1 hFc ht hB [0, 1, 2, 3] [(true, 0), (true, 1), (true, 2), (true, 3)] rfl (by decide +kernel) (by decide +kernel) rfl
  clear hP hD hS hPc hDc hFc hB hk1 hz1 hvm
  have hP := hP9
  have hD := hD9
  have hS := hS9
  clear hP9 hD9 hS9
  obtain ⟨f3_0, f3_1, f3_2, f3_3, f3_4, f3_5, f3_6, f3_7, f3_8, f3_9, f3_10⟩ : (0 ≤ v3.toInt) ∧ (v3.toInt ≤ 1) ∧ (0 ≤ u3_0.toInt) ∧ (u3_0.toInt ≤ 241) ∧ (0 ≤ u3_2.toInt) ∧ (u3_2.toInt ≤ 240) ∧ (zF (sCmp (sB fB tl.toInt) tl.toInt (sSum (sB fB tl.toInt) tl.toInt 6) ta.toInt) v3 u3_2) ∧ (¬ v3.toInt = 0 → ta.toInt < u3_2.toInt) ∧ (¬ v3.toInt = 0 → u3_0.toInt + ta.toInt ≤ sz5.toInt + u3_2.toInt) ∧ (¬ v3.toInt = 0 → zEm fS sz5 (eCmp (sB fB tl.toInt) tl.toInt (eSum (sB fB tl.toInt) tl.toInt 6) ta.toInt) u3_1 u3_0) ∧ (zSt u3_1) := hw
  have F3 := f3_6
  have F3_1 := f3_9
  refine lv_if_ne (tgt := 11) hx hb dX5_condition_6 (by decide) (fun c6 => ?_) (fun c6 => ?_)
  · have c6 : ¬ v3.toInt = 0 := z6 rfl (by decide) c6
    refine lv_iconst (v := 0) hx hb dX5_condition_11 (by decide) ?_
    refine lv_istore_n (lv' := [(3, .int 0), (0, .ref h0), (1, .int 0), (2, .int 1)]) hx hb dX5_condition_12 rfl hl (by decide) rfl (fun ls hl => ?_)
    refine lv_aload_n hx hb dX5_condition_13 rfl (lv_at hl 1 rfl) ?_
    refine va_get (D := (dC, dI)) (ci := 5) (v := .ref tp) (C := RX5) (T := TX5) (N := 3) hx hb hts iX5 hown hK hP 0 rfl rfl 2 (by decide) (hts _ qw172) (fun _ h9 => h9) rfl dX5_condition_14 ?_
    obtain ⟨hPc, hDc, hFc⟩ := zc3 (wc := [(tp, .inr (9, [.ref tB, .int tl, .int u3_2])), (tB, .inl (cI, 260, .inl fB))]) hP hD hS hA [2, 3] (by decide +kernel) rfl
    refine va_calli (va_runV (As := []) (rest := []) ⟨hx, hb, hml, hown, hts⟩ (g_X9_peek l dC dI cI cJ tp tB tl u3_2 fB H.size ⟨f3_4, f3_5⟩ n_tl (hty)) (cwV 0 hts (zgV qw485 qw438 qw439 qw99 qw440) rfl rfl rfl hd_X9_peek ⟨by rw [hR]; exact Nat.le_of_ble_eq_true rfl, by rw [hR]; exact Nat.le_of_ble_eq_true rfl⟩) (zPV hPc hK hDc (va_recv (q := (RX9, TX9, 3)) hK hP (ci := 9) (q0 := 2) rfl rfl)) rfl rfl hl.1 rfl (lv_room (Nat.le_of_ble_eq_true rfl)) dX5_condition_17 ⟨Nat.zero_le _, Nat.zero_le _⟩) hS (fun q _ h => hFc q h) hFc (fun v17 u17 t H locs ht hvm hw hB hz1 hk1 hS9 => ?_)
    obtain ⟨u17_0, rfl⟩ : ∃ z, z = u17 := ⟨_, rfl⟩
    obtain ⟨hP9, hD9⟩ := zj2 (wX := [(h0, .inr (5, [.ref lS, .int u3_0, .ref tp])), (lS, .inl (cI, 241, .inl u3_1)), (tp, .inr (9, [.ref tB, .int tl, .int u17_0])), (tB, .inl (cI, 260, .inl fB))]) hP hD hk1 hFc ht hB [2, 3] [(false, 0), (false, 1), (true, 0), (true, 1)] rfl (by decide +kernel) (by decide +kernel) rfl
    clear hP hD hS hPc hDc hFc hB hk1 hz1 hvm
    have hP := hP9
    have hD := hD9
    have hS := hS9
    clear hP9 hD9 hS9
    obtain ⟨f17_0, f17_1, f17_2, f17_3, f17_4⟩ : (0 ≤ u17_0.toInt) ∧ (u17_0.toInt ≤ 240) ∧ (¬ v17.toInt = 0 → u17_0.toInt < tl.toInt) ∧ (u3_2.toInt ≤ u17_0.toInt) ∧ (zPK fB tl u3_2 v17 u17_0) := hw
    have F17 := f17_4
    refine lv_istore (lv' := [(4, .int v17), (3, .int 0), (0, .ref h0), (1, .int 0), (2, .int 1)]) hx hb dX5_condition_20 hl (by decide) rfl (fun ls hl => ?_)
    refine lv_iconst (v := 0) hx hb dX5_condition_22 (by decide) ?_
    have J25 : ∀ (n : Nat) (m25_A_lS : Nat → Int32) (m25_F_h0_1 : Int32) (m25_F_tp_2 : Int32) (m25_L_3 : Int32) (m25_L_4 : Int32) (m25_L_5 : Int32), (0 ≤ m25_F_h0_1.toInt ∧ m25_F_h0_1.toInt ≤ 241) → (0 ≤ m25_F_tp_2.toInt ∧ m25_F_tp_2.toInt ≤ 240) → (0 ≤ m25_L_3.toInt ∧ m25_L_3.toInt ≤ 1) → (0 ≤ m25_L_5.toInt ∧ m25_L_5.toInt ≤ 240) → (¬ m25_L_4.toInt = 0 → m25_F_tp_2.toInt < tl.toInt) → (m25_L_5.toInt ≤ m25_F_tp_2.toInt) → (sGo (sB fB tl.toInt) tl.toInt ta.toInt = sLp (sB fB tl.toInt) tl.toInt oC (sUn (sB fB tl.toInt) tl.toInt 6) m25_F_tp_2.toInt) → (zSg fB tl m25_F_tp_2 m25_L_4) → (m25_F_h0_1.toInt + ta.toInt ≤ sz5.toInt + m25_F_tp_2.toInt) → (¬ m25_L_3.toInt = 0 → m25_F_h0_1.toInt + 1 + ta.toInt ≤ sz5.toInt + m25_F_tp_2.toInt) → (0 ≤ m25_L_3.toInt ∧ m25_L_3.toInt ≤ 1) → (zSe fB tl oC oD (sUn (sB fB tl.toInt) tl.toInt 6) (eUn (sB fB tl.toInt) tl.toInt 6) (eGo (sB fB tl.toInt) tl.toInt ta.toInt) fS sz5 m25_A_lS m25_F_h0_1 (124 * m25_L_3.toInt) m25_F_tp_2) → (zSt m25_A_lS) → (241 - m25_L_5.toInt).toNat = n → ∀ (H : Heap) (locs : List Loc) (ls : Array Slot), va_P (dC, dI) vwCl [(h0, .inr (5, [.ref lS, .int m25_F_h0_1, .ref tp])), (lS, .inl (cI, 241, .inl m25_A_lS)), (tp, .inr (9, [.ref tB, .int tl, .int m25_F_tp_2])), (tB, .inl (cI, 260, .inl fB))] H → va_D A [(h0, .inr (5, [.ref lS, .int m25_F_h0_1, .ref tp])), (lS, .inl (cI, 241, .inl m25_A_lS)), (tp, .inr (9, [.ref tB, .int tl, .int m25_F_tp_2])), (tB, .inl (cI, 260, .inl fB))] → va_S A s.heap H locs → lv_has ls 6 [(5, .int m25_L_5), (4, .int m25_L_4), (3, .int m25_L_3), (0, .ref h0), (1, .int 0), (2, .int 1)] → W p l e R s m args below meth c H locs 0 0 Q (F0 m 25 ls []) := by
      intro n25
      induction n25 using Nat.strongRecOn with
      | _ n25 ih25 =>
        intro m25_A_lS m25_F_h0_1 m25_F_tp_2 m25_L_3 m25_L_4 m25_L_5 jf25_0 jf25_1 jf25_2 jf25_3 jf25_4 jf25_5 jv25_0 jv25_1 jf25_8 jf25_9 jf25_10 jv25_2 jf25_12 hmu25 H locs ls hP hD hS hl
        refine lv_iload hx hb dX5_condition_25 (lv_at hl 0 rfl) ?_
        refine lv_aload_n hx hb dX5_condition_27 rfl (lv_at hl 3 rfl) ?_
        refine va_get (D := (dC, dI)) (ci := 5) (v := .ref tp) (C := RX5) (T := TX5) (N := 3) hx hb hts iX5 hown hK hP 0 rfl rfl 2 (by decide) (hts _ qw172) (fun _ h9 => h9) rfl dX5_condition_28 ?_
        refine va_get (D := (dC, dI)) (ci := 9) (v := .int tl) (C := RX9) (T := TX9) (N := 3) hx hb hts iX9 hown hK hP 2 rfl rfl 1 (by decide) (hts _ qw135) (fun _ h9 => h9) rfl dX5_condition_31 ?_
        have J127 : (sGo (sB fB tl.toInt) tl.toInt ta.toInt = (1, m25_F_tp_2.toInt)) → (∀ (g : Nat → Int32) (s : Int32), zEm m25_A_lS m25_F_h0_1 (eW (124 * m25_L_3.toInt)) g s → zEm fS sz5 (eGo (sB fB tl.toInt) tl.toInt ta.toInt) g s) → ∀ (H : Heap) (locs : List Loc) (ls : Array Slot), va_P (dC, dI) vwCl [(h0, .inr (5, [.ref lS, .int m25_F_h0_1, .ref tp])), (lS, .inl (cI, 241, .inl m25_A_lS)), (tp, .inr (9, [.ref tB, .int tl, .int m25_F_tp_2])), (tB, .inl (cI, 260, .inl fB))] H → va_D A [(h0, .inr (5, [.ref lS, .int m25_F_h0_1, .ref tp])), (lS, .inl (cI, 241, .inl m25_A_lS)), (tp, .inr (9, [.ref tB, .int tl, .int m25_F_tp_2])), (tB, .inl (cI, 260, .inl fB))] → va_S A s.heap H locs → lv_has ls 6 [(5, .int m25_L_5), (4, .int m25_L_4), (3, .int m25_L_3), (0, .ref h0), (1, .int 0), (2, .int 1)] → W p l e R s m args below meth c H locs 0 0 Q (F0 m 127 ls []) := by
          intro  jv127_0 jv127_1 H locs ls hP hD hS hl
          refine lv_iload_n hx hb dX5_condition_127 rfl (lv_at hl 2 rfl) ?_
          refine lv_if_eq (tgt := 138) hx hb dX5_condition_128 (by decide) (fun c128 => ?_) (fun c128 => ?_)
          · have c128 : m25_L_3.toInt = 0 := z5 rfl (by decide) c128
            refine lv_iconst (v := 1) hx hb dX5_condition_138 (by decide) ?_
            have zr0 : (1 : Int32).toInt = 1 := by decide
            rw [hQ]
            exact W.zret (v := 1) (ty := .boolean) hx hb hr rfl (fun t ht hW => ⟨⟨1, (m25_F_h0_1, m25_A_lS, m25_F_tp_2), rfl, ⟨by (try dsimp only); omega, by (try dsimp only); omega, by (try dsimp only); omega, by (try dsimp only); omega, by (try dsimp only); omega, by (try dsimp only); omega, zF1 (jv127_0), (fun _ => zFm (x := sGo (sB fB tl.toInt) tl.toInt) (sGo_mono (sB fB tl.toInt) tl.toInt) (zF1 (jv127_0))), by (try dsimp only); omega, (fun _ => jv127_1 _ _ (eW_0 (by omega))), jf25_12⟩, ⟨by rw [ht]; exact hP, hD⟩⟩, hS.F ht⟩) hS.2.2 dX5_condition_139
          · have c128 : ¬ m25_L_3.toInt = 0 := z6 rfl (by decide) c128
            refine lv_aload_n hx hb dX5_condition_131 rfl (lv_at hl 3 rfl) ?_
            refine lv_bipush (v := 124) hx hb dX5_condition_132 (by decide) ?_
            refine lv_iconst (v := 0) hx hb dX5_condition_134 (by decide) ?_
            obtain ⟨hPc, hDc, hFc⟩ := zc3 (wc := [(h0, .inr (5, [.ref lS, .int m25_F_h0_1, .ref tp])), (lS, .inl (cI, 241, .inl m25_A_lS))]) hP hD hS hA [0, 1] (by decide +kernel) rfl
            refine va_callv (va_runV (As := [.int 124, .int 0]) (rest := []) ⟨hx, hb, hml, hown, hts⟩ (g_X5_put_0 l dC dI cI cJ h0 124 lS m25_F_h0_1 tp m25_A_lS H.size (by decide) jf25_0 jf25_12) (cwV 2 hts (zgV qw496 qw498 qw5 qw101 qw499) rfl rfl rfl hd_X5_put ⟨by rw [hR]; exact Nat.le_of_ble_eq_true rfl, by rw [hR]; exact Nat.le_of_ble_eq_true rfl⟩) (zPV hPc hK hDc (va_recv (q := (RX5, TX5, 3)) hK hP (ci := 5) (q0 := 0) rfl rfl)) rfl rfl hl.1 rfl (lv_room (Nat.le_of_ble_eq_true rfl)) dX5_condition_135 ⟨Nat.zero_le _, Nat.zero_le _⟩) hS (fun q _ h => hFc q h) hFc (fun u135 t H locs ht hvm hw hB hz1 hk1 hS9 => ?_)
            obtain ⟨u135_0, u135_1⟩ := u135
            obtain ⟨hP9, hD9⟩ := zj2 (wX := [(h0, .inr (5, [.ref lS, .int u135_0, .ref tp])), (lS, .inl (cI, 241, .inl u135_1)), (tp, .inr (9, [.ref tB, .int tl, .int m25_F_tp_2])), (tB, .inl (cI, 260, .inl fB))]) hP hD hk1 hFc ht hB [0, 1] [(true, 0), (true, 1), (false, 2), (false, 3)] rfl (by decide +kernel) (by decide +kernel) rfl
            clear hP hD hS hPc hDc hFc hB hk1 hz1 hvm
            have hP := hP9
            have hD := hD9
            have hS := hS9
            clear hP9 hD9 hS9
            have zn135_124 : (124 : Int32).toInt = 124 := by decide
            obtain ⟨f135_0, f135_1, f135_2, f135_3, f135_4⟩ : (1 ≤ u135_0.toInt) ∧ (u135_0.toInt ≤ 241) ∧ (u135_0.toInt ≤ m25_F_h0_1.toInt + 1 ∧ m25_F_h0_1.toInt ≤ u135_0.toInt) ∧ (m25_F_h0_1.toInt < 241 → zEm m25_A_lS m25_F_h0_1 [((124 : Int32).toInt, 0)] u135_1 u135_0) ∧ (zSt u135_1) := hw
            have F135 := f135_3
            refine lv_iconst (v := 1) hx hb dX5_condition_138 (by decide) ?_
            have zr0 : (1 : Int32).toInt = 1 := by decide
            rw [hQ]
            exact W.zret (v := 1) (ty := .boolean) hx hb hr rfl (fun t ht hW => ⟨⟨1, (u135_0, u135_1, m25_F_tp_2), rfl, ⟨by (try dsimp only); omega, by (try dsimp only); omega, by (try dsimp only); omega, by (try dsimp only); omega, by (try dsimp only); omega, by (try dsimp only); omega, zF1 (jv127_0), (fun _ => zFm (x := sGo (sB fB tl.toInt) tl.toInt) (sGo_mono (sB fB tl.toInt) tl.toInt) (zF1 (jv127_0))), by (try dsimp only); omega, (fun _ => jv127_1 _ _ (eW_1 (by omega) (by omega) (F135 (by omega)))), f135_4⟩, ⟨by rw [ht]; exact hP, hD⟩⟩, hS.F ht⟩) hS.2.2 dX5_condition_139
        refine lv_icmp_ge (tgt := 127) hx hb dX5_condition_34 (by decide) (fun c34 => ?_) (fun c34 => ?_)
        · have c34 : tl.toInt ≤ m25_L_5.toInt := z3 rfl rfl c34
          exact J127  (by first | exact fl_n jv25_0 jv25_1 (fun z => by have := oC_iff.mp z; omega) | exact fl_e jv25_0 (by omega)) (by first | exact fun g s hb => fse_e jv25_2 (Or.inr ⟨jv25_1, fun z => by have := oC_iff.mp z; omega⟩) hb (by omega) | exact fun g s hb => fse_e (t := m25_L_4) jv25_2 (Or.inl (by omega)) hb (by omega)) H locs ls hP hD hS (lv_sub hl [0, 1, 2, 3, 4, 5] rfl)
        · have c34 : m25_L_5.toInt < tl.toInt := z4 rfl rfl c34
          refine lv_iload hx hb dX5_condition_37 (lv_at hl 1 rfl) ?_
          refine lv_bipush (v := 38) hx hb dX5_condition_39 (by decide) ?_
          refine lv_icmp_eq (tgt := 51) hx hb dX5_condition_41 (by decide) (fun c41 => ?_) (fun c41 => ?_)
          · have c41 : m25_L_4.toInt = 38 := z5 rfl (by decide) c41
            refine lv_iload hx hb dX5_condition_51 (lv_at hl 1 rfl) ?_
            refine lv_bipush (v := 124) hx hb dX5_condition_53 (by decide) ?_
            refine lv_icmp_ne (tgt := 69) hx hb dX5_condition_55 (by decide) (fun c55 => ?_) (fun c55 => by exfalso; have c55 : m25_L_4.toInt = 124 := z5 rfl (by decide) c55; omega)
            have c55 : ¬ m25_L_4.toInt = 124 := z6 rfl (by decide) c55
            refine lv_aload_n hx hb dX5_condition_69 rfl (lv_at hl 3 rfl) ?_
            refine va_get (D := (dC, dI)) (ci := 5) (v := .ref tp) (C := RX5) (T := TX5) (N := 3) hx hb hts iX5 hown hK hP 0 rfl rfl 2 (by decide) (hts _ qw172) (fun _ h9 => h9) rfl dX5_condition_70 ?_
            refine lv_dup hx hb dX5_condition_73 rfl ?_
            refine va_get (D := (dC, dI)) (ci := 9) (v := .int m25_F_tp_2) (C := RX9) (T := TX9) (N := 3) hx hb hts iX9 hown hK hP 2 rfl rfl 2 (by decide) (hts _ qw137) (fun _ h9 => h9) rfl dX5_condition_74 ?_
            refine lv_iconst (v := 1) hx hb dX5_condition_77 (by decide) ?_
            refine lv_iadd hx hb dX5_condition_78 ?_
            refine lv_topi (fun v78 e78 => ?_)
            have i78 : v78.toInt = m25_F_tp_2.toInt + 1 := zadd e78 rfl (by decide) (by omega) (by omega)
            refine va_put (D := (dC, dI)) (ci := 9) (v := .int v78) (ty := .int) (C := RX9) (T := TX9) (N := 3) hx hb hts iX9 tyX9 tyX9_ok nmX9 hown hK hP hD hS 2 rfl rfl 2 (by decide) (hts _ qw137) (fun _ h9 => h9) rfl (by decide +kernel) rfl rfl (Nat.le_of_ble_eq_true rfl) dX5_condition_79 (fun H locs hP9 hD9 hS9 => ?_)
            clear hP hD hS
            obtain ⟨hP, hD⟩ := zst (wX := [(h0, .inr (5, [.ref lS, .int m25_F_h0_1, .ref tp])), (lS, .inl (cI, 241, .inl m25_A_lS)), (tp, .inr (9, [.ref tB, .int tl, .int v78])), (tB, .inl (cI, 260, .inl fB))]) hP9 hD9 rfl
            have hS := hS9
            clear hP9 hD9 hS9
            refine lv_aload_n hx hb dX5_condition_82 rfl (lv_at hl 3 rfl) ?_
            refine lv_iload_n hx hb dX5_condition_83 rfl (lv_at hl 4 rfl) ?_
            refine lv_iconst (v := 0) hx hb dX5_condition_84 (by decide) ?_
            obtain ⟨hPc, hDc, hFc⟩ := zc3 (wc := [(h0, .inr (5, [.ref lS, .int m25_F_h0_1, .ref tp])), (lS, .inl (cI, 241, .inl m25_A_lS)), (tp, .inr (9, [.ref tB, .int tl, .int v78])), (tB, .inl (cI, 260, .inl fB))]) hP hD hS hA [0, 1, 2, 3] (by decide +kernel) rfl
            refine va_calli (va_runV (As := [.int 0, .int 0]) (rest := []) ⟨hx, hb, hml, hown, hts⟩ (zD_U6 l dC dI cI cJ h0 0 lS m25_F_h0_1 tp m25_A_lS tB tl v78 fB H.size (by decide) jf25_0 (by omega) n_tl (hty) (by omega) (by decide) jf25_12) (cwV 2 hts (zgV qw511 qw513 qw7 qw101 qw514) rfl rfl rfl hd_X5_unit ⟨by rw [hR]; exact Nat.le_of_ble_eq_true rfl, by rw [hR]; exact Nat.le_of_ble_eq_true rfl⟩) (zPWV hPc hK hDc (va_recv (q := (RX5, TX5, 3)) hK hP (ci := 5) (q0 := 0) rfl rfl) (zV_call hV hS hFc)) rfl rfl hl.1 rfl (lv_room (Nat.le_of_ble_eq_true rfl)) dX5_condition_85 ⟨Nat.zero_le _, Nat.zero_le _⟩) hS (fun q _ h => hFc q h) hFc (fun v85 u85 t H locs ht hvm hw hB hz1 hk1 hS9 => ?_)
            obtain ⟨u85_0, u85_1, u85_2⟩ := u85
            obtain ⟨hP9, hD9⟩ := zj2 (wX := [(h0, .inr (5, [.ref lS, .int u85_0, .ref tp])), (lS, .inl (cI, 241, .inl u85_1)), (tp, .inr (9, [.ref tB, .int tl, .int u85_2])), (tB, .inl (cI, 260, .inl fB))]) hP hD hk1 hFc ht hB [0, 1, 2, 3] [(true, 0), (true, 1), (true, 2), (true, 3)] rfl (by decide +kernel) (by decide +kernel) rfl
            clear hP hD hS hPc hDc hFc hB hk1 hz1 hvm
            have hP := hP9
            have hD := hD9
            have hS := hS9
            clear hP9 hD9 hS9
            obtain ⟨f85_0, f85_1, f85_2, f85_3, f85_4, f85_5, f85_6, f85_7, f85_8, f85_9, f85_10⟩ : (0 ≤ v85.toInt) ∧ (v85.toInt ≤ 1) ∧ (0 ≤ u85_0.toInt) ∧ (u85_0.toInt ≤ 241) ∧ (0 ≤ u85_2.toInt) ∧ (u85_2.toInt ≤ 240) ∧ (zF (sUn (sB fB tl.toInt) tl.toInt 6 v78.toInt) v85 u85_2) ∧ (¬ v85.toInt = 0 → v78.toInt < u85_2.toInt) ∧ (¬ v85.toInt = 0 → u85_0.toInt + v78.toInt ≤ m25_F_h0_1.toInt + u85_2.toInt) ∧ (¬ v85.toInt = 0 → zEm m25_A_lS m25_F_h0_1 (eUn (sB fB tl.toInt) tl.toInt 6 v78.toInt) u85_1 u85_0) ∧ (zSt u85_1) := hw
            have F85 := f85_6
            have F85_1 := f85_9
            refine lv_if_ne (tgt := 93) hx hb dX5_condition_88 (by decide) (fun c88 => ?_) (fun c88 => ?_)
            · have c88 : ¬ v85.toInt = 0 := z6 rfl (by decide) c88
              refine lv_iload hx hb dX5_condition_93 (lv_at hl 1 rfl) ?_
              refine lv_bipush (v := 38) hx hb dX5_condition_95 (by decide) ?_
              refine lv_icmp_ne (tgt := 110) hx hb dX5_condition_97 (by decide) (fun c97 => by exfalso; have c97 : ¬ m25_L_4.toInt = 38 := z6 rfl (by decide) c97; omega) (fun c97 => ?_)
              have c97 : m25_L_4.toInt = 38 := z5 rfl (by decide) c97
              refine lv_aload_n hx hb dX5_condition_100 rfl (lv_at hl 3 rfl) ?_
              refine lv_bipush (v := 38) hx hb dX5_condition_101 (by decide) ?_
              refine lv_iconst (v := 0) hx hb dX5_condition_103 (by decide) ?_
              obtain ⟨hPc, hDc, hFc⟩ := zc3 (wc := [(h0, .inr (5, [.ref lS, .int u85_0, .ref tp])), (lS, .inl (cI, 241, .inl u85_1))]) hP hD hS hA [0, 1] (by decide +kernel) rfl
              refine va_callv (va_runV (As := [.int 38, .int 0]) (rest := []) ⟨hx, hb, hml, hown, hts⟩ (g_X5_put_0 l dC dI cI cJ h0 38 lS u85_0 tp u85_1 H.size (by decide) ⟨f85_2, f85_3⟩ f85_10) (cwV 2 hts (zgV qw496 qw498 qw5 qw101 qw499) rfl rfl rfl hd_X5_put ⟨by rw [hR]; exact Nat.le_of_ble_eq_true rfl, by rw [hR]; exact Nat.le_of_ble_eq_true rfl⟩) (zPV hPc hK hDc (va_recv (q := (RX5, TX5, 3)) hK hP (ci := 5) (q0 := 0) rfl rfl)) rfl rfl hl.1 rfl (lv_room (Nat.le_of_ble_eq_true rfl)) dX5_condition_104 ⟨Nat.zero_le _, Nat.zero_le _⟩) hS (fun q _ h => hFc q h) hFc (fun u104 t H locs ht hvm hw hB hz1 hk1 hS9 => ?_)
              obtain ⟨u104_0, u104_1⟩ := u104
              obtain ⟨hP9, hD9⟩ := zj2 (wX := [(h0, .inr (5, [.ref lS, .int u104_0, .ref tp])), (lS, .inl (cI, 241, .inl u104_1)), (tp, .inr (9, [.ref tB, .int tl, .int u85_2])), (tB, .inl (cI, 260, .inl fB))]) hP hD hk1 hFc ht hB [0, 1] [(true, 0), (true, 1), (false, 2), (false, 3)] rfl (by decide +kernel) (by decide +kernel) rfl
              clear hP hD hS hPc hDc hFc hB hk1 hz1 hvm
              have hP := hP9
              have hD := hD9
              have hS := hS9
              clear hP9 hD9 hS9
              have zn104_38 : (38 : Int32).toInt = 38 := by decide
              obtain ⟨f104_0, f104_1, f104_2, f104_3, f104_4⟩ : (1 ≤ u104_0.toInt) ∧ (u104_0.toInt ≤ 241) ∧ (u104_0.toInt ≤ u85_0.toInt + 1 ∧ u85_0.toInt ≤ u104_0.toInt) ∧ (u85_0.toInt < 241 → zEm u85_1 u85_0 [((38 : Int32).toInt, 0)] u104_1 u104_0) ∧ (zSt u104_1) := hw
              have F104 := f104_3
              refine lv_goto (tgt := 112) hx hb dX5_condition_107 (by decide) ?_
              refine lv_aload_n hx hb dX5_condition_112 rfl (lv_at hl 3 rfl) ?_
              refine va_get (D := (dC, dI)) (ci := 5) (v := .ref tp) (C := RX5) (T := TX5) (N := 3) hx hb hts iX5 hown hK hP 0 rfl rfl 2 (by decide) (hts _ qw172) (fun _ h9 => h9) rfl dX5_condition_113 ?_
              obtain ⟨hPc, hDc, hFc⟩ := zc3 (wc := [(tp, .inr (9, [.ref tB, .int tl, .int u85_2])), (tB, .inl (cI, 260, .inl fB))]) hP hD hS hA [2, 3] (by decide +kernel) rfl
              refine va_calli (va_runV (As := []) (rest := []) ⟨hx, hb, hml, hown, hts⟩ (g_X9_peek l dC dI cI cJ tp tB tl u85_2 fB H.size ⟨f85_4, f85_5⟩ n_tl (hty)) (cwV 0 hts (zgV qw485 qw438 qw439 qw99 qw440) rfl rfl rfl hd_X9_peek ⟨by rw [hR]; exact Nat.le_of_ble_eq_true rfl, by rw [hR]; exact Nat.le_of_ble_eq_true rfl⟩) (zPV hPc hK hDc (va_recv (q := (RX9, TX9, 3)) hK hP (ci := 9) (q0 := 2) rfl rfl)) rfl rfl hl.1 rfl (lv_room (Nat.le_of_ble_eq_true rfl)) dX5_condition_116 ⟨Nat.zero_le _, Nat.zero_le _⟩) hS (fun q _ h => hFc q h) hFc (fun v116 u116 t H locs ht hvm hw hB hz1 hk1 hS9 => ?_)
              obtain ⟨u116_0, rfl⟩ : ∃ z, z = u116 := ⟨_, rfl⟩
              obtain ⟨hP9, hD9⟩ := zj2 (wX := [(h0, .inr (5, [.ref lS, .int u104_0, .ref tp])), (lS, .inl (cI, 241, .inl u104_1)), (tp, .inr (9, [.ref tB, .int tl, .int u116_0])), (tB, .inl (cI, 260, .inl fB))]) hP hD hk1 hFc ht hB [2, 3] [(false, 0), (false, 1), (true, 0), (true, 1)] rfl (by decide +kernel) (by decide +kernel) rfl
              clear hP hD hS hPc hDc hFc hB hk1 hz1 hvm
              have hP := hP9
              have hD := hD9
              have hS := hS9
              clear hP9 hD9 hS9
              obtain ⟨f116_0, f116_1, f116_2, f116_3, f116_4⟩ : (0 ≤ u116_0.toInt) ∧ (u116_0.toInt ≤ 240) ∧ (¬ v116.toInt = 0 → u116_0.toInt < tl.toInt) ∧ (u85_2.toInt ≤ u116_0.toInt) ∧ (zPK fB tl u85_2 v116 u116_0) := hw
              have F116 := f116_4
              refine lv_istore (lv' := [(4, .int v116), (5, .int m25_L_5), (3, .int m25_L_3), (0, .ref h0), (1, .int 0), (2, .int 1)]) hx hb dX5_condition_119 hl (by decide) rfl (fun ls hl => ?_)
              obtain ⟨v121, e121⟩ : ∃ y : Int32, y = m25_L_5 + Int32.ofInt (1) := ⟨_, rfl⟩
              refine lv_iinc (v := v121) (lv' := [(5, .int v121), (4, .int v116), (3, .int m25_L_3), (0, .ref h0), (1, .int 0), (2, .int 1)]) hx hb dX5_condition_121 hl (k := 1) rfl e121.symm (by decide) rfl (fun ls hl => ?_)
              have i121 : v121.toInt = m25_L_5.toInt + 1 := zaddI e121 (by decide) (by omega) (by omega)
              refine lv_goto (tgt := 25) hx hb dX5_condition_124 (by decide) ?_
              exact ih25 _ (by omega) u104_1 u104_0 u116_0 m25_L_3 v116 v121 (by omega) ⟨f116_0, f116_1⟩ jf25_2 (by omega) (by omega) (by omega) (fl_s jv25_0 jv25_1 (oC_iff.mpr (by omega)) (by decide) i78 F85 (by omega) (by omega) F116) (F116.2) (by omega) (by omega) (by omega) (by first | exact fse_y jv25_2 jv25_1 (oC_iff.mpr (by omega)) (by decide) i78 F85 (by omega) (by omega) F116 (oD_iff.mpr (by omega)) (F85_1 (by omega)) (F104 (by omega)) (by omega) (by omega) (by omega) | exact fse_n jv25_2 jv25_1 (oC_iff.mpr (by omega)) (by decide) i78 F85 (by omega) (by omega) F116 (fun z => by have := oD_iff.mp z; omega) (eW_0 (by omega)) (F85_1 (by omega)) (by omega) (by omega) (by omega) | exact fse_n jv25_2 jv25_1 (oC_iff.mpr (by omega)) (by decide) i78 F85 (by omega) (by omega) F116 (fun z => by have := oD_iff.mp z; omega) (eW_1 (by omega) (by omega) (F66 (by omega))) (F85_1 (by omega)) (by omega) (by omega) (by omega)) f104_4 rfl H locs ls hP hD hS (lv_sub hl [0, 1, 2, 3, 4, 5] rfl)
            · have c88 : v85.toInt = 0 := z5 rfl (by decide) c88
              refine lv_iconst (v := 0) hx hb dX5_condition_91 (by decide) ?_
              have zr0 : (0 : Int32).toInt = 0 := by decide
              rw [hQ]
              exact W.zret (v := 0) (ty := .boolean) hx hb hr rfl (fun t ht hW => ⟨⟨0, (u85_0, u85_1, u85_2), rfl, ⟨by (try dsimp only); omega, by (try dsimp only); omega, by (try dsimp only); omega, by (try dsimp only); omega, by (try dsimp only); omega, by (try dsimp only); omega, zF0 (fl_x jv25_0 jv25_1 (oC_iff.mpr (by omega)) (by decide) i78 F85 (by omega)), (fun z => absurd (by decide) z), by (try dsimp only); omega, (fun z => absurd (by decide) z), f85_10⟩, ⟨by rw [ht]; exact hP, hD⟩⟩, hS.F ht⟩) hS.2.2 dX5_condition_92
          · have c41 : ¬ m25_L_4.toInt = 38 := z6 rfl (by decide) c41
            refine lv_iload hx hb dX5_condition_44 (lv_at hl 1 rfl) ?_
            refine lv_bipush (v := 124) hx hb dX5_condition_46 (by decide) ?_
            refine lv_icmp_ne (tgt := 127) hx hb dX5_condition_48 (by decide) (fun c48 => ?_) (fun c48 => ?_)
            · have c48 : ¬ m25_L_4.toInt = 124 := z6 rfl (by decide) c48
              exact J127  (by first | exact fl_n jv25_0 jv25_1 (fun z => by have := oC_iff.mp z; omega) | exact fl_e jv25_0 (by omega)) (by first | exact fun g s hb => fse_e jv25_2 (Or.inr ⟨jv25_1, fun z => by have := oC_iff.mp z; omega⟩) hb (by omega) | exact fun g s hb => fse_e (t := m25_L_4) jv25_2 (Or.inl (by omega)) hb (by omega)) H locs ls hP hD hS (lv_sub hl [0, 1, 2, 3, 4, 5] rfl)
            · have c48 : m25_L_4.toInt = 124 := z5 rfl (by decide) c48
              refine lv_iload hx hb dX5_condition_51 (lv_at hl 1 rfl) ?_
              refine lv_bipush (v := 124) hx hb dX5_condition_53 (by decide) ?_
              refine lv_icmp_ne (tgt := 69) hx hb dX5_condition_55 (by decide) (fun c55 => by exfalso; have c55 : ¬ m25_L_4.toInt = 124 := z6 rfl (by decide) c55; omega) (fun c55 => ?_)
              have c55 : m25_L_4.toInt = 124 := z5 rfl (by decide) c55
              refine lv_iload_n hx hb dX5_condition_58 rfl (lv_at hl 2 rfl) ?_
              refine lv_if_eq (tgt := 69) hx hb dX5_condition_59 (by decide) (fun c59 => ?_) (fun c59 => ?_)
              · have c59 : m25_L_3.toInt = 0 := z5 rfl (by decide) c59
                refine lv_aload_n hx hb dX5_condition_69 rfl (lv_at hl 3 rfl) ?_
                refine va_get (D := (dC, dI)) (ci := 5) (v := .ref tp) (C := RX5) (T := TX5) (N := 3) hx hb hts iX5 hown hK hP 0 rfl rfl 2 (by decide) (hts _ qw172) (fun _ h9 => h9) rfl dX5_condition_70 ?_
                refine lv_dup hx hb dX5_condition_73 rfl ?_
                refine va_get (D := (dC, dI)) (ci := 9) (v := .int m25_F_tp_2) (C := RX9) (T := TX9) (N := 3) hx hb hts iX9 hown hK hP 2 rfl rfl 2 (by decide) (hts _ qw137) (fun _ h9 => h9) rfl dX5_condition_74 ?_
                refine lv_iconst (v := 1) hx hb dX5_condition_77 (by decide) ?_
                refine lv_iadd hx hb dX5_condition_78 ?_
                refine lv_topi (fun v78 e78 => ?_)
                have i78 : v78.toInt = m25_F_tp_2.toInt + 1 := zadd e78 rfl (by decide) (by omega) (by omega)
                refine va_put (D := (dC, dI)) (ci := 9) (v := .int v78) (ty := .int) (C := RX9) (T := TX9) (N := 3) hx hb hts iX9 tyX9 tyX9_ok nmX9 hown hK hP hD hS 2 rfl rfl 2 (by decide) (hts _ qw137) (fun _ h9 => h9) rfl (by decide +kernel) rfl rfl (Nat.le_of_ble_eq_true rfl) dX5_condition_79 (fun H locs hP9 hD9 hS9 => ?_)
                clear hP hD hS
                obtain ⟨hP, hD⟩ := zst (wX := [(h0, .inr (5, [.ref lS, .int m25_F_h0_1, .ref tp])), (lS, .inl (cI, 241, .inl m25_A_lS)), (tp, .inr (9, [.ref tB, .int tl, .int v78])), (tB, .inl (cI, 260, .inl fB))]) hP9 hD9 rfl
                have hS := hS9
                clear hP9 hD9 hS9
                refine lv_aload_n hx hb dX5_condition_82 rfl (lv_at hl 3 rfl) ?_
                refine lv_iload_n hx hb dX5_condition_83 rfl (lv_at hl 4 rfl) ?_
                refine lv_iconst (v := 0) hx hb dX5_condition_84 (by decide) ?_
                obtain ⟨hPc, hDc, hFc⟩ := zc3 (wc := [(h0, .inr (5, [.ref lS, .int m25_F_h0_1, .ref tp])), (lS, .inl (cI, 241, .inl m25_A_lS)), (tp, .inr (9, [.ref tB, .int tl, .int v78])), (tB, .inl (cI, 260, .inl fB))]) hP hD hS hA [0, 1, 2, 3] (by decide +kernel) rfl
                refine va_calli (va_runV (As := [.int 0, .int 0]) (rest := []) ⟨hx, hb, hml, hown, hts⟩ (zD_U6 l dC dI cI cJ h0 0 lS m25_F_h0_1 tp m25_A_lS tB tl v78 fB H.size (by decide) jf25_0 (by omega) n_tl (hty) (by omega) (by decide) jf25_12) (cwV 2 hts (zgV qw511 qw513 qw7 qw101 qw514) rfl rfl rfl hd_X5_unit ⟨by rw [hR]; exact Nat.le_of_ble_eq_true rfl, by rw [hR]; exact Nat.le_of_ble_eq_true rfl⟩) (zPWV hPc hK hDc (va_recv (q := (RX5, TX5, 3)) hK hP (ci := 5) (q0 := 0) rfl rfl) (zV_call hV hS hFc)) rfl rfl hl.1 rfl (lv_room (Nat.le_of_ble_eq_true rfl)) dX5_condition_85 ⟨Nat.zero_le _, Nat.zero_le _⟩) hS (fun q _ h => hFc q h) hFc (fun v85 u85 t H locs ht hvm hw hB hz1 hk1 hS9 => ?_)
                obtain ⟨u85_0, u85_1, u85_2⟩ := u85
                obtain ⟨hP9, hD9⟩ := zj2 (wX := [(h0, .inr (5, [.ref lS, .int u85_0, .ref tp])), (lS, .inl (cI, 241, .inl u85_1)), (tp, .inr (9, [.ref tB, .int tl, .int u85_2])), (tB, .inl (cI, 260, .inl fB))]) hP hD hk1 hFc ht hB [0, 1, 2, 3] [(true, 0), (true, 1), (true, 2), (true, 3)] rfl (by decide +kernel) (by decide +kernel) rfl
                clear hP hD hS hPc hDc hFc hB hk1 hz1 hvm
                have hP := hP9
                have hD := hD9
                have hS := hS9
                clear hP9 hD9 hS9
                obtain ⟨f85_0, f85_1, f85_2, f85_3, f85_4, f85_5, f85_6, f85_7, f85_8, f85_9, f85_10⟩ : (0 ≤ v85.toInt) ∧ (v85.toInt ≤ 1) ∧ (0 ≤ u85_0.toInt) ∧ (u85_0.toInt ≤ 241) ∧ (0 ≤ u85_2.toInt) ∧ (u85_2.toInt ≤ 240) ∧ (zF (sUn (sB fB tl.toInt) tl.toInt 6 v78.toInt) v85 u85_2) ∧ (¬ v85.toInt = 0 → v78.toInt < u85_2.toInt) ∧ (¬ v85.toInt = 0 → u85_0.toInt + v78.toInt ≤ m25_F_h0_1.toInt + u85_2.toInt) ∧ (¬ v85.toInt = 0 → zEm m25_A_lS m25_F_h0_1 (eUn (sB fB tl.toInt) tl.toInt 6 v78.toInt) u85_1 u85_0) ∧ (zSt u85_1) := hw
                have F85 := f85_6
                have F85_1 := f85_9
                refine lv_if_ne (tgt := 93) hx hb dX5_condition_88 (by decide) (fun c88 => ?_) (fun c88 => ?_)
                · have c88 : ¬ v85.toInt = 0 := z6 rfl (by decide) c88
                  refine lv_iload hx hb dX5_condition_93 (lv_at hl 1 rfl) ?_
                  refine lv_bipush (v := 38) hx hb dX5_condition_95 (by decide) ?_
                  refine lv_icmp_ne (tgt := 110) hx hb dX5_condition_97 (by decide) (fun c97 => ?_) (fun c97 => by exfalso; have c97 : m25_L_4.toInt = 38 := z5 rfl (by decide) c97; omega)
                  have c97 : ¬ m25_L_4.toInt = 38 := z6 rfl (by decide) c97
                  refine lv_iconst (v := 1) hx hb dX5_condition_110 (by decide) ?_
                  refine lv_istore_n (lv' := [(3, .int 1), (5, .int m25_L_5), (4, .int m25_L_4), (0, .ref h0), (1, .int 0), (2, .int 1)]) hx hb dX5_condition_111 rfl hl (by decide) rfl (fun ls hl => ?_)
                  refine lv_aload_n hx hb dX5_condition_112 rfl (lv_at hl 3 rfl) ?_
                  refine va_get (D := (dC, dI)) (ci := 5) (v := .ref tp) (C := RX5) (T := TX5) (N := 3) hx hb hts iX5 hown hK hP 0 rfl rfl 2 (by decide) (hts _ qw172) (fun _ h9 => h9) rfl dX5_condition_113 ?_
                  obtain ⟨hPc, hDc, hFc⟩ := zc3 (wc := [(tp, .inr (9, [.ref tB, .int tl, .int u85_2])), (tB, .inl (cI, 260, .inl fB))]) hP hD hS hA [2, 3] (by decide +kernel) rfl
                  refine va_calli (va_runV (As := []) (rest := []) ⟨hx, hb, hml, hown, hts⟩ (g_X9_peek l dC dI cI cJ tp tB tl u85_2 fB H.size ⟨f85_4, f85_5⟩ n_tl (hty)) (cwV 0 hts (zgV qw485 qw438 qw439 qw99 qw440) rfl rfl rfl hd_X9_peek ⟨by rw [hR]; exact Nat.le_of_ble_eq_true rfl, by rw [hR]; exact Nat.le_of_ble_eq_true rfl⟩) (zPV hPc hK hDc (va_recv (q := (RX9, TX9, 3)) hK hP (ci := 9) (q0 := 2) rfl rfl)) rfl rfl hl.1 rfl (lv_room (Nat.le_of_ble_eq_true rfl)) dX5_condition_116 ⟨Nat.zero_le _, Nat.zero_le _⟩) hS (fun q _ h => hFc q h) hFc (fun v116 u116 t H locs ht hvm hw hB hz1 hk1 hS9 => ?_)
                  obtain ⟨u116_0, rfl⟩ : ∃ z, z = u116 := ⟨_, rfl⟩
                  obtain ⟨hP9, hD9⟩ := zj2 (wX := [(h0, .inr (5, [.ref lS, .int u85_0, .ref tp])), (lS, .inl (cI, 241, .inl u85_1)), (tp, .inr (9, [.ref tB, .int tl, .int u116_0])), (tB, .inl (cI, 260, .inl fB))]) hP hD hk1 hFc ht hB [2, 3] [(false, 0), (false, 1), (true, 0), (true, 1)] rfl (by decide +kernel) (by decide +kernel) rfl
                  clear hP hD hS hPc hDc hFc hB hk1 hz1 hvm
                  have hP := hP9
                  have hD := hD9
                  have hS := hS9
                  clear hP9 hD9 hS9
                  obtain ⟨f116_0, f116_1, f116_2, f116_3, f116_4⟩ : (0 ≤ u116_0.toInt) ∧ (u116_0.toInt ≤ 240) ∧ (¬ v116.toInt = 0 → u116_0.toInt < tl.toInt) ∧ (u85_2.toInt ≤ u116_0.toInt) ∧ (zPK fB tl u85_2 v116 u116_0) := hw
                  have F116 := f116_4
                  refine lv_istore (lv' := [(4, .int v116), (3, .int 1), (5, .int m25_L_5), (0, .ref h0), (1, .int 0), (2, .int 1)]) hx hb dX5_condition_119 hl (by decide) rfl (fun ls hl => ?_)
                  obtain ⟨v121, e121⟩ : ∃ y : Int32, y = m25_L_5 + Int32.ofInt (1) := ⟨_, rfl⟩
                  refine lv_iinc (v := v121) (lv' := [(5, .int v121), (4, .int v116), (3, .int 1), (0, .ref h0), (1, .int 0), (2, .int 1)]) hx hb dX5_condition_121 hl (k := 2) rfl e121.symm (by decide) rfl (fun ls hl => ?_)
                  have i121 : v121.toInt = m25_L_5.toInt + 1 := zaddI e121 (by decide) (by omega) (by omega)
                  refine lv_goto (tgt := 25) hx hb dX5_condition_124 (by decide) ?_
                  have zj25_m25_L_3 : (1 : Int32).toInt = 1 := by decide
                  exact ih25 _ (by omega) u85_1 u85_0 u116_0 1 v116 v121 ⟨f85_2, f85_3⟩ ⟨f116_0, f116_1⟩ (by decide) (by omega) (by omega) (by omega) (fl_s jv25_0 jv25_1 (oC_iff.mpr (by omega)) (by decide) i78 F85 (by omega) (by omega) F116) (F116.2) (by omega) (by omega) (by omega) (by first | exact fse_y jv25_2 jv25_1 (oC_iff.mpr (by omega)) (by decide) i78 F85 (by omega) (by omega) F116 (oD_iff.mpr (by omega)) (F85_1 (by omega)) (F104 (by omega)) (by omega) (by omega) (by omega) | exact fse_n jv25_2 jv25_1 (oC_iff.mpr (by omega)) (by decide) i78 F85 (by omega) (by omega) F116 (fun z => by have := oD_iff.mp z; omega) (eW_0 (by omega)) (F85_1 (by omega)) (by omega) (by omega) (by omega) | exact fse_n jv25_2 jv25_1 (oC_iff.mpr (by omega)) (by decide) i78 F85 (by omega) (by omega) F116 (fun z => by have := oD_iff.mp z; omega) (eW_1 (by omega) (by omega) (F66 (by omega))) (F85_1 (by omega)) (by omega) (by omega) (by omega)) f85_10 rfl H locs ls hP hD hS (lv_sub hl [0, 1, 2, 3, 4, 5] rfl)
                · have c88 : v85.toInt = 0 := z5 rfl (by decide) c88
                  refine lv_iconst (v := 0) hx hb dX5_condition_91 (by decide) ?_
                  have zr0 : (0 : Int32).toInt = 0 := by decide
                  rw [hQ]
                  exact W.zret (v := 0) (ty := .boolean) hx hb hr rfl (fun t ht hW => ⟨⟨0, (u85_0, u85_1, u85_2), rfl, ⟨by (try dsimp only); omega, by (try dsimp only); omega, by (try dsimp only); omega, by (try dsimp only); omega, by (try dsimp only); omega, by (try dsimp only); omega, zF0 (fl_x jv25_0 jv25_1 (oC_iff.mpr (by omega)) (by decide) i78 F85 (by omega)), (fun z => absurd (by decide) z), by (try dsimp only); omega, (fun z => absurd (by decide) z), f85_10⟩, ⟨by rw [ht]; exact hP, hD⟩⟩, hS.F ht⟩) hS.2.2 dX5_condition_92
              · have c59 : ¬ m25_L_3.toInt = 0 := z6 rfl (by decide) c59
                refine lv_aload_n hx hb dX5_condition_62 rfl (lv_at hl 3 rfl) ?_
                refine lv_bipush (v := 124) hx hb dX5_condition_63 (by decide) ?_
                refine lv_iconst (v := 0) hx hb dX5_condition_65 (by decide) ?_
                obtain ⟨hPc, hDc, hFc⟩ := zc3 (wc := [(h0, .inr (5, [.ref lS, .int m25_F_h0_1, .ref tp])), (lS, .inl (cI, 241, .inl m25_A_lS))]) hP hD hS hA [0, 1] (by decide +kernel) rfl
                refine va_callv (va_runV (As := [.int 124, .int 0]) (rest := []) ⟨hx, hb, hml, hown, hts⟩ (g_X5_put_0 l dC dI cI cJ h0 124 lS m25_F_h0_1 tp m25_A_lS H.size (by decide) jf25_0 jf25_12) (cwV 2 hts (zgV qw496 qw498 qw5 qw101 qw499) rfl rfl rfl hd_X5_put ⟨by rw [hR]; exact Nat.le_of_ble_eq_true rfl, by rw [hR]; exact Nat.le_of_ble_eq_true rfl⟩) (zPV hPc hK hDc (va_recv (q := (RX5, TX5, 3)) hK hP (ci := 5) (q0 := 0) rfl rfl)) rfl rfl hl.1 rfl (lv_room (Nat.le_of_ble_eq_true rfl)) dX5_condition_66 ⟨Nat.zero_le _, Nat.zero_le _⟩) hS (fun q _ h => hFc q h) hFc (fun u66 t H locs ht hvm hw hB hz1 hk1 hS9 => ?_)
                obtain ⟨u66_0, u66_1⟩ := u66
                obtain ⟨hP9, hD9⟩ := zj2 (wX := [(h0, .inr (5, [.ref lS, .int u66_0, .ref tp])), (lS, .inl (cI, 241, .inl u66_1)), (tp, .inr (9, [.ref tB, .int tl, .int m25_F_tp_2])), (tB, .inl (cI, 260, .inl fB))]) hP hD hk1 hFc ht hB [0, 1] [(true, 0), (true, 1), (false, 2), (false, 3)] rfl (by decide +kernel) (by decide +kernel) rfl
                clear hP hD hS hPc hDc hFc hB hk1 hz1 hvm
                have hP := hP9
                have hD := hD9
                have hS := hS9
                clear hP9 hD9 hS9
                have zn66_124 : (124 : Int32).toInt = 124 := by decide
                obtain ⟨f66_0, f66_1, f66_2, f66_3, f66_4⟩ : (1 ≤ u66_0.toInt) ∧ (u66_0.toInt ≤ 241) ∧ (u66_0.toInt ≤ m25_F_h0_1.toInt + 1 ∧ m25_F_h0_1.toInt ≤ u66_0.toInt) ∧ (m25_F_h0_1.toInt < 241 → zEm m25_A_lS m25_F_h0_1 [((124 : Int32).toInt, 0)] u66_1 u66_0) ∧ (zSt u66_1) := hw
                have F66 := f66_3
                refine lv_aload_n hx hb dX5_condition_69 rfl (lv_at hl 3 rfl) ?_
                refine va_get (D := (dC, dI)) (ci := 5) (v := .ref tp) (C := RX5) (T := TX5) (N := 3) hx hb hts iX5 hown hK hP 0 rfl rfl 2 (by decide) (hts _ qw172) (fun _ h9 => h9) rfl dX5_condition_70 ?_
                refine lv_dup hx hb dX5_condition_73 rfl ?_
                refine va_get (D := (dC, dI)) (ci := 9) (v := .int m25_F_tp_2) (C := RX9) (T := TX9) (N := 3) hx hb hts iX9 hown hK hP 2 rfl rfl 2 (by decide) (hts _ qw137) (fun _ h9 => h9) rfl dX5_condition_74 ?_
                refine lv_iconst (v := 1) hx hb dX5_condition_77 (by decide) ?_
                refine lv_iadd hx hb dX5_condition_78 ?_
                refine lv_topi (fun v78 e78 => ?_)
                have i78 : v78.toInt = m25_F_tp_2.toInt + 1 := zadd e78 rfl (by decide) (by omega) (by omega)
                refine va_put (D := (dC, dI)) (ci := 9) (v := .int v78) (ty := .int) (C := RX9) (T := TX9) (N := 3) hx hb hts iX9 tyX9 tyX9_ok nmX9 hown hK hP hD hS 2 rfl rfl 2 (by decide) (hts _ qw137) (fun _ h9 => h9) rfl (by decide +kernel) rfl rfl (Nat.le_of_ble_eq_true rfl) dX5_condition_79 (fun H locs hP9 hD9 hS9 => ?_)
                clear hP hD hS
                obtain ⟨hP, hD⟩ := zst (wX := [(h0, .inr (5, [.ref lS, .int u66_0, .ref tp])), (lS, .inl (cI, 241, .inl u66_1)), (tp, .inr (9, [.ref tB, .int tl, .int v78])), (tB, .inl (cI, 260, .inl fB))]) hP9 hD9 rfl
                have hS := hS9
                clear hP9 hD9 hS9
                refine lv_aload_n hx hb dX5_condition_82 rfl (lv_at hl 3 rfl) ?_
                refine lv_iload_n hx hb dX5_condition_83 rfl (lv_at hl 4 rfl) ?_
                refine lv_iconst (v := 0) hx hb dX5_condition_84 (by decide) ?_
                obtain ⟨hPc, hDc, hFc⟩ := zc3 (wc := [(h0, .inr (5, [.ref lS, .int u66_0, .ref tp])), (lS, .inl (cI, 241, .inl u66_1)), (tp, .inr (9, [.ref tB, .int tl, .int v78])), (tB, .inl (cI, 260, .inl fB))]) hP hD hS hA [0, 1, 2, 3] (by decide +kernel) rfl
                refine va_calli (va_runV (As := [.int 0, .int 0]) (rest := []) ⟨hx, hb, hml, hown, hts⟩ (zD_U6 l dC dI cI cJ h0 0 lS u66_0 tp u66_1 tB tl v78 fB H.size (by decide) (by omega) (by omega) n_tl (hty) (by omega) (by decide) f66_4) (cwV 2 hts (zgV qw511 qw513 qw7 qw101 qw514) rfl rfl rfl hd_X5_unit ⟨by rw [hR]; exact Nat.le_of_ble_eq_true rfl, by rw [hR]; exact Nat.le_of_ble_eq_true rfl⟩) (zPWV hPc hK hDc (va_recv (q := (RX5, TX5, 3)) hK hP (ci := 5) (q0 := 0) rfl rfl) (zV_call hV hS hFc)) rfl rfl hl.1 rfl (lv_room (Nat.le_of_ble_eq_true rfl)) dX5_condition_85 ⟨Nat.zero_le _, Nat.zero_le _⟩) hS (fun q _ h => hFc q h) hFc (fun v85 u85 t H locs ht hvm hw hB hz1 hk1 hS9 => ?_)
                obtain ⟨u85_0, u85_1, u85_2⟩ := u85
                obtain ⟨hP9, hD9⟩ := zj2 (wX := [(h0, .inr (5, [.ref lS, .int u85_0, .ref tp])), (lS, .inl (cI, 241, .inl u85_1)), (tp, .inr (9, [.ref tB, .int tl, .int u85_2])), (tB, .inl (cI, 260, .inl fB))]) hP hD hk1 hFc ht hB [0, 1, 2, 3] [(true, 0), (true, 1), (true, 2), (true, 3)] rfl (by decide +kernel) (by decide +kernel) rfl
                clear hP hD hS hPc hDc hFc hB hk1 hz1 hvm
                have hP := hP9
                have hD := hD9
                have hS := hS9
                clear hP9 hD9 hS9
                obtain ⟨f85_0, f85_1, f85_2, f85_3, f85_4, f85_5, f85_6, f85_7, f85_8, f85_9, f85_10⟩ : (0 ≤ v85.toInt) ∧ (v85.toInt ≤ 1) ∧ (0 ≤ u85_0.toInt) ∧ (u85_0.toInt ≤ 241) ∧ (0 ≤ u85_2.toInt) ∧ (u85_2.toInt ≤ 240) ∧ (zF (sUn (sB fB tl.toInt) tl.toInt 6 v78.toInt) v85 u85_2) ∧ (¬ v85.toInt = 0 → v78.toInt < u85_2.toInt) ∧ (¬ v85.toInt = 0 → u85_0.toInt + v78.toInt ≤ u66_0.toInt + u85_2.toInt) ∧ (¬ v85.toInt = 0 → zEm u66_1 u66_0 (eUn (sB fB tl.toInt) tl.toInt 6 v78.toInt) u85_1 u85_0) ∧ (zSt u85_1) := hw
                have F85 := f85_6
                have F85_1 := f85_9
                refine lv_if_ne (tgt := 93) hx hb dX5_condition_88 (by decide) (fun c88 => ?_) (fun c88 => ?_)
                · have c88 : ¬ v85.toInt = 0 := z6 rfl (by decide) c88
                  refine lv_iload hx hb dX5_condition_93 (lv_at hl 1 rfl) ?_
                  refine lv_bipush (v := 38) hx hb dX5_condition_95 (by decide) ?_
                  refine lv_icmp_ne (tgt := 110) hx hb dX5_condition_97 (by decide) (fun c97 => ?_) (fun c97 => by exfalso; have c97 : m25_L_4.toInt = 38 := z5 rfl (by decide) c97; omega)
                  have c97 : ¬ m25_L_4.toInt = 38 := z6 rfl (by decide) c97
                  refine lv_iconst (v := 1) hx hb dX5_condition_110 (by decide) ?_
                  refine lv_istore_n (lv' := [(3, .int 1), (5, .int m25_L_5), (4, .int m25_L_4), (0, .ref h0), (1, .int 0), (2, .int 1)]) hx hb dX5_condition_111 rfl hl (by decide) rfl (fun ls hl => ?_)
                  refine lv_aload_n hx hb dX5_condition_112 rfl (lv_at hl 3 rfl) ?_
                  refine va_get (D := (dC, dI)) (ci := 5) (v := .ref tp) (C := RX5) (T := TX5) (N := 3) hx hb hts iX5 hown hK hP 0 rfl rfl 2 (by decide) (hts _ qw172) (fun _ h9 => h9) rfl dX5_condition_113 ?_
                  obtain ⟨hPc, hDc, hFc⟩ := zc3 (wc := [(tp, .inr (9, [.ref tB, .int tl, .int u85_2])), (tB, .inl (cI, 260, .inl fB))]) hP hD hS hA [2, 3] (by decide +kernel) rfl
                  refine va_calli (va_runV (As := []) (rest := []) ⟨hx, hb, hml, hown, hts⟩ (g_X9_peek l dC dI cI cJ tp tB tl u85_2 fB H.size ⟨f85_4, f85_5⟩ n_tl (hty)) (cwV 0 hts (zgV qw485 qw438 qw439 qw99 qw440) rfl rfl rfl hd_X9_peek ⟨by rw [hR]; exact Nat.le_of_ble_eq_true rfl, by rw [hR]; exact Nat.le_of_ble_eq_true rfl⟩) (zPV hPc hK hDc (va_recv (q := (RX9, TX9, 3)) hK hP (ci := 9) (q0 := 2) rfl rfl)) rfl rfl hl.1 rfl (lv_room (Nat.le_of_ble_eq_true rfl)) dX5_condition_116 ⟨Nat.zero_le _, Nat.zero_le _⟩) hS (fun q _ h => hFc q h) hFc (fun v116 u116 t H locs ht hvm hw hB hz1 hk1 hS9 => ?_)
                  obtain ⟨u116_0, rfl⟩ : ∃ z, z = u116 := ⟨_, rfl⟩
                  obtain ⟨hP9, hD9⟩ := zj2 (wX := [(h0, .inr (5, [.ref lS, .int u85_0, .ref tp])), (lS, .inl (cI, 241, .inl u85_1)), (tp, .inr (9, [.ref tB, .int tl, .int u116_0])), (tB, .inl (cI, 260, .inl fB))]) hP hD hk1 hFc ht hB [2, 3] [(false, 0), (false, 1), (true, 0), (true, 1)] rfl (by decide +kernel) (by decide +kernel) rfl
                  clear hP hD hS hPc hDc hFc hB hk1 hz1 hvm
                  have hP := hP9
                  have hD := hD9
                  have hS := hS9
                  clear hP9 hD9 hS9
                  obtain ⟨f116_0, f116_1, f116_2, f116_3, f116_4⟩ : (0 ≤ u116_0.toInt) ∧ (u116_0.toInt ≤ 240) ∧ (¬ v116.toInt = 0 → u116_0.toInt < tl.toInt) ∧ (u85_2.toInt ≤ u116_0.toInt) ∧ (zPK fB tl u85_2 v116 u116_0) := hw
                  have F116 := f116_4
                  refine lv_istore (lv' := [(4, .int v116), (3, .int 1), (5, .int m25_L_5), (0, .ref h0), (1, .int 0), (2, .int 1)]) hx hb dX5_condition_119 hl (by decide) rfl (fun ls hl => ?_)
                  obtain ⟨v121, e121⟩ : ∃ y : Int32, y = m25_L_5 + Int32.ofInt (1) := ⟨_, rfl⟩
                  refine lv_iinc (v := v121) (lv' := [(5, .int v121), (4, .int v116), (3, .int 1), (0, .ref h0), (1, .int 0), (2, .int 1)]) hx hb dX5_condition_121 hl (k := 2) rfl e121.symm (by decide) rfl (fun ls hl => ?_)
                  have i121 : v121.toInt = m25_L_5.toInt + 1 := zaddI e121 (by decide) (by omega) (by omega)
                  refine lv_goto (tgt := 25) hx hb dX5_condition_124 (by decide) ?_
                  have zj25_m25_L_3 : (1 : Int32).toInt = 1 := by decide
                  exact ih25 _ (by omega) u85_1 u85_0 u116_0 1 v116 v121 ⟨f85_2, f85_3⟩ ⟨f116_0, f116_1⟩ (by decide) (by omega) (by omega) (by omega) (fl_s jv25_0 jv25_1 (oC_iff.mpr (by omega)) (by decide) i78 F85 (by omega) (by omega) F116) (F116.2) (by omega) (by omega) (by omega) (by first | exact fse_y jv25_2 jv25_1 (oC_iff.mpr (by omega)) (by decide) i78 F85 (by omega) (by omega) F116 (oD_iff.mpr (by omega)) (F85_1 (by omega)) (F104 (by omega)) (by omega) (by omega) (by omega) | exact fse_n jv25_2 jv25_1 (oC_iff.mpr (by omega)) (by decide) i78 F85 (by omega) (by omega) F116 (fun z => by have := oD_iff.mp z; omega) (eW_0 (by omega)) (F85_1 (by omega)) (by omega) (by omega) (by omega) | exact fse_n jv25_2 jv25_1 (oC_iff.mpr (by omega)) (by decide) i78 F85 (by omega) (by omega) F116 (fun z => by have := oD_iff.mp z; omega) (eW_1 (by omega) (by omega) (F66 (by omega))) (F85_1 (by omega)) (by omega) (by omega) (by omega)) f85_10 rfl H locs ls hP hD hS (lv_sub hl [0, 1, 2, 3, 4, 5] rfl)
                · have c88 : v85.toInt = 0 := z5 rfl (by decide) c88
                  refine lv_iconst (v := 0) hx hb dX5_condition_91 (by decide) ?_
                  have zr0 : (0 : Int32).toInt = 0 := by decide
                  rw [hQ]
                  exact W.zret (v := 0) (ty := .boolean) hx hb hr rfl (fun t ht hW => ⟨⟨0, (u85_0, u85_1, u85_2), rfl, ⟨by (try dsimp only); omega, by (try dsimp only); omega, by (try dsimp only); omega, by (try dsimp only); omega, by (try dsimp only); omega, by (try dsimp only); omega, zF0 (fl_x jv25_0 jv25_1 (oC_iff.mpr (by omega)) (by decide) i78 F85 (by omega)), (fun z => absurd (by decide) z), by (try dsimp only); omega, (fun z => absurd (by decide) z), f85_10⟩, ⟨by rw [ht]; exact hP, hD⟩⟩, hS.F ht⟩) hS.2.2 dX5_condition_92
    refine lv_istore (lv' := [(5, .int 0), (4, .int v17), (3, .int 0), (0, .ref h0), (1, .int 0), (2, .int 1)]) hx hb dX5_condition_23 hl (by decide) rfl (fun ls hl => ?_)
    have zj25_m25_L_3 : (0 : Int32).toInt = 0 := by decide
    have zj25_m25_L_5 : (0 : Int32).toInt = 0 := by decide
    exact J25 _ u3_1 u3_0 u17_0 0 v17 0 ⟨f3_2, f3_3⟩ ⟨f17_0, f17_1⟩ (by decide) (by decide) (by omega) (by omega) (fg_b F3 (by omega) F17) (F17.2) (by omega) (by omega) (by omega) (fse_b rfl F3 (by omega) F17 (F3_1 (by omega)) (by decide)) f3_10 rfl H locs ls hP hD hS (lv_sub hl [0, 1, 2, 3, 4, 5] rfl)
  · have c6 : v3.toInt = 0 := z5 rfl (by decide) c6
    refine lv_iconst (v := 0) hx hb dX5_condition_9 (by decide) ?_
    have zr0 : (0 : Int32).toInt = 0 := by decide
    rw [hQ]
    exact W.zret (v := 0) (ty := .boolean) hx hb hr rfl (fun t ht hW => ⟨⟨0, (u3_0, u3_1, u3_2), rfl, ⟨by (try dsimp only); omega, by (try dsimp only); omega, by (try dsimp only); omega, by (try dsimp only); omega, by (try dsimp only); omega, by (try dsimp only); omega, zF0 (fg_0 F3 (by omega)), (fun z => absurd (by decide) z), by (try dsimp only); omega, (fun z => absurd (by decide) z), f3_10⟩, ⟨by rw [ht]; exact hP, hD⟩⟩, hS.F ht⟩) hS.2.2 dX5_condition_10
set_option maxHeartbeats 4000000 in
set_option maxRecDepth 100000 in
theorem g_X5_clause (l : Launch) (dC : Nat → ClassId) (dI : Nat → Nat → Nat) (cI cJ : ClassId) (h0 : Nat) (lS : Nat) (sz5 : Int32) (tp : Nat) (fS : Nat → Int32) (tB : Nat) (tl : Int32) (ta : Int32) (fB : Nat → Int32) (sz : Nat) (n_sz5 : 0 ≤ sz5.toInt ∧ sz5.toInt ≤ 241) (n_ta : 0 ≤ ta.toInt ∧ ta.toInt ≤ 240) (n_tl : 0 ≤ tl.toInt ∧ tl.toInt ≤ 240) (hty : zTy tl fB) (hsz : sz5.toInt ≤ ta.toInt) (ci_fS_zSt : zSt fS)  : Met l yX5_clause (.code yX5_clause cX5_clause 3 (some .boolean) :: wA) ({ frames := 37, cells := 0, slots := 0, locals := 706 }) (zPW (dC, dI) [(cI, .int), (cJ, .long)] [.ref h0] sz [(h0, .inr (5, [.ref lS, .int sz5, .ref tp])), (lS, .inl (cI, 241, .inl fS)), (tp, .inr (9, [.ref tB, .int tl, .int ta])), (tB, .inl (cI, 260, .inl fB))] (va_A [(h0, .inr (5, [.ref lS, .int sz5, .ref tp])), (lS, .inl (cI, 241, .inl fS)), (tp, .inr (9, [.ref tB, .int tl, .int ta])), (tB, .inl (cI, 260, .inl fB))] sz)) (va_Qi (fun (r : Int32) (u : Int32 × (Nat → Int32) × Int32) => (0 ≤ r.toInt) ∧ (r.toInt ≤ 1) ∧ (0 ≤ u.1.toInt) ∧ (u.1.toInt ≤ 241) ∧ (0 ≤ u.2.2.toInt) ∧ (u.2.2.toInt ≤ 240) ∧ (zF (sCl (sB fB tl.toInt) tl.toInt ta.toInt) r u.2.2) ∧ (¬ r.toInt = 0 → ta.toInt < u.2.2.toInt) ∧ (¬ r.toInt = 0 → u.1.toInt + ta.toInt ≤ sz5.toInt + u.2.2.toInt) ∧ (¬ r.toInt = 0 → zEm fS sz5 (eCl (sB fB tl.toInt) tl.toInt ta.toInt) u.2.1 u.1) ∧ (zSt u.2.1)) (fun (u : Int32 × (Nat → Int32) × Int32) (t : State) => va_P (dC, dI) vwCl [(h0, .inr (5, [.ref lS, .int u.1, .ref tp])), (lS, .inl (cI, 241, .inl u.2.1)), (tp, .inr (9, [.ref tB, .int tl, .int u.2.2])), (tB, .inl (cI, 260, .inl fB))] t.heap ∧ va_D (va_A [(h0, .inr (5, [.ref lS, .int sz5, .ref tp])), (lS, .inl (cI, 241, .inl fS)), (tp, .inr (9, [.ref tB, .int tl, .int ta])), (tB, .inl (cI, 260, .inl fB))] sz) [(h0, .inr (5, [.ref lS, .int u.1, .ref tp])), (lS, .inl (cI, 241, .inl u.2.1)), (tp, .inr (9, [.ref tB, .int tl, .int u.2.2])), (tB, .inl (cI, 260, .inl fB))]) (va_A [(h0, .inr (5, [.ref lS, .int sz5, .ref tp])), (lS, .inl (cI, 241, .inl fS)), (tp, .inr (9, [.ref tB, .int tl, .int ta])), (tB, .inl (cI, 260, .inl fB))] sz)) 0 0 (va_A [(h0, .inr (5, [.ref lS, .int sz5, .ref tp])), (lS, .inl (cI, 241, .inl fS)), (tp, .inr (9, [.ref tB, .int tl, .int ta])), (tB, .inl (cI, 260, .inl fB))] sz) := by
  refine Met.ofW (cc := cX5_clause) (maxL := 3) (ret := (some .boolean)) (by decide) rfl ?_
  intro p e s m args below meth c s₁ B hml hv
  obtain ⟨⟨hargs, hsz, hP, hK, hT⟩, hV⟩ := hv
  have hx := B.exec
  have hb := B.bytes
  have hr := B.returns
  have hts : ∀ w ∈ wA, w.before args s = true := fun w h => atoms_spec (ws := .code yX5_clause cX5_clause 3 (some .boolean) :: wA) B.pre w (List.mem_cons_of_mem _ h)
  have hown : s.vm.findClass RX5 = some m.cls := findClass_of_methodNamed B.named
  have hlocks := B.notSynchronized
  subst hsz
  have hD := hT.self (sz := s.heap.size)
  generalize hAe : va_A [(h0, .inr (5, [.ref lS, .int sz5, .ref tp])), (lS, .inl (cI, 241, .inl fS)), (tp, .inr (9, [.ref tB, .int tl, .int ta])), (tB, .inl (cI, 260, .inl fB))] s.heap.size = A at hD hV ⊢
  have hA : ∀ q : Nat, s.heap.size ≤ q → A q := fun q h => by rw [← hAe]; exact Or.inr h
  have hl := lv_entry ([.ref h0]) (n := 3) (Nat.le_of_ble_eq_true rfl)
  rw [show entryFrame m args 3 = entryFrame m ([.ref h0] : List Value).toArray 3 by rw [hargs], lg_entry_eq]
  generalize (lg_sl ([.ref h0]) ++ List.replicate (3 - (lg_sl ([.ref h0])).length) Slot.unset).toArray = ls at hl ⊢
  have hl : lv_has ls 3 [(0, .ref h0)] := hl
  refine zstart (fun H hH => ?_)
  rw [← hH] at hP
  have hS : va_S A s.heap H [] := by rw [hH]; exact va_S.rf
  generalize ([] : List Loc) = locs at hS ⊢
  refine zgen (fun R Q hR hQ => ?_)
  refine lv_aload_n hx hb dX5_clause_0 rfl (lv_at hl 0 rfl) ?_
  refine va_get (D := (dC, dI)) (ci := 5) (v := .ref tp) (C := RX5) (T := TX5) (N := 3) hx hb hts iX5 hown hK hP 0 rfl rfl 2 (by decide) (hts _ qw172) (fun _ h9 => h9) rfl dX5_clause_1 ?_
  refine lv_bipush (v := 121) hx hb dX5_clause_4 (by decide) ?_
  obtain ⟨hPc, hDc, hFc⟩ := zc3 (wc := [(tp, .inr (9, [.ref tB, .int tl, .int ta])), (tB, .inl (cI, 260, .inl fB))]) hP hD hS hA [2, 3] (by decide +kernel) rfl
  refine va_calli (va_runV (As := [.int 121]) (rest := []) ⟨hx, hb, hml, hown, hts⟩ (g_X9_takes l dC dI cI cJ tp 121 tB tl ta fB H.size (by decide) n_ta n_tl (hty)) (cwV 1 hts (zgV qw484 qw472 qw473 qw99 qw474) rfl rfl rfl hd_X9_takes ⟨by rw [hR]; exact Nat.le_of_ble_eq_true rfl, by rw [hR]; exact Nat.le_of_ble_eq_true rfl⟩) (zPV hPc hK hDc (va_recv (q := (RX9, TX9, 3)) hK hP (ci := 9) (q0 := 2) rfl rfl)) rfl rfl hl.1 rfl (lv_room (Nat.le_of_ble_eq_true rfl)) dX5_clause_6 ⟨Nat.zero_le _, Nat.zero_le _⟩) hS (fun q _ h => hFc q h) hFc (fun v6 u6 t H locs ht hvm hw hB hz1 hk1 hS9 => ?_)
  obtain ⟨u6_0, rfl⟩ : ∃ z, z = u6 := ⟨_, rfl⟩
  obtain ⟨hP9, hD9⟩ := zj2 (wX := [(h0, .inr (5, [.ref lS, .int sz5, .ref tp])), (lS, .inl (cI, 241, .inl fS)), (tp, .inr (9, [.ref tB, .int tl, .int u6_0])), (tB, .inl (cI, 260, .inl fB))]) hP hD hk1 hFc ht hB [2, 3] [(false, 0), (false, 1), (true, 0), (true, 1)] rfl (by decide +kernel) (by decide +kernel) rfl
  clear hP hD hS hPc hDc hFc hB hk1 hz1 hvm
  have hP := hP9
  have hD := hD9
  have hS := hS9
  clear hP9 hD9 hS9
  obtain ⟨f6_0, f6_1, f6_2, f6_3, f6_4, f6_5⟩ : (0 ≤ v6.toInt) ∧ (v6.toInt ≤ 1) ∧ (0 ≤ u6_0.toInt) ∧ (u6_0.toInt ≤ 240) ∧ (ta.toInt ≤ u6_0.toInt) ∧ (zTk fB tl ta 121 v6 u6_0) := hw
  have F6 := f6_5
  refine lv_if_eq (tgt := 24) hx hb dX5_clause_9 (by decide) (fun c9 => ?_) (fun c9 => ?_)
  · have c9 : v6.toInt = 0 := z5 rfl (by decide) c9
    refine lv_iconst (v := 0) hx hb dX5_clause_24 (by decide) ?_
    have zr0 : (0 : Int32).toInt = 0 := by decide
    rw [hQ]
    exact W.zret (v := 0) (ty := .boolean) hx hb hr rfl (fun t ht hW => ⟨⟨0, (sz5, fS, u6_0), rfl, ⟨by (try dsimp only); omega, by (try dsimp only); omega, by (try dsimp only); omega, by (try dsimp only); omega, by (try dsimp only); omega, by (try dsimp only); omega, zF0 (fc_y F6 (by omega)), (fun z => absurd (by decide) z), by (try dsimp only); omega, (fun z => absurd (by decide) z), ci_fS_zSt⟩, ⟨by rw [ht]; exact hP, hD⟩⟩, hS.F ht⟩) hS.2.2 dX5_clause_25
  · have c9 : ¬ v6.toInt = 0 := z6 rfl (by decide) c9
    refine lv_aload_n hx hb dX5_clause_12 rfl (lv_at hl 0 rfl) ?_
    refine va_get (D := (dC, dI)) (ci := 5) (v := .ref tp) (C := RX5) (T := TX5) (N := 3) hx hb hts iX5 hown hK hP 0 rfl rfl 2 (by decide) (hts _ qw172) (fun _ h9 => h9) rfl dX5_clause_13 ?_
    refine lv_bipush (v := 58) hx hb dX5_clause_16 (by decide) ?_
    obtain ⟨hPc, hDc, hFc⟩ := zc3 (wc := [(tp, .inr (9, [.ref tB, .int tl, .int u6_0])), (tB, .inl (cI, 260, .inl fB))]) hP hD hS hA [2, 3] (by decide +kernel) rfl
    refine va_calli (va_runV (As := [.int 58]) (rest := []) ⟨hx, hb, hml, hown, hts⟩ (g_X9_takes l dC dI cI cJ tp 58 tB tl u6_0 fB H.size (by decide) ⟨f6_2, f6_3⟩ n_tl (hty)) (cwV 1 hts (zgV qw484 qw472 qw473 qw99 qw474) rfl rfl rfl hd_X9_takes ⟨by rw [hR]; exact Nat.le_of_ble_eq_true rfl, by rw [hR]; exact Nat.le_of_ble_eq_true rfl⟩) (zPV hPc hK hDc (va_recv (q := (RX9, TX9, 3)) hK hP (ci := 9) (q0 := 2) rfl rfl)) rfl rfl hl.1 rfl (lv_room (Nat.le_of_ble_eq_true rfl)) dX5_clause_18 ⟨Nat.zero_le _, Nat.zero_le _⟩) hS (fun q _ h => hFc q h) hFc (fun v18 u18 t H locs ht hvm hw hB hz1 hk1 hS9 => ?_)
    obtain ⟨u18_0, rfl⟩ : ∃ z, z = u18 := ⟨_, rfl⟩
    obtain ⟨hP9, hD9⟩ := zj2 (wX := [(h0, .inr (5, [.ref lS, .int sz5, .ref tp])), (lS, .inl (cI, 241, .inl fS)), (tp, .inr (9, [.ref tB, .int tl, .int u18_0])), (tB, .inl (cI, 260, .inl fB))]) hP hD hk1 hFc ht hB [2, 3] [(false, 0), (false, 1), (true, 0), (true, 1)] rfl (by decide +kernel) (by decide +kernel) rfl
    clear hP hD hS hPc hDc hFc hB hk1 hz1 hvm
    have hP := hP9
    have hD := hD9
    have hS := hS9
    clear hP9 hD9 hS9
    obtain ⟨f18_0, f18_1, f18_2, f18_3, f18_4, f18_5⟩ : (0 ≤ v18.toInt) ∧ (v18.toInt ≤ 1) ∧ (0 ≤ u18_0.toInt) ∧ (u18_0.toInt ≤ 240) ∧ (u6_0.toInt ≤ u18_0.toInt) ∧ (zTk fB tl u6_0 58 v18 u18_0) := hw
    have F18 := f18_5
    refine lv_if_ne (tgt := 26) hx hb dX5_clause_21 (by decide) (fun c21 => ?_) (fun c21 => ?_)
    · have c21 : ¬ v18.toInt = 0 := z6 rfl (by decide) c21
      have q26 := zTkL F6 (by omega)
      have q26b := zTkL F18 (by omega)
      refine lv_aload_n hx hb dX5_clause_26 rfl (lv_at hl 0 rfl) ?_
      refine va_get (D := (dC, dI)) (ci := 5) (v := .ref tp) (C := RX5) (T := TX5) (N := 3) hx hb hts iX5 hown hK hP 0 rfl rfl 2 (by decide) (hts _ qw172) (fun _ h9 => h9) rfl dX5_clause_27 ?_
      obtain ⟨hPc, hDc, hFc⟩ := zc3 (wc := [(tp, .inr (9, [.ref tB, .int tl, .int u18_0])), (tB, .inl (cI, 260, .inl fB))]) hP hD hS hA [2, 3] (by decide +kernel) rfl
      refine va_calli (va_runV (As := []) (rest := []) ⟨hx, hb, hml, hown, hts⟩ (g_X9_peek l dC dI cI cJ tp tB tl u18_0 fB H.size ⟨f18_2, f18_3⟩ n_tl (hty)) (cwV 0 hts (zgV qw485 qw438 qw439 qw99 qw440) rfl rfl rfl hd_X9_peek ⟨by rw [hR]; exact Nat.le_of_ble_eq_true rfl, by rw [hR]; exact Nat.le_of_ble_eq_true rfl⟩) (zPV hPc hK hDc (va_recv (q := (RX9, TX9, 3)) hK hP (ci := 9) (q0 := 2) rfl rfl)) rfl rfl hl.1 rfl (lv_room (Nat.le_of_ble_eq_true rfl)) dX5_clause_30 ⟨Nat.zero_le _, Nat.zero_le _⟩) hS (fun q _ h => hFc q h) hFc (fun v30 u30 t H locs ht hvm hw hB hz1 hk1 hS9 => ?_)
      obtain ⟨u30_0, rfl⟩ : ∃ z, z = u30 := ⟨_, rfl⟩
      obtain ⟨hP9, hD9⟩ := zj2 (wX := [(h0, .inr (5, [.ref lS, .int sz5, .ref tp])), (lS, .inl (cI, 241, .inl fS)), (tp, .inr (9, [.ref tB, .int tl, .int u30_0])), (tB, .inl (cI, 260, .inl fB))]) hP hD hk1 hFc ht hB [2, 3] [(false, 0), (false, 1), (true, 0), (true, 1)] rfl (by decide +kernel) (by decide +kernel) rfl
      clear hP hD hS hPc hDc hFc hB hk1 hz1 hvm
      have hP := hP9
      have hD := hD9
      have hS := hS9
      clear hP9 hD9 hS9
      obtain ⟨f30_0, f30_1, f30_2, f30_3, f30_4⟩ : (0 ≤ u30_0.toInt) ∧ (u30_0.toInt ≤ 240) ∧ (¬ v30.toInt = 0 → u30_0.toInt < tl.toInt) ∧ (u18_0.toInt ≤ u30_0.toInt) ∧ (zPK fB tl u18_0 v30 u30_0) := hw
      have F30 := f30_4
      refine lv_istore_n (lv' := [(1, .int v30), (0, .ref h0)]) hx hb dX5_clause_33 rfl hl (by decide) rfl (fun ls hl => ?_)
      refine lv_iload_n hx hb dX5_clause_34 rfl (lv_at hl 0 rfl) ?_
      refine lv_bipush (v := 33) hx hb dX5_clause_35 (by decide) ?_
      refine lv_icmp_eq (tgt := 50) hx hb dX5_clause_37 (by decide) (fun c37 => ?_) (fun c37 => ?_)
      · have c37 : v30.toInt = 33 := z5 rfl (by decide) c37
        refine lv_iconst (v := 0) hx hb dX5_clause_50 (by decide) ?_
        refine lv_istore_n (lv' := [(2, .int 0), (1, .int v30), (0, .ref h0)]) hx hb dX5_clause_51 rfl hl (by decide) rfl (fun ls hl => ?_)
        refine lv_iload_n hx hb dX5_clause_52 rfl (lv_at hl 0 rfl) ?_
        refine lv_if_eq (tgt := 66) hx hb dX5_clause_53 (by decide) (fun _ => ?_) (fun c => absurd (by decide) c)
        refine lv_iload_n hx hb dX5_clause_66 rfl (lv_at hl 0 rfl) ?_
        refine lv_if_eq (tgt := 83) hx hb dX5_clause_67 (by decide) (fun _ => ?_) (fun c => absurd (by decide) c)
        refine lv_aload_n hx hb dX5_clause_83 rfl (lv_at hl 2 rfl) ?_
        refine lv_iconst (v := 0) hx hb dX5_clause_84 (by decide) ?_
        refine lv_iload_n hx hb dX5_clause_85 rfl (lv_at hl 0 rfl) ?_
        obtain ⟨hPc, hDc, hFc⟩ := zc3 (wc := [(h0, .inr (5, [.ref lS, .int sz5, .ref tp])), (lS, .inl (cI, 241, .inl fS)), (tp, .inr (9, [.ref tB, .int tl, .int u30_0])), (tB, .inl (cI, 260, .inl fB))]) hP hD hS hA [0, 1, 2, 3] (by decide +kernel) rfl
        refine va_calli (va_runV (As := [.int 0, .int 0]) (rest := []) ⟨hx, hb, hml, hown, hts⟩ (zD_C6 l dC dI cI cJ h0 0 lS sz5 tp fS tB tl u30_0 fB H.size (by decide) n_sz5 ⟨f30_0, f30_1⟩ n_tl (hty) (by omega) (by decide) ci_fS_zSt) (cwV 2 hts (zgV qw507 qw509 qw6 qw101 qw510) rfl rfl rfl hd_X5_condition ⟨by rw [hR]; exact Nat.le_of_ble_eq_true rfl, by rw [hR]; exact Nat.le_of_ble_eq_true rfl⟩) (zPWV hPc hK hDc (va_recv (q := (RX5, TX5, 3)) hK hP (ci := 5) (q0 := 0) rfl rfl) (zV_call hV hS hFc)) rfl rfl hl.1 rfl (lv_room (Nat.le_of_ble_eq_true rfl)) dX5_clause_86 ⟨Nat.zero_le _, Nat.zero_le _⟩) hS (fun q _ h => hFc q h) hFc (fun v86 u86 t H locs ht hvm hw hB hz1 hk1 hS9 => ?_)
        obtain ⟨u86_0, u86_1, u86_2⟩ := u86
        obtain ⟨hP9, hD9⟩ := zj2 (wX := [(h0, .inr (5, [.ref lS, .int u86_0, .ref tp])), (lS, .inl (cI, 241, .inl u86_1)), (tp, .inr (9, [.ref tB, .int tl, .int u86_2])), (tB, .inl (cI, 260, .inl fB))]) hP hD hk1 hFc ht hB [0, 1, 2, 3] [(true, 0), (true, 1), (true, 2), (true, 3)] rfl (by decide +kernel) (by decide +kernel) rfl
        clear hP hD hS hPc hDc hFc hB hk1 hz1 hvm
        have hP := hP9
        have hD := hD9
        have hS := hS9
        clear hP9 hD9 hS9
        obtain ⟨f86_0, f86_1, f86_2, f86_3, f86_4, f86_5, f86_6, f86_7, f86_8, f86_9, f86_10⟩ : (0 ≤ v86.toInt) ∧ (v86.toInt ≤ 1) ∧ (0 ≤ u86_0.toInt) ∧ (u86_0.toInt ≤ 241) ∧ (0 ≤ u86_2.toInt) ∧ (u86_2.toInt ≤ 240) ∧ (zF (sCon (sB fB tl.toInt) tl.toInt 6 u30_0.toInt) v86 u86_2) ∧ (¬ v86.toInt = 0 → u30_0.toInt < u86_2.toInt) ∧ (¬ v86.toInt = 0 → u86_0.toInt + u30_0.toInt ≤ sz5.toInt + u86_2.toInt) ∧ (¬ v86.toInt = 0 → zEm fS sz5 (eCon (sB fB tl.toInt) tl.toInt 6 u30_0.toInt) u86_1 u86_0) ∧ (zSt u86_1) := hw
        have F86 := f86_6
        have F86_1 := f86_9
        refine lv_if_eq (tgt := 104) hx hb dX5_clause_89 (by decide) (fun c89 => ?_) (fun c89 => ?_)
        · have c89 : v86.toInt = 0 := z5 rfl (by decide) c89
          refine lv_iconst (v := 0) hx hb dX5_clause_104 (by decide) ?_
          have zr0 : (0 : Int32).toInt = 0 := by decide
          rw [hQ]
          exact W.zret (v := 0) (ty := .boolean) hx hb hr rfl (fun t ht hW => ⟨⟨0, (u86_0, u86_1, u86_2), rfl, ⟨by (try dsimp only); omega, by (try dsimp only); omega, by (try dsimp only); omega, by (try dsimp only); omega, by (try dsimp only); omega, by (try dsimp only); omega, zF0 (fc_2 F6 (by omega) F18 (by omega) (fm_0 (fc_t F30 (by omega) F86) (by omega))), (fun z => absurd (by decide) z), by (try dsimp only); omega, (fun z => absurd (by decide) z), f86_10⟩, ⟨by rw [ht]; exact hP, hD⟩⟩, hS.F ht⟩) hS.2.2 dX5_clause_105
        · have c89 : ¬ v86.toInt = 0 := z6 rfl (by decide) c89
          refine lv_aload_n hx hb dX5_clause_92 rfl (lv_at hl 2 rfl) ?_
          refine va_get (D := (dC, dI)) (ci := 5) (v := .ref tp) (C := RX5) (T := TX5) (N := 3) hx hb hts iX5 hown hK hP 0 rfl rfl 2 (by decide) (hts _ qw172) (fun _ h9 => h9) rfl dX5_clause_93 ?_
          refine lv_bipush (v := 63) hx hb dX5_clause_96 (by decide) ?_
          obtain ⟨hPc, hDc, hFc⟩ := zc3 (wc := [(tp, .inr (9, [.ref tB, .int tl, .int u86_2])), (tB, .inl (cI, 260, .inl fB))]) hP hD hS hA [2, 3] (by decide +kernel) rfl
          refine va_calli (va_runV (As := [.int 63]) (rest := []) ⟨hx, hb, hml, hown, hts⟩ (g_X9_takes l dC dI cI cJ tp 63 tB tl u86_2 fB H.size (by decide) ⟨f86_4, f86_5⟩ n_tl (hty)) (cwV 1 hts (zgV qw484 qw472 qw473 qw99 qw474) rfl rfl rfl hd_X9_takes ⟨by rw [hR]; exact Nat.le_of_ble_eq_true rfl, by rw [hR]; exact Nat.le_of_ble_eq_true rfl⟩) (zPV hPc hK hDc (va_recv (q := (RX9, TX9, 3)) hK hP (ci := 9) (q0 := 2) rfl rfl)) rfl rfl hl.1 rfl (lv_room (Nat.le_of_ble_eq_true rfl)) dX5_clause_98 ⟨Nat.zero_le _, Nat.zero_le _⟩) hS (fun q _ h => hFc q h) hFc (fun v98 u98 t H locs ht hvm hw hB hz1 hk1 hS9 => ?_)
          obtain ⟨u98_0, rfl⟩ : ∃ z, z = u98 := ⟨_, rfl⟩
          obtain ⟨hP9, hD9⟩ := zj2 (wX := [(h0, .inr (5, [.ref lS, .int u86_0, .ref tp])), (lS, .inl (cI, 241, .inl u86_1)), (tp, .inr (9, [.ref tB, .int tl, .int u98_0])), (tB, .inl (cI, 260, .inl fB))]) hP hD hk1 hFc ht hB [2, 3] [(false, 0), (false, 1), (true, 0), (true, 1)] rfl (by decide +kernel) (by decide +kernel) rfl
          clear hP hD hS hPc hDc hFc hB hk1 hz1 hvm
          have hP := hP9
          have hD := hD9
          have hS := hS9
          clear hP9 hD9 hS9
          obtain ⟨f98_0, f98_1, f98_2, f98_3, f98_4, f98_5⟩ : (0 ≤ v98.toInt) ∧ (v98.toInt ≤ 1) ∧ (0 ≤ u98_0.toInt) ∧ (u98_0.toInt ≤ 240) ∧ (u86_2.toInt ≤ u98_0.toInt) ∧ (zTk fB tl u86_2 63 v98 u98_0) := hw
          have F98 := f98_5
          refine lv_if_ne (tgt := 106) hx hb dX5_clause_101 (by decide) (fun c101 => ?_) (fun c101 => ?_)
          · have c101 : ¬ v98.toInt = 0 := z6 rfl (by decide) c101
            have q106 := zTkL F98 (by omega)
            refine lv_aload_n hx hb dX5_clause_106 rfl (lv_at hl 2 rfl) ?_
            refine lv_bipush (v := 63) hx hb dX5_clause_107 (by decide) ?_
            refine lv_iconst (v := 0) hx hb dX5_clause_109 (by decide) ?_
            obtain ⟨hPc, hDc, hFc⟩ := zc3 (wc := [(h0, .inr (5, [.ref lS, .int u86_0, .ref tp])), (lS, .inl (cI, 241, .inl u86_1))]) hP hD hS hA [0, 1] (by decide +kernel) rfl
            refine va_callv (va_runV (As := [.int 63, .int 0]) (rest := []) ⟨hx, hb, hml, hown, hts⟩ (g_X5_put_0 l dC dI cI cJ h0 63 lS u86_0 tp u86_1 H.size (by decide) ⟨f86_2, f86_3⟩ f86_10) (cwV 2 hts (zgV qw496 qw498 qw5 qw101 qw499) rfl rfl rfl hd_X5_put ⟨by rw [hR]; exact Nat.le_of_ble_eq_true rfl, by rw [hR]; exact Nat.le_of_ble_eq_true rfl⟩) (zPV hPc hK hDc (va_recv (q := (RX5, TX5, 3)) hK hP (ci := 5) (q0 := 0) rfl rfl)) rfl rfl hl.1 rfl (lv_room (Nat.le_of_ble_eq_true rfl)) dX5_clause_110 ⟨Nat.zero_le _, Nat.zero_le _⟩) hS (fun q _ h => hFc q h) hFc (fun u110 t H locs ht hvm hw hB hz1 hk1 hS9 => ?_)
            obtain ⟨u110_0, u110_1⟩ := u110
            obtain ⟨hP9, hD9⟩ := zj2 (wX := [(h0, .inr (5, [.ref lS, .int u110_0, .ref tp])), (lS, .inl (cI, 241, .inl u110_1)), (tp, .inr (9, [.ref tB, .int tl, .int u98_0])), (tB, .inl (cI, 260, .inl fB))]) hP hD hk1 hFc ht hB [0, 1] [(true, 0), (true, 1), (false, 2), (false, 3)] rfl (by decide +kernel) (by decide +kernel) rfl
            clear hP hD hS hPc hDc hFc hB hk1 hz1 hvm
            have hP := hP9
            have hD := hD9
            have hS := hS9
            clear hP9 hD9 hS9
            have zn110_63 : (63 : Int32).toInt = 63 := by decide
            obtain ⟨f110_0, f110_1, f110_2, f110_3, f110_4⟩ : (1 ≤ u110_0.toInt) ∧ (u110_0.toInt ≤ 241) ∧ (u110_0.toInt ≤ u86_0.toInt + 1 ∧ u86_0.toInt ≤ u110_0.toInt) ∧ (u86_0.toInt < 241 → zEm u86_1 u86_0 [((63 : Int32).toInt, 0)] u110_1 u110_0) ∧ (zSt u110_1) := hw
            have F110 := f110_3
            refine lv_aload_n hx hb dX5_clause_113 rfl (lv_at hl 2 rfl) ?_
            refine lv_iconst (v := 0) hx hb dX5_clause_114 (by decide) ?_
            obtain ⟨hPc, hDc, hFc⟩ := zc3 (wc := [(h0, .inr (5, [.ref lS, .int u110_0, .ref tp])), (lS, .inl (cI, 241, .inl u110_1)), (tp, .inr (9, [.ref tB, .int tl, .int u98_0])), (tB, .inl (cI, 260, .inl fB))]) hP hD hS hA [0, 1, 2, 3] (by decide +kernel) rfl
            refine va_calli (va_runV (As := [.int 0]) (rest := []) ⟨hx, hb, hml, hown, hts⟩ (zD_S6 l dC dI cI cJ h0 0 lS u110_0 tp u110_1 tB tl u98_0 fB H.size (by decide) (by omega) ⟨f98_2, f98_3⟩ n_tl (hty) (by omega) (by decide) f110_4) (cwV 1 hts (zgV qw486 qw488 qw3 qw101 qw489) rfl rfl rfl hd_X5_sum ⟨by rw [hR]; exact Nat.le_of_ble_eq_true rfl, by rw [hR]; exact Nat.le_of_ble_eq_true rfl⟩) (zPWV hPc hK hDc (va_recv (q := (RX5, TX5, 3)) hK hP (ci := 5) (q0 := 0) rfl rfl) (zV_call hV hS hFc)) rfl rfl hl.1 rfl (lv_room (Nat.le_of_ble_eq_true rfl)) dX5_clause_115 ⟨Nat.zero_le _, Nat.zero_le _⟩) hS (fun q _ h => hFc q h) hFc (fun v115 u115 t H locs ht hvm hw hB hz1 hk1 hS9 => ?_)
            obtain ⟨u115_0, u115_1, u115_2⟩ := u115
            obtain ⟨hP9, hD9⟩ := zj2 (wX := [(h0, .inr (5, [.ref lS, .int u115_0, .ref tp])), (lS, .inl (cI, 241, .inl u115_1)), (tp, .inr (9, [.ref tB, .int tl, .int u115_2])), (tB, .inl (cI, 260, .inl fB))]) hP hD hk1 hFc ht hB [0, 1, 2, 3] [(true, 0), (true, 1), (true, 2), (true, 3)] rfl (by decide +kernel) (by decide +kernel) rfl
            clear hP hD hS hPc hDc hFc hB hk1 hz1 hvm
            have hP := hP9
            have hD := hD9
            have hS := hS9
            clear hP9 hD9 hS9
            obtain ⟨f115_0, f115_1, f115_2, f115_3, f115_4, f115_5, f115_6, f115_7, f115_8, f115_9, f115_10⟩ : (0 ≤ v115.toInt) ∧ (v115.toInt ≤ 1) ∧ (0 ≤ u115_0.toInt) ∧ (u115_0.toInt ≤ 241) ∧ (0 ≤ u115_2.toInt) ∧ (u115_2.toInt ≤ 240) ∧ (zF (sSum (sB fB tl.toInt) tl.toInt 6 u98_0.toInt) v115 u115_2) ∧ (¬ v115.toInt = 0 → u98_0.toInt < u115_2.toInt) ∧ (¬ v115.toInt = 0 → u115_0.toInt + u98_0.toInt ≤ u110_0.toInt + u115_2.toInt) ∧ (¬ v115.toInt = 0 → zEm u110_1 u110_0 (eSum (sB fB tl.toInt) tl.toInt 6 u98_0.toInt) u115_1 u115_0) ∧ (zSt u115_1) := hw
            have F115 := f115_6
            have F115_1 := f115_9
            refine lv_if_ne (tgt := 123) hx hb dX5_clause_118 (by decide) (fun c118 => ?_) (fun c118 => ?_)
            · have c118 : ¬ v115.toInt = 0 := z6 rfl (by decide) c118
              refine lv_aload_n hx hb dX5_clause_123 rfl (lv_at hl 2 rfl) ?_
              refine lv_bipush (v := 59) hx hb dX5_clause_124 (by decide) ?_
              refine lv_iconst (v := 0) hx hb dX5_clause_126 (by decide) ?_
              obtain ⟨hPc, hDc, hFc⟩ := zc3 (wc := [(h0, .inr (5, [.ref lS, .int u115_0, .ref tp])), (lS, .inl (cI, 241, .inl u115_1))]) hP hD hS hA [0, 1] (by decide +kernel) rfl
              refine va_callv (va_runV (As := [.int 59, .int 0]) (rest := []) ⟨hx, hb, hml, hown, hts⟩ (g_X5_put_0 l dC dI cI cJ h0 59 lS u115_0 tp u115_1 H.size (by decide) ⟨f115_2, f115_3⟩ f115_10) (cwV 2 hts (zgV qw496 qw498 qw5 qw101 qw499) rfl rfl rfl hd_X5_put ⟨by rw [hR]; exact Nat.le_of_ble_eq_true rfl, by rw [hR]; exact Nat.le_of_ble_eq_true rfl⟩) (zPV hPc hK hDc (va_recv (q := (RX5, TX5, 3)) hK hP (ci := 5) (q0 := 0) rfl rfl)) rfl rfl hl.1 rfl (lv_room (Nat.le_of_ble_eq_true rfl)) dX5_clause_127 ⟨Nat.zero_le _, Nat.zero_le _⟩) hS (fun q _ h => hFc q h) hFc (fun u127 t H locs ht hvm hw hB hz1 hk1 hS9 => ?_)
              obtain ⟨u127_0, u127_1⟩ := u127
              obtain ⟨hP9, hD9⟩ := zj2 (wX := [(h0, .inr (5, [.ref lS, .int u127_0, .ref tp])), (lS, .inl (cI, 241, .inl u127_1)), (tp, .inr (9, [.ref tB, .int tl, .int u115_2])), (tB, .inl (cI, 260, .inl fB))]) hP hD hk1 hFc ht hB [0, 1] [(true, 0), (true, 1), (false, 2), (false, 3)] rfl (by decide +kernel) (by decide +kernel) rfl
              clear hP hD hS hPc hDc hFc hB hk1 hz1 hvm
              have hP := hP9
              have hD := hD9
              have hS := hS9
              clear hP9 hD9 hS9
              have zn127_59 : (59 : Int32).toInt = 59 := by decide
              obtain ⟨f127_0, f127_1, f127_2, f127_3, f127_4⟩ : (1 ≤ u127_0.toInt) ∧ (u127_0.toInt ≤ 241) ∧ (u127_0.toInt ≤ u115_0.toInt + 1 ∧ u115_0.toInt ≤ u127_0.toInt) ∧ (u115_0.toInt < 241 → zEm u115_1 u115_0 [((59 : Int32).toInt, 0)] u127_1 u127_0) ∧ (zSt u127_1) := hw
              have F127 := f127_3
              refine lv_iconst (v := 1) hx hb dX5_clause_130 (by decide) ?_
              have zr0 : (1 : Int32).toInt = 1 := by decide
              rw [hQ]
              exact W.zret (v := 1) (ty := .boolean) hx hb hr rfl (fun t ht hW => ⟨⟨1, (u127_0, u127_1, u115_2), rfl, ⟨by (try dsimp only); omega, by (try dsimp only); omega, by (try dsimp only); omega, by (try dsimp only); omega, by (try dsimp only); omega, by (try dsimp only); omega, zF1 (fc_2 F6 (by omega) F18 (by omega) ((fm_y (fc_t F30 (by omega) F86) (by omega) F98 (by omega) F115).trans (by rw [show v115.toInt = 1 by omega]))), (fun _ => zFm (x := sCl (sB fB tl.toInt) tl.toInt) (sCl_mono (sB fB tl.toInt) tl.toInt) (zF1 (fc_2 F6 (by omega) F18 (by omega) ((fm_y (fc_t F30 (by omega) F86) (by omega) F98 (by omega) F115).trans (by rw [show v115.toInt = 1 by omega]))))), by (try dsimp only); omega, (fun _ => eCl_em F6 (by omega) F18 (by omega) (eCl2_t F30 (by omega) F86 (by omega) F98 (by omega) (F86_1 (by omega)) (F110 (by omega)) (F115_1 (by omega)) (F127 (by omega)) (by omega) (by omega) (by omega))), f127_4⟩, ⟨by rw [ht]; exact hP, hD⟩⟩, hS.F ht⟩) hS.2.2 dX5_clause_131
            · have c118 : v115.toInt = 0 := z5 rfl (by decide) c118
              refine lv_iconst (v := 0) hx hb dX5_clause_121 (by decide) ?_
              have zr0 : (0 : Int32).toInt = 0 := by decide
              rw [hQ]
              exact W.zret (v := 0) (ty := .boolean) hx hb hr rfl (fun t ht hW => ⟨⟨0, (u115_0, u115_1, u115_2), rfl, ⟨by (try dsimp only); omega, by (try dsimp only); omega, by (try dsimp only); omega, by (try dsimp only); omega, by (try dsimp only); omega, by (try dsimp only); omega, zF0 (fc_2 F6 (by omega) F18 (by omega) ((fm_y (fc_t F30 (by omega) F86) (by omega) F98 (by omega) F115).trans (by rw [show v115.toInt = 0 by omega]))), (fun z => absurd (by decide) z), by (try dsimp only); omega, (fun z => absurd (by decide) z), f115_10⟩, ⟨by rw [ht]; exact hP, hD⟩⟩, hS.F ht⟩) hS.2.2 dX5_clause_122
          · have c101 : v98.toInt = 0 := z5 rfl (by decide) c101
            refine lv_iconst (v := 0) hx hb dX5_clause_104 (by decide) ?_
            have zr0 : (0 : Int32).toInt = 0 := by decide
            rw [hQ]
            exact W.zret (v := 0) (ty := .boolean) hx hb hr rfl (fun t ht hW => ⟨⟨0, (u86_0, u86_1, u98_0), rfl, ⟨by (try dsimp only); omega, by (try dsimp only); omega, by (try dsimp only); omega, by (try dsimp only); omega, by (try dsimp only); omega, by (try dsimp only); omega, zF0 (fc_2 F6 (by omega) F18 (by omega) (fm_n (fc_t F30 (by omega) F86) (by omega) F98 (by omega))), (fun z => absurd (by decide) z), by (try dsimp only); omega, (fun z => absurd (by decide) z), f86_10⟩, ⟨by rw [ht]; exact hP, hD⟩⟩, hS.F ht⟩) hS.2.2 dX5_clause_105
      · have c37 : ¬ v30.toInt = 33 := z6 rfl (by decide) c37
        refine lv_iload_n hx hb dX5_clause_40 rfl (lv_at hl 0 rfl) ?_
        refine lv_bipush (v := 40) hx hb dX5_clause_41 (by decide) ?_
        refine lv_icmp_eq (tgt := 50) hx hb dX5_clause_43 (by decide) (fun c43 => ?_) (fun c43 => ?_)
        · have c43 : v30.toInt = 40 := z5 rfl (by decide) c43
          refine lv_iconst (v := 0) hx hb dX5_clause_50 (by decide) ?_
          refine lv_istore_n (lv' := [(2, .int 0), (1, .int v30), (0, .ref h0)]) hx hb dX5_clause_51 rfl hl (by decide) rfl (fun ls hl => ?_)
          refine lv_iload_n hx hb dX5_clause_52 rfl (lv_at hl 0 rfl) ?_
          refine lv_if_eq (tgt := 66) hx hb dX5_clause_53 (by decide) (fun _ => ?_) (fun c => absurd (by decide) c)
          refine lv_iload_n hx hb dX5_clause_66 rfl (lv_at hl 0 rfl) ?_
          refine lv_if_eq (tgt := 83) hx hb dX5_clause_67 (by decide) (fun _ => ?_) (fun c => absurd (by decide) c)
          refine lv_aload_n hx hb dX5_clause_83 rfl (lv_at hl 2 rfl) ?_
          refine lv_iconst (v := 0) hx hb dX5_clause_84 (by decide) ?_
          refine lv_iload_n hx hb dX5_clause_85 rfl (lv_at hl 0 rfl) ?_
          obtain ⟨hPc, hDc, hFc⟩ := zc3 (wc := [(h0, .inr (5, [.ref lS, .int sz5, .ref tp])), (lS, .inl (cI, 241, .inl fS)), (tp, .inr (9, [.ref tB, .int tl, .int u30_0])), (tB, .inl (cI, 260, .inl fB))]) hP hD hS hA [0, 1, 2, 3] (by decide +kernel) rfl
          refine va_calli (va_runV (As := [.int 0, .int 0]) (rest := []) ⟨hx, hb, hml, hown, hts⟩ (zD_C6 l dC dI cI cJ h0 0 lS sz5 tp fS tB tl u30_0 fB H.size (by decide) n_sz5 ⟨f30_0, f30_1⟩ n_tl (hty) (by omega) (by decide) ci_fS_zSt) (cwV 2 hts (zgV qw507 qw509 qw6 qw101 qw510) rfl rfl rfl hd_X5_condition ⟨by rw [hR]; exact Nat.le_of_ble_eq_true rfl, by rw [hR]; exact Nat.le_of_ble_eq_true rfl⟩) (zPWV hPc hK hDc (va_recv (q := (RX5, TX5, 3)) hK hP (ci := 5) (q0 := 0) rfl rfl) (zV_call hV hS hFc)) rfl rfl hl.1 rfl (lv_room (Nat.le_of_ble_eq_true rfl)) dX5_clause_86 ⟨Nat.zero_le _, Nat.zero_le _⟩) hS (fun q _ h => hFc q h) hFc (fun v86 u86 t H locs ht hvm hw hB hz1 hk1 hS9 => ?_)
          obtain ⟨u86_0, u86_1, u86_2⟩ := u86
          obtain ⟨hP9, hD9⟩ := zj2 (wX := [(h0, .inr (5, [.ref lS, .int u86_0, .ref tp])), (lS, .inl (cI, 241, .inl u86_1)), (tp, .inr (9, [.ref tB, .int tl, .int u86_2])), (tB, .inl (cI, 260, .inl fB))]) hP hD hk1 hFc ht hB [0, 1, 2, 3] [(true, 0), (true, 1), (true, 2), (true, 3)] rfl (by decide +kernel) (by decide +kernel) rfl
          clear hP hD hS hPc hDc hFc hB hk1 hz1 hvm
          have hP := hP9
          have hD := hD9
          have hS := hS9
          clear hP9 hD9 hS9
          obtain ⟨f86_0, f86_1, f86_2, f86_3, f86_4, f86_5, f86_6, f86_7, f86_8, f86_9, f86_10⟩ : (0 ≤ v86.toInt) ∧ (v86.toInt ≤ 1) ∧ (0 ≤ u86_0.toInt) ∧ (u86_0.toInt ≤ 241) ∧ (0 ≤ u86_2.toInt) ∧ (u86_2.toInt ≤ 240) ∧ (zF (sCon (sB fB tl.toInt) tl.toInt 6 u30_0.toInt) v86 u86_2) ∧ (¬ v86.toInt = 0 → u30_0.toInt < u86_2.toInt) ∧ (¬ v86.toInt = 0 → u86_0.toInt + u30_0.toInt ≤ sz5.toInt + u86_2.toInt) ∧ (¬ v86.toInt = 0 → zEm fS sz5 (eCon (sB fB tl.toInt) tl.toInt 6 u30_0.toInt) u86_1 u86_0) ∧ (zSt u86_1) := hw
          have F86 := f86_6
          have F86_1 := f86_9
          refine lv_if_eq (tgt := 104) hx hb dX5_clause_89 (by decide) (fun c89 => ?_) (fun c89 => ?_)
          · have c89 : v86.toInt = 0 := z5 rfl (by decide) c89
            refine lv_iconst (v := 0) hx hb dX5_clause_104 (by decide) ?_
            have zr0 : (0 : Int32).toInt = 0 := by decide
            rw [hQ]
            exact W.zret (v := 0) (ty := .boolean) hx hb hr rfl (fun t ht hW => ⟨⟨0, (u86_0, u86_1, u86_2), rfl, ⟨by (try dsimp only); omega, by (try dsimp only); omega, by (try dsimp only); omega, by (try dsimp only); omega, by (try dsimp only); omega, by (try dsimp only); omega, zF0 (fc_2 F6 (by omega) F18 (by omega) (fm_0 (fc_t F30 (by omega) F86) (by omega))), (fun z => absurd (by decide) z), by (try dsimp only); omega, (fun z => absurd (by decide) z), f86_10⟩, ⟨by rw [ht]; exact hP, hD⟩⟩, hS.F ht⟩) hS.2.2 dX5_clause_105
          · have c89 : ¬ v86.toInt = 0 := z6 rfl (by decide) c89
            refine lv_aload_n hx hb dX5_clause_92 rfl (lv_at hl 2 rfl) ?_
            refine va_get (D := (dC, dI)) (ci := 5) (v := .ref tp) (C := RX5) (T := TX5) (N := 3) hx hb hts iX5 hown hK hP 0 rfl rfl 2 (by decide) (hts _ qw172) (fun _ h9 => h9) rfl dX5_clause_93 ?_
            refine lv_bipush (v := 63) hx hb dX5_clause_96 (by decide) ?_
            obtain ⟨hPc, hDc, hFc⟩ := zc3 (wc := [(tp, .inr (9, [.ref tB, .int tl, .int u86_2])), (tB, .inl (cI, 260, .inl fB))]) hP hD hS hA [2, 3] (by decide +kernel) rfl
            refine va_calli (va_runV (As := [.int 63]) (rest := []) ⟨hx, hb, hml, hown, hts⟩ (g_X9_takes l dC dI cI cJ tp 63 tB tl u86_2 fB H.size (by decide) ⟨f86_4, f86_5⟩ n_tl (hty)) (cwV 1 hts (zgV qw484 qw472 qw473 qw99 qw474) rfl rfl rfl hd_X9_takes ⟨by rw [hR]; exact Nat.le_of_ble_eq_true rfl, by rw [hR]; exact Nat.le_of_ble_eq_true rfl⟩) (zPV hPc hK hDc (va_recv (q := (RX9, TX9, 3)) hK hP (ci := 9) (q0 := 2) rfl rfl)) rfl rfl hl.1 rfl (lv_room (Nat.le_of_ble_eq_true rfl)) dX5_clause_98 ⟨Nat.zero_le _, Nat.zero_le _⟩) hS (fun q _ h => hFc q h) hFc (fun v98 u98 t H locs ht hvm hw hB hz1 hk1 hS9 => ?_)
            obtain ⟨u98_0, rfl⟩ : ∃ z, z = u98 := ⟨_, rfl⟩
            obtain ⟨hP9, hD9⟩ := zj2 (wX := [(h0, .inr (5, [.ref lS, .int u86_0, .ref tp])), (lS, .inl (cI, 241, .inl u86_1)), (tp, .inr (9, [.ref tB, .int tl, .int u98_0])), (tB, .inl (cI, 260, .inl fB))]) hP hD hk1 hFc ht hB [2, 3] [(false, 0), (false, 1), (true, 0), (true, 1)] rfl (by decide +kernel) (by decide +kernel) rfl
            clear hP hD hS hPc hDc hFc hB hk1 hz1 hvm
            have hP := hP9
            have hD := hD9
            have hS := hS9
            clear hP9 hD9 hS9
            obtain ⟨f98_0, f98_1, f98_2, f98_3, f98_4, f98_5⟩ : (0 ≤ v98.toInt) ∧ (v98.toInt ≤ 1) ∧ (0 ≤ u98_0.toInt) ∧ (u98_0.toInt ≤ 240) ∧ (u86_2.toInt ≤ u98_0.toInt) ∧ (zTk fB tl u86_2 63 v98 u98_0) := hw
            have F98 := f98_5
            refine lv_if_ne (tgt := 106) hx hb dX5_clause_101 (by decide) (fun c101 => ?_) (fun c101 => ?_)
            · have c101 : ¬ v98.toInt = 0 := z6 rfl (by decide) c101
              have q106 := zTkL F98 (by omega)
              refine lv_aload_n hx hb dX5_clause_106 rfl (lv_at hl 2 rfl) ?_
              refine lv_bipush (v := 63) hx hb dX5_clause_107 (by decide) ?_
              refine lv_iconst (v := 0) hx hb dX5_clause_109 (by decide) ?_
              obtain ⟨hPc, hDc, hFc⟩ := zc3 (wc := [(h0, .inr (5, [.ref lS, .int u86_0, .ref tp])), (lS, .inl (cI, 241, .inl u86_1))]) hP hD hS hA [0, 1] (by decide +kernel) rfl
              refine va_callv (va_runV (As := [.int 63, .int 0]) (rest := []) ⟨hx, hb, hml, hown, hts⟩ (g_X5_put_0 l dC dI cI cJ h0 63 lS u86_0 tp u86_1 H.size (by decide) ⟨f86_2, f86_3⟩ f86_10) (cwV 2 hts (zgV qw496 qw498 qw5 qw101 qw499) rfl rfl rfl hd_X5_put ⟨by rw [hR]; exact Nat.le_of_ble_eq_true rfl, by rw [hR]; exact Nat.le_of_ble_eq_true rfl⟩) (zPV hPc hK hDc (va_recv (q := (RX5, TX5, 3)) hK hP (ci := 5) (q0 := 0) rfl rfl)) rfl rfl hl.1 rfl (lv_room (Nat.le_of_ble_eq_true rfl)) dX5_clause_110 ⟨Nat.zero_le _, Nat.zero_le _⟩) hS (fun q _ h => hFc q h) hFc (fun u110 t H locs ht hvm hw hB hz1 hk1 hS9 => ?_)
              obtain ⟨u110_0, u110_1⟩ := u110
              obtain ⟨hP9, hD9⟩ := zj2 (wX := [(h0, .inr (5, [.ref lS, .int u110_0, .ref tp])), (lS, .inl (cI, 241, .inl u110_1)), (tp, .inr (9, [.ref tB, .int tl, .int u98_0])), (tB, .inl (cI, 260, .inl fB))]) hP hD hk1 hFc ht hB [0, 1] [(true, 0), (true, 1), (false, 2), (false, 3)] rfl (by decide +kernel) (by decide +kernel) rfl
              clear hP hD hS hPc hDc hFc hB hk1 hz1 hvm
              have hP := hP9
              have hD := hD9
              have hS := hS9
              clear hP9 hD9 hS9
              have zn110_63 : (63 : Int32).toInt = 63 := by decide
              obtain ⟨f110_0, f110_1, f110_2, f110_3, f110_4⟩ : (1 ≤ u110_0.toInt) ∧ (u110_0.toInt ≤ 241) ∧ (u110_0.toInt ≤ u86_0.toInt + 1 ∧ u86_0.toInt ≤ u110_0.toInt) ∧ (u86_0.toInt < 241 → zEm u86_1 u86_0 [((63 : Int32).toInt, 0)] u110_1 u110_0) ∧ (zSt u110_1) := hw
              have F110 := f110_3
              refine lv_aload_n hx hb dX5_clause_113 rfl (lv_at hl 2 rfl) ?_
              refine lv_iconst (v := 0) hx hb dX5_clause_114 (by decide) ?_
              obtain ⟨hPc, hDc, hFc⟩ := zc3 (wc := [(h0, .inr (5, [.ref lS, .int u110_0, .ref tp])), (lS, .inl (cI, 241, .inl u110_1)), (tp, .inr (9, [.ref tB, .int tl, .int u98_0])), (tB, .inl (cI, 260, .inl fB))]) hP hD hS hA [0, 1, 2, 3] (by decide +kernel) rfl
              refine va_calli (va_runV (As := [.int 0]) (rest := []) ⟨hx, hb, hml, hown, hts⟩ (zD_S6 l dC dI cI cJ h0 0 lS u110_0 tp u110_1 tB tl u98_0 fB H.size (by decide) (by omega) ⟨f98_2, f98_3⟩ n_tl (hty) (by omega) (by decide) f110_4) (cwV 1 hts (zgV qw486 qw488 qw3 qw101 qw489) rfl rfl rfl hd_X5_sum ⟨by rw [hR]; exact Nat.le_of_ble_eq_true rfl, by rw [hR]; exact Nat.le_of_ble_eq_true rfl⟩) (zPWV hPc hK hDc (va_recv (q := (RX5, TX5, 3)) hK hP (ci := 5) (q0 := 0) rfl rfl) (zV_call hV hS hFc)) rfl rfl hl.1 rfl (lv_room (Nat.le_of_ble_eq_true rfl)) dX5_clause_115 ⟨Nat.zero_le _, Nat.zero_le _⟩) hS (fun q _ h => hFc q h) hFc (fun v115 u115 t H locs ht hvm hw hB hz1 hk1 hS9 => ?_)
              obtain ⟨u115_0, u115_1, u115_2⟩ := u115
              obtain ⟨hP9, hD9⟩ := zj2 (wX := [(h0, .inr (5, [.ref lS, .int u115_0, .ref tp])), (lS, .inl (cI, 241, .inl u115_1)), (tp, .inr (9, [.ref tB, .int tl, .int u115_2])), (tB, .inl (cI, 260, .inl fB))]) hP hD hk1 hFc ht hB [0, 1, 2, 3] [(true, 0), (true, 1), (true, 2), (true, 3)] rfl (by decide +kernel) (by decide +kernel) rfl
              clear hP hD hS hPc hDc hFc hB hk1 hz1 hvm
              have hP := hP9
              have hD := hD9
              have hS := hS9
              clear hP9 hD9 hS9
              obtain ⟨f115_0, f115_1, f115_2, f115_3, f115_4, f115_5, f115_6, f115_7, f115_8, f115_9, f115_10⟩ : (0 ≤ v115.toInt) ∧ (v115.toInt ≤ 1) ∧ (0 ≤ u115_0.toInt) ∧ (u115_0.toInt ≤ 241) ∧ (0 ≤ u115_2.toInt) ∧ (u115_2.toInt ≤ 240) ∧ (zF (sSum (sB fB tl.toInt) tl.toInt 6 u98_0.toInt) v115 u115_2) ∧ (¬ v115.toInt = 0 → u98_0.toInt < u115_2.toInt) ∧ (¬ v115.toInt = 0 → u115_0.toInt + u98_0.toInt ≤ u110_0.toInt + u115_2.toInt) ∧ (¬ v115.toInt = 0 → zEm u110_1 u110_0 (eSum (sB fB tl.toInt) tl.toInt 6 u98_0.toInt) u115_1 u115_0) ∧ (zSt u115_1) := hw
              have F115 := f115_6
              have F115_1 := f115_9
              refine lv_if_ne (tgt := 123) hx hb dX5_clause_118 (by decide) (fun c118 => ?_) (fun c118 => ?_)
              · have c118 : ¬ v115.toInt = 0 := z6 rfl (by decide) c118
                refine lv_aload_n hx hb dX5_clause_123 rfl (lv_at hl 2 rfl) ?_
                refine lv_bipush (v := 59) hx hb dX5_clause_124 (by decide) ?_
                refine lv_iconst (v := 0) hx hb dX5_clause_126 (by decide) ?_
                obtain ⟨hPc, hDc, hFc⟩ := zc3 (wc := [(h0, .inr (5, [.ref lS, .int u115_0, .ref tp])), (lS, .inl (cI, 241, .inl u115_1))]) hP hD hS hA [0, 1] (by decide +kernel) rfl
                refine va_callv (va_runV (As := [.int 59, .int 0]) (rest := []) ⟨hx, hb, hml, hown, hts⟩ (g_X5_put_0 l dC dI cI cJ h0 59 lS u115_0 tp u115_1 H.size (by decide) ⟨f115_2, f115_3⟩ f115_10) (cwV 2 hts (zgV qw496 qw498 qw5 qw101 qw499) rfl rfl rfl hd_X5_put ⟨by rw [hR]; exact Nat.le_of_ble_eq_true rfl, by rw [hR]; exact Nat.le_of_ble_eq_true rfl⟩) (zPV hPc hK hDc (va_recv (q := (RX5, TX5, 3)) hK hP (ci := 5) (q0 := 0) rfl rfl)) rfl rfl hl.1 rfl (lv_room (Nat.le_of_ble_eq_true rfl)) dX5_clause_127 ⟨Nat.zero_le _, Nat.zero_le _⟩) hS (fun q _ h => hFc q h) hFc (fun u127 t H locs ht hvm hw hB hz1 hk1 hS9 => ?_)
                obtain ⟨u127_0, u127_1⟩ := u127
                obtain ⟨hP9, hD9⟩ := zj2 (wX := [(h0, .inr (5, [.ref lS, .int u127_0, .ref tp])), (lS, .inl (cI, 241, .inl u127_1)), (tp, .inr (9, [.ref tB, .int tl, .int u115_2])), (tB, .inl (cI, 260, .inl fB))]) hP hD hk1 hFc ht hB [0, 1] [(true, 0), (true, 1), (false, 2), (false, 3)] rfl (by decide +kernel) (by decide +kernel) rfl
                clear hP hD hS hPc hDc hFc hB hk1 hz1 hvm
                have hP := hP9
                have hD := hD9
                have hS := hS9
                clear hP9 hD9 hS9
                have zn127_59 : (59 : Int32).toInt = 59 := by decide
                obtain ⟨f127_0, f127_1, f127_2, f127_3, f127_4⟩ : (1 ≤ u127_0.toInt) ∧ (u127_0.toInt ≤ 241) ∧ (u127_0.toInt ≤ u115_0.toInt + 1 ∧ u115_0.toInt ≤ u127_0.toInt) ∧ (u115_0.toInt < 241 → zEm u115_1 u115_0 [((59 : Int32).toInt, 0)] u127_1 u127_0) ∧ (zSt u127_1) := hw
                have F127 := f127_3
                refine lv_iconst (v := 1) hx hb dX5_clause_130 (by decide) ?_
                have zr0 : (1 : Int32).toInt = 1 := by decide
                rw [hQ]
                exact W.zret (v := 1) (ty := .boolean) hx hb hr rfl (fun t ht hW => ⟨⟨1, (u127_0, u127_1, u115_2), rfl, ⟨by (try dsimp only); omega, by (try dsimp only); omega, by (try dsimp only); omega, by (try dsimp only); omega, by (try dsimp only); omega, by (try dsimp only); omega, zF1 (fc_2 F6 (by omega) F18 (by omega) ((fm_y (fc_t F30 (by omega) F86) (by omega) F98 (by omega) F115).trans (by rw [show v115.toInt = 1 by omega]))), (fun _ => zFm (x := sCl (sB fB tl.toInt) tl.toInt) (sCl_mono (sB fB tl.toInt) tl.toInt) (zF1 (fc_2 F6 (by omega) F18 (by omega) ((fm_y (fc_t F30 (by omega) F86) (by omega) F98 (by omega) F115).trans (by rw [show v115.toInt = 1 by omega]))))), by (try dsimp only); omega, (fun _ => eCl_em F6 (by omega) F18 (by omega) (eCl2_t F30 (by omega) F86 (by omega) F98 (by omega) (F86_1 (by omega)) (F110 (by omega)) (F115_1 (by omega)) (F127 (by omega)) (by omega) (by omega) (by omega))), f127_4⟩, ⟨by rw [ht]; exact hP, hD⟩⟩, hS.F ht⟩) hS.2.2 dX5_clause_131
              · have c118 : v115.toInt = 0 := z5 rfl (by decide) c118
                refine lv_iconst (v := 0) hx hb dX5_clause_121 (by decide) ?_
                have zr0 : (0 : Int32).toInt = 0 := by decide
                rw [hQ]
                exact W.zret (v := 0) (ty := .boolean) hx hb hr rfl (fun t ht hW => ⟨⟨0, (u115_0, u115_1, u115_2), rfl, ⟨by (try dsimp only); omega, by (try dsimp only); omega, by (try dsimp only); omega, by (try dsimp only); omega, by (try dsimp only); omega, by (try dsimp only); omega, zF0 (fc_2 F6 (by omega) F18 (by omega) ((fm_y (fc_t F30 (by omega) F86) (by omega) F98 (by omega) F115).trans (by rw [show v115.toInt = 0 by omega]))), (fun z => absurd (by decide) z), by (try dsimp only); omega, (fun z => absurd (by decide) z), f115_10⟩, ⟨by rw [ht]; exact hP, hD⟩⟩, hS.F ht⟩) hS.2.2 dX5_clause_122
            · have c101 : v98.toInt = 0 := z5 rfl (by decide) c101
              refine lv_iconst (v := 0) hx hb dX5_clause_104 (by decide) ?_
              have zr0 : (0 : Int32).toInt = 0 := by decide
              rw [hQ]
              exact W.zret (v := 0) (ty := .boolean) hx hb hr rfl (fun t ht hW => ⟨⟨0, (u86_0, u86_1, u98_0), rfl, ⟨by (try dsimp only); omega, by (try dsimp only); omega, by (try dsimp only); omega, by (try dsimp only); omega, by (try dsimp only); omega, by (try dsimp only); omega, zF0 (fc_2 F6 (by omega) F18 (by omega) (fm_n (fc_t F30 (by omega) F86) (by omega) F98 (by omega))), (fun z => absurd (by decide) z), by (try dsimp only); omega, (fun z => absurd (by decide) z), f86_10⟩, ⟨by rw [ht]; exact hP, hD⟩⟩, hS.F ht⟩) hS.2.2 dX5_clause_105
        · have c43 : ¬ v30.toInt = 40 := z6 rfl (by decide) c43
          refine lv_iconst (v := 1) hx hb dX5_clause_46 (by decide) ?_
          refine lv_goto (tgt := 51) hx hb dX5_clause_47 (by decide) ?_
          refine lv_istore_n (lv' := [(2, .int 1), (1, .int v30), (0, .ref h0)]) hx hb dX5_clause_51 rfl hl (by decide) rfl (fun ls hl => ?_)
          refine lv_iload_n hx hb dX5_clause_52 rfl (lv_at hl 0 rfl) ?_
          refine lv_if_eq (tgt := 66) hx hb dX5_clause_53 (by decide) (fun c => absurd c (by decide)) (fun _ => ?_)
          refine lv_aload_n hx hb dX5_clause_56 rfl (lv_at hl 2 rfl) ?_
          refine lv_iconst (v := 0) hx hb dX5_clause_57 (by decide) ?_
          obtain ⟨hPc, hDc, hFc⟩ := zc3 (wc := [(h0, .inr (5, [.ref lS, .int sz5, .ref tp])), (lS, .inl (cI, 241, .inl fS)), (tp, .inr (9, [.ref tB, .int tl, .int u30_0])), (tB, .inl (cI, 260, .inl fB))]) hP hD hS hA [0, 1, 2, 3] (by decide +kernel) rfl
          refine va_calli (va_runV (As := [.int 0]) (rest := []) ⟨hx, hb, hml, hown, hts⟩ (zD_S6 l dC dI cI cJ h0 0 lS sz5 tp fS tB tl u30_0 fB H.size (by decide) n_sz5 ⟨f30_0, f30_1⟩ n_tl (hty) (by omega) (by decide) ci_fS_zSt) (cwV 1 hts (zgV qw486 qw488 qw3 qw101 qw489) rfl rfl rfl hd_X5_sum ⟨by rw [hR]; exact Nat.le_of_ble_eq_true rfl, by rw [hR]; exact Nat.le_of_ble_eq_true rfl⟩) (zPWV hPc hK hDc (va_recv (q := (RX5, TX5, 3)) hK hP (ci := 5) (q0 := 0) rfl rfl) (zV_call hV hS hFc)) rfl rfl hl.1 rfl (lv_room (Nat.le_of_ble_eq_true rfl)) dX5_clause_58 ⟨Nat.zero_le _, Nat.zero_le _⟩) hS (fun q _ h => hFc q h) hFc (fun v58 u58 t H locs ht hvm hw hB hz1 hk1 hS9 => ?_)
          obtain ⟨u58_0, u58_1, u58_2⟩ := u58
          obtain ⟨hP9, hD9⟩ := zj2 (wX := [(h0, .inr (5, [.ref lS, .int u58_0, .ref tp])), (lS, .inl (cI, 241, .inl u58_1)), (tp, .inr (9, [.ref tB, .int tl, .int u58_2])), (tB, .inl (cI, 260, .inl fB))]) hP hD hk1 hFc ht hB [0, 1, 2, 3] [(true, 0), (true, 1), (true, 2), (true, 3)] rfl (by decide +kernel) (by decide +kernel) rfl
          clear hP hD hS hPc hDc hFc hB hk1 hz1 hvm
          have hP := hP9
          have hD := hD9
          have hS := hS9
          clear hP9 hD9 hS9
          obtain ⟨f58_0, f58_1, f58_2, f58_3, f58_4, f58_5, f58_6, f58_7, f58_8, f58_9, f58_10⟩ : (0 ≤ v58.toInt) ∧ (v58.toInt ≤ 1) ∧ (0 ≤ u58_0.toInt) ∧ (u58_0.toInt ≤ 241) ∧ (0 ≤ u58_2.toInt) ∧ (u58_2.toInt ≤ 240) ∧ (zF (sSum (sB fB tl.toInt) tl.toInt 6 u30_0.toInt) v58 u58_2) ∧ (¬ v58.toInt = 0 → u30_0.toInt < u58_2.toInt) ∧ (¬ v58.toInt = 0 → u58_0.toInt + u30_0.toInt ≤ sz5.toInt + u58_2.toInt) ∧ (¬ v58.toInt = 0 → zEm fS sz5 (eSum (sB fB tl.toInt) tl.toInt 6 u30_0.toInt) u58_1 u58_0) ∧ (zSt u58_1) := hw
          have F58 := f58_6
          have F58_1 := f58_9
          refine lv_if_ne (tgt := 66) hx hb dX5_clause_61 (by decide) (fun c61 => ?_) (fun c61 => ?_)
          · have c61 : ¬ v58.toInt = 0 := z6 rfl (by decide) c61
            refine lv_iload_n hx hb dX5_clause_66 rfl (lv_at hl 0 rfl) ?_
            refine lv_if_eq (tgt := 83) hx hb dX5_clause_67 (by decide) (fun c => absurd c (by decide)) (fun _ => ?_)
            refine lv_aload_n hx hb dX5_clause_70 rfl (lv_at hl 2 rfl) ?_
            refine va_get (D := (dC, dI)) (ci := 5) (v := .ref tp) (C := RX5) (T := TX5) (N := 3) hx hb hts iX5 hown hK hP 0 rfl rfl 2 (by decide) (hts _ qw172) (fun _ h9 => h9) rfl dX5_clause_71 ?_
            obtain ⟨hPc, hDc, hFc⟩ := zc3 (wc := [(tp, .inr (9, [.ref tB, .int tl, .int u58_2])), (tB, .inl (cI, 260, .inl fB))]) hP hD hS hA [2, 3] (by decide +kernel) rfl
            refine va_calli (va_runV (As := []) (rest := []) ⟨hx, hb, hml, hown, hts⟩ (g_X9_peek l dC dI cI cJ tp tB tl u58_2 fB H.size ⟨f58_4, f58_5⟩ n_tl (hty)) (cwV 0 hts (zgV qw485 qw438 qw439 qw99 qw440) rfl rfl rfl hd_X9_peek ⟨by rw [hR]; exact Nat.le_of_ble_eq_true rfl, by rw [hR]; exact Nat.le_of_ble_eq_true rfl⟩) (zPV hPc hK hDc (va_recv (q := (RX9, TX9, 3)) hK hP (ci := 9) (q0 := 2) rfl rfl)) rfl rfl hl.1 rfl (lv_room (Nat.le_of_ble_eq_true rfl)) dX5_clause_74 ⟨Nat.zero_le _, Nat.zero_le _⟩) hS (fun q _ h => hFc q h) hFc (fun v74 u74 t H locs ht hvm hw hB hz1 hk1 hS9 => ?_)
            obtain ⟨u74_0, rfl⟩ : ∃ z, z = u74 := ⟨_, rfl⟩
            obtain ⟨hP9, hD9⟩ := zj2 (wX := [(h0, .inr (5, [.ref lS, .int u58_0, .ref tp])), (lS, .inl (cI, 241, .inl u58_1)), (tp, .inr (9, [.ref tB, .int tl, .int u74_0])), (tB, .inl (cI, 260, .inl fB))]) hP hD hk1 hFc ht hB [2, 3] [(false, 0), (false, 1), (true, 0), (true, 1)] rfl (by decide +kernel) (by decide +kernel) rfl
            clear hP hD hS hPc hDc hFc hB hk1 hz1 hvm
            have hP := hP9
            have hD := hD9
            have hS := hS9
            clear hP9 hD9 hS9
            obtain ⟨f74_0, f74_1, f74_2, f74_3, f74_4⟩ : (0 ≤ u74_0.toInt) ∧ (u74_0.toInt ≤ 240) ∧ (¬ v74.toInt = 0 → u74_0.toInt < tl.toInt) ∧ (u58_2.toInt ≤ u74_0.toInt) ∧ (zPK fB tl u58_2 v74 u74_0) := hw
            have F74 := f74_4
            have hPc : va_P (dC, dI) vwCl [] H := zP0
            have hDc : va_D (fun _ => True) [] := zD0
            have hFc := zfr hS hA
            refine va_calli (va_runS (As := [.int v74]) (rest := []) ⟨hx, hb, hml, hown, hts⟩ (g_X5_isComparison l dC dI cI cJ v74 H.size) (cwS 1 hts (zgS qw504 qw505 qw101 qw506) rfl rfl rfl hd_X5_isComparison ⟨by rw [hR]; exact Nat.le_of_ble_eq_true rfl, by rw [hR]; exact Nat.le_of_ble_eq_true rfl⟩) (zPS hPc hK hDc) rfl rfl hl.1 rfl (lv_room (Nat.le_of_ble_eq_true rfl)) dX5_clause_77 ⟨Nat.zero_le _, Nat.zero_le _⟩) hS (fun q _ h => hFc q h) hFc (fun v77 u77 t H locs ht hvm hw hB hz1 hk1 hS9 => ?_)
            replace hP := zkeep hP hk1
            replace hS := hS9
            clear hPc hDc hFc hk1 hz1 hvm hS9
            obtain ⟨f77_0, f77_1, f77_2, f77_3⟩ : (0 ≤ v77.toInt) ∧ (v77.toInt ≤ 1) ∧ (¬ v77.toInt = 0 → (60 ≤ v74.toInt ∧ v74.toInt ≤ 62)) ∧ (zIs (oQ v74.toInt) v77) := hw
            have F77 := f77_3
            refine lv_if_eq (tgt := 123) hx hb dX5_clause_80 (by decide) (fun c80 => ?_) (fun c80 => ?_)
            · have c80 : v77.toInt = 0 := z5 rfl (by decide) c80
              refine lv_aload_n hx hb dX5_clause_123 rfl (lv_at hl 2 rfl) ?_
              refine lv_bipush (v := 59) hx hb dX5_clause_124 (by decide) ?_
              refine lv_iconst (v := 0) hx hb dX5_clause_126 (by decide) ?_
              obtain ⟨hPc, hDc, hFc⟩ := zc3 (wc := [(h0, .inr (5, [.ref lS, .int u58_0, .ref tp])), (lS, .inl (cI, 241, .inl u58_1))]) hP hD hS hA [0, 1] (by decide +kernel) rfl
              refine va_callv (va_runV (As := [.int 59, .int 0]) (rest := []) ⟨hx, hb, hml, hown, hts⟩ (g_X5_put_0 l dC dI cI cJ h0 59 lS u58_0 tp u58_1 H.size (by decide) ⟨f58_2, f58_3⟩ f58_10) (cwV 2 hts (zgV qw496 qw498 qw5 qw101 qw499) rfl rfl rfl hd_X5_put ⟨by rw [hR]; exact Nat.le_of_ble_eq_true rfl, by rw [hR]; exact Nat.le_of_ble_eq_true rfl⟩) (zPV hPc hK hDc (va_recv (q := (RX5, TX5, 3)) hK hP (ci := 5) (q0 := 0) rfl rfl)) rfl rfl hl.1 rfl (lv_room (Nat.le_of_ble_eq_true rfl)) dX5_clause_127 ⟨Nat.zero_le _, Nat.zero_le _⟩) hS (fun q _ h => hFc q h) hFc (fun u127 t H locs ht hvm hw hB hz1 hk1 hS9 => ?_)
              obtain ⟨u127_0, u127_1⟩ := u127
              obtain ⟨hP9, hD9⟩ := zj2 (wX := [(h0, .inr (5, [.ref lS, .int u127_0, .ref tp])), (lS, .inl (cI, 241, .inl u127_1)), (tp, .inr (9, [.ref tB, .int tl, .int u74_0])), (tB, .inl (cI, 260, .inl fB))]) hP hD hk1 hFc ht hB [0, 1] [(true, 0), (true, 1), (false, 2), (false, 3)] rfl (by decide +kernel) (by decide +kernel) rfl
              clear hP hD hS hPc hDc hFc hB hk1 hz1 hvm
              have hP := hP9
              have hD := hD9
              have hS := hS9
              clear hP9 hD9 hS9
              have zn127_59 : (59 : Int32).toInt = 59 := by decide
              obtain ⟨f127_0, f127_1, f127_2, f127_3, f127_4⟩ : (1 ≤ u127_0.toInt) ∧ (u127_0.toInt ≤ 241) ∧ (u127_0.toInt ≤ u58_0.toInt + 1 ∧ u58_0.toInt ≤ u127_0.toInt) ∧ (u58_0.toInt < 241 → zEm u58_1 u58_0 [((59 : Int32).toInt, 0)] u127_1 u127_0) ∧ (zSt u127_1) := hw
              have F127 := f127_3
              refine lv_iconst (v := 1) hx hb dX5_clause_130 (by decide) ?_
              have zr0 : (1 : Int32).toInt = 1 := by decide
              rw [hQ]
              exact W.zret (v := 1) (ty := .boolean) hx hb hr rfl (fun t ht hW => ⟨⟨1, (u127_0, u127_1, u74_0), rfl, ⟨by (try dsimp only); omega, by (try dsimp only); omega, by (try dsimp only); omega, by (try dsimp only); omega, by (try dsimp only); omega, by (try dsimp only); omega, zF1 (fc_2 F6 (by omega) F18 (by omega) (fc_s1 F30 (by omega) (by omega) F58 (by omega) F74 F77 (by omega))), (fun _ => zFm (x := sCl (sB fB tl.toInt) tl.toInt) (sCl_mono (sB fB tl.toInt) tl.toInt) (zF1 (fc_2 F6 (by omega) F18 (by omega) (fc_s1 F30 (by omega) (by omega) F58 (by omega) F74 F77 (by omega))))), by (try dsimp only); omega, (fun _ => eCl_em F6 (by omega) F18 (by omega) (eCl2_s F30 (by omega) (by omega) F58 (by omega) F74 (fun z => absurd (zIs_f F77 (by omega)) (fun y => y (oQ_iff.mpr (by omega)))) (F58_1 (by omega)) (F127 (by omega)) (by omega))), f127_4⟩, ⟨by rw [ht]; exact hP, hD⟩⟩, hS.F ht⟩) hS.2.2 dX5_clause_131
            · have c80 : ¬ v77.toInt = 0 := z6 rfl (by decide) c80
              refine lv_aload_n hx hb dX5_clause_83 rfl (lv_at hl 2 rfl) ?_
              refine lv_iconst (v := 0) hx hb dX5_clause_84 (by decide) ?_
              refine lv_iload_n hx hb dX5_clause_85 rfl (lv_at hl 0 rfl) ?_
              obtain ⟨hPc, hDc, hFc⟩ := zc3 (wc := [(h0, .inr (5, [.ref lS, .int u58_0, .ref tp])), (lS, .inl (cI, 241, .inl u58_1)), (tp, .inr (9, [.ref tB, .int tl, .int u74_0])), (tB, .inl (cI, 260, .inl fB))]) hP hD hS hA [0, 1, 2, 3] (by decide +kernel) rfl
              refine va_calli (va_runV (As := [.int 0, .int 1]) (rest := []) ⟨hx, hb, hml, hown, hts⟩ (g_X5_condition_0_1 l dC dI cI cJ h0 lS u58_0 tp u58_1 tB tl u74_0 fB H.size ⟨f58_2, f58_3⟩ ⟨f74_0, f74_1⟩ n_tl (hty) (by omega) f58_10) (cwV 2 hts (zgV qw507 qw509 qw6 qw101 qw510) rfl rfl rfl hd_X5_condition ⟨by rw [hR]; exact Nat.le_of_ble_eq_true rfl, by rw [hR]; exact Nat.le_of_ble_eq_true rfl⟩) (zPWV hPc hK hDc (va_recv (q := (RX5, TX5, 3)) hK hP (ci := 5) (q0 := 0) rfl rfl) (zV_call hV hS hFc)) rfl rfl hl.1 rfl (lv_room (Nat.le_of_ble_eq_true rfl)) dX5_clause_86 ⟨Nat.zero_le _, Nat.zero_le _⟩) hS (fun q _ h => hFc q h) hFc (fun v86 u86 t H locs ht hvm hw hB hz1 hk1 hS9 => ?_)
              obtain ⟨u86_0, u86_1, u86_2⟩ := u86
              obtain ⟨hP9, hD9⟩ := zj2 (wX := [(h0, .inr (5, [.ref lS, .int u86_0, .ref tp])), (lS, .inl (cI, 241, .inl u86_1)), (tp, .inr (9, [.ref tB, .int tl, .int u86_2])), (tB, .inl (cI, 260, .inl fB))]) hP hD hk1 hFc ht hB [0, 1, 2, 3] [(true, 0), (true, 1), (true, 2), (true, 3)] rfl (by decide +kernel) (by decide +kernel) rfl
              clear hP hD hS hPc hDc hFc hB hk1 hz1 hvm
              have hP := hP9
              have hD := hD9
              have hS := hS9
              clear hP9 hD9 hS9
              obtain ⟨f86_0, f86_1, f86_2, f86_3, f86_4, f86_5, f86_6, f86_7, f86_8, f86_9, f86_10⟩ : (0 ≤ v86.toInt) ∧ (v86.toInt ≤ 1) ∧ (0 ≤ u86_0.toInt) ∧ (u86_0.toInt ≤ 241) ∧ (0 ≤ u86_2.toInt) ∧ (u86_2.toInt ≤ 240) ∧ (zF (sGo (sB fB tl.toInt) tl.toInt u74_0.toInt) v86 u86_2) ∧ (¬ v86.toInt = 0 → u74_0.toInt < u86_2.toInt) ∧ (¬ v86.toInt = 0 → u86_0.toInt + u74_0.toInt ≤ u58_0.toInt + u86_2.toInt) ∧ (¬ v86.toInt = 0 → zEm u58_1 u58_0 (eGo (sB fB tl.toInt) tl.toInt u74_0.toInt) u86_1 u86_0) ∧ (zSt u86_1) := hw
              have F86 := f86_6
              have F86_1 := f86_9
              refine lv_if_eq (tgt := 104) hx hb dX5_clause_89 (by decide) (fun c89 => ?_) (fun c89 => ?_)
              · have c89 : v86.toInt = 0 := z5 rfl (by decide) c89
                refine lv_iconst (v := 0) hx hb dX5_clause_104 (by decide) ?_
                have zr0 : (0 : Int32).toInt = 0 := by decide
                rw [hQ]
                exact W.zret (v := 0) (ty := .boolean) hx hb hr rfl (fun t ht hW => ⟨⟨0, (u86_0, u86_1, u86_2), rfl, ⟨by (try dsimp only); omega, by (try dsimp only); omega, by (try dsimp only); omega, by (try dsimp only); omega, by (try dsimp only); omega, by (try dsimp only); omega, zF0 (fc_2 F6 (by omega) F18 (by omega) (fm_0 (fc_s2 F30 (by omega) (by omega) F58 (by omega) F74 F77 (by omega) F86) (by omega))), (fun z => absurd (by decide) z), by (try dsimp only); omega, (fun z => absurd (by decide) z), f86_10⟩, ⟨by rw [ht]; exact hP, hD⟩⟩, hS.F ht⟩) hS.2.2 dX5_clause_105
              · have c89 : ¬ v86.toInt = 0 := z6 rfl (by decide) c89
                refine lv_aload_n hx hb dX5_clause_92 rfl (lv_at hl 2 rfl) ?_
                refine va_get (D := (dC, dI)) (ci := 5) (v := .ref tp) (C := RX5) (T := TX5) (N := 3) hx hb hts iX5 hown hK hP 0 rfl rfl 2 (by decide) (hts _ qw172) (fun _ h9 => h9) rfl dX5_clause_93 ?_
                refine lv_bipush (v := 63) hx hb dX5_clause_96 (by decide) ?_
                obtain ⟨hPc, hDc, hFc⟩ := zc3 (wc := [(tp, .inr (9, [.ref tB, .int tl, .int u86_2])), (tB, .inl (cI, 260, .inl fB))]) hP hD hS hA [2, 3] (by decide +kernel) rfl
                refine va_calli (va_runV (As := [.int 63]) (rest := []) ⟨hx, hb, hml, hown, hts⟩ (g_X9_takes l dC dI cI cJ tp 63 tB tl u86_2 fB H.size (by decide) ⟨f86_4, f86_5⟩ n_tl (hty)) (cwV 1 hts (zgV qw484 qw472 qw473 qw99 qw474) rfl rfl rfl hd_X9_takes ⟨by rw [hR]; exact Nat.le_of_ble_eq_true rfl, by rw [hR]; exact Nat.le_of_ble_eq_true rfl⟩) (zPV hPc hK hDc (va_recv (q := (RX9, TX9, 3)) hK hP (ci := 9) (q0 := 2) rfl rfl)) rfl rfl hl.1 rfl (lv_room (Nat.le_of_ble_eq_true rfl)) dX5_clause_98 ⟨Nat.zero_le _, Nat.zero_le _⟩) hS (fun q _ h => hFc q h) hFc (fun v98 u98 t H locs ht hvm hw hB hz1 hk1 hS9 => ?_)
                obtain ⟨u98_0, rfl⟩ : ∃ z, z = u98 := ⟨_, rfl⟩
                obtain ⟨hP9, hD9⟩ := zj2 (wX := [(h0, .inr (5, [.ref lS, .int u86_0, .ref tp])), (lS, .inl (cI, 241, .inl u86_1)), (tp, .inr (9, [.ref tB, .int tl, .int u98_0])), (tB, .inl (cI, 260, .inl fB))]) hP hD hk1 hFc ht hB [2, 3] [(false, 0), (false, 1), (true, 0), (true, 1)] rfl (by decide +kernel) (by decide +kernel) rfl
                clear hP hD hS hPc hDc hFc hB hk1 hz1 hvm
                have hP := hP9
                have hD := hD9
                have hS := hS9
                clear hP9 hD9 hS9
                obtain ⟨f98_0, f98_1, f98_2, f98_3, f98_4, f98_5⟩ : (0 ≤ v98.toInt) ∧ (v98.toInt ≤ 1) ∧ (0 ≤ u98_0.toInt) ∧ (u98_0.toInt ≤ 240) ∧ (u86_2.toInt ≤ u98_0.toInt) ∧ (zTk fB tl u86_2 63 v98 u98_0) := hw
                have F98 := f98_5
                refine lv_if_ne (tgt := 106) hx hb dX5_clause_101 (by decide) (fun c101 => ?_) (fun c101 => ?_)
                · have c101 : ¬ v98.toInt = 0 := z6 rfl (by decide) c101
                  have q106 := zTkL F98 (by omega)
                  refine lv_aload_n hx hb dX5_clause_106 rfl (lv_at hl 2 rfl) ?_
                  refine lv_bipush (v := 63) hx hb dX5_clause_107 (by decide) ?_
                  refine lv_iconst (v := 0) hx hb dX5_clause_109 (by decide) ?_
                  obtain ⟨hPc, hDc, hFc⟩ := zc3 (wc := [(h0, .inr (5, [.ref lS, .int u86_0, .ref tp])), (lS, .inl (cI, 241, .inl u86_1))]) hP hD hS hA [0, 1] (by decide +kernel) rfl
                  refine va_callv (va_runV (As := [.int 63, .int 0]) (rest := []) ⟨hx, hb, hml, hown, hts⟩ (g_X5_put_0 l dC dI cI cJ h0 63 lS u86_0 tp u86_1 H.size (by decide) ⟨f86_2, f86_3⟩ f86_10) (cwV 2 hts (zgV qw496 qw498 qw5 qw101 qw499) rfl rfl rfl hd_X5_put ⟨by rw [hR]; exact Nat.le_of_ble_eq_true rfl, by rw [hR]; exact Nat.le_of_ble_eq_true rfl⟩) (zPV hPc hK hDc (va_recv (q := (RX5, TX5, 3)) hK hP (ci := 5) (q0 := 0) rfl rfl)) rfl rfl hl.1 rfl (lv_room (Nat.le_of_ble_eq_true rfl)) dX5_clause_110 ⟨Nat.zero_le _, Nat.zero_le _⟩) hS (fun q _ h => hFc q h) hFc (fun u110 t H locs ht hvm hw hB hz1 hk1 hS9 => ?_)
                  obtain ⟨u110_0, u110_1⟩ := u110
                  obtain ⟨hP9, hD9⟩ := zj2 (wX := [(h0, .inr (5, [.ref lS, .int u110_0, .ref tp])), (lS, .inl (cI, 241, .inl u110_1)), (tp, .inr (9, [.ref tB, .int tl, .int u98_0])), (tB, .inl (cI, 260, .inl fB))]) hP hD hk1 hFc ht hB [0, 1] [(true, 0), (true, 1), (false, 2), (false, 3)] rfl (by decide +kernel) (by decide +kernel) rfl
                  clear hP hD hS hPc hDc hFc hB hk1 hz1 hvm
                  have hP := hP9
                  have hD := hD9
                  have hS := hS9
                  clear hP9 hD9 hS9
                  have zn110_63 : (63 : Int32).toInt = 63 := by decide
                  obtain ⟨f110_0, f110_1, f110_2, f110_3, f110_4⟩ : (1 ≤ u110_0.toInt) ∧ (u110_0.toInt ≤ 241) ∧ (u110_0.toInt ≤ u86_0.toInt + 1 ∧ u86_0.toInt ≤ u110_0.toInt) ∧ (u86_0.toInt < 241 → zEm u86_1 u86_0 [((63 : Int32).toInt, 0)] u110_1 u110_0) ∧ (zSt u110_1) := hw
                  have F110 := f110_3
                  refine lv_aload_n hx hb dX5_clause_113 rfl (lv_at hl 2 rfl) ?_
                  refine lv_iconst (v := 0) hx hb dX5_clause_114 (by decide) ?_
                  obtain ⟨hPc, hDc, hFc⟩ := zc3 (wc := [(h0, .inr (5, [.ref lS, .int u110_0, .ref tp])), (lS, .inl (cI, 241, .inl u110_1)), (tp, .inr (9, [.ref tB, .int tl, .int u98_0])), (tB, .inl (cI, 260, .inl fB))]) hP hD hS hA [0, 1, 2, 3] (by decide +kernel) rfl
                  refine va_calli (va_runV (As := [.int 0]) (rest := []) ⟨hx, hb, hml, hown, hts⟩ (zD_S6 l dC dI cI cJ h0 0 lS u110_0 tp u110_1 tB tl u98_0 fB H.size (by decide) (by omega) ⟨f98_2, f98_3⟩ n_tl (hty) (by omega) (by decide) f110_4) (cwV 1 hts (zgV qw486 qw488 qw3 qw101 qw489) rfl rfl rfl hd_X5_sum ⟨by rw [hR]; exact Nat.le_of_ble_eq_true rfl, by rw [hR]; exact Nat.le_of_ble_eq_true rfl⟩) (zPWV hPc hK hDc (va_recv (q := (RX5, TX5, 3)) hK hP (ci := 5) (q0 := 0) rfl rfl) (zV_call hV hS hFc)) rfl rfl hl.1 rfl (lv_room (Nat.le_of_ble_eq_true rfl)) dX5_clause_115 ⟨Nat.zero_le _, Nat.zero_le _⟩) hS (fun q _ h => hFc q h) hFc (fun v115 u115 t H locs ht hvm hw hB hz1 hk1 hS9 => ?_)
                  obtain ⟨u115_0, u115_1, u115_2⟩ := u115
                  obtain ⟨hP9, hD9⟩ := zj2 (wX := [(h0, .inr (5, [.ref lS, .int u115_0, .ref tp])), (lS, .inl (cI, 241, .inl u115_1)), (tp, .inr (9, [.ref tB, .int tl, .int u115_2])), (tB, .inl (cI, 260, .inl fB))]) hP hD hk1 hFc ht hB [0, 1, 2, 3] [(true, 0), (true, 1), (true, 2), (true, 3)] rfl (by decide +kernel) (by decide +kernel) rfl
                  clear hP hD hS hPc hDc hFc hB hk1 hz1 hvm
                  have hP := hP9
                  have hD := hD9
                  have hS := hS9
                  clear hP9 hD9 hS9
                  obtain ⟨f115_0, f115_1, f115_2, f115_3, f115_4, f115_5, f115_6, f115_7, f115_8, f115_9, f115_10⟩ : (0 ≤ v115.toInt) ∧ (v115.toInt ≤ 1) ∧ (0 ≤ u115_0.toInt) ∧ (u115_0.toInt ≤ 241) ∧ (0 ≤ u115_2.toInt) ∧ (u115_2.toInt ≤ 240) ∧ (zF (sSum (sB fB tl.toInt) tl.toInt 6 u98_0.toInt) v115 u115_2) ∧ (¬ v115.toInt = 0 → u98_0.toInt < u115_2.toInt) ∧ (¬ v115.toInt = 0 → u115_0.toInt + u98_0.toInt ≤ u110_0.toInt + u115_2.toInt) ∧ (¬ v115.toInt = 0 → zEm u110_1 u110_0 (eSum (sB fB tl.toInt) tl.toInt 6 u98_0.toInt) u115_1 u115_0) ∧ (zSt u115_1) := hw
                  have F115 := f115_6
                  have F115_1 := f115_9
                  refine lv_if_ne (tgt := 123) hx hb dX5_clause_118 (by decide) (fun c118 => ?_) (fun c118 => ?_)
                  · have c118 : ¬ v115.toInt = 0 := z6 rfl (by decide) c118
                    refine lv_aload_n hx hb dX5_clause_123 rfl (lv_at hl 2 rfl) ?_
                    refine lv_bipush (v := 59) hx hb dX5_clause_124 (by decide) ?_
                    refine lv_iconst (v := 0) hx hb dX5_clause_126 (by decide) ?_
                    obtain ⟨hPc, hDc, hFc⟩ := zc3 (wc := [(h0, .inr (5, [.ref lS, .int u115_0, .ref tp])), (lS, .inl (cI, 241, .inl u115_1))]) hP hD hS hA [0, 1] (by decide +kernel) rfl
                    refine va_callv (va_runV (As := [.int 59, .int 0]) (rest := []) ⟨hx, hb, hml, hown, hts⟩ (g_X5_put_0 l dC dI cI cJ h0 59 lS u115_0 tp u115_1 H.size (by decide) ⟨f115_2, f115_3⟩ f115_10) (cwV 2 hts (zgV qw496 qw498 qw5 qw101 qw499) rfl rfl rfl hd_X5_put ⟨by rw [hR]; exact Nat.le_of_ble_eq_true rfl, by rw [hR]; exact Nat.le_of_ble_eq_true rfl⟩) (zPV hPc hK hDc (va_recv (q := (RX5, TX5, 3)) hK hP (ci := 5) (q0 := 0) rfl rfl)) rfl rfl hl.1 rfl (lv_room (Nat.le_of_ble_eq_true rfl)) dX5_clause_127 ⟨Nat.zero_le _, Nat.zero_le _⟩) hS (fun q _ h => hFc q h) hFc (fun u127 t H locs ht hvm hw hB hz1 hk1 hS9 => ?_)
                    obtain ⟨u127_0, u127_1⟩ := u127
                    obtain ⟨hP9, hD9⟩ := zj2 (wX := [(h0, .inr (5, [.ref lS, .int u127_0, .ref tp])), (lS, .inl (cI, 241, .inl u127_1)), (tp, .inr (9, [.ref tB, .int tl, .int u115_2])), (tB, .inl (cI, 260, .inl fB))]) hP hD hk1 hFc ht hB [0, 1] [(true, 0), (true, 1), (false, 2), (false, 3)] rfl (by decide +kernel) (by decide +kernel) rfl
                    clear hP hD hS hPc hDc hFc hB hk1 hz1 hvm
                    have hP := hP9
                    have hD := hD9
                    have hS := hS9
                    clear hP9 hD9 hS9
                    have zn127_59 : (59 : Int32).toInt = 59 := by decide
                    obtain ⟨f127_0, f127_1, f127_2, f127_3, f127_4⟩ : (1 ≤ u127_0.toInt) ∧ (u127_0.toInt ≤ 241) ∧ (u127_0.toInt ≤ u115_0.toInt + 1 ∧ u115_0.toInt ≤ u127_0.toInt) ∧ (u115_0.toInt < 241 → zEm u115_1 u115_0 [((59 : Int32).toInt, 0)] u127_1 u127_0) ∧ (zSt u127_1) := hw
                    have F127 := f127_3
                    refine lv_iconst (v := 1) hx hb dX5_clause_130 (by decide) ?_
                    have zr0 : (1 : Int32).toInt = 1 := by decide
                    rw [hQ]
                    exact W.zret (v := 1) (ty := .boolean) hx hb hr rfl (fun t ht hW => ⟨⟨1, (u127_0, u127_1, u115_2), rfl, ⟨by (try dsimp only); omega, by (try dsimp only); omega, by (try dsimp only); omega, by (try dsimp only); omega, by (try dsimp only); omega, by (try dsimp only); omega, zF1 (fc_2 F6 (by omega) F18 (by omega) ((fm_y (fc_s2 F30 (by omega) (by omega) F58 (by omega) F74 F77 (by omega) F86) (by omega) F98 (by omega) F115).trans (by rw [show v115.toInt = 1 by omega]))), (fun _ => zFm (x := sCl (sB fB tl.toInt) tl.toInt) (sCl_mono (sB fB tl.toInt) tl.toInt) (zF1 (fc_2 F6 (by omega) F18 (by omega) ((fm_y (fc_s2 F30 (by omega) (by omega) F58 (by omega) F74 F77 (by omega) F86) (by omega) F98 (by omega) F115).trans (by rw [show v115.toInt = 1 by omega]))))), by (try dsimp only); omega, (fun _ => eCl_em F6 (by omega) F18 (by omega) (eCl2_c F30 (by omega) (by omega) F58 (by omega) F74 (by have := oQ_iff.mp (zIs_t F77 (by omega)); omega) F86 (by omega) F98 (by omega) (F58_1 (by omega)) (F86_1 (by omega)) (F110 (by omega)) (F115_1 (by omega)) (F127 (by omega)) (by omega) (by omega) (by omega) (by omega))), f127_4⟩, ⟨by rw [ht]; exact hP, hD⟩⟩, hS.F ht⟩) hS.2.2 dX5_clause_131
                  · have c118 : v115.toInt = 0 := z5 rfl (by decide) c118
                    refine lv_iconst (v := 0) hx hb dX5_clause_121 (by decide) ?_
                    have zr0 : (0 : Int32).toInt = 0 := by decide
                    rw [hQ]
                    exact W.zret (v := 0) (ty := .boolean) hx hb hr rfl (fun t ht hW => ⟨⟨0, (u115_0, u115_1, u115_2), rfl, ⟨by (try dsimp only); omega, by (try dsimp only); omega, by (try dsimp only); omega, by (try dsimp only); omega, by (try dsimp only); omega, by (try dsimp only); omega, zF0 (fc_2 F6 (by omega) F18 (by omega) ((fm_y (fc_s2 F30 (by omega) (by omega) F58 (by omega) F74 F77 (by omega) F86) (by omega) F98 (by omega) F115).trans (by rw [show v115.toInt = 0 by omega]))), (fun z => absurd (by decide) z), by (try dsimp only); omega, (fun z => absurd (by decide) z), f115_10⟩, ⟨by rw [ht]; exact hP, hD⟩⟩, hS.F ht⟩) hS.2.2 dX5_clause_122
                · have c101 : v98.toInt = 0 := z5 rfl (by decide) c101
                  refine lv_iconst (v := 0) hx hb dX5_clause_104 (by decide) ?_
                  have zr0 : (0 : Int32).toInt = 0 := by decide
                  rw [hQ]
                  exact W.zret (v := 0) (ty := .boolean) hx hb hr rfl (fun t ht hW => ⟨⟨0, (u86_0, u86_1, u98_0), rfl, ⟨by (try dsimp only); omega, by (try dsimp only); omega, by (try dsimp only); omega, by (try dsimp only); omega, by (try dsimp only); omega, by (try dsimp only); omega, zF0 (fc_2 F6 (by omega) F18 (by omega) (fm_n (fc_s2 F30 (by omega) (by omega) F58 (by omega) F74 F77 (by omega) F86) (by omega) F98 (by omega))), (fun z => absurd (by decide) z), by (try dsimp only); omega, (fun z => absurd (by decide) z), f86_10⟩, ⟨by rw [ht]; exact hP, hD⟩⟩, hS.F ht⟩) hS.2.2 dX5_clause_105
          · have c61 : v58.toInt = 0 := z5 rfl (by decide) c61
            refine lv_iconst (v := 0) hx hb dX5_clause_64 (by decide) ?_
            have zr0 : (0 : Int32).toInt = 0 := by decide
            rw [hQ]
            exact W.zret (v := 0) (ty := .boolean) hx hb hr rfl (fun t ht hW => ⟨⟨0, (u58_0, u58_1, u58_2), rfl, ⟨by (try dsimp only); omega, by (try dsimp only); omega, by (try dsimp only); omega, by (try dsimp only); omega, by (try dsimp only); omega, by (try dsimp only); omega, zF0 (fc_2 F6 (by omega) F18 (by omega) (fc_s0 F30 (by omega) (by omega) F58 (by omega))), (fun z => absurd (by decide) z), by (try dsimp only); omega, (fun z => absurd (by decide) z), f58_10⟩, ⟨by rw [ht]; exact hP, hD⟩⟩, hS.F ht⟩) hS.2.2 dX5_clause_65
    · have c21 : v18.toInt = 0 := z5 rfl (by decide) c21
      refine lv_iconst (v := 0) hx hb dX5_clause_24 (by decide) ?_
      have zr0 : (0 : Int32).toInt = 0 := by decide
      rw [hQ]
      exact W.zret (v := 0) (ty := .boolean) hx hb hr rfl (fun t ht hW => ⟨⟨0, (sz5, fS, u18_0), rfl, ⟨by (try dsimp only); omega, by (try dsimp only); omega, by (try dsimp only); omega, by (try dsimp only); omega, by (try dsimp only); omega, by (try dsimp only); omega, zF0 (fc_c F6 (by omega) F18 (by omega)), (fun z => absurd (by decide) z), by (try dsimp only); omega, (fun z => absurd (by decide) z), ci_fS_zSt⟩, ⟨by rw [ht]; exact hP, hD⟩⟩, hS.F ht⟩) hS.2.2 dX5_clause_25
set_option maxHeartbeats 4000000 in
set_option maxRecDepth 100000 in
theorem g_X5_read (l : Launch) (dC : Nat → ClassId) (dI : Nat → Nat → Nat) (cI cJ : ClassId) (h0 : Nat) (tp : Nat) (lS : Nat) (sz5 : Int32) (h0_tape : Value) (fS : Nat → Int32) (tB : Nat) (tl : Int32) (ta : Int32) (fB : Nat → Int32) (sz : Nat) (n_sz5 : 0 ≤ sz5.toInt ∧ sz5.toInt ≤ 241) (n_ta : 0 ≤ ta.toInt ∧ ta.toInt ≤ 240) (n_tl : 0 ≤ tl.toInt ∧ tl.toInt ≤ 240) (hty : zTy tl fB) (ci_fS_zSt : zSt fS)  : Met l yX5_read (.code yX5_read cX5_read 4 (some .int) :: wA) ({ frames := 38, cells := 0, slots := 0, locals := 728 }) (zPW (dC, dI) [(cI, .int), (cJ, .long)] [.ref h0, .ref tp] sz [(h0, .inr (5, [.ref lS, .int sz5, h0_tape])), (lS, .inl (cI, 241, .inl fS)), (tp, .inr (9, [.ref tB, .int tl, .int ta])), (tB, .inl (cI, 260, .inl fB))] (va_A [(h0, .inr (5, [.ref lS, .int sz5, h0_tape])), (lS, .inl (cI, 241, .inl fS)), (tp, .inr (9, [.ref tB, .int tl, .int ta])), (tB, .inl (cI, 260, .inl fB))] sz)) (va_Qi (fun (r : Int32) (u : Int32 × (Nat → Int32) × Int32) => ((-1) ≤ r.toInt) ∧ (r.toInt ≤ 240) ∧ (0 ≤ u.1.toInt) ∧ (u.1.toInt ≤ 241) ∧ (0 ≤ u.2.2.toInt) ∧ (u.2.2.toInt ≤ 240) ∧ (sLaw (sB fB tl.toInt) tl.toInt = r.toInt) ∧ (r.toInt = -1 → (∃ fS0 : Nat → Int32, zEm fS0 0 (eLaw (sB fB tl.toInt) tl.toInt) u.2.1 u.1) ∧ (sCl (sB fB tl.toInt) tl.toInt 0).1 = 1) ∧ (zSt u.2.1)) (fun (u : Int32 × (Nat → Int32) × Int32) (t : State) => va_P (dC, dI) vwCl [(h0, .inr (5, [.ref lS, .int u.1, .ref tp])), (lS, .inl (cI, 241, .inl u.2.1)), (tp, .inr (9, [.ref tB, .int tl, .int u.2.2])), (tB, .inl (cI, 260, .inl fB))] t.heap ∧ va_D (va_A [(h0, .inr (5, [.ref lS, .int sz5, h0_tape])), (lS, .inl (cI, 241, .inl fS)), (tp, .inr (9, [.ref tB, .int tl, .int ta])), (tB, .inl (cI, 260, .inl fB))] sz) [(h0, .inr (5, [.ref lS, .int u.1, .ref tp])), (lS, .inl (cI, 241, .inl u.2.1)), (tp, .inr (9, [.ref tB, .int tl, .int u.2.2])), (tB, .inl (cI, 260, .inl fB))]) (va_A [(h0, .inr (5, [.ref lS, .int sz5, h0_tape])), (lS, .inl (cI, 241, .inl fS)), (tp, .inr (9, [.ref tB, .int tl, .int ta])), (tB, .inl (cI, 260, .inl fB))] sz)) 0 0 (va_A [(h0, .inr (5, [.ref lS, .int sz5, h0_tape])), (lS, .inl (cI, 241, .inl fS)), (tp, .inr (9, [.ref tB, .int tl, .int ta])), (tB, .inl (cI, 260, .inl fB))] sz) := by
  refine Met.ofW (cc := cX5_read) (maxL := 4) (ret := (some .int)) (by decide) rfl ?_
  intro p e s m args below meth c s₁ B hml hv
  have y_sz5 : zHid (0 ≤ sz5.toInt ∧ sz5.toInt ≤ 241) := n_sz5
  have y_ta : zHid (0 ≤ ta.toInt ∧ ta.toInt ≤ 240) := n_ta
  clear n_sz5 n_ta
  obtain ⟨⟨hargs, hsz, hP, hK, hT⟩, hV⟩ := hv
  have hx := B.exec
  have hb := B.bytes
  have hr := B.returns
  have hts : ∀ w ∈ wA, w.before args s = true := fun w h => atoms_spec (ws := .code yX5_read cX5_read 4 (some .int) :: wA) B.pre w (List.mem_cons_of_mem _ h)
  have hown : s.vm.findClass RX5 = some m.cls := findClass_of_methodNamed B.named
  have hlocks := B.notSynchronized
  subst hsz
  have hD := hT.self (sz := s.heap.size)
  generalize hAe : va_A [(h0, .inr (5, [.ref lS, .int sz5, h0_tape])), (lS, .inl (cI, 241, .inl fS)), (tp, .inr (9, [.ref tB, .int tl, .int ta])), (tB, .inl (cI, 260, .inl fB))] s.heap.size = A at hD hV ⊢
  have hA : ∀ q : Nat, s.heap.size ≤ q → A q := fun q h => by rw [← hAe]; exact Or.inr h
  have hl := lv_entry ([.ref h0, .ref tp]) (n := 4) (Nat.le_of_ble_eq_true rfl)
  rw [show entryFrame m args 4 = entryFrame m ([.ref h0, .ref tp] : List Value).toArray 4 by rw [hargs], lg_entry_eq]
  generalize (lg_sl ([.ref h0, .ref tp]) ++ List.replicate (4 - (lg_sl ([.ref h0, .ref tp])).length) Slot.unset).toArray = ls at hl ⊢
  have hl : lv_has ls 4 [(0, .ref h0), (1, .ref tp)] := hl
  refine zstart (fun H hH => ?_)
  rw [← hH] at hP
  have hS : va_S A s.heap H [] := by rw [hH]; exact va_S.rf
  generalize ([] : List Loc) = locs at hS ⊢
  refine zgen (fun R Q hR hQ => ?_)
  refine lv_aload_n hx hb dX5_read_0 rfl (lv_at hl 0 rfl) ?_
  refine lv_aload_n hx hb dX5_read_1 rfl (lv_at hl 1 rfl) ?_
  refine va_put (D := (dC, dI)) (ci := 5) (v := .ref tp) (ty := .object "NinePortraits$Tape") (C := RX5) (T := TX5) (N := 3) hx hb hts iX5 tyX5 tyX5_ok nmX5 hown hK hP hD hS 0 rfl rfl 2 (by decide) (hts _ qw172) (fun _ h9 => h9) rfl (by decide +kernel) rfl rfl (Nat.le_of_ble_eq_true rfl) dX5_read_2 (fun H locs hP9 hD9 hS9 => ?_)
  clear hP hD hS
  obtain ⟨hP, hD⟩ := zst (wX := [(h0, .inr (5, [.ref lS, .int sz5, .ref tp])), (lS, .inl (cI, 241, .inl fS)), (tp, .inr (9, [.ref tB, .int tl, .int ta])), (tB, .inl (cI, 260, .inl fB))]) hP9 hD9 rfl
  have hS := hS9
  clear hP9 hD9 hS9
  refine lv_aload_n hx hb dX5_read_5 rfl (lv_at hl 0 rfl) ?_
  refine va_get (D := (dC, dI)) (ci := 5) (v := .ref tp) (C := RX5) (T := TX5) (N := 3) hx hb hts iX5 hown hK hP 0 rfl rfl 2 (by decide) (hts _ qw172) (fun _ h9 => h9) rfl dX5_read_6 ?_
  refine lv_iconst (v := 0) hx hb dX5_read_9 (by decide) ?_
  refine va_put (D := (dC, dI)) (ci := 9) (v := .int 0) (ty := .int) (C := RX9) (T := TX9) (N := 3) hx hb hts iX9 tyX9 tyX9_ok nmX9 hown hK hP hD hS 2 rfl rfl 2 (by decide) (hts _ qw137) (fun _ h9 => h9) rfl (by decide +kernel) rfl rfl (Nat.le_of_ble_eq_true rfl) dX5_read_10 (fun H locs hP9 hD9 hS9 => ?_)
  clear hP hD hS
  obtain ⟨hP, hD⟩ := zst (wX := [(h0, .inr (5, [.ref lS, .int sz5, .ref tp])), (lS, .inl (cI, 241, .inl fS)), (tp, .inr (9, [.ref tB, .int tl, .int 0])), (tB, .inl (cI, 260, .inl fB))]) hP9 hD9 rfl
  have hS := hS9
  clear hP9 hD9 hS9
  refine lv_aload_n hx hb dX5_read_13 rfl (lv_at hl 0 rfl) ?_
  refine lv_iconst (v := 0) hx hb dX5_read_14 (by decide) ?_
  refine va_put (D := (dC, dI)) (ci := 5) (v := .int 0) (ty := .int) (C := RX5) (T := TX5) (N := 3) hx hb hts iX5 tyX5 tyX5_ok nmX5 hown hK hP hD hS 0 rfl rfl 1 (by decide) (hts _ qw171) (fun _ h9 => h9) rfl (by decide +kernel) rfl rfl (Nat.le_of_ble_eq_true rfl) dX5_read_15 (fun H locs hP9 hD9 hS9 => ?_)
  clear hP hD hS
  obtain ⟨hP, hD⟩ := zst (wX := [(h0, .inr (5, [.ref lS, .int 0, .ref tp])), (lS, .inl (cI, 241, .inl fS)), (tp, .inr (9, [.ref tB, .int tl, .int 0])), (tB, .inl (cI, 260, .inl fB))]) hP9 hD9 rfl
  have hS := hS9
  clear hP9 hD9 hS9
  refine lv_aload_n hx hb dX5_read_18 rfl (lv_at hl 0 rfl) ?_
  obtain ⟨hPc, hDc, hFc⟩ := zc3 (wc := [(h0, .inr (5, [.ref lS, .int 0, .ref tp])), (lS, .inl (cI, 241, .inl fS)), (tp, .inr (9, [.ref tB, .int tl, .int 0])), (tB, .inl (cI, 260, .inl fB))]) hP hD hS hA [0, 1, 2, 3] (by decide +kernel) rfl
  refine va_calli (va_runV (As := []) (rest := []) ⟨hx, hb, hml, hown, hts⟩ (g_X5_clause l dC dI cI cJ h0 lS 0 tp fS tB tl 0 fB H.size (by decide) (by decide) n_tl (hty) (by decide) ci_fS_zSt) (cwV 0 hts (zgV qw480 qw482 qw2 qw101 qw483) rfl rfl rfl hd_X5_clause ⟨by rw [hR]; exact Nat.le_of_ble_eq_true rfl, by rw [hR]; exact Nat.le_of_ble_eq_true rfl⟩) (zPWV hPc hK hDc (va_recv (q := (RX5, TX5, 3)) hK hP (ci := 5) (q0 := 0) rfl rfl) (zV_call hV hS hFc)) rfl rfl hl.1 rfl (lv_room (Nat.le_of_ble_eq_true rfl)) dX5_read_19 ⟨Nat.zero_le _, Nat.zero_le _⟩) hS (fun q _ h => hFc q h) hFc (fun v19 u19 t H locs ht hvm hw hB hz1 hk1 hS9 => ?_)
  obtain ⟨u19_0, u19_1, u19_2⟩ := u19
  obtain ⟨hP9, hD9⟩ := zj2 (wX := [(h0, .inr (5, [.ref lS, .int u19_0, .ref tp])), (lS, .inl (cI, 241, .inl u19_1)), (tp, .inr (9, [.ref tB, .int tl, .int u19_2])), (tB, .inl (cI, 260, .inl fB))]) hP hD hk1 hFc ht hB [0, 1, 2, 3] [(true, 0), (true, 1), (true, 2), (true, 3)] rfl (by decide +kernel) (by decide +kernel) rfl
  clear hP hD hS hPc hDc hFc hB hk1 hz1 hvm
  have hP := hP9
  have hD := hD9
  have hS := hS9
  clear hP9 hD9 hS9
  have zn19_0 : (0 : Int32).toInt = 0 := by decide
  obtain ⟨f19_0, f19_1, f19_2, f19_3, f19_4, f19_5, f19_6, f19_7, f19_8, f19_9, f19_10⟩ : (0 ≤ v19.toInt) ∧ (v19.toInt ≤ 1) ∧ (0 ≤ u19_0.toInt) ∧ (u19_0.toInt ≤ 241) ∧ (0 ≤ u19_2.toInt) ∧ (u19_2.toInt ≤ 240) ∧ (zF (sCl (sB fB tl.toInt) tl.toInt (0 : Int32).toInt) v19 u19_2) ∧ (¬ v19.toInt = 0 → (0 : Int32).toInt < u19_2.toInt) ∧ (¬ v19.toInt = 0 → u19_0.toInt + (0 : Int32).toInt ≤ (0 : Int32).toInt + u19_2.toInt) ∧ (¬ v19.toInt = 0 → zEm fS 0 (eCl (sB fB tl.toInt) tl.toInt (0 : Int32).toInt) u19_1 u19_0) ∧ (zSt u19_1) := hw
  have F19 := f19_6
  have F19_1 := f19_9
  refine lv_istore_n (lv' := [(2, .int v19), (0, .ref h0), (1, .ref tp)]) hx hb dX5_read_22 rfl hl (by decide) rfl (fun ls hl => ?_)
  refine lv_iconst (v := 0) hx hb dX5_read_23 (by decide) ?_
  have J25 : ∀ (n : Nat) (m25_A_lS : Nat → Int32) (m25_F_h0_1 : Int32) (m25_F_tp_2 : Int32) (m25_L_2 : Int32) (m25_L_3 : Int32), (0 ≤ m25_F_h0_1.toInt ∧ m25_F_h0_1.toInt ≤ 241) → (0 ≤ m25_F_tp_2.toInt ∧ m25_F_tp_2.toInt ≤ 240) → (0 ≤ m25_L_2.toInt ∧ m25_L_2.toInt ≤ 1) → (0 ≤ m25_L_3.toInt ∧ m25_L_3.toInt ≤ 240) → (¬ m25_L_2.toInt = 0 → m25_L_3.toInt ≤ m25_F_tp_2.toInt) → (zLr fB tl m25_L_2 m25_F_tp_2) → (¬ m25_L_2.toInt = 0 → m25_F_h0_1.toInt ≤ m25_F_tp_2.toInt) → (zLe fB tl m25_A_lS m25_F_h0_1 m25_L_2 m25_F_tp_2) → (zSt m25_A_lS) → (241 - m25_L_3.toInt).toNat = n → ∀ (H : Heap) (locs : List Loc) (ls : Array Slot), va_P (dC, dI) vwCl [(h0, .inr (5, [.ref lS, .int m25_F_h0_1, .ref tp])), (lS, .inl (cI, 241, .inl m25_A_lS)), (tp, .inr (9, [.ref tB, .int tl, .int m25_F_tp_2])), (tB, .inl (cI, 260, .inl fB))] H → va_D A [(h0, .inr (5, [.ref lS, .int m25_F_h0_1, .ref tp])), (lS, .inl (cI, 241, .inl m25_A_lS)), (tp, .inr (9, [.ref tB, .int tl, .int m25_F_tp_2])), (tB, .inl (cI, 260, .inl fB))] → va_S A s.heap H locs → lv_has ls 4 [(3, .int m25_L_3), (2, .int m25_L_2), (0, .ref h0), (1, .ref tp)] → W p l e R s m args below meth c H locs 0 0 Q (F0 m 25 ls []) := by
    intro n25
    induction n25 using Nat.strongRecOn with
    | _ n25 ih25 =>
      intro m25_A_lS m25_F_h0_1 m25_F_tp_2 m25_L_2 m25_L_3 jf25_0 jf25_1 jf25_2 jf25_3 jf25_4 jv25_0 jf25_6 jv25_1 jf25_8 hmu25 H locs ls hP hD hS hl
      refine lv_iload_n hx hb dX5_read_25 rfl (lv_at hl 0 rfl) ?_
      refine lv_aload_n hx hb dX5_read_26 rfl (lv_at hl 2 rfl) ?_
      refine va_get (D := (dC, dI)) (ci := 5) (v := .ref tp) (C := RX5) (T := TX5) (N := 3) hx hb hts iX5 hown hK hP 0 rfl rfl 2 (by decide) (hts _ qw172) (fun _ h9 => h9) rfl dX5_read_27 ?_
      refine va_get (D := (dC, dI)) (ci := 9) (v := .int tl) (C := RX9) (T := TX9) (N := 3) hx hb hts iX9 hown hK hP 2 rfl rfl 1 (by decide) (hts _ qw135) (fun _ h9 => h9) rfl dX5_read_30 ?_
      refine lv_icmp_ge (tgt := 63) hx hb dX5_read_33 (by decide) (fun c33 => ?_) (fun c33 => ?_)
      · have c33 : tl.toInt ≤ m25_L_3.toInt := z3 rfl rfl c33
        refine lv_iload_n hx hb dX5_read_63 rfl (lv_at hl 1 rfl) ?_
        refine lv_if_eq (tgt := 81) hx hb dX5_read_64 (by decide) (fun c64 => ?_) (fun c64 => ?_)
        · have c64 : m25_L_2.toInt = 0 := z5 rfl (by decide) c64
          refine lv_aload_n hx hb dX5_read_81 rfl (lv_at hl 2 rfl) ?_
          refine va_get (D := (dC, dI)) (ci := 5) (v := .ref tp) (C := RX5) (T := TX5) (N := 3) hx hb hts iX5 hown hK hP 0 rfl rfl 2 (by decide) (hts _ qw172) (fun _ h9 => h9) rfl dX5_read_82 ?_
          refine va_get (D := (dC, dI)) (ci := 9) (v := .int m25_F_tp_2) (C := RX9) (T := TX9) (N := 3) hx hb hts iX9 hown hK hP 2 rfl rfl 2 (by decide) (hts _ qw137) (fun _ h9 => h9) rfl dX5_read_85 ?_
          rw [hQ]
          exact W.iret (v := m25_F_tp_2) hx hb hr (fun t ht hW => ⟨⟨m25_F_tp_2, (m25_F_h0_1, m25_A_lS, m25_F_tp_2), rfl, ⟨by (try dsimp only); omega, by (try dsimp only); omega, by (try dsimp only); omega, by (try dsimp only); omega, by (try dsimp only); omega, by (try dsimp only); omega, zLrF jv25_0 (by omega), fun z => absurd z (by omega), jf25_8⟩, ⟨by rw [ht]; exact hP, hD⟩⟩, hS.F ht⟩) hS.2.2 dX5_read_88
        · have c64 : ¬ m25_L_2.toInt = 0 := z6 rfl (by decide) c64
          refine lv_aload_n hx hb dX5_read_67 rfl (lv_at hl 2 rfl) ?_
          refine va_get (D := (dC, dI)) (ci := 5) (v := .ref tp) (C := RX5) (T := TX5) (N := 3) hx hb hts iX5 hown hK hP 0 rfl rfl 2 (by decide) (hts _ qw172) (fun _ h9 => h9) rfl dX5_read_68 ?_
          obtain ⟨hPc, hDc, hFc⟩ := zc3 (wc := [(tp, .inr (9, [.ref tB, .int tl, .int m25_F_tp_2])), (tB, .inl (cI, 260, .inl fB))]) hP hD hS hA [2, 3] (by decide +kernel) rfl
          refine va_calli (va_runV (As := []) (rest := []) ⟨hx, hb, hml, hown, hts⟩ (g_X9_peek l dC dI cI cJ tp tB tl m25_F_tp_2 fB H.size jf25_1 n_tl (hty)) (cwV 0 hts (zgV qw485 qw438 qw439 qw99 qw440) rfl rfl rfl hd_X9_peek ⟨by rw [hR]; exact Nat.le_of_ble_eq_true rfl, by rw [hR]; exact Nat.le_of_ble_eq_true rfl⟩) (zPV hPc hK hDc (va_recv (q := (RX9, TX9, 3)) hK hP (ci := 9) (q0 := 2) rfl rfl)) rfl rfl hl.1 rfl (lv_room (Nat.le_of_ble_eq_true rfl)) dX5_read_71 ⟨Nat.zero_le _, Nat.zero_le _⟩) hS (fun q _ h => hFc q h) hFc (fun v71 u71 t H locs ht hvm hw hB hz1 hk1 hS9 => ?_)
          obtain ⟨u71_0, rfl⟩ : ∃ z, z = u71 := ⟨_, rfl⟩
          obtain ⟨hP9, hD9⟩ := zj2 (wX := [(h0, .inr (5, [.ref lS, .int m25_F_h0_1, .ref tp])), (lS, .inl (cI, 241, .inl m25_A_lS)), (tp, .inr (9, [.ref tB, .int tl, .int u71_0])), (tB, .inl (cI, 260, .inl fB))]) hP hD hk1 hFc ht hB [2, 3] [(false, 0), (false, 1), (true, 0), (true, 1)] rfl (by decide +kernel) (by decide +kernel) rfl
          clear hP hD hS hPc hDc hFc hB hk1 hz1 hvm
          have hP := hP9
          have hD := hD9
          have hS := hS9
          clear hP9 hD9 hS9
          obtain ⟨f71_0, f71_1, f71_2, f71_3, f71_4⟩ : (0 ≤ u71_0.toInt) ∧ (u71_0.toInt ≤ 240) ∧ (¬ v71.toInt = 0 → u71_0.toInt < tl.toInt) ∧ (m25_F_tp_2.toInt ≤ u71_0.toInt) ∧ (zPK fB tl m25_F_tp_2 v71 u71_0) := hw
          have F71 := f71_4
          refine lv_if_ne (tgt := 81) hx hb dX5_read_74 (by decide) (fun c74 => ?_) (fun c74 => ?_)
          · have c74 : ¬ v71.toInt = 0 := z6 rfl (by decide) c74
            refine lv_aload_n hx hb dX5_read_81 rfl (lv_at hl 2 rfl) ?_
            refine va_get (D := (dC, dI)) (ci := 5) (v := .ref tp) (C := RX5) (T := TX5) (N := 3) hx hb hts iX5 hown hK hP 0 rfl rfl 2 (by decide) (hts _ qw172) (fun _ h9 => h9) rfl dX5_read_82 ?_
            refine va_get (D := (dC, dI)) (ci := 9) (v := .int u71_0) (C := RX9) (T := TX9) (N := 3) hx hb hts iX9 hown hK hP 2 rfl rfl 2 (by decide) (hts _ qw137) (fun _ h9 => h9) rfl dX5_read_85 ?_
            rw [hQ]
            exact W.iret (v := u71_0) hx hb hr (fun t ht hW => ⟨⟨u71_0, (m25_F_h0_1, m25_A_lS, u71_0), rfl, ⟨by (try dsimp only); omega, by (try dsimp only); omega, by (try dsimp only); omega, by (try dsimp only); omega, by (try dsimp only); omega, by (try dsimp only); omega, (zLrP jv25_0 (by omega) (Or.inl (by omega)) F71.1 F71.2).2 (by omega), fun z => absurd z (by omega), jf25_8⟩, ⟨by rw [ht]; exact hP, hD⟩⟩, hS.F ht⟩) hS.2.2 dX5_read_88
          · have c74 : v71.toInt = 0 := z5 rfl (by decide) c74
            refine lv_iconst (v := (-1)) hx hb dX5_read_77 (by decide) ?_
            refine lv_goto (tgt := 88) hx hb dX5_read_78 (by decide) ?_
            have zr0 : ((-1) : Int32).toInt = (-1) := by decide
            rw [hQ]
            exact W.iret (v := ((-1))) hx hb hr (fun t ht hW => ⟨⟨(-1), (m25_F_h0_1, m25_A_lS, u71_0), rfl, ⟨by (try dsimp only); omega, by (try dsimp only); omega, by (try dsimp only); omega, by (try dsimp only); omega, by (try dsimp only); omega, by (try dsimp only); omega, (zLrP jv25_0 (by omega) (Or.inl (by omega)) F71.1 F71.2).1 (by omega), fun _ => zLeE jv25_1 (by omega) (Or.inl (by omega)), jf25_8⟩, ⟨by rw [ht]; exact hP, hD⟩⟩, hS.F ht⟩) hS.2.2 dX5_read_88
      · have c33 : m25_L_3.toInt < tl.toInt := z4 rfl rfl c33
        refine lv_iload_n hx hb dX5_read_36 rfl (lv_at hl 1 rfl) ?_
        refine lv_if_eq (tgt := 63) hx hb dX5_read_37 (by decide) (fun c37 => ?_) (fun c37 => ?_)
        · have c37 : m25_L_2.toInt = 0 := z5 rfl (by decide) c37
          refine lv_iload_n hx hb dX5_read_63 rfl (lv_at hl 1 rfl) ?_
          refine lv_if_eq (tgt := 81) hx hb dX5_read_64 (by decide) (fun c64 => ?_) (fun c64 => by exfalso; have c64 : ¬ m25_L_2.toInt = 0 := z6 rfl (by decide) c64; omega)
          have c64 : m25_L_2.toInt = 0 := z5 rfl (by decide) c64
          refine lv_aload_n hx hb dX5_read_81 rfl (lv_at hl 2 rfl) ?_
          refine va_get (D := (dC, dI)) (ci := 5) (v := .ref tp) (C := RX5) (T := TX5) (N := 3) hx hb hts iX5 hown hK hP 0 rfl rfl 2 (by decide) (hts _ qw172) (fun _ h9 => h9) rfl dX5_read_82 ?_
          refine va_get (D := (dC, dI)) (ci := 9) (v := .int m25_F_tp_2) (C := RX9) (T := TX9) (N := 3) hx hb hts iX9 hown hK hP 2 rfl rfl 2 (by decide) (hts _ qw137) (fun _ h9 => h9) rfl dX5_read_85 ?_
          rw [hQ]
          exact W.iret (v := m25_F_tp_2) hx hb hr (fun t ht hW => ⟨⟨m25_F_tp_2, (m25_F_h0_1, m25_A_lS, m25_F_tp_2), rfl, ⟨by (try dsimp only); omega, by (try dsimp only); omega, by (try dsimp only); omega, by (try dsimp only); omega, by (try dsimp only); omega, by (try dsimp only); omega, zLrF jv25_0 (by omega), fun z => absurd z (by omega), jf25_8⟩, ⟨by rw [ht]; exact hP, hD⟩⟩, hS.F ht⟩) hS.2.2 dX5_read_88
        · have c37 : ¬ m25_L_2.toInt = 0 := z6 rfl (by decide) c37
          refine lv_aload_n hx hb dX5_read_40 rfl (lv_at hl 2 rfl) ?_
          refine va_get (D := (dC, dI)) (ci := 5) (v := .ref tp) (C := RX5) (T := TX5) (N := 3) hx hb hts iX5 hown hK hP 0 rfl rfl 2 (by decide) (hts _ qw172) (fun _ h9 => h9) rfl dX5_read_41 ?_
          refine lv_bipush (v := 59) hx hb dX5_read_44 (by decide) ?_
          obtain ⟨hPc, hDc, hFc⟩ := zc3 (wc := [(tp, .inr (9, [.ref tB, .int tl, .int m25_F_tp_2])), (tB, .inl (cI, 260, .inl fB))]) hP hD hS hA [2, 3] (by decide +kernel) rfl
          refine va_calli (va_runV (As := [.int 59]) (rest := []) ⟨hx, hb, hml, hown, hts⟩ (g_X9_takes l dC dI cI cJ tp 59 tB tl m25_F_tp_2 fB H.size (by decide) jf25_1 n_tl (hty)) (cwV 1 hts (zgV qw484 qw472 qw473 qw99 qw474) rfl rfl rfl hd_X9_takes ⟨by rw [hR]; exact Nat.le_of_ble_eq_true rfl, by rw [hR]; exact Nat.le_of_ble_eq_true rfl⟩) (zPV hPc hK hDc (va_recv (q := (RX9, TX9, 3)) hK hP (ci := 9) (q0 := 2) rfl rfl)) rfl rfl hl.1 rfl (lv_room (Nat.le_of_ble_eq_true rfl)) dX5_read_46 ⟨Nat.zero_le _, Nat.zero_le _⟩) hS (fun q _ h => hFc q h) hFc (fun v46 u46 t H locs ht hvm hw hB hz1 hk1 hS9 => ?_)
          obtain ⟨u46_0, rfl⟩ : ∃ z, z = u46 := ⟨_, rfl⟩
          obtain ⟨hP9, hD9⟩ := zj2 (wX := [(h0, .inr (5, [.ref lS, .int m25_F_h0_1, .ref tp])), (lS, .inl (cI, 241, .inl m25_A_lS)), (tp, .inr (9, [.ref tB, .int tl, .int u46_0])), (tB, .inl (cI, 260, .inl fB))]) hP hD hk1 hFc ht hB [2, 3] [(false, 0), (false, 1), (true, 0), (true, 1)] rfl (by decide +kernel) (by decide +kernel) rfl
          clear hP hD hS hPc hDc hFc hB hk1 hz1 hvm
          have hP := hP9
          have hD := hD9
          have hS := hS9
          clear hP9 hD9 hS9
          obtain ⟨f46_0, f46_1, f46_2, f46_3, f46_4, f46_5⟩ : (0 ≤ v46.toInt) ∧ (v46.toInt ≤ 1) ∧ (0 ≤ u46_0.toInt) ∧ (u46_0.toInt ≤ 240) ∧ (m25_F_tp_2.toInt ≤ u46_0.toInt) ∧ (zTk fB tl m25_F_tp_2 59 v46 u46_0) := hw
          have F46 := f46_5
          refine lv_if_eq (tgt := 63) hx hb dX5_read_49 (by decide) (fun c49 => ?_) (fun c49 => ?_)
          · have c49 : v46.toInt = 0 := z5 rfl (by decide) c49
            refine lv_iload_n hx hb dX5_read_63 rfl (lv_at hl 1 rfl) ?_
            refine lv_if_eq (tgt := 81) hx hb dX5_read_64 (by decide) (fun c64 => by exfalso; have c64 : m25_L_2.toInt = 0 := z5 rfl (by decide) c64; omega) (fun c64 => ?_)
            have c64 : ¬ m25_L_2.toInt = 0 := z6 rfl (by decide) c64
            refine lv_aload_n hx hb dX5_read_67 rfl (lv_at hl 2 rfl) ?_
            refine va_get (D := (dC, dI)) (ci := 5) (v := .ref tp) (C := RX5) (T := TX5) (N := 3) hx hb hts iX5 hown hK hP 0 rfl rfl 2 (by decide) (hts _ qw172) (fun _ h9 => h9) rfl dX5_read_68 ?_
            obtain ⟨hPc, hDc, hFc⟩ := zc3 (wc := [(tp, .inr (9, [.ref tB, .int tl, .int u46_0])), (tB, .inl (cI, 260, .inl fB))]) hP hD hS hA [2, 3] (by decide +kernel) rfl
            refine va_calli (va_runV (As := []) (rest := []) ⟨hx, hb, hml, hown, hts⟩ (g_X9_peek l dC dI cI cJ tp tB tl u46_0 fB H.size ⟨f46_2, f46_3⟩ n_tl (hty)) (cwV 0 hts (zgV qw485 qw438 qw439 qw99 qw440) rfl rfl rfl hd_X9_peek ⟨by rw [hR]; exact Nat.le_of_ble_eq_true rfl, by rw [hR]; exact Nat.le_of_ble_eq_true rfl⟩) (zPV hPc hK hDc (va_recv (q := (RX9, TX9, 3)) hK hP (ci := 9) (q0 := 2) rfl rfl)) rfl rfl hl.1 rfl (lv_room (Nat.le_of_ble_eq_true rfl)) dX5_read_71 ⟨Nat.zero_le _, Nat.zero_le _⟩) hS (fun q _ h => hFc q h) hFc (fun v71 u71 t H locs ht hvm hw hB hz1 hk1 hS9 => ?_)
            obtain ⟨u71_0, rfl⟩ : ∃ z, z = u71 := ⟨_, rfl⟩
            obtain ⟨hP9, hD9⟩ := zj2 (wX := [(h0, .inr (5, [.ref lS, .int m25_F_h0_1, .ref tp])), (lS, .inl (cI, 241, .inl m25_A_lS)), (tp, .inr (9, [.ref tB, .int tl, .int u71_0])), (tB, .inl (cI, 260, .inl fB))]) hP hD hk1 hFc ht hB [2, 3] [(false, 0), (false, 1), (true, 0), (true, 1)] rfl (by decide +kernel) (by decide +kernel) rfl
            clear hP hD hS hPc hDc hFc hB hk1 hz1 hvm
            have hP := hP9
            have hD := hD9
            have hS := hS9
            clear hP9 hD9 hS9
            obtain ⟨f71_0, f71_1, f71_2, f71_3, f71_4⟩ : (0 ≤ u71_0.toInt) ∧ (u71_0.toInt ≤ 240) ∧ (¬ v71.toInt = 0 → u71_0.toInt < tl.toInt) ∧ (u46_0.toInt ≤ u71_0.toInt) ∧ (zPK fB tl u46_0 v71 u71_0) := hw
            have F71 := f71_4
            refine lv_if_ne (tgt := 81) hx hb dX5_read_74 (by decide) (fun c74 => ?_) (fun c74 => ?_)
            · have c74 : ¬ v71.toInt = 0 := z6 rfl (by decide) c74
              refine lv_aload_n hx hb dX5_read_81 rfl (lv_at hl 2 rfl) ?_
              refine va_get (D := (dC, dI)) (ci := 5) (v := .ref tp) (C := RX5) (T := TX5) (N := 3) hx hb hts iX5 hown hK hP 0 rfl rfl 2 (by decide) (hts _ qw172) (fun _ h9 => h9) rfl dX5_read_82 ?_
              refine va_get (D := (dC, dI)) (ci := 9) (v := .int u71_0) (C := RX9) (T := TX9) (N := 3) hx hb hts iX9 hown hK hP 2 rfl rfl 2 (by decide) (hts _ qw137) (fun _ h9 => h9) rfl dX5_read_85 ?_
              rw [hQ]
              exact W.iret (v := u71_0) hx hb hr (fun t ht hW => ⟨⟨u71_0, (m25_F_h0_1, m25_A_lS, u71_0), rfl, ⟨by (try dsimp only); omega, by (try dsimp only); omega, by (try dsimp only); omega, by (try dsimp only); omega, by (try dsimp only); omega, by (try dsimp only); omega, (zLrP jv25_0 (by omega) (Or.inr (zTk_n F46 (by omega) (by decide))) (zTk_s F46 (by omega) F71.1) F71.2).2 (by omega), fun z => absurd z (by omega), jf25_8⟩, ⟨by rw [ht]; exact hP, hD⟩⟩, hS.F ht⟩) hS.2.2 dX5_read_88
            · have c74 : v71.toInt = 0 := z5 rfl (by decide) c74
              refine lv_iconst (v := (-1)) hx hb dX5_read_77 (by decide) ?_
              refine lv_goto (tgt := 88) hx hb dX5_read_78 (by decide) ?_
              have zr0 : ((-1) : Int32).toInt = (-1) := by decide
              rw [hQ]
              exact W.iret (v := ((-1))) hx hb hr (fun t ht hW => ⟨⟨(-1), (m25_F_h0_1, m25_A_lS, u71_0), rfl, ⟨by (try dsimp only); omega, by (try dsimp only); omega, by (try dsimp only); omega, by (try dsimp only); omega, by (try dsimp only); omega, by (try dsimp only); omega, (zLrP jv25_0 (by omega) (Or.inr (zTk_n F46 (by omega) (by decide))) (zTk_s F46 (by omega) F71.1) F71.2).1 (by omega), fun _ => zLeE jv25_1 (by omega) (Or.inr (zTk_n F46 (by omega) (by decide))), jf25_8⟩, ⟨by rw [ht]; exact hP, hD⟩⟩, hS.F ht⟩) hS.2.2 dX5_read_88
          · have c49 : ¬ v46.toInt = 0 := z6 rfl (by decide) c49
            refine lv_aload_n hx hb dX5_read_52 rfl (lv_at hl 2 rfl) ?_
            obtain ⟨hPc, hDc, hFc⟩ := zc3 (wc := [(h0, .inr (5, [.ref lS, .int m25_F_h0_1, .ref tp])), (lS, .inl (cI, 241, .inl m25_A_lS)), (tp, .inr (9, [.ref tB, .int tl, .int u46_0])), (tB, .inl (cI, 260, .inl fB))]) hP hD hS hA [0, 1, 2, 3] (by decide +kernel) rfl
            refine va_calli (va_runV (As := []) (rest := []) ⟨hx, hb, hml, hown, hts⟩ (g_X5_clause l dC dI cI cJ h0 lS m25_F_h0_1 tp m25_A_lS tB tl u46_0 fB H.size jf25_0 ⟨f46_2, f46_3⟩ n_tl (hty) (by omega) jf25_8) (cwV 0 hts (zgV qw480 qw482 qw2 qw101 qw483) rfl rfl rfl hd_X5_clause ⟨by rw [hR]; exact Nat.le_of_ble_eq_true rfl, by rw [hR]; exact Nat.le_of_ble_eq_true rfl⟩) (zPWV hPc hK hDc (va_recv (q := (RX5, TX5, 3)) hK hP (ci := 5) (q0 := 0) rfl rfl) (zV_call hV hS hFc)) rfl rfl hl.1 rfl (lv_room (Nat.le_of_ble_eq_true rfl)) dX5_read_53 ⟨Nat.zero_le _, Nat.zero_le _⟩) hS (fun q _ h => hFc q h) hFc (fun v53 u53 t H locs ht hvm hw hB hz1 hk1 hS9 => ?_)
            obtain ⟨u53_0, u53_1, u53_2⟩ := u53
            obtain ⟨hP9, hD9⟩ := zj2 (wX := [(h0, .inr (5, [.ref lS, .int u53_0, .ref tp])), (lS, .inl (cI, 241, .inl u53_1)), (tp, .inr (9, [.ref tB, .int tl, .int u53_2])), (tB, .inl (cI, 260, .inl fB))]) hP hD hk1 hFc ht hB [0, 1, 2, 3] [(true, 0), (true, 1), (true, 2), (true, 3)] rfl (by decide +kernel) (by decide +kernel) rfl
            clear hP hD hS hPc hDc hFc hB hk1 hz1 hvm
            have hP := hP9
            have hD := hD9
            have hS := hS9
            clear hP9 hD9 hS9
            obtain ⟨f53_0, f53_1, f53_2, f53_3, f53_4, f53_5, f53_6, f53_7, f53_8, f53_9, f53_10⟩ : (0 ≤ v53.toInt) ∧ (v53.toInt ≤ 1) ∧ (0 ≤ u53_0.toInt) ∧ (u53_0.toInt ≤ 241) ∧ (0 ≤ u53_2.toInt) ∧ (u53_2.toInt ≤ 240) ∧ (zF (sCl (sB fB tl.toInt) tl.toInt u46_0.toInt) v53 u53_2) ∧ (¬ v53.toInt = 0 → u46_0.toInt < u53_2.toInt) ∧ (¬ v53.toInt = 0 → u53_0.toInt + u46_0.toInt ≤ m25_F_h0_1.toInt + u53_2.toInt) ∧ (¬ v53.toInt = 0 → zEm m25_A_lS m25_F_h0_1 (eCl (sB fB tl.toInt) tl.toInt u46_0.toInt) u53_1 u53_0) ∧ (zSt u53_1) := hw
            have F53 := f53_6
            have F53_1 := f53_9
            refine lv_istore_n (lv' := [(2, .int v53), (3, .int m25_L_3), (0, .ref h0), (1, .ref tp)]) hx hb dX5_read_56 rfl hl (by decide) rfl (fun ls hl => ?_)
            obtain ⟨v57, e57⟩ : ∃ y : Int32, y = m25_L_3 + Int32.ofInt (1) := ⟨_, rfl⟩
            refine lv_iinc (v := v57) (lv' := [(3, .int v57), (2, .int v53), (0, .ref h0), (1, .ref tp)]) hx hb dX5_read_57 hl (k := 1) rfl e57.symm (by decide) rfl (fun ls hl => ?_)
            have i57 : v57.toInt = m25_L_3.toInt + 1 := zaddI e57 (by decide) (by omega) (by omega)
            refine lv_goto (tgt := 25) hx hb dX5_read_60 (by decide) ?_
            exact ih25 _ (by omega) u53_1 u53_0 u53_2 v53 v57 ⟨f53_2, f53_3⟩ ⟨f53_4, f53_5⟩ ⟨f53_0, f53_1⟩ (by omega) (by omega) (zLrS jv25_0 (by omega) F46 (by omega) F53 (by omega) (by omega) (by omega)) (by omega) (zLeS jv25_1 (by omega) F46 (by omega) F53 (fun z => by omega) F53_1) f53_10 rfl H locs ls hP hD hS (lv_sub hl [0, 1, 2, 3] rfl)
  refine lv_istore_n (lv' := [(3, .int 0), (2, .int v19), (0, .ref h0), (1, .ref tp)]) hx hb dX5_read_24 rfl hl (by decide) rfl (fun ls hl => ?_)
  have zj25_m25_L_3 : (0 : Int32).toInt = 0 := by decide
  exact J25 _ u19_1 u19_0 u19_2 v19 0 ⟨f19_2, f19_3⟩ ⟨f19_4, f19_5⟩ ⟨f19_0, f19_1⟩ (by decide) (by omega) (zLr0 F19 (by omega) (by omega)) (by omega) (zLe0 F19 F19_1) f19_10 rfl H locs ls hP hD hS (lv_sub hl [0, 1, 2, 3] rfl)
