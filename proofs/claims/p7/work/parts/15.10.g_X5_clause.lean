set_option maxHeartbeats 4000000 in
set_option maxRecDepth 100000 in
theorem g_X5_clause (l : Launch) (dC : Nat → ClassId) (dI : Nat → Nat → Nat) (cI cJ : ClassId) (h0 : Nat) (lS : Nat) (sz5 : Int32) (tp : Nat) (fS : Nat → Int32) (tB : Nat) (tl : Int32) (ta : Int32) (fB : Nat → Int32) (sz : Nat) (n_sz5 : 0 ≤ sz5.toInt ∧ sz5.toInt ≤ 241) (n_ta : 0 ≤ ta.toInt ∧ ta.toInt ≤ 240) (n_tl : 0 ≤ tl.toInt ∧ tl.toInt ≤ 240) (hty : zTy tl fB) (hsz : sz5.toInt ≤ ta.toInt) (ci_fS_zSt : zSt fS)  : Met l yX5_clause (.code yX5_clause cX5_clause 3 (some .boolean) :: wA) ({ frames := 37, cells := 0, slots := 0, locals := 706 }) (zPW (dC, dI) [(cI, .int), (cJ, .long)] [.ref h0] sz [(h0, .inr (5, [.ref lS, .int sz5, .ref tp])), (lS, .inl (cI, 241, .inl fS)), (tp, .inr (9, [.ref tB, .int tl, .int ta])), (tB, .inl (cI, 260, .inl fB))] (va_A [(h0, .inr (5, [.ref lS, .int sz5, .ref tp])), (lS, .inl (cI, 241, .inl fS)), (tp, .inr (9, [.ref tB, .int tl, .int ta])), (tB, .inl (cI, 260, .inl fB))] sz)) (va_Qi (fun (r : Int32) (u : Int32 × (Nat → Int32) × Int32) => (0 ≤ r.toInt) ∧ (r.toInt ≤ 1) ∧ (0 ≤ u.1.toInt) ∧ (u.1.toInt ≤ 241) ∧ (0 ≤ u.2.2.toInt) ∧ (u.2.2.toInt ≤ 240) ∧ (zF (sCl (sB fB tl.toInt) tl.toInt ta.toInt) r u.2.2) ∧ (¬ r.toInt = 0 → ta.toInt < u.2.2.toInt) ∧ (¬ r.toInt = 0 → u.1.toInt + ta.toInt ≤ sz5.toInt + u.2.2.toInt) ∧ (¬ r.toInt = 0 → zEm fS sz5 (eCl (sB fB tl.toInt) tl.toInt ta.toInt) u.2.1 u.1) ∧ (zSt u.2.1)) (fun (u : Int32 × (Nat → Int32) × Int32) (t : State) => va_P (dC, dI) vwCl [(h0, .inr (5, [.ref lS, .int u.1, .ref tp])), (lS, .inl (cI, 241, .inl u.2.1)), (tp, .inr (9, [.ref tB, .int tl, .int u.2.2])), (tB, .inl (cI, 260, .inl fB))] t.heap ∧ va_D (va_A [(h0, .inr (5, [.ref lS, .int sz5, .ref tp])), (lS, .inl (cI, 241, .inl fS)), (tp, .inr (9, [.ref tB, .int tl, .int ta])), (tB, .inl (cI, 260, .inl fB))] sz) [(h0, .inr (5, [.ref lS, .int u.1, .ref tp])), (lS, .inl (cI, 241, .inl u.2.1)), (tp, .inr (9, [.ref tB, .int tl, .int u.2.2])), (tB, .inl (cI, 260, .inl fB))]) (va_A [(h0, .inr (5, [.ref lS, .int sz5, .ref tp])), (lS, .inl (cI, 241, .inl fS)), (tp, .inr (9, [.ref tB, .int tl, .int ta])), (tB, .inl (cI, 260, .inl fB))] sz)) 0 0 (va_A [(h0, .inr (5, [.ref lS, .int sz5, .ref tp])), (lS, .inl (cI, 241, .inl fS)), (tp, .inr (9, [.ref tB, .int tl, .int ta])), (tB, .inl (cI, 260, .inl fB))] sz) := by
  refine Met.ofW (cc := cX5_clause) (maxL := 3) (ret := (some .boolean)) (by decide) rfl ?_
  intro p e s m args below meth c s₁ B hml hv
  obtain ⟨⟨hargs, hsz, hP, hK, hT⟩, hV⟩ := hv
  have hx := B.exec
  have hb := B.bytes
  have hr := B.returns
  have hts : ∀ w ∈ wA, w.before args s = true := fun w h => atoms_spec (ws := .code yX5_clause cX5_clause 3 (some .boolean) :: wA) B.pre w (List.mem_cons_of_mem _ h)
  have hown : s.vm.findClass RX5 = some m.cls := findClass_of_methodNamed B.named
  have hlocks := B.notSynchronized
  subst hsz
  have hD := hT.self (sz := s.heap.size)
  generalize hAe : va_A [(h0, .inr (5, [.ref lS, .int sz5, .ref tp])), (lS, .inl (cI, 241, .inl fS)), (tp, .inr (9, [.ref tB, .int tl, .int ta])), (tB, .inl (cI, 260, .inl fB))] s.heap.size = A at hD hV ⊢
  have hA : ∀ q : Nat, s.heap.size ≤ q → A q := fun q h => by rw [← hAe]; exact Or.inr h
  have hl := lv_entry ([.ref h0]) (n := 3) (Nat.le_of_ble_eq_true rfl)
  rw [show entryFrame m args 3 = entryFrame m ([.ref h0] : List Value).toArray 3 by rw [hargs], lg_entry_eq]
  generalize (lg_sl ([.ref h0]) ++ List.replicate (3 - (lg_sl ([.ref h0])).length) Slot.unset).toArray = ls at hl ⊢
  have hl : lv_has ls 3 [(0, .ref h0)] := hl
  refine zstart (fun H hH => ?_)
  rw [← hH] at hP
  have hS : va_S A s.heap H [] := by rw [hH]; exact va_S.rf
  generalize ([] : List Loc) = locs at hS ⊢
  refine zgen (fun R Q hR hQ => ?_)
  refine lv_aload_n hx hb dX5_clause_0 rfl (lv_at hl 0 rfl) ?_
  refine va_get (D := (dC, dI)) (ci := 5) (v := .ref tp) (C := RX5) (T := TX5) (N := 3) hx hb hts iX5 hown hK hP 0 rfl rfl 2 (by decide) (hts _ qw172) (fun _ h9 => h9) rfl dX5_clause_1 ?_
  refine lv_bipush (v := 121) hx hb dX5_clause_4 (by decide) ?_
  have hPc := hP.sub (ws' := [(tp, .inr (9, [.ref tB, .int tl, .int ta])), (tB, .inl (cI, 260, .inl fB))]) [2, 3] rfl
  have hDc := hD.sub (ws' := [(tp, .inr (9, [.ref tB, .int tl, .int ta])), (tB, .inl (cI, 260, .inl fB))]) [2, 3] (by decide) rfl
  have hFc := va_free (wc := [(tp, .inr (9, [.ref tB, .int tl, .int ta])), (tB, .inl (cI, 260, .inl fB))]) hD hS hA [2, 3] rfl
  refine va_calli (va_runV (As := [.int 121]) (rest := []) ⟨hx, hb, hml, hown, hts⟩ (g_X9_takes l dC dI cI cJ tp 121 tB tl ta fB H.size (by decide) n_ta n_tl (hty)) (cwV 1 hts (zgV qw484 qw472 qw473 qw99 qw474) rfl rfl rfl hd_X9_takes ⟨by rw [hR]; exact Nat.le_of_ble_eq_true rfl, by rw [hR]; exact Nat.le_of_ble_eq_true rfl⟩) (zPV hPc hK hDc (va_recv hK hP (ci := 9) (q0 := 2) rfl rfl)) rfl rfl hl.1 rfl (lv_room (Nat.le_of_ble_eq_true rfl)) dX5_clause_6 ⟨Nat.zero_le _, Nat.zero_le _⟩) hS (fun q _ h => hFc q h) hFc (fun v6 u6 t H locs ht hvm hw hB hz1 hk1 hS => ?_)
  obtain ⟨u6_0, rfl⟩ : ∃ z, z = u6 := ⟨_, rfl⟩
  obtain ⟨hP1, hD1⟩ := hB
  rw [ht] at hP1
  obtain ⟨hP, hD⟩ := va_join (wr := [(h0, .inr (5, [.ref lS, .int sz5, .ref tp])), (lS, .inl (cI, 241, .inl fS))]) (w1 := [(tp, .inr (9, [.ref tB, .int tl, .int u6_0])), (tB, .inl (cI, 260, .inl fB))]) hP hD [2, 3] [0, 1] rfl rfl (by decide) (by decide) hk1 hFc hP1 hD1
  have hP : va_P (dC, dI) vwCl [(h0, .inr (5, [.ref lS, .int sz5, .ref tp])), (lS, .inl (cI, 241, .inl fS)), (tp, .inr (9, [.ref tB, .int tl, .int u6_0])), (tB, .inl (cI, 260, .inl fB))] H := hP.sub [0, 1, 2, 3] rfl
  have hD : va_D A [(h0, .inr (5, [.ref lS, .int sz5, .ref tp])), (lS, .inl (cI, 241, .inl fS)), (tp, .inr (9, [.ref tB, .int tl, .int u6_0])), (tB, .inl (cI, 260, .inl fB))] := hD.sub [0, 1, 2, 3] (by decide) rfl
  obtain ⟨f6_0, f6_1, f6_2, f6_3, f6_4, f6_5⟩ : (0 ≤ v6.toInt) ∧ (v6.toInt ≤ 1) ∧ (0 ≤ u6_0.toInt) ∧ (u6_0.toInt ≤ 240) ∧ (ta.toInt ≤ u6_0.toInt) ∧ (zTk fB tl ta 121 v6 u6_0) := hw
  have F6 := f6_5
  refine lv_if_eq (tgt := 24) hx hb dX5_clause_9 (by decide) (fun c9 => ?_) (fun c9 => ?_)
  · have c9 : v6.toInt = 0 := z5 rfl (by decide) c9
    refine lv_iconst (v := 0) hx hb dX5_clause_24 (by decide) ?_
    have zr0 : (0 : Int32).toInt = 0 := by decide
    rw [hQ]
    exact W.zret (v := 0) (ty := .boolean) hx hb hr rfl (fun t ht hW => ⟨⟨0, (sz5, fS, u6_0), rfl, ⟨by (try dsimp only); omega, by (try dsimp only); omega, by (try dsimp only); omega, by (try dsimp only); omega, by (try dsimp only); omega, by (try dsimp only); omega, zF0 (fc_y F6 (by omega)), (fun z => absurd (by decide) z), by (try dsimp only); omega, (fun z => absurd (by decide) z), ci_fS_zSt⟩, ⟨by rw [ht]; exact hP, hD⟩⟩, hS.F ht⟩) hS.2.2 dX5_clause_25
  · have c9 : ¬ v6.toInt = 0 := z6 rfl (by decide) c9
    refine lv_aload_n hx hb dX5_clause_12 rfl (lv_at hl 0 rfl) ?_
    refine va_get (D := (dC, dI)) (ci := 5) (v := .ref tp) (C := RX5) (T := TX5) (N := 3) hx hb hts iX5 hown hK hP 0 rfl rfl 2 (by decide) (hts _ qw172) (fun _ h9 => h9) rfl dX5_clause_13 ?_
    refine lv_bipush (v := 58) hx hb dX5_clause_16 (by decide) ?_
    have hPc := hP.sub (ws' := [(tp, .inr (9, [.ref tB, .int tl, .int u6_0])), (tB, .inl (cI, 260, .inl fB))]) [2, 3] rfl
    have hDc := hD.sub (ws' := [(tp, .inr (9, [.ref tB, .int tl, .int u6_0])), (tB, .inl (cI, 260, .inl fB))]) [2, 3] (by decide) rfl
    have hFc := va_free (wc := [(tp, .inr (9, [.ref tB, .int tl, .int u6_0])), (tB, .inl (cI, 260, .inl fB))]) hD hS hA [2, 3] rfl
    refine va_calli (va_runV (As := [.int 58]) (rest := []) ⟨hx, hb, hml, hown, hts⟩ (g_X9_takes l dC dI cI cJ tp 58 tB tl u6_0 fB H.size (by decide) ⟨f6_2, f6_3⟩ n_tl (hty)) (cwV 1 hts (zgV qw484 qw472 qw473 qw99 qw474) rfl rfl rfl hd_X9_takes ⟨by rw [hR]; exact Nat.le_of_ble_eq_true rfl, by rw [hR]; exact Nat.le_of_ble_eq_true rfl⟩) (zPV hPc hK hDc (va_recv hK hP (ci := 9) (q0 := 2) rfl rfl)) rfl rfl hl.1 rfl (lv_room (Nat.le_of_ble_eq_true rfl)) dX5_clause_18 ⟨Nat.zero_le _, Nat.zero_le _⟩) hS (fun q _ h => hFc q h) hFc (fun v18 u18 t H locs ht hvm hw hB hz1 hk1 hS => ?_)
    obtain ⟨u18_0, rfl⟩ : ∃ z, z = u18 := ⟨_, rfl⟩
    obtain ⟨hP1, hD1⟩ := hB
    rw [ht] at hP1
    obtain ⟨hP, hD⟩ := va_join (wr := [(h0, .inr (5, [.ref lS, .int sz5, .ref tp])), (lS, .inl (cI, 241, .inl fS))]) (w1 := [(tp, .inr (9, [.ref tB, .int tl, .int u18_0])), (tB, .inl (cI, 260, .inl fB))]) hP hD [2, 3] [0, 1] rfl rfl (by decide) (by decide) hk1 hFc hP1 hD1
    have hP : va_P (dC, dI) vwCl [(h0, .inr (5, [.ref lS, .int sz5, .ref tp])), (lS, .inl (cI, 241, .inl fS)), (tp, .inr (9, [.ref tB, .int tl, .int u18_0])), (tB, .inl (cI, 260, .inl fB))] H := hP.sub [0, 1, 2, 3] rfl
    have hD : va_D A [(h0, .inr (5, [.ref lS, .int sz5, .ref tp])), (lS, .inl (cI, 241, .inl fS)), (tp, .inr (9, [.ref tB, .int tl, .int u18_0])), (tB, .inl (cI, 260, .inl fB))] := hD.sub [0, 1, 2, 3] (by decide) rfl
    obtain ⟨f18_0, f18_1, f18_2, f18_3, f18_4, f18_5⟩ : (0 ≤ v18.toInt) ∧ (v18.toInt ≤ 1) ∧ (0 ≤ u18_0.toInt) ∧ (u18_0.toInt ≤ 240) ∧ (u6_0.toInt ≤ u18_0.toInt) ∧ (zTk fB tl u6_0 58 v18 u18_0) := hw
    have F18 := f18_5
    refine lv_if_ne (tgt := 26) hx hb dX5_clause_21 (by decide) (fun c21 => ?_) (fun c21 => ?_)
    · have c21 : ¬ v18.toInt = 0 := z6 rfl (by decide) c21
      have q26 := zTkL F6 (by omega)
      have q26b := zTkL F18 (by omega)
      refine lv_aload_n hx hb dX5_clause_26 rfl (lv_at hl 0 rfl) ?_
      refine va_get (D := (dC, dI)) (ci := 5) (v := .ref tp) (C := RX5) (T := TX5) (N := 3) hx hb hts iX5 hown hK hP 0 rfl rfl 2 (by decide) (hts _ qw172) (fun _ h9 => h9) rfl dX5_clause_27 ?_
      have hPc := hP.sub (ws' := [(tp, .inr (9, [.ref tB, .int tl, .int u18_0])), (tB, .inl (cI, 260, .inl fB))]) [2, 3] rfl
      have hDc := hD.sub (ws' := [(tp, .inr (9, [.ref tB, .int tl, .int u18_0])), (tB, .inl (cI, 260, .inl fB))]) [2, 3] (by decide) rfl
      have hFc := va_free (wc := [(tp, .inr (9, [.ref tB, .int tl, .int u18_0])), (tB, .inl (cI, 260, .inl fB))]) hD hS hA [2, 3] rfl
      refine va_calli (va_runV (As := []) (rest := []) ⟨hx, hb, hml, hown, hts⟩ (g_X9_peek l dC dI cI cJ tp tB tl u18_0 fB H.size ⟨f18_2, f18_3⟩ n_tl (hty)) (cwV 0 hts (zgV qw485 qw438 qw439 qw99 qw440) rfl rfl rfl hd_X9_peek ⟨by rw [hR]; exact Nat.le_of_ble_eq_true rfl, by rw [hR]; exact Nat.le_of_ble_eq_true rfl⟩) (zPV hPc hK hDc (va_recv hK hP (ci := 9) (q0 := 2) rfl rfl)) rfl rfl hl.1 rfl (lv_room (Nat.le_of_ble_eq_true rfl)) dX5_clause_30 ⟨Nat.zero_le _, Nat.zero_le _⟩) hS (fun q _ h => hFc q h) hFc (fun v30 u30 t H locs ht hvm hw hB hz1 hk1 hS => ?_)
      obtain ⟨u30_0, rfl⟩ : ∃ z, z = u30 := ⟨_, rfl⟩
      obtain ⟨hP1, hD1⟩ := hB
      rw [ht] at hP1
      obtain ⟨hP, hD⟩ := va_join (wr := [(h0, .inr (5, [.ref lS, .int sz5, .ref tp])), (lS, .inl (cI, 241, .inl fS))]) (w1 := [(tp, .inr (9, [.ref tB, .int tl, .int u30_0])), (tB, .inl (cI, 260, .inl fB))]) hP hD [2, 3] [0, 1] rfl rfl (by decide) (by decide) hk1 hFc hP1 hD1
      have hP : va_P (dC, dI) vwCl [(h0, .inr (5, [.ref lS, .int sz5, .ref tp])), (lS, .inl (cI, 241, .inl fS)), (tp, .inr (9, [.ref tB, .int tl, .int u30_0])), (tB, .inl (cI, 260, .inl fB))] H := hP.sub [0, 1, 2, 3] rfl
      have hD : va_D A [(h0, .inr (5, [.ref lS, .int sz5, .ref tp])), (lS, .inl (cI, 241, .inl fS)), (tp, .inr (9, [.ref tB, .int tl, .int u30_0])), (tB, .inl (cI, 260, .inl fB))] := hD.sub [0, 1, 2, 3] (by decide) rfl
      obtain ⟨f30_0, f30_1, f30_2, f30_3, f30_4⟩ : (0 ≤ u30_0.toInt) ∧ (u30_0.toInt ≤ 240) ∧ (¬ v30.toInt = 0 → u30_0.toInt < tl.toInt) ∧ (u18_0.toInt ≤ u30_0.toInt) ∧ (zPK fB tl u18_0 v30 u30_0) := hw
      have F30 := f30_4
      refine lv_istore_n (lv' := [(1, .int v30), (0, .ref h0)]) hx hb dX5_clause_33 rfl hl (by decide) rfl (fun ls hl => ?_)
      refine lv_iload_n hx hb dX5_clause_34 rfl (lv_at hl 0 rfl) ?_
      refine lv_bipush (v := 33) hx hb dX5_clause_35 (by decide) ?_
      refine lv_icmp_eq (tgt := 50) hx hb dX5_clause_37 (by decide) (fun c37 => ?_) (fun c37 => ?_)
      · have c37 : v30.toInt = 33 := z5 rfl (by decide) c37
        refine lv_iconst (v := 0) hx hb dX5_clause_50 (by decide) ?_
        refine lv_istore_n (lv' := [(2, .int 0), (1, .int v30), (0, .ref h0)]) hx hb dX5_clause_51 rfl hl (by decide) rfl (fun ls hl => ?_)
        refine lv_iload_n hx hb dX5_clause_52 rfl (lv_at hl 0 rfl) ?_
        refine lv_if_eq (tgt := 66) hx hb dX5_clause_53 (by decide) (fun _ => ?_) (fun c => absurd (by decide) c)
        refine lv_iload_n hx hb dX5_clause_66 rfl (lv_at hl 0 rfl) ?_
        refine lv_if_eq (tgt := 83) hx hb dX5_clause_67 (by decide) (fun _ => ?_) (fun c => absurd (by decide) c)
        refine lv_aload_n hx hb dX5_clause_83 rfl (lv_at hl 2 rfl) ?_
        refine lv_iconst (v := 0) hx hb dX5_clause_84 (by decide) ?_
        refine lv_iload_n hx hb dX5_clause_85 rfl (lv_at hl 0 rfl) ?_
        have hPc := hP.sub (ws' := [(h0, .inr (5, [.ref lS, .int sz5, .ref tp])), (lS, .inl (cI, 241, .inl fS)), (tp, .inr (9, [.ref tB, .int tl, .int u30_0])), (tB, .inl (cI, 260, .inl fB))]) [0, 1, 2, 3] rfl
        have hDc := hD.sub (ws' := [(h0, .inr (5, [.ref lS, .int sz5, .ref tp])), (lS, .inl (cI, 241, .inl fS)), (tp, .inr (9, [.ref tB, .int tl, .int u30_0])), (tB, .inl (cI, 260, .inl fB))]) [0, 1, 2, 3] (by decide) rfl
        have hFc := va_free (wc := [(h0, .inr (5, [.ref lS, .int sz5, .ref tp])), (lS, .inl (cI, 241, .inl fS)), (tp, .inr (9, [.ref tB, .int tl, .int u30_0])), (tB, .inl (cI, 260, .inl fB))]) hD hS hA [0, 1, 2, 3] rfl
        refine va_calli (va_runV (As := [.int 0, .int 0]) (rest := []) ⟨hx, hb, hml, hown, hts⟩ (zD_C6 l dC dI cI cJ h0 0 lS sz5 tp fS tB tl u30_0 fB H.size (by decide) n_sz5 ⟨f30_0, f30_1⟩ n_tl (hty) (by omega) (by decide) ci_fS_zSt) (cwV 2 hts (zgV qw507 qw509 qw6 qw101 qw510) rfl rfl rfl hd_X5_condition ⟨by rw [hR]; exact Nat.le_of_ble_eq_true rfl, by rw [hR]; exact Nat.le_of_ble_eq_true rfl⟩) (zPWV hPc hK hDc (va_recv hK hP (ci := 5) (q0 := 0) rfl rfl) (zV_call hV hS hFc)) rfl rfl hl.1 rfl (lv_room (Nat.le_of_ble_eq_true rfl)) dX5_clause_86 ⟨Nat.zero_le _, Nat.zero_le _⟩) hS (fun q _ h => hFc q h) hFc (fun v86 u86 t H locs ht hvm hw hB hz1 hk1 hS => ?_)
        obtain ⟨u86_0, u86_1, u86_2⟩ := u86
        obtain ⟨hP1, hD1⟩ := hB
        rw [ht] at hP1
        obtain ⟨hP, hD⟩ := va_join (wr := []) (w1 := [(h0, .inr (5, [.ref lS, .int u86_0, .ref tp])), (lS, .inl (cI, 241, .inl u86_1)), (tp, .inr (9, [.ref tB, .int tl, .int u86_2])), (tB, .inl (cI, 260, .inl fB))]) hP hD [0, 1, 2, 3] [] rfl rfl (by decide) (by decide) hk1 hFc hP1 hD1
        have hP : va_P (dC, dI) vwCl [(h0, .inr (5, [.ref lS, .int u86_0, .ref tp])), (lS, .inl (cI, 241, .inl u86_1)), (tp, .inr (9, [.ref tB, .int tl, .int u86_2])), (tB, .inl (cI, 260, .inl fB))] H := hP.sub [0, 1, 2, 3] rfl
        have hD : va_D A [(h0, .inr (5, [.ref lS, .int u86_0, .ref tp])), (lS, .inl (cI, 241, .inl u86_1)), (tp, .inr (9, [.ref tB, .int tl, .int u86_2])), (tB, .inl (cI, 260, .inl fB))] := hD.sub [0, 1, 2, 3] (by decide) rfl
        obtain ⟨f86_0, f86_1, f86_2, f86_3, f86_4, f86_5, f86_6, f86_7, f86_8, f86_9, f86_10⟩ : (0 ≤ v86.toInt) ∧ (v86.toInt ≤ 1) ∧ (0 ≤ u86_0.toInt) ∧ (u86_0.toInt ≤ 241) ∧ (0 ≤ u86_2.toInt) ∧ (u86_2.toInt ≤ 240) ∧ (zF (sCon (sB fB tl.toInt) tl.toInt 6 u30_0.toInt) v86 u86_2) ∧ (¬ v86.toInt = 0 → u30_0.toInt < u86_2.toInt) ∧ (¬ v86.toInt = 0 → u86_0.toInt + u30_0.toInt ≤ sz5.toInt + u86_2.toInt) ∧ (¬ v86.toInt = 0 → zEm fS sz5 (eCon (sB fB tl.toInt) tl.toInt 6 u30_0.toInt) u86_1 u86_0) ∧ (zSt u86_1) := hw
        have F86 := f86_6
        have F86_1 := f86_9
        refine lv_if_eq (tgt := 104) hx hb dX5_clause_89 (by decide) (fun c89 => ?_) (fun c89 => ?_)
        · have c89 : v86.toInt = 0 := z5 rfl (by decide) c89
          refine lv_iconst (v := 0) hx hb dX5_clause_104 (by decide) ?_
          have zr0 : (0 : Int32).toInt = 0 := by decide
          rw [hQ]
          exact W.zret (v := 0) (ty := .boolean) hx hb hr rfl (fun t ht hW => ⟨⟨0, (u86_0, u86_1, u86_2), rfl, ⟨by (try dsimp only); omega, by (try dsimp only); omega, by (try dsimp only); omega, by (try dsimp only); omega, by (try dsimp only); omega, by (try dsimp only); omega, zF0 (fc_2 F6 (by omega) F18 (by omega) (fm_0 (fc_t F30 (by omega) F86) (by omega))), (fun z => absurd (by decide) z), by (try dsimp only); omega, (fun z => absurd (by decide) z), f86_10⟩, ⟨by rw [ht]; exact hP, hD⟩⟩, hS.F ht⟩) hS.2.2 dX5_clause_105
        · have c89 : ¬ v86.toInt = 0 := z6 rfl (by decide) c89
          refine lv_aload_n hx hb dX5_clause_92 rfl (lv_at hl 2 rfl) ?_
          refine va_get (D := (dC, dI)) (ci := 5) (v := .ref tp) (C := RX5) (T := TX5) (N := 3) hx hb hts iX5 hown hK hP 0 rfl rfl 2 (by decide) (hts _ qw172) (fun _ h9 => h9) rfl dX5_clause_93 ?_
          refine lv_bipush (v := 63) hx hb dX5_clause_96 (by decide) ?_
          have hPc := hP.sub (ws' := [(tp, .inr (9, [.ref tB, .int tl, .int u86_2])), (tB, .inl (cI, 260, .inl fB))]) [2, 3] rfl
          have hDc := hD.sub (ws' := [(tp, .inr (9, [.ref tB, .int tl, .int u86_2])), (tB, .inl (cI, 260, .inl fB))]) [2, 3] (by decide) rfl
          have hFc := va_free (wc := [(tp, .inr (9, [.ref tB, .int tl, .int u86_2])), (tB, .inl (cI, 260, .inl fB))]) hD hS hA [2, 3] rfl
          refine va_calli (va_runV (As := [.int 63]) (rest := []) ⟨hx, hb, hml, hown, hts⟩ (g_X9_takes l dC dI cI cJ tp 63 tB tl u86_2 fB H.size (by decide) ⟨f86_4, f86_5⟩ n_tl (hty)) (cwV 1 hts (zgV qw484 qw472 qw473 qw99 qw474) rfl rfl rfl hd_X9_takes ⟨by rw [hR]; exact Nat.le_of_ble_eq_true rfl, by rw [hR]; exact Nat.le_of_ble_eq_true rfl⟩) (zPV hPc hK hDc (va_recv hK hP (ci := 9) (q0 := 2) rfl rfl)) rfl rfl hl.1 rfl (lv_room (Nat.le_of_ble_eq_true rfl)) dX5_clause_98 ⟨Nat.zero_le _, Nat.zero_le _⟩) hS (fun q _ h => hFc q h) hFc (fun v98 u98 t H locs ht hvm hw hB hz1 hk1 hS => ?_)
          obtain ⟨u98_0, rfl⟩ : ∃ z, z = u98 := ⟨_, rfl⟩
          obtain ⟨hP1, hD1⟩ := hB
          rw [ht] at hP1
          obtain ⟨hP, hD⟩ := va_join (wr := [(h0, .inr (5, [.ref lS, .int u86_0, .ref tp])), (lS, .inl (cI, 241, .inl u86_1))]) (w1 := [(tp, .inr (9, [.ref tB, .int tl, .int u98_0])), (tB, .inl (cI, 260, .inl fB))]) hP hD [2, 3] [0, 1] rfl rfl (by decide) (by decide) hk1 hFc hP1 hD1
          have hP : va_P (dC, dI) vwCl [(h0, .inr (5, [.ref lS, .int u86_0, .ref tp])), (lS, .inl (cI, 241, .inl u86_1)), (tp, .inr (9, [.ref tB, .int tl, .int u98_0])), (tB, .inl (cI, 260, .inl fB))] H := hP.sub [0, 1, 2, 3] rfl
          have hD : va_D A [(h0, .inr (5, [.ref lS, .int u86_0, .ref tp])), (lS, .inl (cI, 241, .inl u86_1)), (tp, .inr (9, [.ref tB, .int tl, .int u98_0])), (tB, .inl (cI, 260, .inl fB))] := hD.sub [0, 1, 2, 3] (by decide) rfl
          obtain ⟨f98_0, f98_1, f98_2, f98_3, f98_4, f98_5⟩ : (0 ≤ v98.toInt) ∧ (v98.toInt ≤ 1) ∧ (0 ≤ u98_0.toInt) ∧ (u98_0.toInt ≤ 240) ∧ (u86_2.toInt ≤ u98_0.toInt) ∧ (zTk fB tl u86_2 63 v98 u98_0) := hw
          have F98 := f98_5
          refine lv_if_ne (tgt := 106) hx hb dX5_clause_101 (by decide) (fun c101 => ?_) (fun c101 => ?_)
          · have c101 : ¬ v98.toInt = 0 := z6 rfl (by decide) c101
            have q106 := zTkL F98 (by omega)
            refine lv_aload_n hx hb dX5_clause_106 rfl (lv_at hl 2 rfl) ?_
            refine lv_bipush (v := 63) hx hb dX5_clause_107 (by decide) ?_
            refine lv_iconst (v := 0) hx hb dX5_clause_109 (by decide) ?_
            have hPc := hP.sub (ws' := [(h0, .inr (5, [.ref lS, .int u86_0, .ref tp])), (lS, .inl (cI, 241, .inl u86_1))]) [0, 1] rfl
            have hDc := hD.sub (ws' := [(h0, .inr (5, [.ref lS, .int u86_0, .ref tp])), (lS, .inl (cI, 241, .inl u86_1))]) [0, 1] (by decide) rfl
            have hFc := va_free (wc := [(h0, .inr (5, [.ref lS, .int u86_0, .ref tp])), (lS, .inl (cI, 241, .inl u86_1))]) hD hS hA [0, 1] rfl
            refine va_callv (va_runV (As := [.int 63, .int 0]) (rest := []) ⟨hx, hb, hml, hown, hts⟩ (g_X5_put_0 l dC dI cI cJ h0 63 lS u86_0 tp u86_1 H.size (by decide) ⟨f86_2, f86_3⟩ f86_10) (cwV 2 hts (zgV qw496 qw498 qw5 qw101 qw499) rfl rfl rfl hd_X5_put ⟨by rw [hR]; exact Nat.le_of_ble_eq_true rfl, by rw [hR]; exact Nat.le_of_ble_eq_true rfl⟩) (zPV hPc hK hDc (va_recv hK hP (ci := 5) (q0 := 0) rfl rfl)) rfl rfl hl.1 rfl (lv_room (Nat.le_of_ble_eq_true rfl)) dX5_clause_110 ⟨Nat.zero_le _, Nat.zero_le _⟩) hS (fun q _ h => hFc q h) hFc (fun u110 t H locs ht hvm hw hB hz1 hk1 hS => ?_)
            obtain ⟨u110_0, u110_1⟩ := u110
            obtain ⟨hP1, hD1⟩ := hB
            rw [ht] at hP1
            obtain ⟨hP, hD⟩ := va_join (wr := [(tp, .inr (9, [.ref tB, .int tl, .int u98_0])), (tB, .inl (cI, 260, .inl fB))]) (w1 := [(h0, .inr (5, [.ref lS, .int u110_0, .ref tp])), (lS, .inl (cI, 241, .inl u110_1))]) hP hD [0, 1] [2, 3] rfl rfl (by decide) (by decide) hk1 hFc hP1 hD1
            have hP : va_P (dC, dI) vwCl [(h0, .inr (5, [.ref lS, .int u110_0, .ref tp])), (lS, .inl (cI, 241, .inl u110_1)), (tp, .inr (9, [.ref tB, .int tl, .int u98_0])), (tB, .inl (cI, 260, .inl fB))] H := hP.sub [2, 3, 0, 1] rfl
            have hD : va_D A [(h0, .inr (5, [.ref lS, .int u110_0, .ref tp])), (lS, .inl (cI, 241, .inl u110_1)), (tp, .inr (9, [.ref tB, .int tl, .int u98_0])), (tB, .inl (cI, 260, .inl fB))] := hD.sub [2, 3, 0, 1] (by decide) rfl
            have zn110_63 : (63 : Int32).toInt = 63 := by decide
            obtain ⟨f110_0, f110_1, f110_2, f110_3, f110_4⟩ : (1 ≤ u110_0.toInt) ∧ (u110_0.toInt ≤ 241) ∧ (u110_0.toInt ≤ u86_0.toInt + 1 ∧ u86_0.toInt ≤ u110_0.toInt) ∧ (u86_0.toInt < 241 → zEm u86_1 u86_0 [((63 : Int32).toInt, 0)] u110_1 u110_0) ∧ (zSt u110_1) := hw
            have F110 := f110_3
            refine lv_aload_n hx hb dX5_clause_113 rfl (lv_at hl 2 rfl) ?_
            refine lv_iconst (v := 0) hx hb dX5_clause_114 (by decide) ?_
            have hPc := hP.sub (ws' := [(h0, .inr (5, [.ref lS, .int u110_0, .ref tp])), (lS, .inl (cI, 241, .inl u110_1)), (tp, .inr (9, [.ref tB, .int tl, .int u98_0])), (tB, .inl (cI, 260, .inl fB))]) [0, 1, 2, 3] rfl
            have hDc := hD.sub (ws' := [(h0, .inr (5, [.ref lS, .int u110_0, .ref tp])), (lS, .inl (cI, 241, .inl u110_1)), (tp, .inr (9, [.ref tB, .int tl, .int u98_0])), (tB, .inl (cI, 260, .inl fB))]) [0, 1, 2, 3] (by decide) rfl
            have hFc := va_free (wc := [(h0, .inr (5, [.ref lS, .int u110_0, .ref tp])), (lS, .inl (cI, 241, .inl u110_1)), (tp, .inr (9, [.ref tB, .int tl, .int u98_0])), (tB, .inl (cI, 260, .inl fB))]) hD hS hA [0, 1, 2, 3] rfl
            refine va_calli (va_runV (As := [.int 0]) (rest := []) ⟨hx, hb, hml, hown, hts⟩ (zD_S6 l dC dI cI cJ h0 0 lS u110_0 tp u110_1 tB tl u98_0 fB H.size (by decide) (by omega) ⟨f98_2, f98_3⟩ n_tl (hty) (by omega) (by decide) f110_4) (cwV 1 hts (zgV qw486 qw488 qw3 qw101 qw489) rfl rfl rfl hd_X5_sum ⟨by rw [hR]; exact Nat.le_of_ble_eq_true rfl, by rw [hR]; exact Nat.le_of_ble_eq_true rfl⟩) (zPWV hPc hK hDc (va_recv hK hP (ci := 5) (q0 := 0) rfl rfl) (zV_call hV hS hFc)) rfl rfl hl.1 rfl (lv_room (Nat.le_of_ble_eq_true rfl)) dX5_clause_115 ⟨Nat.zero_le _, Nat.zero_le _⟩) hS (fun q _ h => hFc q h) hFc (fun v115 u115 t H locs ht hvm hw hB hz1 hk1 hS => ?_)
            obtain ⟨u115_0, u115_1, u115_2⟩ := u115
            obtain ⟨hP1, hD1⟩ := hB
            rw [ht] at hP1
            obtain ⟨hP, hD⟩ := va_join (wr := []) (w1 := [(h0, .inr (5, [.ref lS, .int u115_0, .ref tp])), (lS, .inl (cI, 241, .inl u115_1)), (tp, .inr (9, [.ref tB, .int tl, .int u115_2])), (tB, .inl (cI, 260, .inl fB))]) hP hD [0, 1, 2, 3] [] rfl rfl (by decide) (by decide) hk1 hFc hP1 hD1
            have hP : va_P (dC, dI) vwCl [(h0, .inr (5, [.ref lS, .int u115_0, .ref tp])), (lS, .inl (cI, 241, .inl u115_1)), (tp, .inr (9, [.ref tB, .int tl, .int u115_2])), (tB, .inl (cI, 260, .inl fB))] H := hP.sub [0, 1, 2, 3] rfl
            have hD : va_D A [(h0, .inr (5, [.ref lS, .int u115_0, .ref tp])), (lS, .inl (cI, 241, .inl u115_1)), (tp, .inr (9, [.ref tB, .int tl, .int u115_2])), (tB, .inl (cI, 260, .inl fB))] := hD.sub [0, 1, 2, 3] (by decide) rfl
            obtain ⟨f115_0, f115_1, f115_2, f115_3, f115_4, f115_5, f115_6, f115_7, f115_8, f115_9, f115_10⟩ : (0 ≤ v115.toInt) ∧ (v115.toInt ≤ 1) ∧ (0 ≤ u115_0.toInt) ∧ (u115_0.toInt ≤ 241) ∧ (0 ≤ u115_2.toInt) ∧ (u115_2.toInt ≤ 240) ∧ (zF (sSum (sB fB tl.toInt) tl.toInt 6 u98_0.toInt) v115 u115_2) ∧ (¬ v115.toInt = 0 → u98_0.toInt < u115_2.toInt) ∧ (¬ v115.toInt = 0 → u115_0.toInt + u98_0.toInt ≤ u110_0.toInt + u115_2.toInt) ∧ (¬ v115.toInt = 0 → zEm u110_1 u110_0 (eSum (sB fB tl.toInt) tl.toInt 6 u98_0.toInt) u115_1 u115_0) ∧ (zSt u115_1) := hw
            have F115 := f115_6
            have F115_1 := f115_9
            refine lv_if_ne (tgt := 123) hx hb dX5_clause_118 (by decide) (fun c118 => ?_) (fun c118 => ?_)
            · have c118 : ¬ v115.toInt = 0 := z6 rfl (by decide) c118
              refine lv_aload_n hx hb dX5_clause_123 rfl (lv_at hl 2 rfl) ?_
              refine lv_bipush (v := 59) hx hb dX5_clause_124 (by decide) ?_
              refine lv_iconst (v := 0) hx hb dX5_clause_126 (by decide) ?_
              have hPc := hP.sub (ws' := [(h0, .inr (5, [.ref lS, .int u115_0, .ref tp])), (lS, .inl (cI, 241, .inl u115_1))]) [0, 1] rfl
              have hDc := hD.sub (ws' := [(h0, .inr (5, [.ref lS, .int u115_0, .ref tp])), (lS, .inl (cI, 241, .inl u115_1))]) [0, 1] (by decide) rfl
              have hFc := va_free (wc := [(h0, .inr (5, [.ref lS, .int u115_0, .ref tp])), (lS, .inl (cI, 241, .inl u115_1))]) hD hS hA [0, 1] rfl
              refine va_callv (va_runV (As := [.int 59, .int 0]) (rest := []) ⟨hx, hb, hml, hown, hts⟩ (g_X5_put_0 l dC dI cI cJ h0 59 lS u115_0 tp u115_1 H.size (by decide) ⟨f115_2, f115_3⟩ f115_10) (cwV 2 hts (zgV qw496 qw498 qw5 qw101 qw499) rfl rfl rfl hd_X5_put ⟨by rw [hR]; exact Nat.le_of_ble_eq_true rfl, by rw [hR]; exact Nat.le_of_ble_eq_true rfl⟩) (zPV hPc hK hDc (va_recv hK hP (ci := 5) (q0 := 0) rfl rfl)) rfl rfl hl.1 rfl (lv_room (Nat.le_of_ble_eq_true rfl)) dX5_clause_127 ⟨Nat.zero_le _, Nat.zero_le _⟩) hS (fun q _ h => hFc q h) hFc (fun u127 t H locs ht hvm hw hB hz1 hk1 hS => ?_)
              obtain ⟨u127_0, u127_1⟩ := u127
              obtain ⟨hP1, hD1⟩ := hB
              rw [ht] at hP1
              obtain ⟨hP, hD⟩ := va_join (wr := [(tp, .inr (9, [.ref tB, .int tl, .int u115_2])), (tB, .inl (cI, 260, .inl fB))]) (w1 := [(h0, .inr (5, [.ref lS, .int u127_0, .ref tp])), (lS, .inl (cI, 241, .inl u127_1))]) hP hD [0, 1] [2, 3] rfl rfl (by decide) (by decide) hk1 hFc hP1 hD1
              have hP : va_P (dC, dI) vwCl [(h0, .inr (5, [.ref lS, .int u127_0, .ref tp])), (lS, .inl (cI, 241, .inl u127_1)), (tp, .inr (9, [.ref tB, .int tl, .int u115_2])), (tB, .inl (cI, 260, .inl fB))] H := hP.sub [2, 3, 0, 1] rfl
              have hD : va_D A [(h0, .inr (5, [.ref lS, .int u127_0, .ref tp])), (lS, .inl (cI, 241, .inl u127_1)), (tp, .inr (9, [.ref tB, .int tl, .int u115_2])), (tB, .inl (cI, 260, .inl fB))] := hD.sub [2, 3, 0, 1] (by decide) rfl
              have zn127_59 : (59 : Int32).toInt = 59 := by decide
              obtain ⟨f127_0, f127_1, f127_2, f127_3, f127_4⟩ : (1 ≤ u127_0.toInt) ∧ (u127_0.toInt ≤ 241) ∧ (u127_0.toInt ≤ u115_0.toInt + 1 ∧ u115_0.toInt ≤ u127_0.toInt) ∧ (u115_0.toInt < 241 → zEm u115_1 u115_0 [((59 : Int32).toInt, 0)] u127_1 u127_0) ∧ (zSt u127_1) := hw
              have F127 := f127_3
              refine lv_iconst (v := 1) hx hb dX5_clause_130 (by decide) ?_
              have zr0 : (1 : Int32).toInt = 1 := by decide
              rw [hQ]
              exact W.zret (v := 1) (ty := .boolean) hx hb hr rfl (fun t ht hW => ⟨⟨1, (u127_0, u127_1, u115_2), rfl, ⟨by (try dsimp only); omega, by (try dsimp only); omega, by (try dsimp only); omega, by (try dsimp only); omega, by (try dsimp only); omega, by (try dsimp only); omega, zF1 (fc_2 F6 (by omega) F18 (by omega) ((fm_y (fc_t F30 (by omega) F86) (by omega) F98 (by omega) F115).trans (by rw [show v115.toInt = 1 by omega]))), (fun _ => zFm (x := sCl (sB fB tl.toInt) tl.toInt) (sCl_mono (sB fB tl.toInt) tl.toInt) (zF1 (fc_2 F6 (by omega) F18 (by omega) ((fm_y (fc_t F30 (by omega) F86) (by omega) F98 (by omega) F115).trans (by rw [show v115.toInt = 1 by omega]))))), by (try dsimp only); omega, (fun _ => eCl_em F6 (by omega) F18 (by omega) (eCl2_t F30 (by omega) F86 (by omega) F98 (by omega) (F86_1 (by omega)) (F110 (by omega)) (F115_1 (by omega)) (F127 (by omega)) (by omega) (by omega) (by omega))), f127_4⟩, ⟨by rw [ht]; exact hP, hD⟩⟩, hS.F ht⟩) hS.2.2 dX5_clause_131
            · have c118 : v115.toInt = 0 := z5 rfl (by decide) c118
              refine lv_iconst (v := 0) hx hb dX5_clause_121 (by decide) ?_
              have zr0 : (0 : Int32).toInt = 0 := by decide
              rw [hQ]
              exact W.zret (v := 0) (ty := .boolean) hx hb hr rfl (fun t ht hW => ⟨⟨0, (u115_0, u115_1, u115_2), rfl, ⟨by (try dsimp only); omega, by (try dsimp only); omega, by (try dsimp only); omega, by (try dsimp only); omega, by (try dsimp only); omega, by (try dsimp only); omega, zF0 (fc_2 F6 (by omega) F18 (by omega) ((fm_y (fc_t F30 (by omega) F86) (by omega) F98 (by omega) F115).trans (by rw [show v115.toInt = 0 by omega]))), (fun z => absurd (by decide) z), by (try dsimp only); omega, (fun z => absurd (by decide) z), f115_10⟩, ⟨by rw [ht]; exact hP, hD⟩⟩, hS.F ht⟩) hS.2.2 dX5_clause_122
          · have c101 : v98.toInt = 0 := z5 rfl (by decide) c101
            refine lv_iconst (v := 0) hx hb dX5_clause_104 (by decide) ?_
            have zr0 : (0 : Int32).toInt = 0 := by decide
            rw [hQ]
            exact W.zret (v := 0) (ty := .boolean) hx hb hr rfl (fun t ht hW => ⟨⟨0, (u86_0, u86_1, u98_0), rfl, ⟨by (try dsimp only); omega, by (try dsimp only); omega, by (try dsimp only); omega, by (try dsimp only); omega, by (try dsimp only); omega, by (try dsimp only); omega, zF0 (fc_2 F6 (by omega) F18 (by omega) (fm_n (fc_t F30 (by omega) F86) (by omega) F98 (by omega))), (fun z => absurd (by decide) z), by (try dsimp only); omega, (fun z => absurd (by decide) z), f86_10⟩, ⟨by rw [ht]; exact hP, hD⟩⟩, hS.F ht⟩) hS.2.2 dX5_clause_105
      · have c37 : ¬ v30.toInt = 33 := z6 rfl (by decide) c37
        refine lv_iload_n hx hb dX5_clause_40 rfl (lv_at hl 0 rfl) ?_
        refine lv_bipush (v := 40) hx hb dX5_clause_41 (by decide) ?_
        refine lv_icmp_eq (tgt := 50) hx hb dX5_clause_43 (by decide) (fun c43 => ?_) (fun c43 => ?_)
        · have c43 : v30.toInt = 40 := z5 rfl (by decide) c43
          refine lv_iconst (v := 0) hx hb dX5_clause_50 (by decide) ?_
          refine lv_istore_n (lv' := [(2, .int 0), (1, .int v30), (0, .ref h0)]) hx hb dX5_clause_51 rfl hl (by decide) rfl (fun ls hl => ?_)
          refine lv_iload_n hx hb dX5_clause_52 rfl (lv_at hl 0 rfl) ?_
          refine lv_if_eq (tgt := 66) hx hb dX5_clause_53 (by decide) (fun _ => ?_) (fun c => absurd (by decide) c)
          refine lv_iload_n hx hb dX5_clause_66 rfl (lv_at hl 0 rfl) ?_
          refine lv_if_eq (tgt := 83) hx hb dX5_clause_67 (by decide) (fun _ => ?_) (fun c => absurd (by decide) c)
          refine lv_aload_n hx hb dX5_clause_83 rfl (lv_at hl 2 rfl) ?_
          refine lv_iconst (v := 0) hx hb dX5_clause_84 (by decide) ?_
          refine lv_iload_n hx hb dX5_clause_85 rfl (lv_at hl 0 rfl) ?_
          have hPc := hP.sub (ws' := [(h0, .inr (5, [.ref lS, .int sz5, .ref tp])), (lS, .inl (cI, 241, .inl fS)), (tp, .inr (9, [.ref tB, .int tl, .int u30_0])), (tB, .inl (cI, 260, .inl fB))]) [0, 1, 2, 3] rfl
          have hDc := hD.sub (ws' := [(h0, .inr (5, [.ref lS, .int sz5, .ref tp])), (lS, .inl (cI, 241, .inl fS)), (tp, .inr (9, [.ref tB, .int tl, .int u30_0])), (tB, .inl (cI, 260, .inl fB))]) [0, 1, 2, 3] (by decide) rfl
          have hFc := va_free (wc := [(h0, .inr (5, [.ref lS, .int sz5, .ref tp])), (lS, .inl (cI, 241, .inl fS)), (tp, .inr (9, [.ref tB, .int tl, .int u30_0])), (tB, .inl (cI, 260, .inl fB))]) hD hS hA [0, 1, 2, 3] rfl
          refine va_calli (va_runV (As := [.int 0, .int 0]) (rest := []) ⟨hx, hb, hml, hown, hts⟩ (zD_C6 l dC dI cI cJ h0 0 lS sz5 tp fS tB tl u30_0 fB H.size (by decide) n_sz5 ⟨f30_0, f30_1⟩ n_tl (hty) (by omega) (by decide) ci_fS_zSt) (cwV 2 hts (zgV qw507 qw509 qw6 qw101 qw510) rfl rfl rfl hd_X5_condition ⟨by rw [hR]; exact Nat.le_of_ble_eq_true rfl, by rw [hR]; exact Nat.le_of_ble_eq_true rfl⟩) (zPWV hPc hK hDc (va_recv hK hP (ci := 5) (q0 := 0) rfl rfl) (zV_call hV hS hFc)) rfl rfl hl.1 rfl (lv_room (Nat.le_of_ble_eq_true rfl)) dX5_clause_86 ⟨Nat.zero_le _, Nat.zero_le _⟩) hS (fun q _ h => hFc q h) hFc (fun v86 u86 t H locs ht hvm hw hB hz1 hk1 hS => ?_)
          obtain ⟨u86_0, u86_1, u86_2⟩ := u86
          obtain ⟨hP1, hD1⟩ := hB
          rw [ht] at hP1
          obtain ⟨hP, hD⟩ := va_join (wr := []) (w1 := [(h0, .inr (5, [.ref lS, .int u86_0, .ref tp])), (lS, .inl (cI, 241, .inl u86_1)), (tp, .inr (9, [.ref tB, .int tl, .int u86_2])), (tB, .inl (cI, 260, .inl fB))]) hP hD [0, 1, 2, 3] [] rfl rfl (by decide) (by decide) hk1 hFc hP1 hD1
          have hP : va_P (dC, dI) vwCl [(h0, .inr (5, [.ref lS, .int u86_0, .ref tp])), (lS, .inl (cI, 241, .inl u86_1)), (tp, .inr (9, [.ref tB, .int tl, .int u86_2])), (tB, .inl (cI, 260, .inl fB))] H := hP.sub [0, 1, 2, 3] rfl
          have hD : va_D A [(h0, .inr (5, [.ref lS, .int u86_0, .ref tp])), (lS, .inl (cI, 241, .inl u86_1)), (tp, .inr (9, [.ref tB, .int tl, .int u86_2])), (tB, .inl (cI, 260, .inl fB))] := hD.sub [0, 1, 2, 3] (by decide) rfl
          obtain ⟨f86_0, f86_1, f86_2, f86_3, f86_4, f86_5, f86_6, f86_7, f86_8, f86_9, f86_10⟩ : (0 ≤ v86.toInt) ∧ (v86.toInt ≤ 1) ∧ (0 ≤ u86_0.toInt) ∧ (u86_0.toInt ≤ 241) ∧ (0 ≤ u86_2.toInt) ∧ (u86_2.toInt ≤ 240) ∧ (zF (sCon (sB fB tl.toInt) tl.toInt 6 u30_0.toInt) v86 u86_2) ∧ (¬ v86.toInt = 0 → u30_0.toInt < u86_2.toInt) ∧ (¬ v86.toInt = 0 → u86_0.toInt + u30_0.toInt ≤ sz5.toInt + u86_2.toInt) ∧ (¬ v86.toInt = 0 → zEm fS sz5 (eCon (sB fB tl.toInt) tl.toInt 6 u30_0.toInt) u86_1 u86_0) ∧ (zSt u86_1) := hw
          have F86 := f86_6
          have F86_1 := f86_9
          refine lv_if_eq (tgt := 104) hx hb dX5_clause_89 (by decide) (fun c89 => ?_) (fun c89 => ?_)
          · have c89 : v86.toInt = 0 := z5 rfl (by decide) c89
            refine lv_iconst (v := 0) hx hb dX5_clause_104 (by decide) ?_
            have zr0 : (0 : Int32).toInt = 0 := by decide
            rw [hQ]
            exact W.zret (v := 0) (ty := .boolean) hx hb hr rfl (fun t ht hW => ⟨⟨0, (u86_0, u86_1, u86_2), rfl, ⟨by (try dsimp only); omega, by (try dsimp only); omega, by (try dsimp only); omega, by (try dsimp only); omega, by (try dsimp only); omega, by (try dsimp only); omega, zF0 (fc_2 F6 (by omega) F18 (by omega) (fm_0 (fc_t F30 (by omega) F86) (by omega))), (fun z => absurd (by decide) z), by (try dsimp only); omega, (fun z => absurd (by decide) z), f86_10⟩, ⟨by rw [ht]; exact hP, hD⟩⟩, hS.F ht⟩) hS.2.2 dX5_clause_105
          · have c89 : ¬ v86.toInt = 0 := z6 rfl (by decide) c89
            refine lv_aload_n hx hb dX5_clause_92 rfl (lv_at hl 2 rfl) ?_
            refine va_get (D := (dC, dI)) (ci := 5) (v := .ref tp) (C := RX5) (T := TX5) (N := 3) hx hb hts iX5 hown hK hP 0 rfl rfl 2 (by decide) (hts _ qw172) (fun _ h9 => h9) rfl dX5_clause_93 ?_
            refine lv_bipush (v := 63) hx hb dX5_clause_96 (by decide) ?_
            have hPc := hP.sub (ws' := [(tp, .inr (9, [.ref tB, .int tl, .int u86_2])), (tB, .inl (cI, 260, .inl fB))]) [2, 3] rfl
            have hDc := hD.sub (ws' := [(tp, .inr (9, [.ref tB, .int tl, .int u86_2])), (tB, .inl (cI, 260, .inl fB))]) [2, 3] (by decide) rfl
            have hFc := va_free (wc := [(tp, .inr (9, [.ref tB, .int tl, .int u86_2])), (tB, .inl (cI, 260, .inl fB))]) hD hS hA [2, 3] rfl
            refine va_calli (va_runV (As := [.int 63]) (rest := []) ⟨hx, hb, hml, hown, hts⟩ (g_X9_takes l dC dI cI cJ tp 63 tB tl u86_2 fB H.size (by decide) ⟨f86_4, f86_5⟩ n_tl (hty)) (cwV 1 hts (zgV qw484 qw472 qw473 qw99 qw474) rfl rfl rfl hd_X9_takes ⟨by rw [hR]; exact Nat.le_of_ble_eq_true rfl, by rw [hR]; exact Nat.le_of_ble_eq_true rfl⟩) (zPV hPc hK hDc (va_recv hK hP (ci := 9) (q0 := 2) rfl rfl)) rfl rfl hl.1 rfl (lv_room (Nat.le_of_ble_eq_true rfl)) dX5_clause_98 ⟨Nat.zero_le _, Nat.zero_le _⟩) hS (fun q _ h => hFc q h) hFc (fun v98 u98 t H locs ht hvm hw hB hz1 hk1 hS => ?_)
            obtain ⟨u98_0, rfl⟩ : ∃ z, z = u98 := ⟨_, rfl⟩
            obtain ⟨hP1, hD1⟩ := hB
            rw [ht] at hP1
            obtain ⟨hP, hD⟩ := va_join (wr := [(h0, .inr (5, [.ref lS, .int u86_0, .ref tp])), (lS, .inl (cI, 241, .inl u86_1))]) (w1 := [(tp, .inr (9, [.ref tB, .int tl, .int u98_0])), (tB, .inl (cI, 260, .inl fB))]) hP hD [2, 3] [0, 1] rfl rfl (by decide) (by decide) hk1 hFc hP1 hD1
            have hP : va_P (dC, dI) vwCl [(h0, .inr (5, [.ref lS, .int u86_0, .ref tp])), (lS, .inl (cI, 241, .inl u86_1)), (tp, .inr (9, [.ref tB, .int tl, .int u98_0])), (tB, .inl (cI, 260, .inl fB))] H := hP.sub [0, 1, 2, 3] rfl
            have hD : va_D A [(h0, .inr (5, [.ref lS, .int u86_0, .ref tp])), (lS, .inl (cI, 241, .inl u86_1)), (tp, .inr (9, [.ref tB, .int tl, .int u98_0])), (tB, .inl (cI, 260, .inl fB))] := hD.sub [0, 1, 2, 3] (by decide) rfl
            obtain ⟨f98_0, f98_1, f98_2, f98_3, f98_4, f98_5⟩ : (0 ≤ v98.toInt) ∧ (v98.toInt ≤ 1) ∧ (0 ≤ u98_0.toInt) ∧ (u98_0.toInt ≤ 240) ∧ (u86_2.toInt ≤ u98_0.toInt) ∧ (zTk fB tl u86_2 63 v98 u98_0) := hw
            have F98 := f98_5
            refine lv_if_ne (tgt := 106) hx hb dX5_clause_101 (by decide) (fun c101 => ?_) (fun c101 => ?_)
            · have c101 : ¬ v98.toInt = 0 := z6 rfl (by decide) c101
              have q106 := zTkL F98 (by omega)
              refine lv_aload_n hx hb dX5_clause_106 rfl (lv_at hl 2 rfl) ?_
              refine lv_bipush (v := 63) hx hb dX5_clause_107 (by decide) ?_
              refine lv_iconst (v := 0) hx hb dX5_clause_109 (by decide) ?_
              have hPc := hP.sub (ws' := [(h0, .inr (5, [.ref lS, .int u86_0, .ref tp])), (lS, .inl (cI, 241, .inl u86_1))]) [0, 1] rfl
              have hDc := hD.sub (ws' := [(h0, .inr (5, [.ref lS, .int u86_0, .ref tp])), (lS, .inl (cI, 241, .inl u86_1))]) [0, 1] (by decide) rfl
              have hFc := va_free (wc := [(h0, .inr (5, [.ref lS, .int u86_0, .ref tp])), (lS, .inl (cI, 241, .inl u86_1))]) hD hS hA [0, 1] rfl
              refine va_callv (va_runV (As := [.int 63, .int 0]) (rest := []) ⟨hx, hb, hml, hown, hts⟩ (g_X5_put_0 l dC dI cI cJ h0 63 lS u86_0 tp u86_1 H.size (by decide) ⟨f86_2, f86_3⟩ f86_10) (cwV 2 hts (zgV qw496 qw498 qw5 qw101 qw499) rfl rfl rfl hd_X5_put ⟨by rw [hR]; exact Nat.le_of_ble_eq_true rfl, by rw [hR]; exact Nat.le_of_ble_eq_true rfl⟩) (zPV hPc hK hDc (va_recv hK hP (ci := 5) (q0 := 0) rfl rfl)) rfl rfl hl.1 rfl (lv_room (Nat.le_of_ble_eq_true rfl)) dX5_clause_110 ⟨Nat.zero_le _, Nat.zero_le _⟩) hS (fun q _ h => hFc q h) hFc (fun u110 t H locs ht hvm hw hB hz1 hk1 hS => ?_)
              obtain ⟨u110_0, u110_1⟩ := u110
              obtain ⟨hP1, hD1⟩ := hB
              rw [ht] at hP1
              obtain ⟨hP, hD⟩ := va_join (wr := [(tp, .inr (9, [.ref tB, .int tl, .int u98_0])), (tB, .inl (cI, 260, .inl fB))]) (w1 := [(h0, .inr (5, [.ref lS, .int u110_0, .ref tp])), (lS, .inl (cI, 241, .inl u110_1))]) hP hD [0, 1] [2, 3] rfl rfl (by decide) (by decide) hk1 hFc hP1 hD1
              have hP : va_P (dC, dI) vwCl [(h0, .inr (5, [.ref lS, .int u110_0, .ref tp])), (lS, .inl (cI, 241, .inl u110_1)), (tp, .inr (9, [.ref tB, .int tl, .int u98_0])), (tB, .inl (cI, 260, .inl fB))] H := hP.sub [2, 3, 0, 1] rfl
              have hD : va_D A [(h0, .inr (5, [.ref lS, .int u110_0, .ref tp])), (lS, .inl (cI, 241, .inl u110_1)), (tp, .inr (9, [.ref tB, .int tl, .int u98_0])), (tB, .inl (cI, 260, .inl fB))] := hD.sub [2, 3, 0, 1] (by decide) rfl
              have zn110_63 : (63 : Int32).toInt = 63 := by decide
              obtain ⟨f110_0, f110_1, f110_2, f110_3, f110_4⟩ : (1 ≤ u110_0.toInt) ∧ (u110_0.toInt ≤ 241) ∧ (u110_0.toInt ≤ u86_0.toInt + 1 ∧ u86_0.toInt ≤ u110_0.toInt) ∧ (u86_0.toInt < 241 → zEm u86_1 u86_0 [((63 : Int32).toInt, 0)] u110_1 u110_0) ∧ (zSt u110_1) := hw
              have F110 := f110_3
              refine lv_aload_n hx hb dX5_clause_113 rfl (lv_at hl 2 rfl) ?_
              refine lv_iconst (v := 0) hx hb dX5_clause_114 (by decide) ?_
              have hPc := hP.sub (ws' := [(h0, .inr (5, [.ref lS, .int u110_0, .ref tp])), (lS, .inl (cI, 241, .inl u110_1)), (tp, .inr (9, [.ref tB, .int tl, .int u98_0])), (tB, .inl (cI, 260, .inl fB))]) [0, 1, 2, 3] rfl
              have hDc := hD.sub (ws' := [(h0, .inr (5, [.ref lS, .int u110_0, .ref tp])), (lS, .inl (cI, 241, .inl u110_1)), (tp, .inr (9, [.ref tB, .int tl, .int u98_0])), (tB, .inl (cI, 260, .inl fB))]) [0, 1, 2, 3] (by decide) rfl
              have hFc := va_free (wc := [(h0, .inr (5, [.ref lS, .int u110_0, .ref tp])), (lS, .inl (cI, 241, .inl u110_1)), (tp, .inr (9, [.ref tB, .int tl, .int u98_0])), (tB, .inl (cI, 260, .inl fB))]) hD hS hA [0, 1, 2, 3] rfl
              refine va_calli (va_runV (As := [.int 0]) (rest := []) ⟨hx, hb, hml, hown, hts⟩ (zD_S6 l dC dI cI cJ h0 0 lS u110_0 tp u110_1 tB tl u98_0 fB H.size (by decide) (by omega) ⟨f98_2, f98_3⟩ n_tl (hty) (by omega) (by decide) f110_4) (cwV 1 hts (zgV qw486 qw488 qw3 qw101 qw489) rfl rfl rfl hd_X5_sum ⟨by rw [hR]; exact Nat.le_of_ble_eq_true rfl, by rw [hR]; exact Nat.le_of_ble_eq_true rfl⟩) (zPWV hPc hK hDc (va_recv hK hP (ci := 5) (q0 := 0) rfl rfl) (zV_call hV hS hFc)) rfl rfl hl.1 rfl (lv_room (Nat.le_of_ble_eq_true rfl)) dX5_clause_115 ⟨Nat.zero_le _, Nat.zero_le _⟩) hS (fun q _ h => hFc q h) hFc (fun v115 u115 t H locs ht hvm hw hB hz1 hk1 hS => ?_)
              obtain ⟨u115_0, u115_1, u115_2⟩ := u115
              obtain ⟨hP1, hD1⟩ := hB
              rw [ht] at hP1
              obtain ⟨hP, hD⟩ := va_join (wr := []) (w1 := [(h0, .inr (5, [.ref lS, .int u115_0, .ref tp])), (lS, .inl (cI, 241, .inl u115_1)), (tp, .inr (9, [.ref tB, .int tl, .int u115_2])), (tB, .inl (cI, 260, .inl fB))]) hP hD [0, 1, 2, 3] [] rfl rfl (by decide) (by decide) hk1 hFc hP1 hD1
              have hP : va_P (dC, dI) vwCl [(h0, .inr (5, [.ref lS, .int u115_0, .ref tp])), (lS, .inl (cI, 241, .inl u115_1)), (tp, .inr (9, [.ref tB, .int tl, .int u115_2])), (tB, .inl (cI, 260, .inl fB))] H := hP.sub [0, 1, 2, 3] rfl
              have hD : va_D A [(h0, .inr (5, [.ref lS, .int u115_0, .ref tp])), (lS, .inl (cI, 241, .inl u115_1)), (tp, .inr (9, [.ref tB, .int tl, .int u115_2])), (tB, .inl (cI, 260, .inl fB))] := hD.sub [0, 1, 2, 3] (by decide) rfl
              obtain ⟨f115_0, f115_1, f115_2, f115_3, f115_4, f115_5, f115_6, f115_7, f115_8, f115_9, f115_10⟩ : (0 ≤ v115.toInt) ∧ (v115.toInt ≤ 1) ∧ (0 ≤ u115_0.toInt) ∧ (u115_0.toInt ≤ 241) ∧ (0 ≤ u115_2.toInt) ∧ (u115_2.toInt ≤ 240) ∧ (zF (sSum (sB fB tl.toInt) tl.toInt 6 u98_0.toInt) v115 u115_2) ∧ (¬ v115.toInt = 0 → u98_0.toInt < u115_2.toInt) ∧ (¬ v115.toInt = 0 → u115_0.toInt + u98_0.toInt ≤ u110_0.toInt + u115_2.toInt) ∧ (¬ v115.toInt = 0 → zEm u110_1 u110_0 (eSum (sB fB tl.toInt) tl.toInt 6 u98_0.toInt) u115_1 u115_0) ∧ (zSt u115_1) := hw
              have F115 := f115_6
              have F115_1 := f115_9
              refine lv_if_ne (tgt := 123) hx hb dX5_clause_118 (by decide) (fun c118 => ?_) (fun c118 => ?_)
              · have c118 : ¬ v115.toInt = 0 := z6 rfl (by decide) c118
                refine lv_aload_n hx hb dX5_clause_123 rfl (lv_at hl 2 rfl) ?_
                refine lv_bipush (v := 59) hx hb dX5_clause_124 (by decide) ?_
                refine lv_iconst (v := 0) hx hb dX5_clause_126 (by decide) ?_
                have hPc := hP.sub (ws' := [(h0, .inr (5, [.ref lS, .int u115_0, .ref tp])), (lS, .inl (cI, 241, .inl u115_1))]) [0, 1] rfl
                have hDc := hD.sub (ws' := [(h0, .inr (5, [.ref lS, .int u115_0, .ref tp])), (lS, .inl (cI, 241, .inl u115_1))]) [0, 1] (by decide) rfl
                have hFc := va_free (wc := [(h0, .inr (5, [.ref lS, .int u115_0, .ref tp])), (lS, .inl (cI, 241, .inl u115_1))]) hD hS hA [0, 1] rfl
                refine va_callv (va_runV (As := [.int 59, .int 0]) (rest := []) ⟨hx, hb, hml, hown, hts⟩ (g_X5_put_0 l dC dI cI cJ h0 59 lS u115_0 tp u115_1 H.size (by decide) ⟨f115_2, f115_3⟩ f115_10) (cwV 2 hts (zgV qw496 qw498 qw5 qw101 qw499) rfl rfl rfl hd_X5_put ⟨by rw [hR]; exact Nat.le_of_ble_eq_true rfl, by rw [hR]; exact Nat.le_of_ble_eq_true rfl⟩) (zPV hPc hK hDc (va_recv hK hP (ci := 5) (q0 := 0) rfl rfl)) rfl rfl hl.1 rfl (lv_room (Nat.le_of_ble_eq_true rfl)) dX5_clause_127 ⟨Nat.zero_le _, Nat.zero_le _⟩) hS (fun q _ h => hFc q h) hFc (fun u127 t H locs ht hvm hw hB hz1 hk1 hS => ?_)
                obtain ⟨u127_0, u127_1⟩ := u127
                obtain ⟨hP1, hD1⟩ := hB
                rw [ht] at hP1
                obtain ⟨hP, hD⟩ := va_join (wr := [(tp, .inr (9, [.ref tB, .int tl, .int u115_2])), (tB, .inl (cI, 260, .inl fB))]) (w1 := [(h0, .inr (5, [.ref lS, .int u127_0, .ref tp])), (lS, .inl (cI, 241, .inl u127_1))]) hP hD [0, 1] [2, 3] rfl rfl (by decide) (by decide) hk1 hFc hP1 hD1
                have hP : va_P (dC, dI) vwCl [(h0, .inr (5, [.ref lS, .int u127_0, .ref tp])), (lS, .inl (cI, 241, .inl u127_1)), (tp, .inr (9, [.ref tB, .int tl, .int u115_2])), (tB, .inl (cI, 260, .inl fB))] H := hP.sub [2, 3, 0, 1] rfl
                have hD : va_D A [(h0, .inr (5, [.ref lS, .int u127_0, .ref tp])), (lS, .inl (cI, 241, .inl u127_1)), (tp, .inr (9, [.ref tB, .int tl, .int u115_2])), (tB, .inl (cI, 260, .inl fB))] := hD.sub [2, 3, 0, 1] (by decide) rfl
                have zn127_59 : (59 : Int32).toInt = 59 := by decide
                obtain ⟨f127_0, f127_1, f127_2, f127_3, f127_4⟩ : (1 ≤ u127_0.toInt) ∧ (u127_0.toInt ≤ 241) ∧ (u127_0.toInt ≤ u115_0.toInt + 1 ∧ u115_0.toInt ≤ u127_0.toInt) ∧ (u115_0.toInt < 241 → zEm u115_1 u115_0 [((59 : Int32).toInt, 0)] u127_1 u127_0) ∧ (zSt u127_1) := hw
                have F127 := f127_3
                refine lv_iconst (v := 1) hx hb dX5_clause_130 (by decide) ?_
                have zr0 : (1 : Int32).toInt = 1 := by decide
                rw [hQ]
                exact W.zret (v := 1) (ty := .boolean) hx hb hr rfl (fun t ht hW => ⟨⟨1, (u127_0, u127_1, u115_2), rfl, ⟨by (try dsimp only); omega, by (try dsimp only); omega, by (try dsimp only); omega, by (try dsimp only); omega, by (try dsimp only); omega, by (try dsimp only); omega, zF1 (fc_2 F6 (by omega) F18 (by omega) ((fm_y (fc_t F30 (by omega) F86) (by omega) F98 (by omega) F115).trans (by rw [show v115.toInt = 1 by omega]))), (fun _ => zFm (x := sCl (sB fB tl.toInt) tl.toInt) (sCl_mono (sB fB tl.toInt) tl.toInt) (zF1 (fc_2 F6 (by omega) F18 (by omega) ((fm_y (fc_t F30 (by omega) F86) (by omega) F98 (by omega) F115).trans (by rw [show v115.toInt = 1 by omega]))))), by (try dsimp only); omega, (fun _ => eCl_em F6 (by omega) F18 (by omega) (eCl2_t F30 (by omega) F86 (by omega) F98 (by omega) (F86_1 (by omega)) (F110 (by omega)) (F115_1 (by omega)) (F127 (by omega)) (by omega) (by omega) (by omega))), f127_4⟩, ⟨by rw [ht]; exact hP, hD⟩⟩, hS.F ht⟩) hS.2.2 dX5_clause_131
              · have c118 : v115.toInt = 0 := z5 rfl (by decide) c118
                refine lv_iconst (v := 0) hx hb dX5_clause_121 (by decide) ?_
                have zr0 : (0 : Int32).toInt = 0 := by decide
                rw [hQ]
                exact W.zret (v := 0) (ty := .boolean) hx hb hr rfl (fun t ht hW => ⟨⟨0, (u115_0, u115_1, u115_2), rfl, ⟨by (try dsimp only); omega, by (try dsimp only); omega, by (try dsimp only); omega, by (try dsimp only); omega, by (try dsimp only); omega, by (try dsimp only); omega, zF0 (fc_2 F6 (by omega) F18 (by omega) ((fm_y (fc_t F30 (by omega) F86) (by omega) F98 (by omega) F115).trans (by rw [show v115.toInt = 0 by omega]))), (fun z => absurd (by decide) z), by (try dsimp only); omega, (fun z => absurd (by decide) z), f115_10⟩, ⟨by rw [ht]; exact hP, hD⟩⟩, hS.F ht⟩) hS.2.2 dX5_clause_122
            · have c101 : v98.toInt = 0 := z5 rfl (by decide) c101
              refine lv_iconst (v := 0) hx hb dX5_clause_104 (by decide) ?_
              have zr0 : (0 : Int32).toInt = 0 := by decide
              rw [hQ]
              exact W.zret (v := 0) (ty := .boolean) hx hb hr rfl (fun t ht hW => ⟨⟨0, (u86_0, u86_1, u98_0), rfl, ⟨by (try dsimp only); omega, by (try dsimp only); omega, by (try dsimp only); omega, by (try dsimp only); omega, by (try dsimp only); omega, by (try dsimp only); omega, zF0 (fc_2 F6 (by omega) F18 (by omega) (fm_n (fc_t F30 (by omega) F86) (by omega) F98 (by omega))), (fun z => absurd (by decide) z), by (try dsimp only); omega, (fun z => absurd (by decide) z), f86_10⟩, ⟨by rw [ht]; exact hP, hD⟩⟩, hS.F ht⟩) hS.2.2 dX5_clause_105
        · have c43 : ¬ v30.toInt = 40 := z6 rfl (by decide) c43
          refine lv_iconst (v := 1) hx hb dX5_clause_46 (by decide) ?_
          refine lv_goto (tgt := 51) hx hb dX5_clause_47 (by decide) ?_
          refine lv_istore_n (lv' := [(2, .int 1), (1, .int v30), (0, .ref h0)]) hx hb dX5_clause_51 rfl hl (by decide) rfl (fun ls hl => ?_)
          refine lv_iload_n hx hb dX5_clause_52 rfl (lv_at hl 0 rfl) ?_
          refine lv_if_eq (tgt := 66) hx hb dX5_clause_53 (by decide) (fun c => absurd c (by decide)) (fun _ => ?_)
          refine lv_aload_n hx hb dX5_clause_56 rfl (lv_at hl 2 rfl) ?_
          refine lv_iconst (v := 0) hx hb dX5_clause_57 (by decide) ?_
          have hPc := hP.sub (ws' := [(h0, .inr (5, [.ref lS, .int sz5, .ref tp])), (lS, .inl (cI, 241, .inl fS)), (tp, .inr (9, [.ref tB, .int tl, .int u30_0])), (tB, .inl (cI, 260, .inl fB))]) [0, 1, 2, 3] rfl
          have hDc := hD.sub (ws' := [(h0, .inr (5, [.ref lS, .int sz5, .ref tp])), (lS, .inl (cI, 241, .inl fS)), (tp, .inr (9, [.ref tB, .int tl, .int u30_0])), (tB, .inl (cI, 260, .inl fB))]) [0, 1, 2, 3] (by decide) rfl
          have hFc := va_free (wc := [(h0, .inr (5, [.ref lS, .int sz5, .ref tp])), (lS, .inl (cI, 241, .inl fS)), (tp, .inr (9, [.ref tB, .int tl, .int u30_0])), (tB, .inl (cI, 260, .inl fB))]) hD hS hA [0, 1, 2, 3] rfl
          refine va_calli (va_runV (As := [.int 0]) (rest := []) ⟨hx, hb, hml, hown, hts⟩ (zD_S6 l dC dI cI cJ h0 0 lS sz5 tp fS tB tl u30_0 fB H.size (by decide) n_sz5 ⟨f30_0, f30_1⟩ n_tl (hty) (by omega) (by decide) ci_fS_zSt) (cwV 1 hts (zgV qw486 qw488 qw3 qw101 qw489) rfl rfl rfl hd_X5_sum ⟨by rw [hR]; exact Nat.le_of_ble_eq_true rfl, by rw [hR]; exact Nat.le_of_ble_eq_true rfl⟩) (zPWV hPc hK hDc (va_recv hK hP (ci := 5) (q0 := 0) rfl rfl) (zV_call hV hS hFc)) rfl rfl hl.1 rfl (lv_room (Nat.le_of_ble_eq_true rfl)) dX5_clause_58 ⟨Nat.zero_le _, Nat.zero_le _⟩) hS (fun q _ h => hFc q h) hFc (fun v58 u58 t H locs ht hvm hw hB hz1 hk1 hS => ?_)
          obtain ⟨u58_0, u58_1, u58_2⟩ := u58
          obtain ⟨hP1, hD1⟩ := hB
          rw [ht] at hP1
          obtain ⟨hP, hD⟩ := va_join (wr := []) (w1 := [(h0, .inr (5, [.ref lS, .int u58_0, .ref tp])), (lS, .inl (cI, 241, .inl u58_1)), (tp, .inr (9, [.ref tB, .int tl, .int u58_2])), (tB, .inl (cI, 260, .inl fB))]) hP hD [0, 1, 2, 3] [] rfl rfl (by decide) (by decide) hk1 hFc hP1 hD1
          have hP : va_P (dC, dI) vwCl [(h0, .inr (5, [.ref lS, .int u58_0, .ref tp])), (lS, .inl (cI, 241, .inl u58_1)), (tp, .inr (9, [.ref tB, .int tl, .int u58_2])), (tB, .inl (cI, 260, .inl fB))] H := hP.sub [0, 1, 2, 3] rfl
          have hD : va_D A [(h0, .inr (5, [.ref lS, .int u58_0, .ref tp])), (lS, .inl (cI, 241, .inl u58_1)), (tp, .inr (9, [.ref tB, .int tl, .int u58_2])), (tB, .inl (cI, 260, .inl fB))] := hD.sub [0, 1, 2, 3] (by decide) rfl
          obtain ⟨f58_0, f58_1, f58_2, f58_3, f58_4, f58_5, f58_6, f58_7, f58_8, f58_9, f58_10⟩ : (0 ≤ v58.toInt) ∧ (v58.toInt ≤ 1) ∧ (0 ≤ u58_0.toInt) ∧ (u58_0.toInt ≤ 241) ∧ (0 ≤ u58_2.toInt) ∧ (u58_2.toInt ≤ 240) ∧ (zF (sSum (sB fB tl.toInt) tl.toInt 6 u30_0.toInt) v58 u58_2) ∧ (¬ v58.toInt = 0 → u30_0.toInt < u58_2.toInt) ∧ (¬ v58.toInt = 0 → u58_0.toInt + u30_0.toInt ≤ sz5.toInt + u58_2.toInt) ∧ (¬ v58.toInt = 0 → zEm fS sz5 (eSum (sB fB tl.toInt) tl.toInt 6 u30_0.toInt) u58_1 u58_0) ∧ (zSt u58_1) := hw
          have F58 := f58_6
          have F58_1 := f58_9
          refine lv_if_ne (tgt := 66) hx hb dX5_clause_61 (by decide) (fun c61 => ?_) (fun c61 => ?_)
          · have c61 : ¬ v58.toInt = 0 := z6 rfl (by decide) c61
            refine lv_iload_n hx hb dX5_clause_66 rfl (lv_at hl 0 rfl) ?_
            refine lv_if_eq (tgt := 83) hx hb dX5_clause_67 (by decide) (fun c => absurd c (by decide)) (fun _ => ?_)
            refine lv_aload_n hx hb dX5_clause_70 rfl (lv_at hl 2 rfl) ?_
            refine va_get (D := (dC, dI)) (ci := 5) (v := .ref tp) (C := RX5) (T := TX5) (N := 3) hx hb hts iX5 hown hK hP 0 rfl rfl 2 (by decide) (hts _ qw172) (fun _ h9 => h9) rfl dX5_clause_71 ?_
            have hPc := hP.sub (ws' := [(tp, .inr (9, [.ref tB, .int tl, .int u58_2])), (tB, .inl (cI, 260, .inl fB))]) [2, 3] rfl
            have hDc := hD.sub (ws' := [(tp, .inr (9, [.ref tB, .int tl, .int u58_2])), (tB, .inl (cI, 260, .inl fB))]) [2, 3] (by decide) rfl
            have hFc := va_free (wc := [(tp, .inr (9, [.ref tB, .int tl, .int u58_2])), (tB, .inl (cI, 260, .inl fB))]) hD hS hA [2, 3] rfl
            refine va_calli (va_runV (As := []) (rest := []) ⟨hx, hb, hml, hown, hts⟩ (g_X9_peek l dC dI cI cJ tp tB tl u58_2 fB H.size ⟨f58_4, f58_5⟩ n_tl (hty)) (cwV 0 hts (zgV qw485 qw438 qw439 qw99 qw440) rfl rfl rfl hd_X9_peek ⟨by rw [hR]; exact Nat.le_of_ble_eq_true rfl, by rw [hR]; exact Nat.le_of_ble_eq_true rfl⟩) (zPV hPc hK hDc (va_recv hK hP (ci := 9) (q0 := 2) rfl rfl)) rfl rfl hl.1 rfl (lv_room (Nat.le_of_ble_eq_true rfl)) dX5_clause_74 ⟨Nat.zero_le _, Nat.zero_le _⟩) hS (fun q _ h => hFc q h) hFc (fun v74 u74 t H locs ht hvm hw hB hz1 hk1 hS => ?_)
            obtain ⟨u74_0, rfl⟩ : ∃ z, z = u74 := ⟨_, rfl⟩
            obtain ⟨hP1, hD1⟩ := hB
            rw [ht] at hP1
            obtain ⟨hP, hD⟩ := va_join (wr := [(h0, .inr (5, [.ref lS, .int u58_0, .ref tp])), (lS, .inl (cI, 241, .inl u58_1))]) (w1 := [(tp, .inr (9, [.ref tB, .int tl, .int u74_0])), (tB, .inl (cI, 260, .inl fB))]) hP hD [2, 3] [0, 1] rfl rfl (by decide) (by decide) hk1 hFc hP1 hD1
            have hP : va_P (dC, dI) vwCl [(h0, .inr (5, [.ref lS, .int u58_0, .ref tp])), (lS, .inl (cI, 241, .inl u58_1)), (tp, .inr (9, [.ref tB, .int tl, .int u74_0])), (tB, .inl (cI, 260, .inl fB))] H := hP.sub [0, 1, 2, 3] rfl
            have hD : va_D A [(h0, .inr (5, [.ref lS, .int u58_0, .ref tp])), (lS, .inl (cI, 241, .inl u58_1)), (tp, .inr (9, [.ref tB, .int tl, .int u74_0])), (tB, .inl (cI, 260, .inl fB))] := hD.sub [0, 1, 2, 3] (by decide) rfl
            obtain ⟨f74_0, f74_1, f74_2, f74_3, f74_4⟩ : (0 ≤ u74_0.toInt) ∧ (u74_0.toInt ≤ 240) ∧ (¬ v74.toInt = 0 → u74_0.toInt < tl.toInt) ∧ (u58_2.toInt ≤ u74_0.toInt) ∧ (zPK fB tl u58_2 v74 u74_0) := hw
            have F74 := f74_4
            have hPc : va_P (dC, dI) vwCl [] H := zP0
            have hDc : va_D (fun _ => True) [] := zD0
            have hFc := zfr hS hA
            refine va_calli (va_runS (As := [.int v74]) (rest := []) ⟨hx, hb, hml, hown, hts⟩ (g_X5_isComparison l dC dI cI cJ v74 H.size) (cwS 1 hts (zgS qw504 qw505 qw101 qw506) rfl rfl rfl hd_X5_isComparison ⟨by rw [hR]; exact Nat.le_of_ble_eq_true rfl, by rw [hR]; exact Nat.le_of_ble_eq_true rfl⟩) (zPS hPc hK hDc) rfl rfl hl.1 rfl (lv_room (Nat.le_of_ble_eq_true rfl)) dX5_clause_77 ⟨Nat.zero_le _, Nat.zero_le _⟩) hS (fun q _ h => hFc q h) hFc (fun v77 u77 t H locs ht hvm hw hB hz1 hk1 hS => ?_)
            have hP := zkeep hP hk1
            obtain ⟨f77_0, f77_1, f77_2, f77_3⟩ : (0 ≤ v77.toInt) ∧ (v77.toInt ≤ 1) ∧ (¬ v77.toInt = 0 → (60 ≤ v74.toInt ∧ v74.toInt ≤ 62)) ∧ (zIs (oQ v74.toInt) v77) := hw
            have F77 := f77_3
            refine lv_if_eq (tgt := 123) hx hb dX5_clause_80 (by decide) (fun c80 => ?_) (fun c80 => ?_)
            · have c80 : v77.toInt = 0 := z5 rfl (by decide) c80
              refine lv_aload_n hx hb dX5_clause_123 rfl (lv_at hl 2 rfl) ?_
              refine lv_bipush (v := 59) hx hb dX5_clause_124 (by decide) ?_
              refine lv_iconst (v := 0) hx hb dX5_clause_126 (by decide) ?_
              have hPc := hP.sub (ws' := [(h0, .inr (5, [.ref lS, .int u58_0, .ref tp])), (lS, .inl (cI, 241, .inl u58_1))]) [0, 1] rfl
              have hDc := hD.sub (ws' := [(h0, .inr (5, [.ref lS, .int u58_0, .ref tp])), (lS, .inl (cI, 241, .inl u58_1))]) [0, 1] (by decide) rfl
              have hFc := va_free (wc := [(h0, .inr (5, [.ref lS, .int u58_0, .ref tp])), (lS, .inl (cI, 241, .inl u58_1))]) hD hS hA [0, 1] rfl
              refine va_callv (va_runV (As := [.int 59, .int 0]) (rest := []) ⟨hx, hb, hml, hown, hts⟩ (g_X5_put_0 l dC dI cI cJ h0 59 lS u58_0 tp u58_1 H.size (by decide) ⟨f58_2, f58_3⟩ f58_10) (cwV 2 hts (zgV qw496 qw498 qw5 qw101 qw499) rfl rfl rfl hd_X5_put ⟨by rw [hR]; exact Nat.le_of_ble_eq_true rfl, by rw [hR]; exact Nat.le_of_ble_eq_true rfl⟩) (zPV hPc hK hDc (va_recv hK hP (ci := 5) (q0 := 0) rfl rfl)) rfl rfl hl.1 rfl (lv_room (Nat.le_of_ble_eq_true rfl)) dX5_clause_127 ⟨Nat.zero_le _, Nat.zero_le _⟩) hS (fun q _ h => hFc q h) hFc (fun u127 t H locs ht hvm hw hB hz1 hk1 hS => ?_)
              obtain ⟨u127_0, u127_1⟩ := u127
              obtain ⟨hP1, hD1⟩ := hB
              rw [ht] at hP1
              obtain ⟨hP, hD⟩ := va_join (wr := [(tp, .inr (9, [.ref tB, .int tl, .int u74_0])), (tB, .inl (cI, 260, .inl fB))]) (w1 := [(h0, .inr (5, [.ref lS, .int u127_0, .ref tp])), (lS, .inl (cI, 241, .inl u127_1))]) hP hD [0, 1] [2, 3] rfl rfl (by decide) (by decide) hk1 hFc hP1 hD1
              have hP : va_P (dC, dI) vwCl [(h0, .inr (5, [.ref lS, .int u127_0, .ref tp])), (lS, .inl (cI, 241, .inl u127_1)), (tp, .inr (9, [.ref tB, .int tl, .int u74_0])), (tB, .inl (cI, 260, .inl fB))] H := hP.sub [2, 3, 0, 1] rfl
              have hD : va_D A [(h0, .inr (5, [.ref lS, .int u127_0, .ref tp])), (lS, .inl (cI, 241, .inl u127_1)), (tp, .inr (9, [.ref tB, .int tl, .int u74_0])), (tB, .inl (cI, 260, .inl fB))] := hD.sub [2, 3, 0, 1] (by decide) rfl
              have zn127_59 : (59 : Int32).toInt = 59 := by decide
              obtain ⟨f127_0, f127_1, f127_2, f127_3, f127_4⟩ : (1 ≤ u127_0.toInt) ∧ (u127_0.toInt ≤ 241) ∧ (u127_0.toInt ≤ u58_0.toInt + 1 ∧ u58_0.toInt ≤ u127_0.toInt) ∧ (u58_0.toInt < 241 → zEm u58_1 u58_0 [((59 : Int32).toInt, 0)] u127_1 u127_0) ∧ (zSt u127_1) := hw
              have F127 := f127_3
              refine lv_iconst (v := 1) hx hb dX5_clause_130 (by decide) ?_
              have zr0 : (1 : Int32).toInt = 1 := by decide
              rw [hQ]
              exact W.zret (v := 1) (ty := .boolean) hx hb hr rfl (fun t ht hW => ⟨⟨1, (u127_0, u127_1, u74_0), rfl, ⟨by (try dsimp only); omega, by (try dsimp only); omega, by (try dsimp only); omega, by (try dsimp only); omega, by (try dsimp only); omega, by (try dsimp only); omega, zF1 (fc_2 F6 (by omega) F18 (by omega) (fc_s1 F30 (by omega) (by omega) F58 (by omega) F74 F77 (by omega))), (fun _ => zFm (x := sCl (sB fB tl.toInt) tl.toInt) (sCl_mono (sB fB tl.toInt) tl.toInt) (zF1 (fc_2 F6 (by omega) F18 (by omega) (fc_s1 F30 (by omega) (by omega) F58 (by omega) F74 F77 (by omega))))), by (try dsimp only); omega, (fun _ => eCl_em F6 (by omega) F18 (by omega) (eCl2_s F30 (by omega) (by omega) F58 (by omega) F74 (fun z => absurd (zIs_f F77 (by omega)) (fun y => y (oQ_iff.mpr (by omega)))) (F58_1 (by omega)) (F127 (by omega)) (by omega))), f127_4⟩, ⟨by rw [ht]; exact hP, hD⟩⟩, hS.F ht⟩) hS.2.2 dX5_clause_131
            · have c80 : ¬ v77.toInt = 0 := z6 rfl (by decide) c80
              refine lv_aload_n hx hb dX5_clause_83 rfl (lv_at hl 2 rfl) ?_
              refine lv_iconst (v := 0) hx hb dX5_clause_84 (by decide) ?_
              refine lv_iload_n hx hb dX5_clause_85 rfl (lv_at hl 0 rfl) ?_
              have hPc := hP.sub (ws' := [(h0, .inr (5, [.ref lS, .int u58_0, .ref tp])), (lS, .inl (cI, 241, .inl u58_1)), (tp, .inr (9, [.ref tB, .int tl, .int u74_0])), (tB, .inl (cI, 260, .inl fB))]) [0, 1, 2, 3] rfl
              have hDc := hD.sub (ws' := [(h0, .inr (5, [.ref lS, .int u58_0, .ref tp])), (lS, .inl (cI, 241, .inl u58_1)), (tp, .inr (9, [.ref tB, .int tl, .int u74_0])), (tB, .inl (cI, 260, .inl fB))]) [0, 1, 2, 3] (by decide) rfl
              have hFc := va_free (wc := [(h0, .inr (5, [.ref lS, .int u58_0, .ref tp])), (lS, .inl (cI, 241, .inl u58_1)), (tp, .inr (9, [.ref tB, .int tl, .int u74_0])), (tB, .inl (cI, 260, .inl fB))]) hD hS hA [0, 1, 2, 3] rfl
              refine va_calli (va_runV (As := [.int 0, .int 1]) (rest := []) ⟨hx, hb, hml, hown, hts⟩ (g_X5_condition_0_1 l dC dI cI cJ h0 lS u58_0 tp u58_1 tB tl u74_0 fB H.size ⟨f58_2, f58_3⟩ ⟨f74_0, f74_1⟩ n_tl (hty) (by omega) f58_10) (cwV 2 hts (zgV qw507 qw509 qw6 qw101 qw510) rfl rfl rfl hd_X5_condition ⟨by rw [hR]; exact Nat.le_of_ble_eq_true rfl, by rw [hR]; exact Nat.le_of_ble_eq_true rfl⟩) (zPWV hPc hK hDc (va_recv hK hP (ci := 5) (q0 := 0) rfl rfl) (zV_call hV hS hFc)) rfl rfl hl.1 rfl (lv_room (Nat.le_of_ble_eq_true rfl)) dX5_clause_86 ⟨Nat.zero_le _, Nat.zero_le _⟩) hS (fun q _ h => hFc q h) hFc (fun v86 u86 t H locs ht hvm hw hB hz1 hk1 hS => ?_)
              obtain ⟨u86_0, u86_1, u86_2⟩ := u86
              obtain ⟨hP1, hD1⟩ := hB
              rw [ht] at hP1
              obtain ⟨hP, hD⟩ := va_join (wr := []) (w1 := [(h0, .inr (5, [.ref lS, .int u86_0, .ref tp])), (lS, .inl (cI, 241, .inl u86_1)), (tp, .inr (9, [.ref tB, .int tl, .int u86_2])), (tB, .inl (cI, 260, .inl fB))]) hP hD [0, 1, 2, 3] [] rfl rfl (by decide) (by decide) hk1 hFc hP1 hD1
              have hP : va_P (dC, dI) vwCl [(h0, .inr (5, [.ref lS, .int u86_0, .ref tp])), (lS, .inl (cI, 241, .inl u86_1)), (tp, .inr (9, [.ref tB, .int tl, .int u86_2])), (tB, .inl (cI, 260, .inl fB))] H := hP.sub [0, 1, 2, 3] rfl
              have hD : va_D A [(h0, .inr (5, [.ref lS, .int u86_0, .ref tp])), (lS, .inl (cI, 241, .inl u86_1)), (tp, .inr (9, [.ref tB, .int tl, .int u86_2])), (tB, .inl (cI, 260, .inl fB))] := hD.sub [0, 1, 2, 3] (by decide) rfl
              obtain ⟨f86_0, f86_1, f86_2, f86_3, f86_4, f86_5, f86_6, f86_7, f86_8, f86_9, f86_10⟩ : (0 ≤ v86.toInt) ∧ (v86.toInt ≤ 1) ∧ (0 ≤ u86_0.toInt) ∧ (u86_0.toInt ≤ 241) ∧ (0 ≤ u86_2.toInt) ∧ (u86_2.toInt ≤ 240) ∧ (zF (sGo (sB fB tl.toInt) tl.toInt u74_0.toInt) v86 u86_2) ∧ (¬ v86.toInt = 0 → u74_0.toInt < u86_2.toInt) ∧ (¬ v86.toInt = 0 → u86_0.toInt + u74_0.toInt ≤ u58_0.toInt + u86_2.toInt) ∧ (¬ v86.toInt = 0 → zEm u58_1 u58_0 (eGo (sB fB tl.toInt) tl.toInt u74_0.toInt) u86_1 u86_0) ∧ (zSt u86_1) := hw
              have F86 := f86_6
              have F86_1 := f86_9
              refine lv_if_eq (tgt := 104) hx hb dX5_clause_89 (by decide) (fun c89 => ?_) (fun c89 => ?_)
              · have c89 : v86.toInt = 0 := z5 rfl (by decide) c89
                refine lv_iconst (v := 0) hx hb dX5_clause_104 (by decide) ?_
                have zr0 : (0 : Int32).toInt = 0 := by decide
                rw [hQ]
                exact W.zret (v := 0) (ty := .boolean) hx hb hr rfl (fun t ht hW => ⟨⟨0, (u86_0, u86_1, u86_2), rfl, ⟨by (try dsimp only); omega, by (try dsimp only); omega, by (try dsimp only); omega, by (try dsimp only); omega, by (try dsimp only); omega, by (try dsimp only); omega, zF0 (fc_2 F6 (by omega) F18 (by omega) (fm_0 (fc_s2 F30 (by omega) (by omega) F58 (by omega) F74 F77 (by omega) F86) (by omega))), (fun z => absurd (by decide) z), by (try dsimp only); omega, (fun z => absurd (by decide) z), f86_10⟩, ⟨by rw [ht]; exact hP, hD⟩⟩, hS.F ht⟩) hS.2.2 dX5_clause_105
              · have c89 : ¬ v86.toInt = 0 := z6 rfl (by decide) c89
                refine lv_aload_n hx hb dX5_clause_92 rfl (lv_at hl 2 rfl) ?_
                refine va_get (D := (dC, dI)) (ci := 5) (v := .ref tp) (C := RX5) (T := TX5) (N := 3) hx hb hts iX5 hown hK hP 0 rfl rfl 2 (by decide) (hts _ qw172) (fun _ h9 => h9) rfl dX5_clause_93 ?_
                refine lv_bipush (v := 63) hx hb dX5_clause_96 (by decide) ?_
                have hPc := hP.sub (ws' := [(tp, .inr (9, [.ref tB, .int tl, .int u86_2])), (tB, .inl (cI, 260, .inl fB))]) [2, 3] rfl
                have hDc := hD.sub (ws' := [(tp, .inr (9, [.ref tB, .int tl, .int u86_2])), (tB, .inl (cI, 260, .inl fB))]) [2, 3] (by decide) rfl
                have hFc := va_free (wc := [(tp, .inr (9, [.ref tB, .int tl, .int u86_2])), (tB, .inl (cI, 260, .inl fB))]) hD hS hA [2, 3] rfl
                refine va_calli (va_runV (As := [.int 63]) (rest := []) ⟨hx, hb, hml, hown, hts⟩ (g_X9_takes l dC dI cI cJ tp 63 tB tl u86_2 fB H.size (by decide) ⟨f86_4, f86_5⟩ n_tl (hty)) (cwV 1 hts (zgV qw484 qw472 qw473 qw99 qw474) rfl rfl rfl hd_X9_takes ⟨by rw [hR]; exact Nat.le_of_ble_eq_true rfl, by rw [hR]; exact Nat.le_of_ble_eq_true rfl⟩) (zPV hPc hK hDc (va_recv hK hP (ci := 9) (q0 := 2) rfl rfl)) rfl rfl hl.1 rfl (lv_room (Nat.le_of_ble_eq_true rfl)) dX5_clause_98 ⟨Nat.zero_le _, Nat.zero_le _⟩) hS (fun q _ h => hFc q h) hFc (fun v98 u98 t H locs ht hvm hw hB hz1 hk1 hS => ?_)
                obtain ⟨u98_0, rfl⟩ : ∃ z, z = u98 := ⟨_, rfl⟩
                obtain ⟨hP1, hD1⟩ := hB
                rw [ht] at hP1
                obtain ⟨hP, hD⟩ := va_join (wr := [(h0, .inr (5, [.ref lS, .int u86_0, .ref tp])), (lS, .inl (cI, 241, .inl u86_1))]) (w1 := [(tp, .inr (9, [.ref tB, .int tl, .int u98_0])), (tB, .inl (cI, 260, .inl fB))]) hP hD [2, 3] [0, 1] rfl rfl (by decide) (by decide) hk1 hFc hP1 hD1
                have hP : va_P (dC, dI) vwCl [(h0, .inr (5, [.ref lS, .int u86_0, .ref tp])), (lS, .inl (cI, 241, .inl u86_1)), (tp, .inr (9, [.ref tB, .int tl, .int u98_0])), (tB, .inl (cI, 260, .inl fB))] H := hP.sub [0, 1, 2, 3] rfl
                have hD : va_D A [(h0, .inr (5, [.ref lS, .int u86_0, .ref tp])), (lS, .inl (cI, 241, .inl u86_1)), (tp, .inr (9, [.ref tB, .int tl, .int u98_0])), (tB, .inl (cI, 260, .inl fB))] := hD.sub [0, 1, 2, 3] (by decide) rfl
                obtain ⟨f98_0, f98_1, f98_2, f98_3, f98_4, f98_5⟩ : (0 ≤ v98.toInt) ∧ (v98.toInt ≤ 1) ∧ (0 ≤ u98_0.toInt) ∧ (u98_0.toInt ≤ 240) ∧ (u86_2.toInt ≤ u98_0.toInt) ∧ (zTk fB tl u86_2 63 v98 u98_0) := hw
                have F98 := f98_5
                refine lv_if_ne (tgt := 106) hx hb dX5_clause_101 (by decide) (fun c101 => ?_) (fun c101 => ?_)
                · have c101 : ¬ v98.toInt = 0 := z6 rfl (by decide) c101
                  have q106 := zTkL F98 (by omega)
                  refine lv_aload_n hx hb dX5_clause_106 rfl (lv_at hl 2 rfl) ?_
                  refine lv_bipush (v := 63) hx hb dX5_clause_107 (by decide) ?_
                  refine lv_iconst (v := 0) hx hb dX5_clause_109 (by decide) ?_
                  have hPc := hP.sub (ws' := [(h0, .inr (5, [.ref lS, .int u86_0, .ref tp])), (lS, .inl (cI, 241, .inl u86_1))]) [0, 1] rfl
                  have hDc := hD.sub (ws' := [(h0, .inr (5, [.ref lS, .int u86_0, .ref tp])), (lS, .inl (cI, 241, .inl u86_1))]) [0, 1] (by decide) rfl
                  have hFc := va_free (wc := [(h0, .inr (5, [.ref lS, .int u86_0, .ref tp])), (lS, .inl (cI, 241, .inl u86_1))]) hD hS hA [0, 1] rfl
                  refine va_callv (va_runV (As := [.int 63, .int 0]) (rest := []) ⟨hx, hb, hml, hown, hts⟩ (g_X5_put_0 l dC dI cI cJ h0 63 lS u86_0 tp u86_1 H.size (by decide) ⟨f86_2, f86_3⟩ f86_10) (cwV 2 hts (zgV qw496 qw498 qw5 qw101 qw499) rfl rfl rfl hd_X5_put ⟨by rw [hR]; exact Nat.le_of_ble_eq_true rfl, by rw [hR]; exact Nat.le_of_ble_eq_true rfl⟩) (zPV hPc hK hDc (va_recv hK hP (ci := 5) (q0 := 0) rfl rfl)) rfl rfl hl.1 rfl (lv_room (Nat.le_of_ble_eq_true rfl)) dX5_clause_110 ⟨Nat.zero_le _, Nat.zero_le _⟩) hS (fun q _ h => hFc q h) hFc (fun u110 t H locs ht hvm hw hB hz1 hk1 hS => ?_)
                  obtain ⟨u110_0, u110_1⟩ := u110
                  obtain ⟨hP1, hD1⟩ := hB
                  rw [ht] at hP1
                  obtain ⟨hP, hD⟩ := va_join (wr := [(tp, .inr (9, [.ref tB, .int tl, .int u98_0])), (tB, .inl (cI, 260, .inl fB))]) (w1 := [(h0, .inr (5, [.ref lS, .int u110_0, .ref tp])), (lS, .inl (cI, 241, .inl u110_1))]) hP hD [0, 1] [2, 3] rfl rfl (by decide) (by decide) hk1 hFc hP1 hD1
                  have hP : va_P (dC, dI) vwCl [(h0, .inr (5, [.ref lS, .int u110_0, .ref tp])), (lS, .inl (cI, 241, .inl u110_1)), (tp, .inr (9, [.ref tB, .int tl, .int u98_0])), (tB, .inl (cI, 260, .inl fB))] H := hP.sub [2, 3, 0, 1] rfl
                  have hD : va_D A [(h0, .inr (5, [.ref lS, .int u110_0, .ref tp])), (lS, .inl (cI, 241, .inl u110_1)), (tp, .inr (9, [.ref tB, .int tl, .int u98_0])), (tB, .inl (cI, 260, .inl fB))] := hD.sub [2, 3, 0, 1] (by decide) rfl
                  have zn110_63 : (63 : Int32).toInt = 63 := by decide
                  obtain ⟨f110_0, f110_1, f110_2, f110_3, f110_4⟩ : (1 ≤ u110_0.toInt) ∧ (u110_0.toInt ≤ 241) ∧ (u110_0.toInt ≤ u86_0.toInt + 1 ∧ u86_0.toInt ≤ u110_0.toInt) ∧ (u86_0.toInt < 241 → zEm u86_1 u86_0 [((63 : Int32).toInt, 0)] u110_1 u110_0) ∧ (zSt u110_1) := hw
                  have F110 := f110_3
                  refine lv_aload_n hx hb dX5_clause_113 rfl (lv_at hl 2 rfl) ?_
                  refine lv_iconst (v := 0) hx hb dX5_clause_114 (by decide) ?_
                  have hPc := hP.sub (ws' := [(h0, .inr (5, [.ref lS, .int u110_0, .ref tp])), (lS, .inl (cI, 241, .inl u110_1)), (tp, .inr (9, [.ref tB, .int tl, .int u98_0])), (tB, .inl (cI, 260, .inl fB))]) [0, 1, 2, 3] rfl
                  have hDc := hD.sub (ws' := [(h0, .inr (5, [.ref lS, .int u110_0, .ref tp])), (lS, .inl (cI, 241, .inl u110_1)), (tp, .inr (9, [.ref tB, .int tl, .int u98_0])), (tB, .inl (cI, 260, .inl fB))]) [0, 1, 2, 3] (by decide) rfl
                  have hFc := va_free (wc := [(h0, .inr (5, [.ref lS, .int u110_0, .ref tp])), (lS, .inl (cI, 241, .inl u110_1)), (tp, .inr (9, [.ref tB, .int tl, .int u98_0])), (tB, .inl (cI, 260, .inl fB))]) hD hS hA [0, 1, 2, 3] rfl
                  refine va_calli (va_runV (As := [.int 0]) (rest := []) ⟨hx, hb, hml, hown, hts⟩ (zD_S6 l dC dI cI cJ h0 0 lS u110_0 tp u110_1 tB tl u98_0 fB H.size (by decide) (by omega) ⟨f98_2, f98_3⟩ n_tl (hty) (by omega) (by decide) f110_4) (cwV 1 hts (zgV qw486 qw488 qw3 qw101 qw489) rfl rfl rfl hd_X5_sum ⟨by rw [hR]; exact Nat.le_of_ble_eq_true rfl, by rw [hR]; exact Nat.le_of_ble_eq_true rfl⟩) (zPWV hPc hK hDc (va_recv hK hP (ci := 5) (q0 := 0) rfl rfl) (zV_call hV hS hFc)) rfl rfl hl.1 rfl (lv_room (Nat.le_of_ble_eq_true rfl)) dX5_clause_115 ⟨Nat.zero_le _, Nat.zero_le _⟩) hS (fun q _ h => hFc q h) hFc (fun v115 u115 t H locs ht hvm hw hB hz1 hk1 hS => ?_)
                  obtain ⟨u115_0, u115_1, u115_2⟩ := u115
                  obtain ⟨hP1, hD1⟩ := hB
                  rw [ht] at hP1
                  obtain ⟨hP, hD⟩ := va_join (wr := []) (w1 := [(h0, .inr (5, [.ref lS, .int u115_0, .ref tp])), (lS, .inl (cI, 241, .inl u115_1)), (tp, .inr (9, [.ref tB, .int tl, .int u115_2])), (tB, .inl (cI, 260, .inl fB))]) hP hD [0, 1, 2, 3] [] rfl rfl (by decide) (by decide) hk1 hFc hP1 hD1
                  have hP : va_P (dC, dI) vwCl [(h0, .inr (5, [.ref lS, .int u115_0, .ref tp])), (lS, .inl (cI, 241, .inl u115_1)), (tp, .inr (9, [.ref tB, .int tl, .int u115_2])), (tB, .inl (cI, 260, .inl fB))] H := hP.sub [0, 1, 2, 3] rfl
                  have hD : va_D A [(h0, .inr (5, [.ref lS, .int u115_0, .ref tp])), (lS, .inl (cI, 241, .inl u115_1)), (tp, .inr (9, [.ref tB, .int tl, .int u115_2])), (tB, .inl (cI, 260, .inl fB))] := hD.sub [0, 1, 2, 3] (by decide) rfl
                  obtain ⟨f115_0, f115_1, f115_2, f115_3, f115_4, f115_5, f115_6, f115_7, f115_8, f115_9, f115_10⟩ : (0 ≤ v115.toInt) ∧ (v115.toInt ≤ 1) ∧ (0 ≤ u115_0.toInt) ∧ (u115_0.toInt ≤ 241) ∧ (0 ≤ u115_2.toInt) ∧ (u115_2.toInt ≤ 240) ∧ (zF (sSum (sB fB tl.toInt) tl.toInt 6 u98_0.toInt) v115 u115_2) ∧ (¬ v115.toInt = 0 → u98_0.toInt < u115_2.toInt) ∧ (¬ v115.toInt = 0 → u115_0.toInt + u98_0.toInt ≤ u110_0.toInt + u115_2.toInt) ∧ (¬ v115.toInt = 0 → zEm u110_1 u110_0 (eSum (sB fB tl.toInt) tl.toInt 6 u98_0.toInt) u115_1 u115_0) ∧ (zSt u115_1) := hw
                  have F115 := f115_6
                  have F115_1 := f115_9
                  refine lv_if_ne (tgt := 123) hx hb dX5_clause_118 (by decide) (fun c118 => ?_) (fun c118 => ?_)
                  · have c118 : ¬ v115.toInt = 0 := z6 rfl (by decide) c118
                    refine lv_aload_n hx hb dX5_clause_123 rfl (lv_at hl 2 rfl) ?_
                    refine lv_bipush (v := 59) hx hb dX5_clause_124 (by decide) ?_
                    refine lv_iconst (v := 0) hx hb dX5_clause_126 (by decide) ?_
                    have hPc := hP.sub (ws' := [(h0, .inr (5, [.ref lS, .int u115_0, .ref tp])), (lS, .inl (cI, 241, .inl u115_1))]) [0, 1] rfl
                    have hDc := hD.sub (ws' := [(h0, .inr (5, [.ref lS, .int u115_0, .ref tp])), (lS, .inl (cI, 241, .inl u115_1))]) [0, 1] (by decide) rfl
                    have hFc := va_free (wc := [(h0, .inr (5, [.ref lS, .int u115_0, .ref tp])), (lS, .inl (cI, 241, .inl u115_1))]) hD hS hA [0, 1] rfl
                    refine va_callv (va_runV (As := [.int 59, .int 0]) (rest := []) ⟨hx, hb, hml, hown, hts⟩ (g_X5_put_0 l dC dI cI cJ h0 59 lS u115_0 tp u115_1 H.size (by decide) ⟨f115_2, f115_3⟩ f115_10) (cwV 2 hts (zgV qw496 qw498 qw5 qw101 qw499) rfl rfl rfl hd_X5_put ⟨by rw [hR]; exact Nat.le_of_ble_eq_true rfl, by rw [hR]; exact Nat.le_of_ble_eq_true rfl⟩) (zPV hPc hK hDc (va_recv hK hP (ci := 5) (q0 := 0) rfl rfl)) rfl rfl hl.1 rfl (lv_room (Nat.le_of_ble_eq_true rfl)) dX5_clause_127 ⟨Nat.zero_le _, Nat.zero_le _⟩) hS (fun q _ h => hFc q h) hFc (fun u127 t H locs ht hvm hw hB hz1 hk1 hS => ?_)
                    obtain ⟨u127_0, u127_1⟩ := u127
                    obtain ⟨hP1, hD1⟩ := hB
                    rw [ht] at hP1
                    obtain ⟨hP, hD⟩ := va_join (wr := [(tp, .inr (9, [.ref tB, .int tl, .int u115_2])), (tB, .inl (cI, 260, .inl fB))]) (w1 := [(h0, .inr (5, [.ref lS, .int u127_0, .ref tp])), (lS, .inl (cI, 241, .inl u127_1))]) hP hD [0, 1] [2, 3] rfl rfl (by decide) (by decide) hk1 hFc hP1 hD1
                    have hP : va_P (dC, dI) vwCl [(h0, .inr (5, [.ref lS, .int u127_0, .ref tp])), (lS, .inl (cI, 241, .inl u127_1)), (tp, .inr (9, [.ref tB, .int tl, .int u115_2])), (tB, .inl (cI, 260, .inl fB))] H := hP.sub [2, 3, 0, 1] rfl
                    have hD : va_D A [(h0, .inr (5, [.ref lS, .int u127_0, .ref tp])), (lS, .inl (cI, 241, .inl u127_1)), (tp, .inr (9, [.ref tB, .int tl, .int u115_2])), (tB, .inl (cI, 260, .inl fB))] := hD.sub [2, 3, 0, 1] (by decide) rfl
                    have zn127_59 : (59 : Int32).toInt = 59 := by decide
                    obtain ⟨f127_0, f127_1, f127_2, f127_3, f127_4⟩ : (1 ≤ u127_0.toInt) ∧ (u127_0.toInt ≤ 241) ∧ (u127_0.toInt ≤ u115_0.toInt + 1 ∧ u115_0.toInt ≤ u127_0.toInt) ∧ (u115_0.toInt < 241 → zEm u115_1 u115_0 [((59 : Int32).toInt, 0)] u127_1 u127_0) ∧ (zSt u127_1) := hw
                    have F127 := f127_3
                    refine lv_iconst (v := 1) hx hb dX5_clause_130 (by decide) ?_
                    have zr0 : (1 : Int32).toInt = 1 := by decide
                    rw [hQ]
                    exact W.zret (v := 1) (ty := .boolean) hx hb hr rfl (fun t ht hW => ⟨⟨1, (u127_0, u127_1, u115_2), rfl, ⟨by (try dsimp only); omega, by (try dsimp only); omega, by (try dsimp only); omega, by (try dsimp only); omega, by (try dsimp only); omega, by (try dsimp only); omega, zF1 (fc_2 F6 (by omega) F18 (by omega) ((fm_y (fc_s2 F30 (by omega) (by omega) F58 (by omega) F74 F77 (by omega) F86) (by omega) F98 (by omega) F115).trans (by rw [show v115.toInt = 1 by omega]))), (fun _ => zFm (x := sCl (sB fB tl.toInt) tl.toInt) (sCl_mono (sB fB tl.toInt) tl.toInt) (zF1 (fc_2 F6 (by omega) F18 (by omega) ((fm_y (fc_s2 F30 (by omega) (by omega) F58 (by omega) F74 F77 (by omega) F86) (by omega) F98 (by omega) F115).trans (by rw [show v115.toInt = 1 by omega]))))), by (try dsimp only); omega, (fun _ => eCl_em F6 (by omega) F18 (by omega) (eCl2_c F30 (by omega) (by omega) F58 (by omega) F74 (by have := oQ_iff.mp (zIs_t F77 (by omega)); omega) F86 (by omega) F98 (by omega) (F58_1 (by omega)) (F86_1 (by omega)) (F110 (by omega)) (F115_1 (by omega)) (F127 (by omega)) (by omega) (by omega) (by omega) (by omega))), f127_4⟩, ⟨by rw [ht]; exact hP, hD⟩⟩, hS.F ht⟩) hS.2.2 dX5_clause_131
                  · have c118 : v115.toInt = 0 := z5 rfl (by decide) c118
                    refine lv_iconst (v := 0) hx hb dX5_clause_121 (by decide) ?_
                    have zr0 : (0 : Int32).toInt = 0 := by decide
                    rw [hQ]
                    exact W.zret (v := 0) (ty := .boolean) hx hb hr rfl (fun t ht hW => ⟨⟨0, (u115_0, u115_1, u115_2), rfl, ⟨by (try dsimp only); omega, by (try dsimp only); omega, by (try dsimp only); omega, by (try dsimp only); omega, by (try dsimp only); omega, by (try dsimp only); omega, zF0 (fc_2 F6 (by omega) F18 (by omega) ((fm_y (fc_s2 F30 (by omega) (by omega) F58 (by omega) F74 F77 (by omega) F86) (by omega) F98 (by omega) F115).trans (by rw [show v115.toInt = 0 by omega]))), (fun z => absurd (by decide) z), by (try dsimp only); omega, (fun z => absurd (by decide) z), f115_10⟩, ⟨by rw [ht]; exact hP, hD⟩⟩, hS.F ht⟩) hS.2.2 dX5_clause_122
                · have c101 : v98.toInt = 0 := z5 rfl (by decide) c101
                  refine lv_iconst (v := 0) hx hb dX5_clause_104 (by decide) ?_
                  have zr0 : (0 : Int32).toInt = 0 := by decide
                  rw [hQ]
                  exact W.zret (v := 0) (ty := .boolean) hx hb hr rfl (fun t ht hW => ⟨⟨0, (u86_0, u86_1, u98_0), rfl, ⟨by (try dsimp only); omega, by (try dsimp only); omega, by (try dsimp only); omega, by (try dsimp only); omega, by (try dsimp only); omega, by (try dsimp only); omega, zF0 (fc_2 F6 (by omega) F18 (by omega) (fm_n (fc_s2 F30 (by omega) (by omega) F58 (by omega) F74 F77 (by omega) F86) (by omega) F98 (by omega))), (fun z => absurd (by decide) z), by (try dsimp only); omega, (fun z => absurd (by decide) z), f86_10⟩, ⟨by rw [ht]; exact hP, hD⟩⟩, hS.F ht⟩) hS.2.2 dX5_clause_105
          · have c61 : v58.toInt = 0 := z5 rfl (by decide) c61
            refine lv_iconst (v := 0) hx hb dX5_clause_64 (by decide) ?_
            have zr0 : (0 : Int32).toInt = 0 := by decide
            rw [hQ]
            exact W.zret (v := 0) (ty := .boolean) hx hb hr rfl (fun t ht hW => ⟨⟨0, (u58_0, u58_1, u58_2), rfl, ⟨by (try dsimp only); omega, by (try dsimp only); omega, by (try dsimp only); omega, by (try dsimp only); omega, by (try dsimp only); omega, by (try dsimp only); omega, zF0 (fc_2 F6 (by omega) F18 (by omega) (fc_s0 F30 (by omega) (by omega) F58 (by omega))), (fun z => absurd (by decide) z), by (try dsimp only); omega, (fun z => absurd (by decide) z), f58_10⟩, ⟨by rw [ht]; exact hP, hD⟩⟩, hS.F ht⟩) hS.2.2 dX5_clause_65
    · have c21 : v18.toInt = 0 := z5 rfl (by decide) c21
      refine lv_iconst (v := 0) hx hb dX5_clause_24 (by decide) ?_
      have zr0 : (0 : Int32).toInt = 0 := by decide
      rw [hQ]
      exact W.zret (v := 0) (ty := .boolean) hx hb hr rfl (fun t ht hW => ⟨⟨0, (sz5, fS, u18_0), rfl, ⟨by (try dsimp only); omega, by (try dsimp only); omega, by (try dsimp only); omega, by (try dsimp only); omega, by (try dsimp only); omega, by (try dsimp only); omega, zF0 (fc_c F6 (by omega) F18 (by omega)), (fun z => absurd (by decide) z), by (try dsimp only); omega, (fun z => absurd (by decide) z), ci_fS_zSt⟩, ⟨by rw [ht]; exact hP, hD⟩⟩, hS.F ht⟩) hS.2.2 dX5_clause_25
