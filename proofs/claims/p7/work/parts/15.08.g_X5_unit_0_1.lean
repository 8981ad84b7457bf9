set_option maxHeartbeats 4000000 in
set_option maxRecDepth 100000 in
theorem g_X5_unit_0_1 (l : Launch) (dC : Nat → ClassId) (dI : Nat → Nat → Nat) (cI cJ : ClassId) (h0 : Nat) (lS : Nat) (sz5 : Int32) (tp : Nat) (fS : Nat → Int32) (tB : Nat) (tl : Int32) (ta : Int32) (fB : Nat → Int32) (sz : Nat) (n_sz5 : 0 ≤ sz5.toInt ∧ sz5.toInt ≤ 241) (n_ta : 0 ≤ ta.toInt ∧ ta.toInt ≤ 240) (n_tl : 0 ≤ tl.toInt ∧ tl.toInt ≤ 240) (hty : zTy tl fB) (hsz : sz5.toInt ≤ ta.toInt) (ci_fS_zSt : zSt fS)  : Met l yX5_unit (.code yX5_unit cX5_unit 5 (some .boolean) :: wA) ({ frames := 35, cells := 0, slots := 0, locals := 626 }) (zPW (dC, dI) [(cI, .int), (cJ, .long)] [.ref h0, .int 0, .int 1] sz [(h0, .inr (5, [.ref lS, .int sz5, .ref tp])), (lS, .inl (cI, 241, .inl fS)), (tp, .inr (9, [.ref tB, .int tl, .int ta])), (tB, .inl (cI, 260, .inl fB))] (va_A [(h0, .inr (5, [.ref lS, .int sz5, .ref tp])), (lS, .inl (cI, 241, .inl fS)), (tp, .inr (9, [.ref tB, .int tl, .int ta])), (tB, .inl (cI, 260, .inl fB))] sz)) (va_Qi (fun (r : Int32) (u : Int32 × (Nat → Int32) × Int32) => (0 ≤ r.toInt) ∧ (r.toInt ≤ 1) ∧ (0 ≤ u.1.toInt) ∧ (u.1.toInt ≤ 241) ∧ (0 ≤ u.2.2.toInt) ∧ (u.2.2.toInt ≤ 240) ∧ (zF (sCmp (sB fB tl.toInt) tl.toInt (sSum (sB fB tl.toInt) tl.toInt 6) ta.toInt) r u.2.2) ∧ (¬ r.toInt = 0 → ta.toInt < u.2.2.toInt) ∧ (¬ r.toInt = 0 → u.1.toInt + ta.toInt ≤ sz5.toInt + u.2.2.toInt) ∧ (¬ r.toInt = 0 → zEm fS sz5 (eCmp (sB fB tl.toInt) tl.toInt (eSum (sB fB tl.toInt) tl.toInt 6) ta.toInt) u.2.1 u.1) ∧ (zSt u.2.1)) (fun (u : Int32 × (Nat → Int32) × Int32) (t : State) => va_P (dC, dI) vwCl [(h0, .inr (5, [.ref lS, .int u.1, .ref tp])), (lS, .inl (cI, 241, .inl u.2.1)), (tp, .inr (9, [.ref tB, .int tl, .int u.2.2])), (tB, .inl (cI, 260, .inl fB))] t.heap ∧ va_D (va_A [(h0, .inr (5, [.ref lS, .int sz5, .ref tp])), (lS, .inl (cI, 241, .inl fS)), (tp, .inr (9, [.ref tB, .int tl, .int ta])), (tB, .inl (cI, 260, .inl fB))] sz) [(h0, .inr (5, [.ref lS, .int u.1, .ref tp])), (lS, .inl (cI, 241, .inl u.2.1)), (tp, .inr (9, [.ref tB, .int tl, .int u.2.2])), (tB, .inl (cI, 260, .inl fB))]) (va_A [(h0, .inr (5, [.ref lS, .int sz5, .ref tp])), (lS, .inl (cI, 241, .inl fS)), (tp, .inr (9, [.ref tB, .int tl, .int ta])), (tB, .inl (cI, 260, .inl fB))] sz)) 0 0 (va_A [(h0, .inr (5, [.ref lS, .int sz5, .ref tp])), (lS, .inl (cI, 241, .inl fS)), (tp, .inr (9, [.ref tB, .int tl, .int ta])), (tB, .inl (cI, 260, .inl fB))] sz) := by
  refine Met.ofW (cc := cX5_unit) (maxL := 5) (ret := (some .boolean)) (by decide) rfl ?_
  intro p e s m args below meth c s₁ B hml hv
  obtain ⟨⟨hargs, hsz, hP, hK, hT⟩, hV⟩ := hv
  have hx := B.exec
  have hb := B.bytes
  have hr := B.returns
  have hts : ∀ w ∈ wA, w.before args s = true := fun w h => atoms_spec (ws := .code yX5_unit cX5_unit 5 (some .boolean) :: wA) B.pre w (List.mem_cons_of_mem _ h)
  have hown : s.vm.findClass RX5 = some m.cls := findClass_of_methodNamed B.named
  have hlocks := B.notSynchronized
  subst hsz
  have hD := hT.self (sz := s.heap.size)
  generalize hAe : va_A [(h0, .inr (5, [.ref lS, .int sz5, .ref tp])), (lS, .inl (cI, 241, .inl fS)), (tp, .inr (9, [.ref tB, .int tl, .int ta])), (tB, .inl (cI, 260, .inl fB))] s.heap.size = A at hD hV ⊢
  have hA : ∀ q : Nat, s.heap.size ≤ q → A q := fun q h => by rw [← hAe]; exact Or.inr h
  have hl := lv_entry ([.ref h0, .int 0, .int 1]) (n := 5) (Nat.le_of_ble_eq_true rfl)
  rw [show entryFrame m args 5 = entryFrame m ([.ref h0, .int 0, .int 1] : List Value).toArray 5 by rw [hargs], lg_entry_eq]
  generalize (lg_sl ([.ref h0, .int 0, .int 1]) ++ List.replicate (5 - (lg_sl ([.ref h0, .int 0, .int 1])).length) Slot.unset).toArray = ls at hl ⊢
  have hl : lv_has ls 5 [(0, .ref h0), (1, .int 0), (2, .int 1)] := hl
  refine zstart (fun H hH => ?_)
  rw [← hH] at hP
  have hS : va_S A s.heap H [] := by rw [hH]; exact va_S.rf
  generalize ([] : List Loc) = locs at hS ⊢
  refine zgen (fun R Q hR hQ => ?_)
  refine lv_aload_n hx hb dX5_unit_0 rfl (lv_at hl 0 rfl) ?_
  refine va_get (D := (dC, dI)) (ci := 5) (v := .ref tp) (C := RX5) (T := TX5) (N := 3) hx hb hts iX5 hown hK hP 0 rfl rfl 2 (by decide) (hts _ qw172) (fun _ h9 => h9) rfl dX5_unit_1 ?_
  have hPc := hP.sub (ws' := [(tp, .inr (9, [.ref tB, .int tl, .int ta])), (tB, .inl (cI, 260, .inl fB))]) [2, 3] rfl
  have hDc := hD.sub (ws' := [(tp, .inr (9, [.ref tB, .int tl, .int ta])), (tB, .inl (cI, 260, .inl fB))]) [2, 3] (by decide) rfl
  have hFc := va_free (wc := [(tp, .inr (9, [.ref tB, .int tl, .int ta])), (tB, .inl (cI, 260, .inl fB))]) hD hS hA [2, 3] rfl
  refine va_calli (va_runV (As := []) (rest := []) ⟨hx, hb, hml, hown, hts⟩ (g_X9_peek l dC dI cI cJ tp tB tl ta fB H.size n_ta n_tl (hty)) (cwV 0 hts (zgV qw485 qw438 qw439 qw99 qw440) rfl rfl rfl hd_X9_peek ⟨by rw [hR]; exact Nat.le_of_ble_eq_true rfl, by rw [hR]; exact Nat.le_of_ble_eq_true rfl⟩) (zPV hPc hK hDc (va_recv hK hP (ci := 9) (q0 := 2) rfl rfl)) rfl rfl hl.1 rfl (lv_room (Nat.le_of_ble_eq_true rfl)) dX5_unit_4 ⟨Nat.zero_le _, Nat.zero_le _⟩) hS (fun q _ h => hFc q h) hFc (fun v4 u4 t H locs ht hvm hw hB hz1 hk1 hS => ?_)
  obtain ⟨u4_0, rfl⟩ : ∃ z, z = u4 := ⟨_, rfl⟩
  obtain ⟨hP1, hD1⟩ := hB
  rw [ht] at hP1
  obtain ⟨hP, hD⟩ := va_join (wr := [(h0, .inr (5, [.ref lS, .int sz5, .ref tp])), (lS, .inl (cI, 241, .inl fS))]) (w1 := [(tp, .inr (9, [.ref tB, .int tl, .int u4_0])), (tB, .inl (cI, 260, .inl fB))]) hP hD [2, 3] [0, 1] rfl rfl (by decide) (by decide) hk1 hFc hP1 hD1
  have hP : va_P (dC, dI) vwCl [(h0, .inr (5, [.ref lS, .int sz5, .ref tp])), (lS, .inl (cI, 241, .inl fS)), (tp, .inr (9, [.ref tB, .int tl, .int u4_0])), (tB, .inl (cI, 260, .inl fB))] H := hP.sub [0, 1, 2, 3] rfl
  have hD : va_D A [(h0, .inr (5, [.ref lS, .int sz5, .ref tp])), (lS, .inl (cI, 241, .inl fS)), (tp, .inr (9, [.ref tB, .int tl, .int u4_0])), (tB, .inl (cI, 260, .inl fB))] := hD.sub [0, 1, 2, 3] (by decide) rfl
  obtain ⟨f4_0, f4_1, f4_2, f4_3, f4_4⟩ : (0 ≤ u4_0.toInt) ∧ (u4_0.toInt ≤ 240) ∧ (¬ v4.toInt = 0 → u4_0.toInt < tl.toInt) ∧ (ta.toInt ≤ u4_0.toInt) ∧ (zPK fB tl ta v4 u4_0) := hw
  have F4 := f4_4
  refine lv_istore_n (lv' := [(3, .int v4), (0, .ref h0), (1, .int 0), (2, .int 1)]) hx hb dX5_unit_7 rfl hl (by decide) rfl (fun ls hl => ?_)
  refine lv_iload_n hx hb dX5_unit_8 rfl (lv_at hl 3 rfl) ?_
  refine lv_if_ne (tgt := 102) hx hb dX5_unit_9 (by decide) (fun _ => ?_) (fun c => absurd c (by decide))
  refine lv_iload_n hx hb dX5_unit_102 rfl (lv_at hl 3 rfl) ?_
  refine lv_if_ne (tgt := 116) hx hb dX5_unit_103 (by decide) (fun _ => ?_) (fun c => absurd c (by decide))
  refine lv_aload_n hx hb dX5_unit_116 rfl (lv_at hl 1 rfl) ?_
  refine va_get (D := (dC, dI)) (ci := 5) (v := .ref tp) (C := RX5) (T := TX5) (N := 3) hx hb hts iX5 hown hK hP 0 rfl rfl 2 (by decide) (hts _ qw172) (fun _ h9 => h9) rfl dX5_unit_117 ?_
  have hPc := hP.sub (ws' := [(tp, .inr (9, [.ref tB, .int tl, .int u4_0])), (tB, .inl (cI, 260, .inl fB))]) [2, 3] rfl
  have hDc := hD.sub (ws' := [(tp, .inr (9, [.ref tB, .int tl, .int u4_0])), (tB, .inl (cI, 260, .inl fB))]) [2, 3] (by decide) rfl
  have hFc := va_free (wc := [(tp, .inr (9, [.ref tB, .int tl, .int u4_0])), (tB, .inl (cI, 260, .inl fB))]) hD hS hA [2, 3] rfl
  refine va_calli (va_runV (As := []) (rest := []) ⟨hx, hb, hml, hown, hts⟩ (g_X9_peek l dC dI cI cJ tp tB tl u4_0 fB H.size ⟨f4_0, f4_1⟩ n_tl (hty)) (cwV 0 hts (zgV qw485 qw438 qw439 qw99 qw440) rfl rfl rfl hd_X9_peek ⟨by rw [hR]; exact Nat.le_of_ble_eq_true rfl, by rw [hR]; exact Nat.le_of_ble_eq_true rfl⟩) (zPV hPc hK hDc (va_recv hK hP (ci := 9) (q0 := 2) rfl rfl)) rfl rfl hl.1 rfl (lv_room (Nat.le_of_ble_eq_true rfl)) dX5_unit_120 ⟨Nat.zero_le _, Nat.zero_le _⟩) hS (fun q _ h => hFc q h) hFc (fun v120 u120 t H locs ht hvm hw hB hz1 hk1 hS => ?_)
  obtain ⟨u120_0, rfl⟩ : ∃ z, z = u120 := ⟨_, rfl⟩
  obtain ⟨hP1, hD1⟩ := hB
  rw [ht] at hP1
  obtain ⟨hP, hD⟩ := va_join (wr := [(h0, .inr (5, [.ref lS, .int sz5, .ref tp])), (lS, .inl (cI, 241, .inl fS))]) (w1 := [(tp, .inr (9, [.ref tB, .int tl, .int u120_0])), (tB, .inl (cI, 260, .inl fB))]) hP hD [2, 3] [0, 1] rfl rfl (by decide) (by decide) hk1 hFc hP1 hD1
  have hP : va_P (dC, dI) vwCl [(h0, .inr (5, [.ref lS, .int sz5, .ref tp])), (lS, .inl (cI, 241, .inl fS)), (tp, .inr (9, [.ref tB, .int tl, .int u120_0])), (tB, .inl (cI, 260, .inl fB))] H := hP.sub [0, 1, 2, 3] rfl
  have hD : va_D A [(h0, .inr (5, [.ref lS, .int sz5, .ref tp])), (lS, .inl (cI, 241, .inl fS)), (tp, .inr (9, [.ref tB, .int tl, .int u120_0])), (tB, .inl (cI, 260, .inl fB))] := hD.sub [0, 1, 2, 3] (by decide) rfl
  obtain ⟨f120_0, f120_1, f120_2, f120_3, f120_4⟩ : (0 ≤ u120_0.toInt) ∧ (u120_0.toInt ≤ 240) ∧ (¬ v120.toInt = 0 → u120_0.toInt < tl.toInt) ∧ (u4_0.toInt ≤ u120_0.toInt) ∧ (zPK fB tl u4_0 v120 u120_0) := hw
  have F120 := f120_4
  refine lv_istore (lv' := [(4, .int v120), (3, .int v4), (0, .ref h0), (1, .int 0), (2, .int 1)]) hx hb dX5_unit_123 hl (by decide) rfl (fun ls hl => ?_)
  refine lv_iload hx hb dX5_unit_125 (lv_at hl 0 rfl) ?_
  have hPc : va_P (dC, dI) vwCl [] H := zP0
  have hDc : va_D (fun _ => True) [] := zD0
  have hFc := zfr hS hA
  refine va_calli (va_runS (As := [.int v120]) (rest := []) ⟨hx, hb, hml, hown, hts⟩ (g_X5_isComparison l dC dI cI cJ v120 H.size) (cwS 1 hts (zgS qw504 qw505 qw101 qw506) rfl rfl rfl hd_X5_isComparison ⟨by rw [hR]; exact Nat.le_of_ble_eq_true rfl, by rw [hR]; exact Nat.le_of_ble_eq_true rfl⟩) (zPS hPc hK hDc) rfl rfl hl.1 rfl (lv_room (Nat.le_of_ble_eq_true rfl)) dX5_unit_127 ⟨Nat.zero_le _, Nat.zero_le _⟩) hS (fun q _ h => hFc q h) hFc (fun v127 u127 t H locs ht hvm hw hB hz1 hk1 hS => ?_)
  have hP := zkeep hP hk1
  obtain ⟨f127_0, f127_1, f127_2, f127_3⟩ : (0 ≤ v127.toInt) ∧ (v127.toInt ≤ 1) ∧ (¬ v127.toInt = 0 → (60 ≤ v120.toInt ∧ v120.toInt ≤ 62)) ∧ (zIs (oQ v120.toInt) v127) := hw
  have F127 := f127_3
  refine lv_if_ne (tgt := 135) hx hb dX5_unit_130 (by decide) (fun c130 => ?_) (fun c130 => ?_)
  · have c130 : ¬ v127.toInt = 0 := z6 rfl (by decide) c130
    refine lv_aload_n hx hb dX5_unit_135 rfl (lv_at hl 2 rfl) ?_
    refine va_get (D := (dC, dI)) (ci := 5) (v := .ref tp) (C := RX5) (T := TX5) (N := 3) hx hb hts iX5 hown hK hP 0 rfl rfl 2 (by decide) (hts _ qw172) (fun _ h9 => h9) rfl dX5_unit_136 ?_
    refine lv_dup hx hb dX5_unit_139 rfl ?_
    refine va_get (D := (dC, dI)) (ci := 9) (v := .int u120_0) (C := RX9) (T := TX9) (N := 3) hx hb hts iX9 hown hK hP 2 rfl rfl 2 (by decide) (hts _ qw137) (fun _ h9 => h9) rfl dX5_unit_140 ?_
    refine lv_iconst (v := 1) hx hb dX5_unit_143 (by decide) ?_
    refine lv_iadd hx hb dX5_unit_144 ?_
    refine lv_topi (fun v144 e144 => ?_)
    have i144 : v144.toInt = u120_0.toInt + 1 := zadd e144 rfl (by decide) (by omega) (by omega)
    refine va_put (D := (dC, dI)) (ci := 9) (v := .int v144) (ty := .int) (C := RX9) (T := TX9) (N := 3) hx hb hts iX9 tyX9 tyX9_ok nmX9 hown hK hP hD hS 2 rfl rfl 2 (by decide) (hts _ qw137) (fun _ h9 => h9) rfl (by decide +kernel) rfl rfl (Nat.le_of_ble_eq_true rfl) dX5_unit_145 (fun H locs hP hD hS => ?_)
    have hP : va_P (dC, dI) vwCl [(h0, .inr (5, [.ref lS, .int sz5, .ref tp])), (lS, .inl (cI, 241, .inl fS)), (tp, .inr (9, [.ref tB, .int tl, .int v144])), (tB, .inl (cI, 260, .inl fB))] H := hP
    have hD : va_D A [(h0, .inr (5, [.ref lS, .int sz5, .ref tp])), (lS, .inl (cI, 241, .inl fS)), (tp, .inr (9, [.ref tB, .int tl, .int v144])), (tB, .inl (cI, 260, .inl fB))] := hD
    refine lv_aload_n hx hb dX5_unit_148 rfl (lv_at hl 2 rfl) ?_
    refine lv_iload_n hx hb dX5_unit_149 rfl (lv_at hl 3 rfl) ?_
    have hPc := hP.sub (ws' := [(h0, .inr (5, [.ref lS, .int sz5, .ref tp])), (lS, .inl (cI, 241, .inl fS)), (tp, .inr (9, [.ref tB, .int tl, .int v144])), (tB, .inl (cI, 260, .inl fB))]) [0, 1, 2, 3] rfl
    have hDc := hD.sub (ws' := [(h0, .inr (5, [.ref lS, .int sz5, .ref tp])), (lS, .inl (cI, 241, .inl fS)), (tp, .inr (9, [.ref tB, .int tl, .int v144])), (tB, .inl (cI, 260, .inl fB))]) [0, 1, 2, 3] (by decide) rfl
    have hFc := va_free (wc := [(h0, .inr (5, [.ref lS, .int sz5, .ref tp])), (lS, .inl (cI, 241, .inl fS)), (tp, .inr (9, [.ref tB, .int tl, .int v144])), (tB, .inl (cI, 260, .inl fB))]) hD hS hA [0, 1, 2, 3] rfl
    refine va_calli (va_runV (As := [.int 0]) (rest := []) ⟨hx, hb, hml, hown, hts⟩ (zD_S6 l dC dI cI cJ h0 0 lS sz5 tp fS tB tl v144 fB H.size (by decide) n_sz5 (by omega) n_tl (hty) (by omega) (by decide) ci_fS_zSt) (cwV 1 hts (zgV qw486 qw488 qw3 qw101 qw489) rfl rfl rfl hd_X5_sum ⟨by rw [hR]; exact Nat.le_of_ble_eq_true rfl, by rw [hR]; exact Nat.le_of_ble_eq_true rfl⟩) (zPWV hPc hK hDc (va_recv hK hP (ci := 5) (q0 := 0) rfl rfl) (zV_call hV hS hFc)) rfl rfl hl.1 rfl (lv_room (Nat.le_of_ble_eq_true rfl)) dX5_unit_150 ⟨Nat.zero_le _, Nat.zero_le _⟩) hS (fun q _ h => hFc q h) hFc (fun v150 u150 t H locs ht hvm hw hB hz1 hk1 hS => ?_)
    obtain ⟨u150_0, u150_1, u150_2⟩ := u150
    obtain ⟨hP1, hD1⟩ := hB
    rw [ht] at hP1
    obtain ⟨hP, hD⟩ := va_join (wr := []) (w1 := [(h0, .inr (5, [.ref lS, .int u150_0, .ref tp])), (lS, .inl (cI, 241, .inl u150_1)), (tp, .inr (9, [.ref tB, .int tl, .int u150_2])), (tB, .inl (cI, 260, .inl fB))]) hP hD [0, 1, 2, 3] [] rfl rfl (by decide) (by decide) hk1 hFc hP1 hD1
    have hP : va_P (dC, dI) vwCl [(h0, .inr (5, [.ref lS, .int u150_0, .ref tp])), (lS, .inl (cI, 241, .inl u150_1)), (tp, .inr (9, [.ref tB, .int tl, .int u150_2])), (tB, .inl (cI, 260, .inl fB))] H := hP.sub [0, 1, 2, 3] rfl
    have hD : va_D A [(h0, .inr (5, [.ref lS, .int u150_0, .ref tp])), (lS, .inl (cI, 241, .inl u150_1)), (tp, .inr (9, [.ref tB, .int tl, .int u150_2])), (tB, .inl (cI, 260, .inl fB))] := hD.sub [0, 1, 2, 3] (by decide) rfl
    obtain ⟨f150_0, f150_1, f150_2, f150_3, f150_4, f150_5, f150_6, f150_7, f150_8, f150_9, f150_10⟩ : (0 ≤ v150.toInt) ∧ (v150.toInt ≤ 1) ∧ (0 ≤ u150_0.toInt) ∧ (u150_0.toInt ≤ 241) ∧ (0 ≤ u150_2.toInt) ∧ (u150_2.toInt ≤ 240) ∧ (zF (sSum (sB fB tl.toInt) tl.toInt 6 v144.toInt) v150 u150_2) ∧ (¬ v150.toInt = 0 → v144.toInt < u150_2.toInt) ∧ (¬ v150.toInt = 0 → u150_0.toInt + v144.toInt ≤ sz5.toInt + u150_2.toInt) ∧ (¬ v150.toInt = 0 → zEm fS sz5 (eSum (sB fB tl.toInt) tl.toInt 6 v144.toInt) u150_1 u150_0) ∧ (zSt u150_1) := hw
    have F150 := f150_6
    have F150_1 := f150_9
    refine lv_if_ne (tgt := 158) hx hb dX5_unit_153 (by decide) (fun c153 => ?_) (fun c153 => ?_)
    · have c153 : ¬ v150.toInt = 0 := z6 rfl (by decide) c153
      refine lv_aload_n hx hb dX5_unit_158 rfl (lv_at hl 2 rfl) ?_
      refine lv_iload hx hb dX5_unit_159 (lv_at hl 0 rfl) ?_
      refine lv_iconst (v := 0) hx hb dX5_unit_161 (by decide) ?_
      have hPc := hP.sub (ws' := [(h0, .inr (5, [.ref lS, .int u150_0, .ref tp])), (lS, .inl (cI, 241, .inl u150_1))]) [0, 1] rfl
      have hDc := hD.sub (ws' := [(h0, .inr (5, [.ref lS, .int u150_0, .ref tp])), (lS, .inl (cI, 241, .inl u150_1))]) [0, 1] (by decide) rfl
      have hFc := va_free (wc := [(h0, .inr (5, [.ref lS, .int u150_0, .ref tp])), (lS, .inl (cI, 241, .inl u150_1))]) hD hS hA [0, 1] rfl
      refine va_callv (va_runV (As := [.int v120, .int 0]) (rest := []) ⟨hx, hb, hml, hown, hts⟩ (g_X5_put_0 l dC dI cI cJ h0 v120 lS u150_0 tp u150_1 H.size (by omega) ⟨f150_2, f150_3⟩ f150_10) (cwV 2 hts (zgV qw496 qw498 qw5 qw101 qw499) rfl rfl rfl hd_X5_put ⟨by rw [hR]; exact Nat.le_of_ble_eq_true rfl, by rw [hR]; exact Nat.le_of_ble_eq_true rfl⟩) (zPV hPc hK hDc (va_recv hK hP (ci := 5) (q0 := 0) rfl rfl)) rfl rfl hl.1 rfl (lv_room (Nat.le_of_ble_eq_true rfl)) dX5_unit_162 ⟨Nat.zero_le _, Nat.zero_le _⟩) hS (fun q _ h => hFc q h) hFc (fun u162 t H locs ht hvm hw hB hz1 hk1 hS => ?_)
      obtain ⟨u162_0, u162_1⟩ := u162
      obtain ⟨hP1, hD1⟩ := hB
      rw [ht] at hP1
      obtain ⟨hP, hD⟩ := va_join (wr := [(tp, .inr (9, [.ref tB, .int tl, .int u150_2])), (tB, .inl (cI, 260, .inl fB))]) (w1 := [(h0, .inr (5, [.ref lS, .int u162_0, .ref tp])), (lS, .inl (cI, 241, .inl u162_1))]) hP hD [0, 1] [2, 3] rfl rfl (by decide) (by decide) hk1 hFc hP1 hD1
      have hP : va_P (dC, dI) vwCl [(h0, .inr (5, [.ref lS, .int u162_0, .ref tp])), (lS, .inl (cI, 241, .inl u162_1)), (tp, .inr (9, [.ref tB, .int tl, .int u150_2])), (tB, .inl (cI, 260, .inl fB))] H := hP.sub [2, 3, 0, 1] rfl
      have hD : va_D A [(h0, .inr (5, [.ref lS, .int u162_0, .ref tp])), (lS, .inl (cI, 241, .inl u162_1)), (tp, .inr (9, [.ref tB, .int tl, .int u150_2])), (tB, .inl (cI, 260, .inl fB))] := hD.sub [2, 3, 0, 1] (by decide) rfl
      obtain ⟨f162_0, f162_1, f162_2, f162_3, f162_4⟩ : (1 ≤ u162_0.toInt) ∧ (u162_0.toInt ≤ 241) ∧ (u162_0.toInt ≤ u150_0.toInt + 1 ∧ u150_0.toInt ≤ u162_0.toInt) ∧ (u150_0.toInt < 241 → zEm u150_1 u150_0 [(v120.toInt, 0)] u162_1 u162_0) ∧ (zSt u162_1) := hw
      have F162 := f162_3
      refine lv_iconst (v := 1) hx hb dX5_unit_165 (by decide) ?_
      have zr0 : (1 : Int32).toInt = 1 := by decide
      rw [hQ]
      exact W.zret (v := 1) (ty := .boolean) hx hb hr rfl (fun t ht hW => ⟨⟨1, (u162_0, u162_1, u150_2), rfl, ⟨by (try dsimp only); omega, by (try dsimp only); omega, by (try dsimp only); omega, by (try dsimp only); omega, by (try dsimp only); omega, by (try dsimp only); omega, zF1 ((fq_sk F4).symm.trans ((fq_y F120 F127 (by omega) i144 F150).trans (by rw [show v150.toInt = 1 by omega]))), (fun _ => zFm (x := sCmp (sB fB tl.toInt) tl.toInt (sSum (sB fB tl.toInt) tl.toInt 6)) (sCmp_mono (sSum_mono (sB fB tl.toInt) tl.toInt 6)) (zF1 ((fq_sk F4).symm.trans ((fq_y F120 F127 (by omega) i144 F150).trans (by rw [show v150.toInt = 1 by omega]))))), by (try dsimp only); omega, (fun _ => eCmp_em2 F4 F120 (by omega) i144 (F150_1 (by omega)) (F162 (by omega)) (by omega)), f162_4⟩, ⟨by rw [ht]; exact hP, hD⟩⟩, hS.F ht⟩) hS.2.2 dX5_unit_166
    · have c153 : v150.toInt = 0 := z5 rfl (by decide) c153
      refine lv_iconst (v := 0) hx hb dX5_unit_156 (by decide) ?_
      have zr0 : (0 : Int32).toInt = 0 := by decide
      rw [hQ]
      exact W.zret (v := 0) (ty := .boolean) hx hb hr rfl (fun t ht hW => ⟨⟨0, (u150_0, u150_1, u150_2), rfl, ⟨by (try dsimp only); omega, by (try dsimp only); omega, by (try dsimp only); omega, by (try dsimp only); omega, by (try dsimp only); omega, by (try dsimp only); omega, zF0 ((fq_sk F4).symm.trans ((fq_y F120 F127 (by omega) i144 F150).trans (by rw [show v150.toInt = 0 by omega]))), (fun z => absurd (by decide) z), by (try dsimp only); omega, (fun z => absurd (by decide) z), f150_10⟩, ⟨by rw [ht]; exact hP, hD⟩⟩, hS.F ht⟩) hS.2.2 dX5_unit_157
  · have c130 : v127.toInt = 0 := z5 rfl (by decide) c130
    refine lv_iconst (v := 0) hx hb dX5_unit_133 (by decide) ?_
    have zr0 : (0 : Int32).toInt = 0 := by decide
    rw [hQ]
    exact W.zret (v := 0) (ty := .boolean) hx hb hr rfl (fun t ht hW => ⟨⟨0, (sz5, fS, u120_0), rfl, ⟨by (try dsimp only); omega, by (try dsimp only); omega, by (try dsimp only); omega, by (try dsimp only); omega, by (try dsimp only); omega, by (try dsimp only); omega, zF0 ((fq_sk F4).symm.trans (fq_n F120 F127 (by omega))), (fun z => absurd (by decide) z), by (try dsimp only); omega, (fun z => absurd (by decide) z), ci_fS_zSt⟩, ⟨by rw [ht]; exact hP, hD⟩⟩, hS.F ht⟩) hS.2.2 dX5_unit_134
