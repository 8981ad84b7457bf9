set_option maxHeartbeats 4000000 in
set_option maxRecDepth 100000 in
theorem g_X5_unit_z (l : Launch) (K fr lo : Nat) (ihS : zQ_X5_sum l 0 fr lo) (hfr : 0 ≤ fr) (hlo : 22 ≤ lo) : zQ_X5_unit l 0 (fr + 1) (lo + 40) := by
  intro dC dI cI cJ h0 p0 lS sz5 tp fS tB tl ta fB sz n_p0 n_sz5 n_ta n_tl hty hsz hKd ci_fS_zSt
  obtain rfl : p0 = 6 := z7 (a := 6) (by decide) (by omega)
  refine Met.ofW (cc := cX5_unit) (maxL := 5) (ret := (some .boolean)) (by decide) rfl ?_
  intro p e s m args below meth c s₁ B hml hv
  obtain ⟨⟨hargs, hsz, hP, hK, hT⟩, hV⟩ := hv
  have hx := B.exec
  have hb := B.bytes
  have hr := B.returns
  have hts : ∀ w ∈ wA, w.before args s = true := fun w h => atoms_spec (ws := .code yX5_unit cX5_unit 5 (some .boolean) :: wA) B.pre w (List.mem_cons_of_mem _ h)
  have hown : s.vm.findClass RX5 = some m.cls := findClass_of_methodNamed B.named
  have hlocks := B.notSynchronized
  subst hsz
  have hD := hT.self (sz := s.heap.size)
  generalize hAe : va_A [(h0, .inr (5, [.ref lS, .int sz5, .ref tp])), (lS, .inl (cI, 241, .inl fS)), (tp, .inr (9, [.ref tB, .int tl, .int ta])), (tB, .inl (cI, 260, .inl fB))] s.heap.size = A at hD hV ⊢
  have hA : ∀ q : Nat, s.heap.size ≤ q → A q := fun q h => by rw [← hAe]; exact Or.inr h
  have hl := lv_entry ([.ref h0, .int 6, .int 0]) (n := 5) (Nat.le_of_ble_eq_true rfl)
  rw [show entryFrame m args 5 = entryFrame m ([.ref h0, .int 6, .int 0] : List Value).toArray 5 by rw [hargs], lg_entry_eq]
  generalize (lg_sl ([.ref h0, .int 6, .int 0]) ++ List.replicate (5 - (lg_sl ([.ref h0, .int 6, .int 0])).length) Slot.unset).toArray = ls at hl ⊢
  have hl : lv_has ls 5 [(0, .ref h0), (1, .int 6), (2, .int 0)] := hl
  refine zstart (fun H hH => ?_)
  rw [← hH] at hP
  have hS : va_S A s.heap H [] := by rw [hH]; exact va_S.rf
  generalize ([] : List Loc) = locs at hS ⊢
  refine zgen (fun R Q hR hQ => ?_)
  have hRf : R.frames = fr + 1 := by rw [hR]; rfl
  have hRl : R.locals = lo + 40 := by rw [hR]; rfl
  refine lv_aload_n hx hb dX5_unit_0 rfl (lv_at hl 0 rfl) ?_
  refine va_get (D := (dC, dI)) (ci := 5) (v := .ref tp) (C := RX5) (T := TX5) (N := 3) hx hb hts iX5 hown hK hP 0 rfl rfl 2 (by decide) (hts _ qw172) (fun _ h9 => h9) rfl dX5_unit_1 ?_
  have hPc := hP.sub (ws' := [(tp, .inr (9, [.ref tB, .int tl, .int ta])), (tB, .inl (cI, 260, .inl fB))]) [2, 3] rfl
  have hDc := hD.sub (ws' := [(tp, .inr (9, [.ref tB, .int tl, .int ta])), (tB, .inl (cI, 260, .inl fB))]) [2, 3] (by decide) rfl
  have hFc := va_free (wc := [(tp, .inr (9, [.ref tB, .int tl, .int ta])), (tB, .inl (cI, 260, .inl fB))]) hD hS hA [2, 3] rfl
  refine va_calli (va_runV (As := []) (rest := []) ⟨hx, hb, hml, hown, hts⟩ (g_X9_peek l dC dI cI cJ tp tB tl ta fB H.size n_ta n_tl (hty)) (cwV 0 hts (zgV qw485 qw438 qw439 qw99 qw440) rfl rfl rfl hd_X9_peek ⟨by (try dsimp only) <;> omega, by (try dsimp only) <;> omega⟩) (zPV hPc hK hDc (va_recv hK hP (ci := 9) (q0 := 2) rfl rfl)) rfl rfl hl.1 rfl (lv_room (Nat.le_of_ble_eq_true rfl)) dX5_unit_4 ⟨Nat.zero_le _, Nat.zero_le _⟩) hS (fun q _ h => hFc q h) hFc (fun v4 u4 t H locs ht hvm hw hB hz1 hk1 hS => ?_)
  obtain ⟨u4_0, rfl⟩ : ∃ z, z = u4 := ⟨_, rfl⟩
  obtain ⟨hP1, hD1⟩ := hB
  rw [ht] at hP1
  obtain ⟨hP, hD⟩ := va_join (wr := [(h0, .inr (5, [.ref lS, .int sz5, .ref tp])), (lS, .inl (cI, 241, .inl fS))]) (w1 := [(tp, .inr (9, [.ref tB, .int tl, .int u4_0])), (tB, .inl (cI, 260, .inl fB))]) hP hD [2, 3] [0, 1] rfl rfl (by decide) (by decide) hk1 hFc hP1 hD1
  have hP : va_P (dC, dI) vwCl [(h0, .inr (5, [.ref lS, .int sz5, .ref tp])), (lS, .inl (cI, 241, .inl fS)), (tp, .inr (9, [.ref tB, .int tl, .int u4_0])), (tB, .inl (cI, 260, .inl fB))] H := hP.sub [0, 1, 2, 3] rfl
  have hD : va_D A [(h0, .inr (5, [.ref lS, .int sz5, .ref tp])), (lS, .inl (cI, 241, .inl fS)), (tp, .inr (9, [.ref tB, .int tl, .int u4_0])), (tB, .inl (cI, 260, .inl fB))] := hD.sub [0, 1, 2, 3] (by decide) rfl
  obtain ⟨f4_0, f4_1, f4_2, f4_3, f4_4⟩ : (0 ≤ u4_0.toInt) ∧ (u4_0.toInt ≤ 240) ∧ (¬ v4.toInt = 0 → u4_0.toInt < tl.toInt) ∧ (ta.toInt ≤ u4_0.toInt) ∧ (zPK fB tl ta v4 u4_0) := hw
  have F4 := f4_4
  refine lv_istore_n (lv' := [(3, .int v4), (0, .ref h0), (1, .int 6), (2, .int 0)]) hx hb dX5_unit_7 rfl hl (by decide) rfl (fun ls hl => ?_)
  refine lv_iload_n hx hb dX5_unit_8 rfl (lv_at hl 3 rfl) ?_
  refine lv_if_ne (tgt := 102) hx hb dX5_unit_9 (by decide) (fun c => absurd (by decide) c) (fun _ => ?_)
  refine lv_iload_n hx hb dX5_unit_12 rfl (lv_at hl 0 rfl) ?_
  refine lv_bipush (v := 33) hx hb dX5_unit_13 (by decide) ?_
  have J24 : (0 ≤ u4_0.toInt ∧ u4_0.toInt ≤ 239) → (33 ≤ v4.toInt ∧ v4.toInt ≤ 40) → (v4.toInt = 33 ∨ v4.toInt = 40) → ∀ (H : Heap) (locs : List Loc) (ls : Array Slot), va_P (dC, dI) vwCl [(h0, .inr (5, [.ref lS, .int sz5, .ref tp])), (lS, .inl (cI, 241, .inl fS)), (tp, .inr (9, [.ref tB, .int tl, .int u4_0])), (tB, .inl (cI, 260, .inl fB))] H → va_D A [(h0, .inr (5, [.ref lS, .int sz5, .ref tp])), (lS, .inl (cI, 241, .inl fS)), (tp, .inr (9, [.ref tB, .int tl, .int u4_0])), (tB, .inl (cI, 260, .inl fB))] → va_S A s.heap H locs → lv_has ls 5 [(3, .int v4), (0, .ref h0), (1, .int 6), (2, .int 0)] → W p l e R s m args below meth c H locs 0 0 Q (F0 m 24 ls []) := by
    intro  jf24_0 jf24_1 jf24_2 H locs ls hP hD hS hl
    refine lv_iload_n hx hb dX5_unit_24 rfl (lv_at hl 2 rfl) ?_
    refine lv_bipush (v := 6) hx hb dX5_unit_25 (by decide) ?_
    refine lv_icmp_lt (tgt := 32) hx hb dX5_unit_27 (by decide) (fun c => absurd c (by decide)) (fun _ => ?_)
    refine lv_iconst (v := 0) hx hb dX5_unit_30 (by decide) ?_
    have zr0 : (0 : Int32).toInt = 0 := by decide
    rw [hQ]
    exact W.zret (v := 0) (ty := .boolean) hx hb hr rfl (fun t ht hW => ⟨⟨0, (sz5, fS, u4_0), rfl, ⟨by (try dsimp only); omega, by (try dsimp only); omega, by (try dsimp only); omega, by (try dsimp only); omega, by (try dsimp only); omega, by (try dsimp only); omega, zF0 (fu_t F4 (by omega)), (fun z => absurd (by decide) z), by (try dsimp only); omega, (fun z => absurd (by decide) z), ci_fS_zSt⟩, ⟨by rw [ht]; exact hP, hD⟩⟩, hS.F ht⟩) hS.2.2 dX5_unit_31
  refine lv_icmp_eq (tgt := 24) hx hb dX5_unit_15 (by decide) (fun c15 => ?_) (fun c15 => ?_)
  · have c15 : v4.toInt = 33 := z5 rfl (by decide) c15
    exact J24  (by omega) (by omega) (by omega) H locs ls hP hD hS (lv_sub hl [0, 1, 2, 3] rfl)
  · have c15 : ¬ v4.toInt = 33 := z6 rfl (by decide) c15
    refine lv_iload_n hx hb dX5_unit_18 rfl (lv_at hl 0 rfl) ?_
    refine lv_bipush (v := 40) hx hb dX5_unit_19 (by decide) ?_
    refine lv_icmp_ne (tgt := 102) hx hb dX5_unit_21 (by decide) (fun c21 => ?_) (fun c21 => ?_)
    · have c21 : ¬ v4.toInt = 40 := z6 rfl (by decide) c21
      refine lv_iload_n hx hb dX5_unit_102 rfl (lv_at hl 3 rfl) ?_
      refine lv_if_ne (tgt := 116) hx hb dX5_unit_103 (by decide) (fun c => absurd (by decide) c) (fun _ => ?_)
      refine lv_aload_n hx hb dX5_unit_106 rfl (lv_at hl 1 rfl) ?_
      refine lv_iload_n hx hb dX5_unit_107 rfl (lv_at hl 2 rfl) ?_
      have hPc := hP.sub (ws' := [(h0, .inr (5, [.ref lS, .int sz5, .ref tp])), (lS, .inl (cI, 241, .inl fS)), (tp, .inr (9, [.ref tB, .int tl, .int u4_0])), (tB, .inl (cI, 260, .inl fB))]) [0, 1, 2, 3] rfl
      have hDc := hD.sub (ws' := [(h0, .inr (5, [.ref lS, .int sz5, .ref tp])), (lS, .inl (cI, 241, .inl fS)), (tp, .inr (9, [.ref tB, .int tl, .int u4_0])), (tB, .inl (cI, 260, .inl fB))]) [0, 1, 2, 3] (by decide) rfl
      have hFc := va_free (wc := [(h0, .inr (5, [.ref lS, .int sz5, .ref tp])), (lS, .inl (cI, 241, .inl fS)), (tp, .inr (9, [.ref tB, .int tl, .int u4_0])), (tB, .inl (cI, 260, .inl fB))]) hD hS hA [0, 1, 2, 3] rfl
      refine va_calli (va_runV (As := [.int 6]) (rest := []) ⟨hx, hb, hml, hown, hts⟩ (ihS dC dI cI cJ h0 6 lS sz5 tp fS tB tl u4_0 fB H.size (by decide) n_sz5 ⟨f4_0, f4_1⟩ n_tl (hty) (by omega) (by decide) ci_fS_zSt) (cwV 1 hts (zgV qw486 qw488 qw3 qw101 qw489) rfl rfl rfl hd_X5_sum ⟨by (try dsimp only) <;> omega, by (try dsimp only) <;> omega⟩) (zPWV hPc hK hDc (va_recv hK hP (ci := 5) (q0 := 0) rfl rfl) (zV_call hV hS hFc)) rfl rfl hl.1 rfl (lv_room (Nat.le_of_ble_eq_true rfl)) dX5_unit_108 ⟨Nat.zero_le _, Nat.zero_le _⟩) hS (fun q _ h => hFc q h) hFc (fun v108 u108 t H locs ht hvm hw hB hz1 hk1 hS => ?_)
      obtain ⟨u108_0, u108_1, u108_2⟩ := u108
      obtain ⟨hP1, hD1⟩ := hB
      rw [ht] at hP1
      obtain ⟨hP, hD⟩ := va_join (wr := []) (w1 := [(h0, .inr (5, [.ref lS, .int u108_0, .ref tp])), (lS, .inl (cI, 241, .inl u108_1)), (tp, .inr (9, [.ref tB, .int tl, .int u108_2])), (tB, .inl (cI, 260, .inl fB))]) hP hD [0, 1, 2, 3] [] rfl rfl (by decide) (by decide) hk1 hFc hP1 hD1
      have hP : va_P (dC, dI) vwCl [(h0, .inr (5, [.ref lS, .int u108_0, .ref tp])), (lS, .inl (cI, 241, .inl u108_1)), (tp, .inr (9, [.ref tB, .int tl, .int u108_2])), (tB, .inl (cI, 260, .inl fB))] H := hP.sub [0, 1, 2, 3] rfl
      have hD : va_D A [(h0, .inr (5, [.ref lS, .int u108_0, .ref tp])), (lS, .inl (cI, 241, .inl u108_1)), (tp, .inr (9, [.ref tB, .int tl, .int u108_2])), (tB, .inl (cI, 260, .inl fB))] := hD.sub [0, 1, 2, 3] (by decide) rfl
      obtain ⟨f108_0, f108_1, f108_2, f108_3, f108_4, f108_5, f108_6, f108_7, f108_8, f108_9, f108_10⟩ : (0 ≤ v108.toInt) ∧ (v108.toInt ≤ 1) ∧ (0 ≤ u108_0.toInt) ∧ (u108_0.toInt ≤ 241) ∧ (0 ≤ u108_2.toInt) ∧ (u108_2.toInt ≤ 240) ∧ (zF (sSum (sB fB tl.toInt) tl.toInt 0 u4_0.toInt) v108 u108_2) ∧ (¬ v108.toInt = 0 → u4_0.toInt < u108_2.toInt) ∧ (¬ v108.toInt = 0 → u108_0.toInt + u4_0.toInt ≤ sz5.toInt + u108_2.toInt) ∧ (¬ v108.toInt = 0 → zEm fS sz5 (eSum (sB fB tl.toInt) tl.toInt 0 u4_0.toInt) u108_1 u108_0) ∧ (zSt u108_1) := hw
      have F108 := f108_6
      have F108_1 := f108_9
      refine lv_if_ne (tgt := 116) hx hb dX5_unit_111 (by decide) (fun c111 => ?_) (fun c111 => ?_)
      · have c111 : ¬ v108.toInt = 0 := z6 rfl (by decide) c111
        refine lv_aload_n hx hb dX5_unit_116 rfl (lv_at hl 1 rfl) ?_
        refine va_get (D := (dC, dI)) (ci := 5) (v := .ref tp) (C := RX5) (T := TX5) (N := 3) hx hb hts iX5 hown hK hP 0 rfl rfl 2 (by decide) (hts _ qw172) (fun _ h9 => h9) rfl dX5_unit_117 ?_
        have hPc := hP.sub (ws' := [(tp, .inr (9, [.ref tB, .int tl, .int u108_2])), (tB, .inl (cI, 260, .inl fB))]) [2, 3] rfl
        have hDc := hD.sub (ws' := [(tp, .inr (9, [.ref tB, .int tl, .int u108_2])), (tB, .inl (cI, 260, .inl fB))]) [2, 3] (by decide) rfl
        have hFc := va_free (wc := [(tp, .inr (9, [.ref tB, .int tl, .int u108_2])), (tB, .inl (cI, 260, .inl fB))]) hD hS hA [2, 3] rfl
        refine va_calli (va_runV (As := []) (rest := []) ⟨hx, hb, hml, hown, hts⟩ (g_X9_peek l dC dI cI cJ tp tB tl u108_2 fB H.size ⟨f108_4, f108_5⟩ n_tl (hty)) (cwV 0 hts (zgV qw485 qw438 qw439 qw99 qw440) rfl rfl rfl hd_X9_peek ⟨by (try dsimp only) <;> omega, by (try dsimp only) <;> omega⟩) (zPV hPc hK hDc (va_recv hK hP (ci := 9) (q0 := 2) rfl rfl)) rfl rfl hl.1 rfl (lv_room (Nat.le_of_ble_eq_true rfl)) dX5_unit_120 ⟨Nat.zero_le _, Nat.zero_le _⟩) hS (fun q _ h => hFc q h) hFc (fun v120 u120 t H locs ht hvm hw hB hz1 hk1 hS => ?_)
        obtain ⟨u120_0, rfl⟩ : ∃ z, z = u120 := ⟨_, rfl⟩
        obtain ⟨hP1, hD1⟩ := hB
        rw [ht] at hP1
        obtain ⟨hP, hD⟩ := va_join (wr := [(h0, .inr (5, [.ref lS, .int u108_0, .ref tp])), (lS, .inl (cI, 241, .inl u108_1))]) (w1 := [(tp, .inr (9, [.ref tB, .int tl, .int u120_0])), (tB, .inl (cI, 260, .inl fB))]) hP hD [2, 3] [0, 1] rfl rfl (by decide) (by decide) hk1 hFc hP1 hD1
        have hP : va_P (dC, dI) vwCl [(h0, .inr (5, [.ref lS, .int u108_0, .ref tp])), (lS, .inl (cI, 241, .inl u108_1)), (tp, .inr (9, [.ref tB, .int tl, .int u120_0])), (tB, .inl (cI, 260, .inl fB))] H := hP.sub [0, 1, 2, 3] rfl
        have hD : va_D A [(h0, .inr (5, [.ref lS, .int u108_0, .ref tp])), (lS, .inl (cI, 241, .inl u108_1)), (tp, .inr (9, [.ref tB, .int tl, .int u120_0])), (tB, .inl (cI, 260, .inl fB))] := hD.sub [0, 1, 2, 3] (by decide) rfl
        obtain ⟨f120_0, f120_1, f120_2, f120_3, f120_4⟩ : (0 ≤ u120_0.toInt) ∧ (u120_0.toInt ≤ 240) ∧ (¬ v120.toInt = 0 → u120_0.toInt < tl.toInt) ∧ (u108_2.toInt ≤ u120_0.toInt) ∧ (zPK fB tl u108_2 v120 u120_0) := hw
        have F120 := f120_4
        refine lv_istore (lv' := [(4, .int v120), (3, .int v4), (0, .ref h0), (1, .int 6), (2, .int 0)]) hx hb dX5_unit_123 hl (by decide) rfl (fun ls hl => ?_)
        refine lv_iload hx hb dX5_unit_125 (lv_at hl 0 rfl) ?_
        have hPc : va_P (dC, dI) vwCl [] H := zP0
        have hDc : va_D (fun _ => True) [] := zD0
        have hFc := zfr hS hA
        refine va_calli (va_runS (As := [.int v120]) (rest := []) ⟨hx, hb, hml, hown, hts⟩ (g_X5_isComparison l dC dI cI cJ v120 H.size) (cwS 1 hts (zgS qw504 qw505 qw101 qw506) rfl rfl rfl hd_X5_isComparison ⟨by (try dsimp only) <;> omega, by (try dsimp only) <;> omega⟩) (zPS hPc hK hDc) rfl rfl hl.1 rfl (lv_room (Nat.le_of_ble_eq_true rfl)) dX5_unit_127 ⟨Nat.zero_le _, Nat.zero_le _⟩) hS (fun q _ h => hFc q h) hFc (fun v127 u127 t H locs ht hvm hw hB hz1 hk1 hS => ?_)
        have hP := zkeep hP hk1
        obtain ⟨f127_0, f127_1, f127_2, f127_3⟩ : (0 ≤ v127.toInt) ∧ (v127.toInt ≤ 1) ∧ (¬ v127.toInt = 0 → (60 ≤ v120.toInt ∧ v120.toInt ≤ 62)) ∧ (zIs (oQ v120.toInt) v127) := hw
        have F127 := f127_3
        refine lv_if_ne (tgt := 135) hx hb dX5_unit_130 (by decide) (fun c130 => ?_) (fun c130 => ?_)
        · have c130 : ¬ v127.toInt = 0 := z6 rfl (by decide) c130
          refine lv_aload_n hx hb dX5_unit_135 rfl (lv_at hl 2 rfl) ?_
          refine va_get (D := (dC, dI)) (ci := 5) (v := .ref tp) (C := RX5) (T := TX5) (N := 3) hx hb hts iX5 hown hK hP 0 rfl rfl 2 (by decide) (hts _ qw172) (fun _ h9 => h9) rfl dX5_unit_136 ?_
          refine lv_dup hx hb dX5_unit_139 rfl ?_
          refine va_get (D := (dC, dI)) (ci := 9) (v := .int u120_0) (C := RX9) (T := TX9) (N := 3) hx hb hts iX9 hown hK hP 2 rfl rfl 2 (by decide) (hts _ qw137) (fun _ h9 => h9) rfl dX5_unit_140 ?_
          refine lv_iconst (v := 1) hx hb dX5_unit_143 (by decide) ?_
          refine lv_iadd hx hb dX5_unit_144 ?_
          refine lv_topi (fun v144 e144 => ?_)
          have i144 : v144.toInt = u120_0.toInt + 1 := zadd e144 rfl (by decide) (by omega) (by omega)
          refine va_put (D := (dC, dI)) (ci := 9) (v := .int v144) (ty := .int) (C := RX9) (T := TX9) (N := 3) hx hb hts iX9 tyX9 tyX9_ok nmX9 hown hK hP hD hS 2 rfl rfl 2 (by decide) (hts _ qw137) (fun _ h9 => h9) rfl (by decide +kernel) rfl rfl (Nat.le_of_ble_eq_true rfl) dX5_unit_145 (fun H locs hP hD hS => ?_)
          have hP : va_P (dC, dI) vwCl [(h0, .inr (5, [.ref lS, .int u108_0, .ref tp])), (lS, .inl (cI, 241, .inl u108_1)), (tp, .inr (9, [.ref tB, .int tl, .int v144])), (tB, .inl (cI, 260, .inl fB))] H := hP
          have hD : va_D A [(h0, .inr (5, [.ref lS, .int u108_0, .ref tp])), (lS, .inl (cI, 241, .inl u108_1)), (tp, .inr (9, [.ref tB, .int tl, .int v144])), (tB, .inl (cI, 260, .inl fB))] := hD
          refine lv_aload_n hx hb dX5_unit_148 rfl (lv_at hl 2 rfl) ?_
          refine lv_iload_n hx hb dX5_unit_149 rfl (lv_at hl 3 rfl) ?_
          have hPc := hP.sub (ws' := [(h0, .inr (5, [.ref lS, .int u108_0, .ref tp])), (lS, .inl (cI, 241, .inl u108_1)), (tp, .inr (9, [.ref tB, .int tl, .int v144])), (tB, .inl (cI, 260, .inl fB))]) [0, 1, 2, 3] rfl
          have hDc := hD.sub (ws' := [(h0, .inr (5, [.ref lS, .int u108_0, .ref tp])), (lS, .inl (cI, 241, .inl u108_1)), (tp, .inr (9, [.ref tB, .int tl, .int v144])), (tB, .inl (cI, 260, .inl fB))]) [0, 1, 2, 3] (by decide) rfl
          have hFc := va_free (wc := [(h0, .inr (5, [.ref lS, .int u108_0, .ref tp])), (lS, .inl (cI, 241, .inl u108_1)), (tp, .inr (9, [.ref tB, .int tl, .int v144])), (tB, .inl (cI, 260, .inl fB))]) hD hS hA [0, 1, 2, 3] rfl
          refine va_calli (va_runV (As := [.int 6]) (rest := []) ⟨hx, hb, hml, hown, hts⟩ (ihS dC dI cI cJ h0 6 lS u108_0 tp u108_1 tB tl v144 fB H.size (by decide) ⟨f108_2, f108_3⟩ (by omega) n_tl (hty) (by omega) (by decide) f108_10) (cwV 1 hts (zgV qw486 qw488 qw3 qw101 qw489) rfl rfl rfl hd_X5_sum ⟨by (try dsimp only) <;> omega, by (try dsimp only) <;> omega⟩) (zPWV hPc hK hDc (va_recv hK hP (ci := 5) (q0 := 0) rfl rfl) (zV_call hV hS hFc)) rfl rfl hl.1 rfl (lv_room (Nat.le_of_ble_eq_true rfl)) dX5_unit_150 ⟨Nat.zero_le _, Nat.zero_le _⟩) hS (fun q _ h => hFc q h) hFc (fun v150 u150 t H locs ht hvm hw hB hz1 hk1 hS => ?_)
          obtain ⟨u150_0, u150_1, u150_2⟩ := u150
          obtain ⟨hP1, hD1⟩ := hB
          rw [ht] at hP1
          obtain ⟨hP, hD⟩ := va_join (wr := []) (w1 := [(h0, .inr (5, [.ref lS, .int u150_0, .ref tp])), (lS, .inl (cI, 241, .inl u150_1)), (tp, .inr (9, [.ref tB, .int tl, .int u150_2])), (tB, .inl (cI, 260, .inl fB))]) hP hD [0, 1, 2, 3] [] rfl rfl (by decide) (by decide) hk1 hFc hP1 hD1
          have hP : va_P (dC, dI) vwCl [(h0, .inr (5, [.ref lS, .int u150_0, .ref tp])), (lS, .inl (cI, 241, .inl u150_1)), (tp, .inr (9, [.ref tB, .int tl, .int u150_2])), (tB, .inl (cI, 260, .inl fB))] H := hP.sub [0, 1, 2, 3] rfl
          have hD : va_D A [(h0, .inr (5, [.ref lS, .int u150_0, .ref tp])), (lS, .inl (cI, 241, .inl u150_1)), (tp, .inr (9, [.ref tB, .int tl, .int u150_2])), (tB, .inl (cI, 260, .inl fB))] := hD.sub [0, 1, 2, 3] (by decide) rfl
          obtain ⟨f150_0, f150_1, f150_2, f150_3, f150_4, f150_5, f150_6, f150_7, f150_8, f150_9, f150_10⟩ : (0 ≤ v150.toInt) ∧ (v150.toInt ≤ 1) ∧ (0 ≤ u150_0.toInt) ∧ (u150_0.toInt ≤ 241) ∧ (0 ≤ u150_2.toInt) ∧ (u150_2.toInt ≤ 240) ∧ (zF (sSum (sB fB tl.toInt) tl.toInt 0 v144.toInt) v150 u150_2) ∧ (¬ v150.toInt = 0 → v144.toInt < u150_2.toInt) ∧ (¬ v150.toInt = 0 → u150_0.toInt + v144.toInt ≤ u108_0.toInt + u150_2.toInt) ∧ (¬ v150.toInt = 0 → zEm u108_1 u108_0 (eSum (sB fB tl.toInt) tl.toInt 0 v144.toInt) u150_1 u150_0) ∧ (zSt u150_1) := hw
          have F150 := f150_6
          have F150_1 := f150_9
          refine lv_if_ne (tgt := 158) hx hb dX5_unit_153 (by decide) (fun c153 => ?_) (fun c153 => ?_)
          · have c153 : ¬ v150.toInt = 0 := z6 rfl (by decide) c153
            refine lv_aload_n hx hb dX5_unit_158 rfl (lv_at hl 2 rfl) ?_
            refine lv_iload hx hb dX5_unit_159 (lv_at hl 0 rfl) ?_
            refine lv_iconst (v := 0) hx hb dX5_unit_161 (by decide) ?_
            have hPc := hP.sub (ws' := [(h0, .inr (5, [.ref lS, .int u150_0, .ref tp])), (lS, .inl (cI, 241, .inl u150_1))]) [0, 1] rfl
            have hDc := hD.sub (ws' := [(h0, .inr (5, [.ref lS, .int u150_0, .ref tp])), (lS, .inl (cI, 241, .inl u150_1))]) [0, 1] (by decide) rfl
            have hFc := va_free (wc := [(h0, .inr (5, [.ref lS, .int u150_0, .ref tp])), (lS, .inl (cI, 241, .inl u150_1))]) hD hS hA [0, 1] rfl
            refine va_callv (va_runV (As := [.int v120, .int 0]) (rest := []) ⟨hx, hb, hml, hown, hts⟩ (g_X5_put_0 l dC dI cI cJ h0 v120 lS u150_0 tp u150_1 H.size (by omega) ⟨f150_2, f150_3⟩ f150_10) (cwV 2 hts (zgV qw496 qw498 qw5 qw101 qw499) rfl rfl rfl hd_X5_put ⟨by (try dsimp only) <;> omega, by (try dsimp only) <;> omega⟩) (zPV hPc hK hDc (va_recv hK hP (ci := 5) (q0 := 0) rfl rfl)) rfl rfl hl.1 rfl (lv_room (Nat.le_of_ble_eq_true rfl)) dX5_unit_162 ⟨Nat.zero_le _, Nat.zero_le _⟩) hS (fun q _ h => hFc q h) hFc (fun u162 t H locs ht hvm hw hB hz1 hk1 hS => ?_)
            obtain ⟨u162_0, u162_1⟩ := u162
            obtain ⟨hP1, hD1⟩ := hB
            rw [ht] at hP1
            obtain ⟨hP, hD⟩ := va_join (wr := [(tp, .inr (9, [.ref tB, .int tl, .int u150_2])), (tB, .inl (cI, 260, .inl fB))]) (w1 := [(h0, .inr (5, [.ref lS, .int u162_0, .ref tp])), (lS, .inl (cI, 241, .inl u162_1))]) hP hD [0, 1] [2, 3] rfl rfl (by decide) (by decide) hk1 hFc hP1 hD1
            have hP : va_P (dC, dI) vwCl [(h0, .inr (5, [.ref lS, .int u162_0, .ref tp])), (lS, .inl (cI, 241, .inl u162_1)), (tp, .inr (9, [.ref tB, .int tl, .int u150_2])), (tB, .inl (cI, 260, .inl fB))] H := hP.sub [2, 3, 0, 1] rfl
            have hD : va_D A [(h0, .inr (5, [.ref lS, .int u162_0, .ref tp])), (lS, .inl (cI, 241, .inl u162_1)), (tp, .inr (9, [.ref tB, .int tl, .int u150_2])), (tB, .inl (cI, 260, .inl fB))] := hD.sub [2, 3, 0, 1] (by decide) rfl
            obtain ⟨f162_0, f162_1, f162_2, f162_3, f162_4⟩ : (1 ≤ u162_0.toInt) ∧ (u162_0.toInt ≤ 241) ∧ (u162_0.toInt ≤ u150_0.toInt + 1 ∧ u150_0.toInt ≤ u162_0.toInt) ∧ (u150_0.toInt < 241 → zEm u150_1 u150_0 [(v120.toInt, 0)] u162_1 u162_0) ∧ (zSt u162_1) := hw
            have F162 := f162_3
            refine lv_iconst (v := 1) hx hb dX5_unit_165 (by decide) ?_
            have zr0 : (1 : Int32).toInt = 1 := by decide
            rw [hQ]
            exact W.zret (v := 1) (ty := .boolean) hx hb hr rfl (fun t ht hW => ⟨⟨1, (u162_0, u162_1, u150_2), rfl, ⟨by (try dsimp only); omega, by (try dsimp only); omega, by (try dsimp only); omega, by (try dsimp only); omega, by (try dsimp only); omega, by (try dsimp only); omega, zF1 (fu_s1 F4 (by omega) (by omega) F108 (by omega) ((fq_y F120 F127 (by omega) i144 F150).trans (by rw [show v150.toInt = 1 by omega]))), (fun _ => zFm (x := sUn (sB fB tl.toInt) tl.toInt 0) (sUn_mono (sB fB tl.toInt) tl.toInt 0) (zF1 (fu_s1 F4 (by omega) (by omega) F108 (by omega) ((fq_y F120 F127 (by omega) i144 F150).trans (by rw [show v150.toInt = 1 by omega]))))), by (try dsimp only); omega, (fun _ => eUn_cmp F4 (by omega) (by omega) F108 (by omega) (F108_1 (by omega)) F120 (by omega) i144 (F150_1 (by omega)) (F162 (by omega)) (by omega) (by omega)), f162_4⟩, ⟨by rw [ht]; exact hP, hD⟩⟩, hS.F ht⟩) hS.2.2 dX5_unit_166
          · have c153 : v150.toInt = 0 := z5 rfl (by decide) c153
            refine lv_iconst (v := 0) hx hb dX5_unit_156 (by decide) ?_
            have zr0 : (0 : Int32).toInt = 0 := by decide
            rw [hQ]
            exact W.zret (v := 0) (ty := .boolean) hx hb hr rfl (fun t ht hW => ⟨⟨0, (u150_0, u150_1, u150_2), rfl, ⟨by (try dsimp only); omega, by (try dsimp only); omega, by (try dsimp only); omega, by (try dsimp only); omega, by (try dsimp only); omega, by (try dsimp only); omega, zF0 (fu_s1 F4 (by omega) (by omega) F108 (by omega) ((fq_y F120 F127 (by omega) i144 F150).trans (by rw [show v150.toInt = 0 by omega]))), (fun z => absurd (by decide) z), by (try dsimp only); omega, (fun z => absurd (by decide) z), f150_10⟩, ⟨by rw [ht]; exact hP, hD⟩⟩, hS.F ht⟩) hS.2.2 dX5_unit_157
        · have c130 : v127.toInt = 0 := z5 rfl (by decide) c130
          refine lv_iconst (v := 0) hx hb dX5_unit_133 (by decide) ?_
          have zr0 : (0 : Int32).toInt = 0 := by decide
          rw [hQ]
          exact W.zret (v := 0) (ty := .boolean) hx hb hr rfl (fun t ht hW => ⟨⟨0, (u108_0, u108_1, u120_0), rfl, ⟨by (try dsimp only); omega, by (try dsimp only); omega, by (try dsimp only); omega, by (try dsimp only); omega, by (try dsimp only); omega, by (try dsimp only); omega, zF0 (fu_s1 F4 (by omega) (by omega) F108 (by omega) (fq_n F120 F127 (by omega))), (fun z => absurd (by decide) z), by (try dsimp only); omega, (fun z => absurd (by decide) z), f108_10⟩, ⟨by rw [ht]; exact hP, hD⟩⟩, hS.F ht⟩) hS.2.2 dX5_unit_134
      · have c111 : v108.toInt = 0 := z5 rfl (by decide) c111
        refine lv_iconst (v := 0) hx hb dX5_unit_114 (by decide) ?_
        have zr0 : (0 : Int32).toInt = 0 := by decide
        rw [hQ]
        exact W.zret (v := 0) (ty := .boolean) hx hb hr rfl (fun t ht hW => ⟨⟨0, (u108_0, u108_1, u108_2), rfl, ⟨by (try dsimp only); omega, by (try dsimp only); omega, by (try dsimp only); omega, by (try dsimp only); omega, by (try dsimp only); omega, by (try dsimp only); omega, zF0 (fu_s0 F4 (by omega) (by omega) F108 (by omega)), (fun z => absurd (by decide) z), by (try dsimp only); omega, (fun z => absurd (by decide) z), f108_10⟩, ⟨by rw [ht]; exact hP, hD⟩⟩, hS.F ht⟩) hS.2.2 dX5_unit_115
    · have c21 : v4.toInt = 40 := z5 rfl (by decide) c21
      exact J24  (by omega) (by omega) (by omega) H locs ls hP hD hS (lv_sub hl [0, 1, 2, 3] rfl)
