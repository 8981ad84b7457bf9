set_option maxHeartbeats 4000000 in
set_option maxRecDepth 100000 in
theorem g_X5_atom_z (l : Launch) (K fr lo : Nat)  (hfr : 0 ≤ fr) (hlo : 24 ≤ lo) : zQ_X5_atom l 0 (fr + 1) (lo + 40) := by
  intro dC dI cI cJ h0 p0 lS sz5 tp fS tB tl ta fB sz n_p0 n_sz5 n_ta n_tl hty hsz hKd ci_fS_zSt
  obtain rfl : p0 = 6 := z7 (a := 6) (by decide) (by omega)
  refine Met.ofW (cc := cX5_atom) (maxL := 4) (ret := (some .boolean)) (by decide) rfl ?_
  intro p e s m args below meth c s₁ B hml hv
  obtain ⟨⟨hargs, hsz, hP, hK, hT⟩, hV⟩ := hv
  have hx := B.exec
  have hb := B.bytes
  have hr := B.returns
  have hts : ∀ w ∈ wA, w.before args s = true := fun w h => atoms_spec (ws := .code yX5_atom cX5_atom 4 (some .boolean) :: wA) B.pre w (List.mem_cons_of_mem _ h)
  have hown : s.vm.findClass RX5 = some m.cls := findClass_of_methodNamed B.named
  have hlocks := B.notSynchronized
  subst hsz
  have hD := hT.self (sz := s.heap.size)
  generalize hAe : va_A [(h0, .inr (5, [.ref lS, .int sz5, .ref tp])), (lS, .inl (cI, 241, .inl fS)), (tp, .inr (9, [.ref tB, .int tl, .int ta])), (tB, .inl (cI, 260, .inl fB))] s.heap.size = A at hD hV ⊢
  have hA : ∀ q : Nat, s.heap.size ≤ q → A q := fun q h => by rw [← hAe]; exact Or.inr h
  have hl := lv_entry ([.ref h0, .int 6]) (n := 4) (Nat.le_of_ble_eq_true rfl)
  rw [show entryFrame m args 4 = entryFrame m ([.ref h0, .int 6] : List Value).toArray 4 by rw [hargs], lg_entry_eq]
  generalize (lg_sl ([.ref h0, .int 6]) ++ List.replicate (4 - (lg_sl ([.ref h0, .int 6])).length) Slot.unset).toArray = ls at hl ⊢
  have hl : lv_has ls 4 [(0, .ref h0), (1, .int 6)] := hl
  refine zstart (fun H hH => ?_)
  rw [← hH] at hP
  have hS : va_S A s.heap H [] := by rw [hH]; exact va_S.rf
  generalize ([] : List Loc) = locs at hS ⊢
  refine zgen (fun R Q hR hQ => ?_)
  have hRf : R.frames = fr + 1 := by rw [hR]; rfl
  have hRl : R.locals = lo + 40 := by rw [hR]; rfl
  refine lv_aload_n hx hb dX5_atom_0 rfl (lv_at hl 0 rfl) ?_
  refine va_get (D := (dC, dI)) (ci := 5) (v := .ref tp) (C := RX5) (T := TX5) (N := 3) hx hb hts iX5 hown hK hP 0 rfl rfl 2 (by decide) (hts _ qw172) (fun _ h9 => h9) rfl dX5_atom_1 ?_
  have hPc := hP.sub (ws' := [(tp, .inr (9, [.ref tB, .int tl, .int ta])), (tB, .inl (cI, 260, .inl fB))]) [2, 3] rfl
  have hDc := hD.sub (ws' := [(tp, .inr (9, [.ref tB, .int tl, .int ta])), (tB, .inl (cI, 260, .inl fB))]) [2, 3] (by decide) rfl
  have hFc := va_free (wc := [(tp, .inr (9, [.ref tB, .int tl, .int ta])), (tB, .inl (cI, 260, .inl fB))]) hD hS hA [2, 3] rfl
  refine va_calli (va_runV (As := []) (rest := []) ⟨hx, hb, hml, hown, hts⟩ (g_X9_peek l dC dI cI cJ tp tB tl ta fB H.size n_ta n_tl (hty)) (cwV 0 hts (zgV qw485 qw438 qw439 qw99 qw440) rfl rfl rfl hd_X9_peek ⟨by (try dsimp only) <;> omega, by (try dsimp only) <;> omega⟩) (zPV hPc hK hDc (va_recv hK hP (ci := 9) (q0 := 2) rfl rfl)) rfl rfl hl.1 rfl (lv_room (Nat.le_of_ble_eq_true rfl)) dX5_atom_4 ⟨Nat.zero_le _, Nat.zero_le _⟩) hS (fun q _ h => hFc q h) hFc (fun v4 u4 t H locs ht hvm hw hB hz1 hk1 hS => ?_)
  obtain ⟨u4_0, rfl⟩ : ∃ z, z = u4 := ⟨_, rfl⟩
  obtain ⟨hP1, hD1⟩ := hB
  rw [ht] at hP1
  obtain ⟨hP, hD⟩ := va_join (wr := [(h0, .inr (5, [.ref lS, .int sz5, .ref tp])), (lS, .inl (cI, 241, .inl fS))]) (w1 := [(tp, .inr (9, [.ref tB, .int tl, .int u4_0])), (tB, .inl (cI, 260, .inl fB))]) hP hD [2, 3] [0, 1] rfl rfl (by decide) (by decide) hk1 hFc hP1 hD1
  have hP : va_P (dC, dI) vwCl [(h0, .inr (5, [.ref lS, .int sz5, .ref tp])), (lS, .inl (cI, 241, .inl fS)), (tp, .inr (9, [.ref tB, .int tl, .int u4_0])), (tB, .inl (cI, 260, .inl fB))] H := hP.sub [0, 1, 2, 3] rfl
  have hD : va_D A [(h0, .inr (5, [.ref lS, .int sz5, .ref tp])), (lS, .inl (cI, 241, .inl fS)), (tp, .inr (9, [.ref tB, .int tl, .int u4_0])), (tB, .inl (cI, 260, .inl fB))] := hD.sub [0, 1, 2, 3] (by decide) rfl
  obtain ⟨f4_0, f4_1, f4_2, f4_3, f4_4⟩ : (0 ≤ u4_0.toInt) ∧ (u4_0.toInt ≤ 240) ∧ (¬ v4.toInt = 0 → u4_0.toInt < tl.toInt) ∧ (ta.toInt ≤ u4_0.toInt) ∧ (zPK fB tl ta v4 u4_0) := hw
  have F4 := f4_4
  refine lv_istore_n (lv' := [(2, .int v4), (0, .ref h0), (1, .int 6)]) hx hb dX5_atom_7 rfl hl (by decide) rfl (fun ls hl => ?_)
  refine lv_iload_n hx hb dX5_atom_8 rfl (lv_at hl 0 rfl) ?_
  refine lv_bipush (v := 91) hx hb dX5_atom_9 (by decide) ?_
  refine lv_icmp_ne (tgt := 74) hx hb dX5_atom_11 (by decide) (fun c11 => ?_) (fun c11 => ?_)
  · have c11 : ¬ v4.toInt = 91 := z6 rfl (by decide) c11
    refine lv_iconst (v := 0) hx hb dX5_atom_74 (by decide) ?_
    have J76 : ∀ (n : Nat) (m76_L_3 : Int32), (0 ≤ m76_L_3.toInt ∧ m76_L_3.toInt ≤ 6) → (zNl m76_L_3 v4) → (7 - m76_L_3.toInt).toNat = n → ∀ (H : Heap) (locs : List Loc) (ls : Array Slot), va_P (dC, dI) vwCl [(h0, .inr (5, [.ref lS, .int sz5, .ref tp])), (lS, .inl (cI, 241, .inl fS)), (tp, .inr (9, [.ref tB, .int tl, .int u4_0])), (tB, .inl (cI, 260, .inl fB))] H → va_D A [(h0, .inr (5, [.ref lS, .int sz5, .ref tp])), (lS, .inl (cI, 241, .inl fS)), (tp, .inr (9, [.ref tB, .int tl, .int u4_0])), (tB, .inl (cI, 260, .inl fB))] → va_S A s.heap H locs → lv_has ls 4 [(3, .int m76_L_3), (2, .int v4), (0, .ref h0), (1, .int 6)] → W p l e R s m args below meth c H locs 0 0 Q (F0 m 76 ls []) := by
      intro n76
      induction n76 using Nat.strongRecOn with
      | _ n76 ih76 =>
        intro m76_L_3 jf76_0 jv76_0 hmu76 H locs ls hP hD hS hl
        refine lv_iload_n hx hb dX5_atom_76 rfl (lv_at hl 0 rfl) ?_
        obtain ⟨g77, hz77, hE77⟩ := hV.2.2.1
        obtain ⟨tf77, ht77, hr77⟩ : zTt 0 .char g77 6 A s := hE77
        refine va_gets hx hb hz77 hS hown (hts _ qw494) (fun _ h9 => h9) dX5_atom_77 ?_
        refine va_tlen (v := 6) hx hb ht77 hS (by decide) dX5_atom_80 ?_
        refine lv_icmp_ge (tgt := 120) hx hb dX5_atom_81 (by decide) (fun c81 => ?_) (fun c81 => ?_)
        · have c81 : 6 ≤ m76_L_3.toInt := z3 (by decide) rfl c81
          refine lv_aload_n hx hb dX5_atom_120 rfl (lv_at hl 2 rfl) ?_
          refine va_get (D := (dC, dI)) (ci := 5) (v := .ref tp) (C := RX5) (T := TX5) (N := 3) hx hb hts iX5 hown hK hP 0 rfl rfl 2 (by decide) (hts _ qw172) (fun _ h9 => h9) rfl dX5_atom_121 ?_
          refine lv_iconst (v := 4) hx hb dX5_atom_124 (by decide) ?_
          refine lv_sipush (v := 9999) hx hb dX5_atom_125 (by decide) ?_
          have hPc := hP.sub (ws' := [(tp, .inr (9, [.ref tB, .int tl, .int u4_0])), (tB, .inl (cI, 260, .inl fB))]) [2, 3] rfl
          have hDc := hD.sub (ws' := [(tp, .inr (9, [.ref tB, .int tl, .int u4_0])), (tB, .inl (cI, 260, .inl fB))]) [2, 3] (by decide) rfl
          have hFc := va_free (wc := [(tp, .inr (9, [.ref tB, .int tl, .int u4_0])), (tB, .inl (cI, 260, .inl fB))]) hD hS hA [2, 3] rfl
          refine va_calli (va_runV (As := [.int 4, .int 9999]) (rest := []) ⟨hx, hb, hml, hown, hts⟩ (g_X9_number_4 l dC dI cI cJ tp tB tl u4_0 fB H.size ⟨f4_0, f4_1⟩ n_tl) (cwV 2 hts (zgV qw500 qw456 qw457 qw99 qw458) rfl rfl rfl hd_X9_number ⟨by (try dsimp only) <;> omega, by (try dsimp only) <;> omega⟩) (zPV hPc hK hDc (va_recv hK hP (ci := 9) (q0 := 2) rfl rfl)) rfl rfl hl.1 rfl (lv_room (Nat.le_of_ble_eq_true rfl)) dX5_atom_128 ⟨Nat.zero_le _, Nat.zero_le _⟩) hS (fun q _ h => hFc q h) hFc (fun v128 u128 t H locs ht hvm hw hB hz1 hk1 hS => ?_)
          obtain ⟨u128_0, rfl⟩ : ∃ z, z = u128 := ⟨_, rfl⟩
          obtain ⟨hP1, hD1⟩ := hB
          rw [ht] at hP1
          obtain ⟨hP, hD⟩ := va_join (wr := [(h0, .inr (5, [.ref lS, .int sz5, .ref tp])), (lS, .inl (cI, 241, .inl fS))]) (w1 := [(tp, .inr (9, [.ref tB, .int tl, .int u128_0])), (tB, .inl (cI, 260, .inl fB))]) hP hD [2, 3] [0, 1] rfl rfl (by decide) (by decide) hk1 hFc hP1 hD1
          have hP : va_P (dC, dI) vwCl [(h0, .inr (5, [.ref lS, .int sz5, .ref tp])), (lS, .inl (cI, 241, .inl fS)), (tp, .inr (9, [.ref tB, .int tl, .int u128_0])), (tB, .inl (cI, 260, .inl fB))] H := hP.sub [0, 1, 2, 3] rfl
          have hD : va_D A [(h0, .inr (5, [.ref lS, .int sz5, .ref tp])), (lS, .inl (cI, 241, .inl fS)), (tp, .inr (9, [.ref tB, .int tl, .int u128_0])), (tB, .inl (cI, 260, .inl fB))] := hD.sub [0, 1, 2, 3] (by decide) rfl
          obtain ⟨f128_0, f128_1, f128_2, f128_3, f128_4, f128_5⟩ : ((-1) ≤ v128.toInt) ∧ (v128.toInt ≤ 9999) ∧ (0 ≤ u128_0.toInt) ∧ (u128_0.toInt ≤ 240) ∧ (zN4 fB tl u4_0 v128 u128_0) ∧ (0 ≤ v128.toInt → v128.toInt = sNv (sB fB tl.toInt) u4_0.toInt) := hw
          have F128 := f128_4
          have F128_1 := f128_5
          refine lv_istore_n (lv' := [(3, .int v128), (2, .int v4), (0, .ref h0), (1, .int 6)]) hx hb dX5_atom_131 rfl hl (by decide) rfl (fun ls hl => ?_)
          refine lv_iload_n hx hb dX5_atom_132 rfl (lv_at hl 0 rfl) ?_
          refine lv_iconst (v := (-1)) hx hb dX5_atom_133 (by decide) ?_
          refine lv_icmp_ne (tgt := 139) hx hb dX5_atom_134 (by decide) (fun c134 => ?_) (fun c134 => ?_)
          · have c134 : ¬ v128.toInt = (-1) := z6 rfl (by decide) c134
            have q139 := zN4L F128 (by omega)
            refine lv_aload_n hx hb dX5_atom_139 rfl (lv_at hl 2 rfl) ?_
            refine lv_iconst (v := 1) hx hb dX5_atom_140 (by decide) ?_
            refine lv_iload_n hx hb dX5_atom_141 rfl (lv_at hl 0 rfl) ?_
            have hPc := hP.sub (ws' := [(h0, .inr (5, [.ref lS, .int sz5, .ref tp])), (lS, .inl (cI, 241, .inl fS))]) [0, 1] rfl
            have hDc := hD.sub (ws' := [(h0, .inr (5, [.ref lS, .int sz5, .ref tp])), (lS, .inl (cI, 241, .inl fS))]) [0, 1] (by decide) rfl
            have hFc := va_free (wc := [(h0, .inr (5, [.ref lS, .int sz5, .ref tp])), (lS, .inl (cI, 241, .inl fS))]) hD hS hA [0, 1] rfl
            refine va_callv (va_runV (As := [.int 1, .int v128]) (rest := []) ⟨hx, hb, hml, hown, hts⟩ (g_X5_put_1 l dC dI cI cJ h0 v128 lS sz5 tp fS H.size n_sz5 ci_fS_zSt) (cwV 2 hts (zgV qw496 qw498 qw5 qw101 qw499) rfl rfl rfl hd_X5_put ⟨by (try dsimp only) <;> omega, by (try dsimp only) <;> omega⟩) (zPV hPc hK hDc (va_recv hK hP (ci := 5) (q0 := 0) rfl rfl)) rfl rfl hl.1 rfl (lv_room (Nat.le_of_ble_eq_true rfl)) dX5_atom_142 ⟨Nat.zero_le _, Nat.zero_le _⟩) hS (fun q _ h => hFc q h) hFc (fun u142 t H locs ht hvm hw hB hz1 hk1 hS => ?_)
            obtain ⟨u142_0, u142_1⟩ := u142
            obtain ⟨hP1, hD1⟩ := hB
            rw [ht] at hP1
            obtain ⟨hP, hD⟩ := va_join (wr := [(tp, .inr (9, [.ref tB, .int tl, .int u128_0])), (tB, .inl (cI, 260, .inl fB))]) (w1 := [(h0, .inr (5, [.ref lS, .int u142_0, .ref tp])), (lS, .inl (cI, 241, .inl u142_1))]) hP hD [0, 1] [2, 3] rfl rfl (by decide) (by decide) hk1 hFc hP1 hD1
            have hP : va_P (dC, dI) vwCl [(h0, .inr (5, [.ref lS, .int u142_0, .ref tp])), (lS, .inl (cI, 241, .inl u142_1)), (tp, .inr (9, [.ref tB, .int tl, .int u128_0])), (tB, .inl (cI, 260, .inl fB))] H := hP.sub [2, 3, 0, 1] rfl
            have hD : va_D A [(h0, .inr (5, [.ref lS, .int u142_0, .ref tp])), (lS, .inl (cI, 241, .inl u142_1)), (tp, .inr (9, [.ref tB, .int tl, .int u128_0])), (tB, .inl (cI, 260, .inl fB))] := hD.sub [2, 3, 0, 1] (by decide) rfl
            have zn142_1 : (1 : Int32).toInt = 1 := by decide
            obtain ⟨f142_0, f142_1, f142_2, f142_3, f142_4⟩ : (1 ≤ u142_0.toInt) ∧ (u142_0.toInt ≤ 241) ∧ (u142_0.toInt ≤ sz5.toInt + 1 ∧ sz5.toInt ≤ u142_0.toInt) ∧ (sz5.toInt < 241 → zEm fS sz5 [((1 : Int32).toInt, v128.toInt)] u142_1 u142_0) ∧ (zSt u142_1) := hw
            have F142 := f142_3
            refine lv_iconst (v := 1) hx hb dX5_atom_145 (by decide) ?_
            have zr0 : (1 : Int32).toInt = 1 := by decide
            rw [hQ]
            exact W.zret (v := 1) (ty := .boolean) hx hb hr rfl (fun t ht hW => ⟨⟨1, (u142_0, u142_1, u128_0), rfl, ⟨by (try dsimp only); omega, by (try dsimp only); omega, by (try dsimp only); omega, by (try dsimp only); omega, by (try dsimp only); omega, by (try dsimp only); omega, zF1 (fa_n1 F4 (by omega) jv76_0 (by omega) F128 (by omega)), (fun _ => zFm (x := sAtm (sB fB tl.toInt) tl.toInt 0) (sAtm_mono (sB fB tl.toInt) tl.toInt 0) (zF1 (fa_n1 F4 (by omega) jv76_0 (by omega) F128 (by omega)))), by (try dsimp only); omega, (fun _ => fea_n F4 (by omega) jv76_0 (by omega) (F128_1 (by omega)) (F142 (by omega))), f142_4⟩, ⟨by rw [ht]; exact hP, hD⟩⟩, hS.F ht⟩) hS.2.2 dX5_atom_146
          · have c134 : v128.toInt = (-1) := z5 rfl (by decide) c134
            refine lv_iconst (v := 0) hx hb dX5_atom_137 (by decide) ?_
            have zr0 : (0 : Int32).toInt = 0 := by decide
            rw [hQ]
            exact W.zret (v := 0) (ty := .boolean) hx hb hr rfl (fun t ht hW => ⟨⟨0, (sz5, fS, u128_0), rfl, ⟨by (try dsimp only); omega, by (try dsimp only); omega, by (try dsimp only); omega, by (try dsimp only); omega, by (try dsimp only); omega, by (try dsimp only); omega, zF0 (fa_n0 F4 (by omega) jv76_0 (by omega) F128 (by omega)), (fun z => absurd (by decide) z), by (try dsimp only); omega, (fun z => absurd (by decide) z), ci_fS_zSt⟩, ⟨by rw [ht]; exact hP, hD⟩⟩, hS.F ht⟩) hS.2.2 dX5_atom_138
        · have c81 : m76_L_3.toInt < 6 := z4 (by decide) rfl c81
          refine lv_iload_n hx hb dX5_atom_84 rfl (lv_at hl 1 rfl) ?_
          obtain ⟨g85, hz85, hE85⟩ := hV.2.2.1
          obtain ⟨tf85, ht85, hr85⟩ : zTt 0 .char g85 6 A s := hE85
          refine va_gets hx hb hz85 hS hown (hts _ qw494) (fun _ h9 => h9) dX5_atom_85 ?_
          refine lv_iload_n hx hb dX5_atom_88 rfl (lv_at hl 0 rfl) ?_
          refine va_tc hx hb ht85 hS (vp_in_iff.mpr ⟨by omega, by omega⟩) rfl dX5_atom_89 ?_
          refine lv_topi (fun v89 e89 => ?_)
          have i89 : 97 ≤ v89.toInt ∧ v89.toInt ≤ 121 := ztl (t := 0) (lo := 97) (hi := 121) hr85 (by decide) e89 (by omega) (by omega)
          have x89 := ztx (t := 0) hr85 e89 (by omega) (by omega)
          refine lv_icmp_ne (tgt := 114) hx hb dX5_atom_90 (by decide) (fun c90 => ?_) (fun c90 => ?_)
          · have c90 : ¬ v4.toInt = v89.toInt := z6 rfl rfl c90
            obtain ⟨v114, e114⟩ : ∃ y : Int32, y = m76_L_3 + Int32.ofInt (1) := ⟨_, rfl⟩
            refine lv_iinc (v := v114) (lv' := [(3, .int v114), (2, .int v4), (0, .ref h0), (1, .int 6)]) hx hb dX5_atom_114 hl (k := 0) rfl e114.symm (by decide) rfl (fun ls hl => ?_)
            have i114 : v114.toInt = m76_L_3.toInt + 1 := zaddI e114 (by decide) (by omega) (by omega)
            refine lv_goto (tgt := 76) hx hb dX5_atom_117 (by decide) ?_
            exact ih76 _ (by omega) v114 (by omega) (zNlS jv76_0 x89 (by omega) (by omega) i114) rfl H locs ls hP hD hS (lv_sub hl [0, 1, 2, 3] rfl)
          · have c90 : v4.toInt = v89.toInt := z5 rfl rfl c90
            refine lv_aload_n hx hb dX5_atom_93 rfl (lv_at hl 2 rfl) ?_
            refine va_get (D := (dC, dI)) (ci := 5) (v := .ref tp) (C := RX5) (T := TX5) (N := 3) hx hb hts iX5 hown hK hP 0 rfl rfl 2 (by decide) (hts _ qw172) (fun _ h9 => h9) rfl dX5_atom_94 ?_
            refine lv_dup hx hb dX5_atom_97 rfl ?_
            refine va_get (D := (dC, dI)) (ci := 9) (v := .int u4_0) (C := RX9) (T := TX9) (N := 3) hx hb hts iX9 hown hK hP 2 rfl rfl 2 (by decide) (hts _ qw137) (fun _ h9 => h9) rfl dX5_atom_98 ?_
            refine lv_iconst (v := 1) hx hb dX5_atom_101 (by decide) ?_
            refine lv_iadd hx hb dX5_atom_102 ?_
            refine lv_topi (fun v102 e102 => ?_)
            have i102 : v102.toInt = u4_0.toInt + 1 := zadd e102 rfl (by decide) (by omega) (by omega)
            refine va_put (D := (dC, dI)) (ci := 9) (v := .int v102) (ty := .int) (C := RX9) (T := TX9) (N := 3) hx hb hts iX9 tyX9 tyX9_ok nmX9 hown hK hP hD hS 2 rfl rfl 2 (by decide) (hts _ qw137) (fun _ h9 => h9) rfl (by decide +kernel) rfl rfl (Nat.le_of_ble_eq_true rfl) dX5_atom_103 (fun H locs hP hD hS => ?_)
            have hP : va_P (dC, dI) vwCl [(h0, .inr (5, [.ref lS, .int sz5, .ref tp])), (lS, .inl (cI, 241, .inl fS)), (tp, .inr (9, [.ref tB, .int tl, .int v102])), (tB, .inl (cI, 260, .inl fB))] H := hP
            have hD : va_D A [(h0, .inr (5, [.ref lS, .int sz5, .ref tp])), (lS, .inl (cI, 241, .inl fS)), (tp, .inr (9, [.ref tB, .int tl, .int v102])), (tB, .inl (cI, 260, .inl fB))] := hD
            refine lv_aload_n hx hb dX5_atom_106 rfl (lv_at hl 2 rfl) ?_
            refine lv_iconst (v := 2) hx hb dX5_atom_107 (by decide) ?_
            refine lv_iload_n hx hb dX5_atom_108 rfl (lv_at hl 0 rfl) ?_
            have hPc := hP.sub (ws' := [(h0, .inr (5, [.ref lS, .int sz5, .ref tp])), (lS, .inl (cI, 241, .inl fS))]) [0, 1] rfl
            have hDc := hD.sub (ws' := [(h0, .inr (5, [.ref lS, .int sz5, .ref tp])), (lS, .inl (cI, 241, .inl fS))]) [0, 1] (by decide) rfl
            have hFc := va_free (wc := [(h0, .inr (5, [.ref lS, .int sz5, .ref tp])), (lS, .inl (cI, 241, .inl fS))]) hD hS hA [0, 1] rfl
            refine va_callv (va_runV (As := [.int 2, .int m76_L_3]) (rest := []) ⟨hx, hb, hml, hown, hts⟩ (g_X5_put_2 l dC dI cI cJ h0 m76_L_3 lS sz5 tp fS H.size (by omega) n_sz5 ci_fS_zSt) (cwV 2 hts (zgV qw496 qw498 qw5 qw101 qw499) rfl rfl rfl hd_X5_put ⟨by (try dsimp only) <;> omega, by (try dsimp only) <;> omega⟩) (zPV hPc hK hDc (va_recv hK hP (ci := 5) (q0 := 0) rfl rfl)) rfl rfl hl.1 rfl (lv_room (Nat.le_of_ble_eq_true rfl)) dX5_atom_109 ⟨Nat.zero_le _, Nat.zero_le _⟩) hS (fun q _ h => hFc q h) hFc (fun u109 t H locs ht hvm hw hB hz1 hk1 hS => ?_)
            obtain ⟨u109_0, u109_1⟩ := u109
            obtain ⟨hP1, hD1⟩ := hB
            rw [ht] at hP1
            obtain ⟨hP, hD⟩ := va_join (wr := [(tp, .inr (9, [.ref tB, .int tl, .int v102])), (tB, .inl (cI, 260, .inl fB))]) (w1 := [(h0, .inr (5, [.ref lS, .int u109_0, .ref tp])), (lS, .inl (cI, 241, .inl u109_1))]) hP hD [0, 1] [2, 3] rfl rfl (by decide) (by decide) hk1 hFc hP1 hD1
            have hP : va_P (dC, dI) vwCl [(h0, .inr (5, [.ref lS, .int u109_0, .ref tp])), (lS, .inl (cI, 241, .inl u109_1)), (tp, .inr (9, [.ref tB, .int tl, .int v102])), (tB, .inl (cI, 260, .inl fB))] H := hP.sub [2, 3, 0, 1] rfl
            have hD : va_D A [(h0, .inr (5, [.ref lS, .int u109_0, .ref tp])), (lS, .inl (cI, 241, .inl u109_1)), (tp, .inr (9, [.ref tB, .int tl, .int v102])), (tB, .inl (cI, 260, .inl fB))] := hD.sub [2, 3, 0, 1] (by decide) rfl
            have zn109_2 : (2 : Int32).toInt = 2 := by decide
            obtain ⟨f109_0, f109_1, f109_2, f109_3, f109_4⟩ : (1 ≤ u109_0.toInt) ∧ (u109_0.toInt ≤ 241) ∧ (u109_0.toInt ≤ sz5.toInt + 1 ∧ sz5.toInt ≤ u109_0.toInt) ∧ (sz5.toInt < 241 → zEm fS sz5 [((2 : Int32).toInt, m76_L_3.toInt)] u109_1 u109_0) ∧ (zSt u109_1) := hw
            have F109 := f109_3
            refine lv_iconst (v := 1) hx hb dX5_atom_112 (by decide) ?_
            have zr0 : (1 : Int32).toInt = 1 := by decide
            rw [hQ]
            exact W.zret (v := 1) (ty := .boolean) hx hb hr rfl (fun t ht hW => ⟨⟨1, (u109_0, u109_1, v102), rfl, ⟨by (try dsimp only); omega, by (try dsimp only); omega, by (try dsimp only); omega, by (try dsimp only); omega, by (try dsimp only); omega, by (try dsimp only); omega, zF1 (fa_let F4 (by omega) x89 (by omega) (by omega) (by omega) i102), (fun _ => zFm (x := sAtm (sB fB tl.toInt) tl.toInt 0) (sAtm_mono (sB fB tl.toInt) tl.toInt 0) (zF1 (fa_let F4 (by omega) x89 (by omega) (by omega) (by omega) i102))), by (try dsimp only); omega, (fun _ => fea_l F4 (by omega) x89 (by omega) (by omega) (by omega) (F109 (by omega))), f109_4⟩, ⟨by rw [ht]; exact hP, hD⟩⟩, hS.F ht⟩) hS.2.2 dX5_atom_113
    refine lv_istore_n (lv' := [(3, .int 0), (2, .int v4), (0, .ref h0), (1, .int 6)]) hx hb dX5_atom_75 rfl hl (by decide) rfl (fun ls hl => ?_)
    have zj76_m76_L_3 : (0 : Int32).toInt = 0 := by decide
    exact J76 _ 0 (by decide) (zNl0) rfl H locs ls hP hD hS (lv_sub hl [0, 1, 2, 3] rfl)
  · have c11 : v4.toInt = 91 := z5 rfl (by decide) c11
    refine lv_iload_n hx hb dX5_atom_14 rfl (lv_at hl 2 rfl) ?_
    refine lv_bipush (v := 6) hx hb dX5_atom_15 (by decide) ?_
    refine lv_icmp_lt (tgt := 22) hx hb dX5_atom_17 (by decide) (fun c => absurd c (by decide)) (fun _ => ?_)
    refine lv_iconst (v := 0) hx hb dX5_atom_20 (by decide) ?_
    have zr0 : (0 : Int32).toInt = 0 := by decide
    rw [hQ]
    exact W.zret (v := 0) (ty := .boolean) hx hb hr rfl (fun t ht hW => ⟨⟨0, (sz5, fS, u4_0), rfl, ⟨by (try dsimp only); omega, by (try dsimp only); omega, by (try dsimp only); omega, by (try dsimp only); omega, by (try dsimp only); omega, by (try dsimp only); omega, zF0 (fa_top F4 (by omega)), (fun z => absurd (by decide) z), by (try dsimp only); omega, (fun z => absurd (by decide) z), ci_fS_zSt⟩, ⟨by rw [ht]; exact hP, hD⟩⟩, hS.F ht⟩) hS.2.2 dX5_atom_21
