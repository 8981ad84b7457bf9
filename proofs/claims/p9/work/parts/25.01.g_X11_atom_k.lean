set_option maxHeartbeats 4000000 in
set_option maxRecDepth 100000 in
theorem g_X11_sum_k (l : Launch) (K fr lo : Nat) (ihT : zQ_X11_term l K fr lo) (hfr : 1 ≤ fr) (hlo : 40 ≤ lo) : zQ_X11_sum l K (fr + 1) (lo + 40) := by
  intro dC dI cI cJ h0 th tB tsz tat dp rC rV rD rK rT rS rU lw tx rL rX qR qB qP qnb qnp aR aB aP nb np aN rf ho br aK ac dw aE sr sf aA aH aI hi fB fC fV fD gC gV fz k st h sz n_ac n_dp n_hi n_ho n_lw n_nb n_np n_qnb n_qnp n_tat n_tsz n_tx hpar hat hh hKd hK6
  refine Met.ofW (cc := cX11_sum) (maxL := 2) (ret := none) (by decide) rfl ?_
  intro p e s m args below meth c s₁ B hml hv
  obtain ⟨hargs, hsz, hP, hK, hT⟩ := hv
  have hx := B.exec
  have hb := B.bytes
  have hr := B.returns
  have hts : ∀ w ∈ wA, w.before args s = true := fun w h => atoms_spec (ws := .code yX11_sum cX11_sum 2 none :: wA) B.pre w (List.mem_cons_of_mem _ h)
  have hown : s.vm.findClass RX11 = some m.cls := findClass_of_methodNamed B.named
  have hlocks := B.notSynchronized
  subst hsz
  have hD := hT.self (sz := s.heap.size)
  generalize hAe : va_A [(h0, .inr (11, [.int th, .ref tB, .int tsz, .int tat, .int (-1), .int dp, .ref rC, .ref rV, .ref rD, .ref rK, .ref rT, .ref rS, .ref rU, .int lw, .int tx, .ref rL, .ref rX, .ref qR, .ref qB, .ref qP, .int qnb, .int qnp, .ref aR, .ref aB, .ref aP, .int nb, .int np, .ref aN, .ref rf, .int ho, .int br, .ref aK, .int ac, .long dw, .ref aE, .int sr, .int sf, .ref aA, .ref aH, .ref aI, .int hi])), (tB, .inl (cI, 240, .inl fB)), (rC, .inl (cI, 2600, .inl fC)), (rV, .inl (cI, 2600, .inl fV)), (rD, .inl (cI, 5, .inl fD))] s.heap.size = A at hD ⊢
  have hA : ∀ q : Nat, s.heap.size ≤ q → A q := fun q h => by rw [← hAe]; exact Or.inr h
  have hl := lv_entry ([.ref h0]) (n := 2) (Nat.le_of_ble_eq_true rfl)
  rw [show entryFrame m args 2 = entryFrame m ([.ref h0] : List Value).toArray 2 by rw [hargs], lg_entry_eq]
  generalize (lg_sl ([.ref h0]) ++ List.replicate (2 - (lg_sl ([.ref h0])).length) Slot.unset).toArray = ls at hl ⊢
  have hl : lv_has ls 2 [(0, .ref h0)] := hl
  refine zstart (fun H hH => ?_)
  rw [← hH] at hP
  have hS : va_S A s.heap H [] := by rw [hH]; exact va_S.rf
  generalize ([] : List Loc) = locs at hS ⊢
  refine zgen (fun R Q hR hQ => ?_)
  have hRf : R.frames = fr + 1 := by rw [hR]; rfl
  have hRl : R.locals = lo + 40 := by rw [hR]; rfl
  have zm1 : (-1 : Int32).toInt = -1 := by decide
  refine lv_aload_n hx hb dX11_sum_0 rfl (lv_at hl 0 rfl) ?_
  obtain ⟨hPc, hDc, hFc⟩ := zc3 (wc := [(h0, .inr (11, [.int th, .ref tB, .int tsz, .int tat, .int (-1), .int dp, .ref rC, .ref rV, .ref rD, .ref rK, .ref rT, .ref rS, .ref rU, .int lw, .int tx, .ref rL, .ref rX, .ref qR, .ref qB, .ref qP, .int qnb, .int qnp, .ref aR, .ref aB, .ref aP, .int nb, .int np, .ref aN, .ref rf, .int ho, .int br, .ref aK, .int ac, .long dw, .ref aE, .int sr, .int sf, .ref aA, .ref aH, .ref aI, .int hi])), (tB, .inl (cI, 240, .inl fB)), (rC, .inl (cI, 2600, .inl fC)), (rV, .inl (cI, 2600, .inl fV)), (rD, .inl (cI, 5, .inl fD))]) hP hD hS hA [0, 1, 2, 3, 4] (by decide +kernel) rfl
  refine va_callv (va_runV (As := []) (rest := []) ⟨hx, hb, hml, hown, hts⟩ (ihT dC dI cI cJ h0 th tB tsz tat dp rC rV rD rK rT rS rU lw tx rL rX qR qB qP qnb qnp aR aB aP nb np aN rf ho br aK ac dw aE sr sf aA aH aI hi fB fC fV fD gC gV fz k st h H.size n_ac n_dp n_hi n_ho n_lw n_nb n_np n_qnb n_qnp n_tat n_tsz n_tx (by first | exact zPar_mono hpar (by omega) (by omega) (by omega) (by omega)) (by first | decide | omega) (by first | decide | omega) (by first | decide | omega) (by first | decide | omega)) (cwV 0 hts (zgV qw1344 qw1346 qw46 qw108 qw1347) rfl rfl rfl hd_X11_term ⟨by (try dsimp only) <;> omega, by (try dsimp only) <;> omega⟩) (zPV hPc hK hDc (va_recv (q := (RX11, TX11, 41)) hK hP (ci := 11) (q0 := 0) rfl rfl)) rfl rfl hl.1 rfl (lv_room (Nat.le_of_ble_eq_true rfl)) dX11_sum_1 ⟨Nat.zero_le _, Nat.zero_le _⟩) hS (fun q _ h => hFc q h) hFc (fun u1 t H locs ht hvm hw hB hz1 hk1 hS9 => ?_)
  obtain ⟨u1_0, u1_1, u1_2, u1_3, u1_4, u1_5⟩ := u1
  obtain ⟨hP9, hD9⟩ := zj2 (wX := [(h0, .inr (11, [.int th, .ref tB, .int tsz, .int u1_0, .int u1_1, .int u1_2, .ref rC, .ref rV, .ref rD, .ref rK, .ref rT, .ref rS, .ref rU, .int lw, .int tx, .ref rL, .ref rX, .ref qR, .ref qB, .ref qP, .int qnb, .int qnp, .ref aR, .ref aB, .ref aP, .int nb, .int np, .ref aN, .ref rf, .int ho, .int br, .ref aK, .int ac, .long dw, .ref aE, .int sr, .int sf, .ref aA, .ref aH, .ref aI, .int hi])), (tB, .inl (cI, 240, .inl fB)), (rC, .inl (cI, 2600, .inl u1_3)), (rV, .inl (cI, 2600, .inl u1_4)), (rD, .inl (cI, 5, .inl u1_5))]) hP hD hk1 hFc ht hB [0, 1, 2, 3, 4] [(true, 0), (true, 1), (true, 2), (true, 3), (true, 4)] rfl (by decide +kernel) (by decide +kernel) rfl
  clear hP hD hS hPc hDc hFc hB hk1 hz1 hvm
  have hP := hP9
  have hD := hD9
  have hS := hS9
  clear hP9 hD9 hS9
  obtain ⟨f1_0, f1_1, f1_2, f1_3, f1_4, f1_5, f1_6, f1_7, f1_8, f1_9, f1_10, f1_11⟩ : (0 ≤ u1_0.toInt) ∧ (u1_0.toInt ≤ 246) ∧ ((-1) ≤ u1_1.toInt) ∧ (u1_1.toInt ≤ 260) ∧ (0 ≤ u1_2.toInt) ∧ (u1_2.toInt ≤ 7) ∧ (u1_1.toInt = -1 → (u1_0.toInt ≤ tsz.toInt ∧ u1_2.toInt = 6 - ((K : Nat) : Int))) ∧ (tat.toInt ≤ u1_0.toInt) ∧ (u1_0.toInt ≤ 240 + ((K : Nat) : Int) ∧ 6 - ((K : Nat) : Int) ≤ u1_2.toInt ∧ u1_2.toInt ≤ 7 - ((K : Nat) : Int)) ∧ (zW (sTm (sB fB tsz.toInt) tsz.toInt oM (sAtm (sB fB tsz.toInt) tsz.toInt K) tat.toInt) u1_1 u1_0) ∧ (u1_1.toInt = -1 → zEr fC fV (520 * tx.toInt.toNat) (fD tx.toInt.toNat).toInt ((eTm (sB fB tsz.toInt) tsz.toInt oM (sAtm (sB fB tsz.toInt) tsz.toInt K) (eAtm (sB fB tsz.toInt) tsz.toInt K)) tat.toInt) u1_3 u1_4 (u1_5 tx.toInt.toNat).toInt) ∧ (zPar u1_1 u1_0 u1_3 u1_4 u1_5 tx gC gV fz (k) st (h + 1)) := hw
  have F1 := f1_9
  have F1_1 : zHid (u1_1.toInt = -1 → zEr fC fV (520 * tx.toInt.toNat) (fD tx.toInt.toNat).toInt ((eTm (sB fB tsz.toInt) tsz.toInt oM (sAtm (sB fB tsz.toInt) tsz.toInt K) (eAtm (sB fB tsz.toInt) tsz.toInt K)) tat.toInt) u1_3 u1_4 (u1_5 tx.toInt.toNat).toInt) := f1_10
  clear f1_10
  refine lv_aload_n hx hb dX11_sum_4 rfl (lv_at hl 0 rfl) ?_
  refine va_get (D := (dC, dI)) (ci := 11) (v := .int u1_1) (C := RX11) (T := TX11) (N := 41) hx hb hts iX11 hown hK hP 0 rfl rfl 4 (by decide) (hts _ qw1131) (fun _ h9 => h9) rfl dX11_sum_5 ?_
  refine lv_iconst (v := (-1)) hx hb dX11_sum_8 (by decide) ?_
  refine lv_icmp_ne (tgt := 19) hx hb dX11_sum_9 (by decide) (fun c9 => ?_) (fun c9 => ?_)
  · have c9 : ¬ u1_1.toInt = (-1) := z6 rfl (by decide) c9
    refine lv_iconst (v := (-1)) hx hb dX11_sum_19 (by decide) ?_
    have J21 : ∀ (n : Nat) (m21_A_rC : Nat → Int32) (m21_A_rD : Nat → Int32) (m21_A_rV : Nat → Int32) (m21_F_h0_3 : Int32) (m21_F_h0_4 : Int32) (m21_F_h0_5 : Int32) (m21_L_1 : Int32), (0 ≤ m21_F_h0_3.toInt ∧ m21_F_h0_3.toInt ≤ 246) → ((-1) ≤ m21_F_h0_4.toInt ∧ m21_F_h0_4.toInt ≤ 260) → (0 ≤ m21_F_h0_5.toInt ∧ m21_F_h0_5.toInt ≤ 7) → (¬ m21_L_1.toInt = -1 → (m21_F_h0_4.toInt = -1 ∧ m21_F_h0_3.toInt < tsz.toInt ∧ m21_F_h0_5.toInt = 6 - ((K : Nat) : Int))) → (m21_F_h0_4.toInt = -1 → (m21_F_h0_3.toInt ≤ tsz.toInt ∧ m21_F_h0_5.toInt = 6 - ((K : Nat) : Int))) → (tat.toInt ≤ m21_F_h0_3.toInt) → (m21_F_h0_3.toInt ≤ 240 + ((K : Nat) : Int) ∧ 6 - ((K : Nat) : Int) ≤ m21_F_h0_5.toInt ∧ m21_F_h0_5.toInt ≤ 7 - ((K : Nat) : Int)) → (zLp fB tsz (sSum (sB fB tsz.toInt) tsz.toInt K tat.toInt) oP (sTm (sB fB tsz.toInt) tsz.toInt oM (sAtm (sB fB tsz.toInt) tsz.toInt K)) m21_F_h0_4 m21_F_h0_3 m21_L_1) → (zTe fB tsz oP (sTm (sB fB tsz.toInt) tsz.toInt oM (sAtm (sB fB tsz.toInt) tsz.toInt K)) (eTm (sB fB tsz.toInt) tsz.toInt oM (sAtm (sB fB tsz.toInt) tsz.toInt K) (eAtm (sB fB tsz.toInt) tsz.toInt K)) (eTm (sB fB tsz.toInt) tsz.toInt oP (sTm (sB fB tsz.toInt) tsz.toInt oM (sAtm (sB fB tsz.toInt) tsz.toInt K)) (eTm (sB fB tsz.toInt) tsz.toInt oM (sAtm (sB fB tsz.toInt) tsz.toInt K) (eAtm (sB fB tsz.toInt) tsz.toInt K)) tat.toInt) fC fV (520 * tx.toInt.toNat) (fD tx.toInt.toNat).toInt m21_A_rC m21_A_rV (m21_A_rD tx.toInt.toNat).toInt m21_F_h0_4 m21_F_h0_3) → (zPar m21_F_h0_4 m21_F_h0_3 m21_A_rC m21_A_rV m21_A_rD tx gC gV fz (k) st (h + 1)) → (300 - m21_F_h0_3.toInt).toNat = n → ∀ (H : Heap) (locs : List Loc) (ls : Array Slot), va_P (dC, dI) vwCl [(h0, .inr (11, [.int th, .ref tB, .int tsz, .int m21_F_h0_3, .int m21_F_h0_4, .int m21_F_h0_5, .ref rC, .ref rV, .ref rD, .ref rK, .ref rT, .ref rS, .ref rU, .int lw, .int tx, .ref rL, .ref rX, .ref qR, .ref qB, .ref qP, .int qnb, .int qnp, .ref aR, .ref aB, .ref aP, .int nb, .int np, .ref aN, .ref rf, .int ho, .int br, .ref aK, .int ac, .long dw, .ref aE, .int sr, .int sf, .ref aA, .ref aH, .ref aI, .int hi])), (tB, .inl (cI, 240, .inl fB)), (rC, .inl (cI, 2600, .inl m21_A_rC)), (rV, .inl (cI, 2600, .inl m21_A_rV)), (rD, .inl (cI, 5, .inl m21_A_rD))] H → va_D A [(h0, .inr (11, [.int th, .ref tB, .int tsz, .int m21_F_h0_3, .int m21_F_h0_4, .int m21_F_h0_5, .ref rC, .ref rV, .ref rD, .ref rK, .ref rT, .ref rS, .ref rU, .int lw, .int tx, .ref rL, .ref rX, .ref qR, .ref qB, .ref qP, .int qnb, .int qnp, .ref aR, .ref aB, .ref aP, .int nb, .int np, .ref aN, .ref rf, .int ho, .int br, .ref aK, .int ac, .long dw, .ref aE, .int sr, .int sf, .ref aA, .ref aH, .ref aI, .int hi])), (tB, .inl (cI, 240, .inl fB)), (rC, .inl (cI, 2600, .inl m21_A_rC)), (rV, .inl (cI, 2600, .inl m21_A_rV)), (rD, .inl (cI, 5, .inl m21_A_rD))] → va_S A s.heap H locs → lv_has ls 2 [(1, .int m21_L_1), (0, .ref h0)] → W p l e R s m args below meth c H locs 0 0 Q (F0 m 21 ls []) := by
      intro n21
      induction n21 using Nat.strongRecOn with
      | _ n21 ih21 =>
        intro m21_A_rC m21_A_rD m21_A_rV m21_F_h0_3 m21_F_h0_4 m21_F_h0_5 m21_L_1 jf21_0 jf21_1 jf21_2 jf21_3 jf21_4 jf21_5 jf21_6 jv21_0 jv21_1 jv21_2 hmu21 H locs ls hP hD hS hl
        refine lv_iload_n hx hb dX11_sum_21 rfl (lv_at hl 0 rfl) ?_
        refine lv_bipush (v := 43) hx hb dX11_sum_22 (by decide) ?_
        refine lv_icmp_eq (tgt := 33) hx hb dX11_sum_24 (by decide) (fun c24 => ?_) (fun c24 => ?_)
        · have c24 : m21_L_1.toInt = 43 := z5 rfl (by decide) c24
          refine lv_aload_n hx hb dX11_sum_33 rfl (lv_at hl 1 rfl) ?_
          refine lv_dup hx hb dX11_sum_34 rfl ?_
          refine va_get (D := (dC, dI)) (ci := 11) (v := .int m21_F_h0_3) (C := RX11) (T := TX11) (N := 41) hx hb hts iX11 hown hK hP 0 rfl rfl 3 (by decide) (hts _ qw1130) (fun _ h9 => h9) rfl dX11_sum_35 ?_
          refine lv_iconst (v := 1) hx hb dX11_sum_38 (by decide) ?_
          refine lv_iadd hx hb dX11_sum_39 ?_
          refine lv_topi (fun v39 e39 => ?_)
          have i39 : v39.toInt = m21_F_h0_3.toInt + 1 := zadd e39 rfl (by decide) (by omega) (by omega)
          refine va_put (D := (dC, dI)) (ci := 11) (v := .int v39) (ty := .int) (C := RX11) (T := TX11) (N := 41) hx hb hts iX11 tyX11 tyX11_ok nmX11 hown hK hP hD hS 0 rfl rfl 3 (by decide) (hts _ qw1130) (fun _ h9 => h9) rfl (by decide +kernel) rfl rfl (Nat.le_of_ble_eq_true rfl) dX11_sum_40 (fun H locs hP9 hD9 hS9 => ?_)
          clear hP hD hS
          obtain ⟨hP, hD⟩ := zst (wX := [(h0, .inr (11, [.int th, .ref tB, .int tsz, .int v39, .int m21_F_h0_4, .int m21_F_h0_5, .ref rC, .ref rV, .ref rD, .ref rK, .ref rT, .ref rS, .ref rU, .int lw, .int tx, .ref rL, .ref rX, .ref qR, .ref qB, .ref qP, .int qnb, .int qnp, .ref aR, .ref aB, .ref aP, .int nb, .int np, .ref aN, .ref rf, .int ho, .int br, .ref aK, .int ac, .long dw, .ref aE, .int sr, .int sf, .ref aA, .ref aH, .ref aI, .int hi])), (tB, .inl (cI, 240, .inl fB)), (rC, .inl (cI, 2600, .inl m21_A_rC)), (rV, .inl (cI, 2600, .inl m21_A_rV)), (rD, .inl (cI, 5, .inl m21_A_rD))]) hP9 hD9 rfl
          have hS := hS9
          clear hP9 hD9 hS9
          refine lv_aload_n hx hb dX11_sum_43 rfl (lv_at hl 1 rfl) ?_
          have zx_m21_F_h0_4 : ((-1) : Int32).toInt = (-1) := by decide
          have zy_m21_F_h0_4 : m21_F_h0_4 = (-1) := z7 (a := (-1)) (by decide) (by omega)
          rw [zy_m21_F_h0_4] at hP hD
          obtain ⟨hPc, hDc, hFc⟩ := zc3 (wc := [(h0, .inr (11, [.int th, .ref tB, .int tsz, .int v39, .int (-1), .int m21_F_h0_5, .ref rC, .ref rV, .ref rD, .ref rK, .ref rT, .ref rS, .ref rU, .int lw, .int tx, .ref rL, .ref rX, .ref qR, .ref qB, .ref qP, .int qnb, .int qnp, .ref aR, .ref aB, .ref aP, .int nb, .int np, .ref aN, .ref rf, .int ho, .int br, .ref aK, .int ac, .long dw, .ref aE, .int sr, .int sf, .ref aA, .ref aH, .ref aI, .int hi])), (tB, .inl (cI, 240, .inl fB)), (rC, .inl (cI, 2600, .inl m21_A_rC)), (rV, .inl (cI, 2600, .inl m21_A_rV)), (rD, .inl (cI, 5, .inl m21_A_rD))]) hP hD hS hA [0, 1, 2, 3, 4] (by decide +kernel) rfl
          refine va_callv (va_runV (As := []) (rest := []) ⟨hx, hb, hml, hown, hts⟩ (ihT dC dI cI cJ h0 th tB tsz v39 m21_F_h0_5 rC rV rD rK rT rS rU lw tx rL rX qR qB qP qnb qnp aR aB aP nb np aN rf ho br aK ac dw aE sr sf aA aH aI hi fB m21_A_rC m21_A_rV m21_A_rD gC gV fz (k + 1) st (h + 1) H.size n_ac (by omega) n_hi n_ho n_lw n_nb n_np n_qnb n_qnp (by omega) n_tsz n_tx (by first | exact zPar_mono jv21_2 (by omega) (by omega) (by omega) (by omega)) (by first | decide | omega) (by first | decide | omega) (by first | decide | omega) (by first | decide | omega)) (cwV 0 hts (zgV qw1344 qw1346 qw46 qw108 qw1347) rfl rfl rfl hd_X11_term ⟨by (try dsimp only) <;> omega, by (try dsimp only) <;> omega⟩) (zPV hPc hK hDc (va_recv (q := (RX11, TX11, 41)) hK hP (ci := 11) (q0 := 0) rfl rfl)) rfl rfl hl.1 rfl (lv_room (Nat.le_of_ble_eq_true rfl)) dX11_sum_44 ⟨Nat.zero_le _, Nat.zero_le _⟩) hS (fun q _ h => hFc q h) hFc (fun u44 t H locs ht hvm hw hB hz1 hk1 hS9 => ?_)
          obtain ⟨u44_0, u44_1, u44_2, u44_3, u44_4, u44_5⟩ := u44
          obtain ⟨hP9, hD9⟩ := zj2 (wX := [(h0, .inr (11, [.int th, .ref tB, .int tsz, .int u44_0, .int u44_1, .int u44_2, .ref rC, .ref rV, .ref rD, .ref rK, .ref rT, .ref rS, .ref rU, .int lw, .int tx, .ref rL, .ref rX, .ref qR, .ref qB, .ref qP, .int qnb, .int qnp, .ref aR, .ref aB, .ref aP, .int nb, .int np, .ref aN, .ref rf, .int ho, .int br, .ref aK, .int ac, .long dw, .ref aE, .int sr, .int sf, .ref aA, .ref aH, .ref aI, .int hi])), (tB, .inl (cI, 240, .inl fB)), (rC, .inl (cI, 2600, .inl u44_3)), (rV, .inl (cI, 2600, .inl u44_4)), (rD, .inl (cI, 5, .inl u44_5))]) hP hD hk1 hFc ht hB [0, 1, 2, 3, 4] [(true, 0), (true, 1), (true, 2), (true, 3), (true, 4)] rfl (by decide +kernel) (by decide +kernel) rfl
          clear hP hD hS hPc hDc hFc hB hk1 hz1 hvm
          have hP := hP9
          have hD := hD9
          have hS := hS9
          clear hP9 hD9 hS9
          obtain ⟨f44_0, f44_1, f44_2, f44_3, f44_4, f44_5, f44_6, f44_7, f44_8, f44_9, f44_10, f44_11⟩ : (0 ≤ u44_0.toInt) ∧ (u44_0.toInt ≤ 246) ∧ ((-1) ≤ u44_1.toInt) ∧ (u44_1.toInt ≤ 260) ∧ (0 ≤ u44_2.toInt) ∧ (u44_2.toInt ≤ 7) ∧ (u44_1.toInt = -1 → (u44_0.toInt ≤ tsz.toInt ∧ u44_2.toInt = 6 - ((K : Nat) : Int))) ∧ (v39.toInt ≤ u44_0.toInt) ∧ (u44_0.toInt ≤ 240 + ((K : Nat) : Int) ∧ 6 - ((K : Nat) : Int) ≤ u44_2.toInt ∧ u44_2.toInt ≤ 7 - ((K : Nat) : Int)) ∧ (zW (sTm (sB fB tsz.toInt) tsz.toInt oM (sAtm (sB fB tsz.toInt) tsz.toInt K) v39.toInt) u44_1 u44_0) ∧ (u44_1.toInt = -1 → zEr m21_A_rC m21_A_rV (520 * tx.toInt.toNat) (m21_A_rD tx.toInt.toNat).toInt ((eTm (sB fB tsz.toInt) tsz.toInt oM (sAtm (sB fB tsz.toInt) tsz.toInt K) (eAtm (sB fB tsz.toInt) tsz.toInt K)) v39.toInt) u44_3 u44_4 (u44_5 tx.toInt.toNat).toInt) ∧ (zPar u44_1 u44_0 u44_3 u44_4 u44_5 tx gC gV fz ((k + 1)) st ((h + 1) + 1)) := hw
          have F44 := f44_9
          have F44_1 : zHid (u44_1.toInt = -1 → zEr m21_A_rC m21_A_rV (520 * tx.toInt.toNat) (m21_A_rD tx.toInt.toNat).toInt ((eTm (sB fB tsz.toInt) tsz.toInt oM (sAtm (sB fB tsz.toInt) tsz.toInt K) (eAtm (sB fB tsz.toInt) tsz.toInt K)) v39.toInt) u44_3 u44_4 (u44_5 tx.toInt.toNat).toInt) := f44_10
          clear f44_10
          refine lv_aload_n hx hb dX11_sum_47 rfl (lv_at hl 1 rfl) ?_
          refine lv_iload_n hx hb dX11_sum_48 rfl (lv_at hl 0 rfl) ?_
          refine lv_bipush (v := 43) hx hb dX11_sum_49 (by decide) ?_
          refine lv_icmp_ne (tgt := 58) hx hb dX11_sum_51 (by decide) (fun c51 => by exfalso; have c51 : ¬ m21_L_1.toInt = 43 := z6 rfl (by decide) c51; omega) (fun c51 => ?_)
          have c51 : m21_L_1.toInt = 43 := z5 rfl (by decide) c51
          refine lv_iconst (v := 2) hx hb dX11_sum_54 (by decide) ?_
          refine lv_goto (tgt := 59) hx hb dX11_sum_55 (by decide) ?_
          refine lv_iconst (v := 0) hx hb dX11_sum_59 (by decide) ?_
          obtain ⟨hPc, hDc, hFc⟩ := zc3 (wc := [(h0, .inr (11, [.int th, .ref tB, .int tsz, .int u44_0, .int u44_1, .int u44_2, .ref rC, .ref rV, .ref rD, .ref rK, .ref rT, .ref rS, .ref rU, .int lw, .int tx, .ref rL, .ref rX, .ref qR, .ref qB, .ref qP, .int qnb, .int qnp, .ref aR, .ref aB, .ref aP, .int nb, .int np, .ref aN, .ref rf, .int ho, .int br, .ref aK, .int ac, .long dw, .ref aE, .int sr, .int sf, .ref aA, .ref aH, .ref aI, .int hi])), (rC, .inl (cI, 2600, .inl u44_3)), (rV, .inl (cI, 2600, .inl u44_4)), (rD, .inl (cI, 5, .inl u44_5))]) hP hD hS hA [0, 2, 3, 4] (by decide +kernel) rfl
          refine va_callv (va_runV (As := [.int 2, .int 0]) (rest := []) ⟨hx, hb, hml, hown, hts⟩ (g_X11_put_op l dC dI cI cJ h0 2 0 th tB tsz u44_0 u44_1 u44_2 rC rV rD rK rT rS rU lw tx rL rX qR qB qP qnb qnp aR aB aP nb np aN rf ho br aK ac dw aE sr sf aA aH aI hi u44_3 u44_4 u44_5 gC gV fz k st h H.size n_ac n_hi n_ho n_lw n_nb n_np (by decide) n_qnb n_qnp (by omega) n_tsz n_tx ⟨f44_2, f44_3⟩ (by first | exact zPar_mono f44_11 (by omega) (by omega) (by omega) (by omega)) (by first | decide | omega)) (cwV 2 hts (zgV qw1332 qw1334 qw43 qw108 qw1335) rfl rfl rfl hd_X11_put ⟨by (try dsimp only) <;> omega, by (try dsimp only) <;> omega⟩) (zPV hPc hK hDc (va_recv (q := (RX11, TX11, 41)) hK hP (ci := 11) (q0 := 0) rfl rfl)) rfl rfl hl.1 rfl (lv_room (Nat.le_of_ble_eq_true rfl)) dX11_sum_60 ⟨Nat.zero_le _, Nat.zero_le _⟩) hS (fun q _ h => hFc q h) hFc (fun u60 t H locs ht hvm hw hB hz1 hk1 hS9 => ?_)
          obtain ⟨u60_0, u60_1, u60_2⟩ := u60
          obtain ⟨hP9, hD9⟩ := zj2 (wX := [(h0, .inr (11, [.int th, .ref tB, .int tsz, .int u44_0, .int u44_1, .int u44_2, .ref rC, .ref rV, .ref rD, .ref rK, .ref rT, .ref rS, .ref rU, .int lw, .int tx, .ref rL, .ref rX, .ref qR, .ref qB, .ref qP, .int qnb, .int qnp, .ref aR, .ref aB, .ref aP, .int nb, .int np, .ref aN, .ref rf, .int ho, .int br, .ref aK, .int ac, .long dw, .ref aE, .int sr, .int sf, .ref aA, .ref aH, .ref aI, .int hi])), (tB, .inl (cI, 240, .inl fB)), (rC, .inl (cI, 2600, .inl u60_0)), (rV, .inl (cI, 2600, .inl u60_1)), (rD, .inl (cI, 5, .inl u60_2))]) hP hD hk1 hFc ht hB [0, 2, 3, 4] [(true, 0), (false, 1), (true, 1), (true, 2), (true, 3)] rfl (by decide +kernel) (by decide +kernel) rfl
          clear hP hD hS hPc hDc hFc hB hk1 hz1 hvm
          have hP := hP9
          have hD := hD9
          have hS := hS9
          clear hP9 hD9 hS9
          have zn60_2 : (2 : Int32).toInt = 2 := by decide
          obtain ⟨f60_0, f60_1⟩ : (∀ x : Int, eRc x = (2 : Int32).toInt → ¬ x = 1 → ¬ x = 2 → zEr u44_3 u44_4 (520 * tx.toInt.toNat) (u44_5 tx.toInt.toNat).toInt ([(x, 0)]) u60_0 u60_1 (u60_2 tx.toInt.toNat).toInt) ∧ (zPar u44_1 u44_0 u60_0 u60_1 u60_2 tx gC gV fz (k) st (h + 1)) := hw
          have F60 := f60_0
          refine lv_aload_n hx hb dX11_sum_63 rfl (lv_at hl 1 rfl) ?_
          refine va_get (D := (dC, dI)) (ci := 11) (v := .int u44_1) (C := RX11) (T := TX11) (N := 41) hx hb hts iX11 hown hK hP 0 rfl rfl 4 (by decide) (hts _ qw1131) (fun _ h9 => h9) rfl dX11_sum_64 ?_
          refine lv_iconst (v := (-1)) hx hb dX11_sum_67 (by decide) ?_
          refine lv_icmp_ne (tgt := 78) hx hb dX11_sum_68 (by decide) (fun c68 => ?_) (fun c68 => ?_)
          · have c68 : ¬ u44_1.toInt = (-1) := z6 rfl (by decide) c68
            refine lv_iconst (v := (-1)) hx hb dX11_sum_78 (by decide) ?_
            refine lv_istore_n (lv' := [(1, .int (-1)), (0, .ref h0)]) hx hb dX11_sum_79 rfl hl (by decide) rfl (fun ls hl => ?_)
            refine lv_goto (tgt := 21) hx hb dX11_sum_80 (by decide) ?_
            have zj21_m21_L_1 : ((-1) : Int32).toInt = (-1) := by decide
            exact ih21 _ (by omega) u60_0 u60_2 u60_1 u44_0 u44_1 u44_2 (-1) ⟨f44_0, f44_1⟩ ⟨f44_2, f44_3⟩ ⟨f44_4, f44_5⟩ (by omega) (by omega) (by omega) (by omega) (by first | exact zlpS jv21_0 (oP_iff.mpr (by omega)) (by decide) i39 F44 (by omega) (sTm_mono (sAtm_mono (sB fB tsz.toInt) tsz.toInt K)) F72 | exact zlpB jv21_0 (oP_iff.mpr (by omega)) (by decide) i39 F44 (by omega)) (by first | exact zTe_w (by omega) | exact zTe_s jv21_1 jv21_0 (oP_iff.mpr (by omega)) (by decide) i39 F44 (sTm_mono (sAtm_mono (sB fB tsz.toInt) tsz.toInt K)) F44_1 (F60 m21_L_1.toInt (by first | (rw [show m21_L_1.toInt = 43 by omega]; decide) | (rw [show m21_L_1.toInt = 45 by omega]; decide)) (by omega) (by omega)) (by have := hpar.2.2.1; omega) (by have := jv21_2.2.2.1; omega) F72) (by first | exact zPar_bad f60_1 (by omega) (by omega) (by omega)) rfl H locs ls hP hD hS (lv_sub hl [0, 1] rfl)
          · have c68 : u44_1.toInt = (-1) := z5 rfl (by decide) c68
            refine lv_aload_n hx hb dX11_sum_71 rfl (lv_at hl 1 rfl) ?_
            obtain ⟨hPc, hDc, hFc⟩ := zc3 (wc := [(h0, .inr (11, [.int th, .ref tB, .int tsz, .int u44_0, .int u44_1, .int u44_2, .ref rC, .ref rV, .ref rD, .ref rK, .ref rT, .ref rS, .ref rU, .int lw, .int tx, .ref rL, .ref rX, .ref qR, .ref qB, .ref qP, .int qnb, .int qnp, .ref aR, .ref aB, .ref aP, .int nb, .int np, .ref aN, .ref rf, .int ho, .int br, .ref aK, .int ac, .long dw, .ref aE, .int sr, .int sf, .ref aA, .ref aH, .ref aI, .int hi])), (tB, .inl (cI, 240, .inl fB))]) hP hD hS hA [0, 1] (by decide +kernel) rfl
            refine va_calli (va_runV (As := []) (rest := []) ⟨hx, hb, hml, hown, hts⟩ (g_X11_look_t l dC dI cI cJ h0 th tB tsz u44_0 u44_1 u44_2 rC rV rD rK rT rS rU lw tx rL rX qR qB qP qnb qnp aR aB aP nb np aN rf ho br aK ac dw aE sr sf aA aH aI hi fB H.size n_ac n_hi n_ho n_lw n_nb n_np n_qnb n_qnp (by omega) n_tsz ⟨f44_2, f44_3⟩) (cwV 0 hts (zgV qw1273 qw1275 qw32 qw108 qw1276) rfl rfl rfl hd_X11_look ⟨by (try dsimp only) <;> omega, by (try dsimp only) <;> omega⟩) (zPV hPc hK hDc (va_recv (q := (RX11, TX11, 41)) hK hP (ci := 11) (q0 := 0) rfl rfl)) rfl rfl hl.1 rfl (lv_room (Nat.le_of_ble_eq_true rfl)) dX11_sum_72 ⟨Nat.zero_le _, Nat.zero_le _⟩) hS (fun q _ h => hFc q h) hFc (fun v72 u72 t H locs ht hvm hw hB hz1 hk1 hS9 => ?_)
            obtain ⟨u72_0, rfl⟩ : ∃ z, z = u72 := ⟨_, rfl⟩
            obtain ⟨hP9, hD9⟩ := zj2 (wX := [(h0, .inr (11, [.int th, .ref tB, .int tsz, .int u72_0, .int u44_1, .int u44_2, .ref rC, .ref rV, .ref rD, .ref rK, .ref rT, .ref rS, .ref rU, .int lw, .int tx, .ref rL, .ref rX, .ref qR, .ref qB, .ref qP, .int qnb, .int qnp, .ref aR, .ref aB, .ref aP, .int nb, .int np, .ref aN, .ref rf, .int ho, .int br, .ref aK, .int ac, .long dw, .ref aE, .int sr, .int sf, .ref aA, .ref aH, .ref aI, .int hi])), (tB, .inl (cI, 240, .inl fB)), (rC, .inl (cI, 2600, .inl u60_0)), (rV, .inl (cI, 2600, .inl u60_1)), (rD, .inl (cI, 5, .inl u60_2))]) hP hD hk1 hFc ht hB [0, 1] [(true, 0), (true, 1), (false, 2), (false, 3), (false, 4)] rfl (by decide +kernel) (by decide +kernel) rfl
            clear hP hD hS hPc hDc hFc hB hk1 hz1 hvm
            have hP := hP9
            have hD := hD9
            have hS := hS9
            clear hP9 hD9 hS9
            obtain ⟨f72_0, f72_1, f72_2, f72_3, f72_4, f72_5⟩ : (0 ≤ u72_0.toInt) ∧ (u72_0.toInt ≤ 240) ∧ (¬ v72.toInt = -1 → u72_0.toInt < tsz.toInt) ∧ (u44_0.toInt ≤ u72_0.toInt) ∧ (u72_0.toInt ≤ tsz.toInt ∨ u72_0.toInt = u44_0.toInt) ∧ (zLk fB tsz u44_0 v72 u72_0) := hw
            have F72 := f72_5
            refine lv_goto (tgt := 79) hx hb dX11_sum_75 (by decide) ?_
            refine lv_istore_n (lv' := [(1, .int v72), (0, .ref h0)]) hx hb dX11_sum_79 rfl hl (by decide) rfl (fun ls hl => ?_)
            refine lv_goto (tgt := 21) hx hb dX11_sum_80 (by decide) ?_
            exact ih21 _ (by omega) u60_0 u60_2 u60_1 u72_0 u44_1 u44_2 v72 (by omega) ⟨f44_2, f44_3⟩ ⟨f44_4, f44_5⟩ (by omega) (by omega) (by omega) (by omega) (by first | exact zlpS jv21_0 (oP_iff.mpr (by omega)) (by decide) i39 F44 (by omega) (sTm_mono (sAtm_mono (sB fB tsz.toInt) tsz.toInt K)) F72 | exact zlpB jv21_0 (oP_iff.mpr (by omega)) (by decide) i39 F44 (by omega)) (by first | exact zTe_w (by omega) | exact zTe_s jv21_1 jv21_0 (oP_iff.mpr (by omega)) (by decide) i39 F44 (sTm_mono (sAtm_mono (sB fB tsz.toInt) tsz.toInt K)) F44_1 (F60 m21_L_1.toInt (by first | (rw [show m21_L_1.toInt = 43 by omega]; decide) | (rw [show m21_L_1.toInt = 45 by omega]; decide)) (by omega) (by omega)) (by have := hpar.2.2.1; omega) (by have := jv21_2.2.2.1; omega) F72) (by first | exact zPar_mono f60_1 (by omega) (by omega) (by omega) (by omega)) rfl H locs ls hP hD hS (lv_sub hl [0, 1] rfl)
        · have c24 : ¬ m21_L_1.toInt = 43 := z6 rfl (by decide) c24
          refine lv_iload_n hx hb dX11_sum_27 rfl (lv_at hl 0 rfl) ?_
          refine lv_bipush (v := 45) hx hb dX11_sum_28 (by decide) ?_
          refine lv_icmp_ne (tgt := 83) hx hb dX11_sum_30 (by decide) (fun c30 => ?_) (fun c30 => ?_)
          · have c30 : ¬ m21_L_1.toInt = 45 := z6 rfl (by decide) c30
            rw [hQ]
            exact W.vret hx hb hr (fun t ht hW => ⟨⟨(m21_F_h0_3, m21_F_h0_4, m21_F_h0_5, m21_A_rC, m21_A_rV, m21_A_rD), rfl, ⟨by (try dsimp only); omega, by (try dsimp only); omega, by (try dsimp only); omega, by (try dsimp only); omega, by (try dsimp only); omega, by (try dsimp only); omega, by (try dsimp only); omega, by (try dsimp only); omega, by (try dsimp only); omega, by (try dsimp only); exact zlpE jv21_0 (fun z => by have := oP_iff.mp z; omega), by (try dsimp only); exact fun hw => by rw [eSum_two (by rw [zW_1 (zlpE jv21_0 (fun z => by have := oP_iff.mp z; omega)) hw])]; exact zTe_e jv21_1 jv21_0 (fun z => by have := oP_iff.mp z; omega) hw, by (try dsimp only); first | exact zPar_mono jv21_2 (by omega) (by omega) (by omega) (by omega)⟩, ⟨by rw [ht]; exact hP, hD⟩⟩, hS.F ht⟩) hS.2.2 dX11_sum_83
          · have c30 : m21_L_1.toInt = 45 := z5 rfl (by decide) c30
            refine lv_aload_n hx hb dX11_sum_33 rfl (lv_at hl 1 rfl) ?_
            refine lv_dup hx hb dX11_sum_34 rfl ?_
            refine va_get (D := (dC, dI)) (ci := 11) (v := .int m21_F_h0_3) (C := RX11) (T := TX11) (N := 41) hx hb hts iX11 hown hK hP 0 rfl rfl 3 (by decide) (hts _ qw1130) (fun _ h9 => h9) rfl dX11_sum_35 ?_
            refine lv_iconst (v := 1) hx hb dX11_sum_38 (by decide) ?_
            refine lv_iadd hx hb dX11_sum_39 ?_
            refine lv_topi (fun v39 e39 => ?_)
            have i39 : v39.toInt = m21_F_h0_3.toInt + 1 := zadd e39 rfl (by decide) (by omega) (by omega)
            refine va_put (D := (dC, dI)) (ci := 11) (v := .int v39) (ty := .int) (C := RX11) (T := TX11) (N := 41) hx hb hts iX11 tyX11 tyX11_ok nmX11 hown hK hP hD hS 0 rfl rfl 3 (by decide) (hts _ qw1130) (fun _ h9 => h9) rfl (by decide +kernel) rfl rfl (Nat.le_of_ble_eq_true rfl) dX11_sum_40 (fun H locs hP9 hD9 hS9 => ?_)
            clear hP hD hS
            obtain ⟨hP, hD⟩ := zst (wX := [(h0, .inr (11, [.int th, .ref tB, .int tsz, .int v39, .int m21_F_h0_4, .int m21_F_h0_5, .ref rC, .ref rV, .ref rD, .ref rK, .ref rT, .ref rS, .ref rU, .int lw, .int tx, .ref rL, .ref rX, .ref qR, .ref qB, .ref qP, .int qnb, .int qnp, .ref aR, .ref aB, .ref aP, .int nb, .int np, .ref aN, .ref rf, .int ho, .int br, .ref aK, .int ac, .long dw, .ref aE, .int sr, .int sf, .ref aA, .ref aH, .ref aI, .int hi])), (tB, .inl (cI, 240, .inl fB)), (rC, .inl (cI, 2600, .inl m21_A_rC)), (rV, .inl (cI, 2600, .inl m21_A_rV)), (rD, .inl (cI, 5, .inl m21_A_rD))]) hP9 hD9 rfl
            have hS := hS9
            clear hP9 hD9 hS9
            refine lv_aload_n hx hb dX11_sum_43 rfl (lv_at hl 1 rfl) ?_
            have zx_m21_F_h0_4 : ((-1) : Int32).toInt = (-1) := by decide
            have zy_m21_F_h0_4 : m21_F_h0_4 = (-1) := z7 (a := (-1)) (by decide) (by omega)
            rw [zy_m21_F_h0_4] at hP hD
            obtain ⟨hPc, hDc, hFc⟩ := zc3 (wc := [(h0, .inr (11, [.int th, .ref tB, .int tsz, .int v39, .int (-1), .int m21_F_h0_5, .ref rC, .ref rV, .ref rD, .ref rK, .ref rT, .ref rS, .ref rU, .int lw, .int tx, .ref rL, .ref rX, .ref qR, .ref qB, .ref qP, .int qnb, .int qnp, .ref aR, .ref aB, .ref aP, .int nb, .int np, .ref aN, .ref rf, .int ho, .int br, .ref aK, .int ac, .long dw, .ref aE, .int sr, .int sf, .ref aA, .ref aH, .ref aI, .int hi])), (tB, .inl (cI, 240, .inl fB)), (rC, .inl (cI, 2600, .inl m21_A_rC)), (rV, .inl (cI, 2600, .inl m21_A_rV)), (rD, .inl (cI, 5, .inl m21_A_rD))]) hP hD hS hA [0, 1, 2, 3, 4] (by decide +kernel) rfl
            refine va_callv (va_runV (As := []) (rest := []) ⟨hx, hb, hml, hown, hts⟩ (ihT dC dI cI cJ h0 th tB tsz v39 m21_F_h0_5 rC rV rD rK rT rS rU lw tx rL rX qR qB qP qnb qnp aR aB aP nb np aN rf ho br aK ac dw aE sr sf aA aH aI hi fB m21_A_rC m21_A_rV m21_A_rD gC gV fz (k + 1) st (h + 1) H.size n_ac (by omega) n_hi n_ho n_lw n_nb n_np n_qnb n_qnp (by omega) n_tsz n_tx (by first | exact zPar_mono jv21_2 (by omega) (by omega) (by omega) (by omega)) (by first | decide | omega) (by first | decide | omega) (by first | decide | omega) (by first | decide | omega)) (cwV 0 hts (zgV qw1344 qw1346 qw46 qw108 qw1347) rfl rfl rfl hd_X11_term ⟨by (try dsimp only) <;> omega, by (try dsimp only) <;> omega⟩) (zPV hPc hK hDc (va_recv (q := (RX11, TX11, 41)) hK hP (ci := 11) (q0 := 0) rfl rfl)) rfl rfl hl.1 rfl (lv_room (Nat.le_of_ble_eq_true rfl)) dX11_sum_44 ⟨Nat.zero_le _, Nat.zero_le _⟩) hS (fun q _ h => hFc q h) hFc (fun u44 t H locs ht hvm hw hB hz1 hk1 hS9 => ?_)
            obtain ⟨u44_0, u44_1, u44_2, u44_3, u44_4, u44_5⟩ := u44
            obtain ⟨hP9, hD9⟩ := zj2 (wX := [(h0, .inr (11, [.int th, .ref tB, .int tsz, .int u44_0, .int u44_1, .int u44_2, .ref rC, .ref rV, .ref rD, .ref rK, .ref rT, .ref rS, .ref rU, .int lw, .int tx, .ref rL, .ref rX, .ref qR, .ref qB, .ref qP, .int qnb, .int qnp, .ref aR, .ref aB, .ref aP, .int nb, .int np, .ref aN, .ref rf, .int ho, .int br, .ref aK, .int ac, .long dw, .ref aE, .int sr, .int sf, .ref aA, .ref aH, .ref aI, .int hi])), (tB, .inl (cI, 240, .inl fB)), (rC, .inl (cI, 2600, .inl u44_3)), (rV, .inl (cI, 2600, .inl u44_4)), (rD, .inl (cI, 5, .inl u44_5))]) hP hD hk1 hFc ht hB [0, 1, 2, 3, 4] [(true, 0), (true, 1), (true, 2), (true, 3), (true, 4)] rfl (by decide +kernel) (by decide +kernel) rfl
            clear hP hD hS hPc hDc hFc hB hk1 hz1 hvm
            have hP := hP9
            have hD := hD9
            have hS := hS9
            clear hP9 hD9 hS9
            obtain ⟨f44_0, f44_1, f44_2, f44_3, f44_4, f44_5, f44_6, f44_7, f44_8, f44_9, f44_10, f44_11⟩ : (0 ≤ u44_0.toInt) ∧ (u44_0.toInt ≤ 246) ∧ ((-1) ≤ u44_1.toInt) ∧ (u44_1.toInt ≤ 260) ∧ (0 ≤ u44_2.toInt) ∧ (u44_2.toInt ≤ 7) ∧ (u44_1.toInt = -1 → (u44_0.toInt ≤ tsz.toInt ∧ u44_2.toInt = 6 - ((K : Nat) : Int))) ∧ (v39.toInt ≤ u44_0.toInt) ∧ (u44_0.toInt ≤ 240 + ((K : Nat) : Int) ∧ 6 - ((K : Nat) : Int) ≤ u44_2.toInt ∧ u44_2.toInt ≤ 7 - ((K : Nat) : Int)) ∧ (zW (sTm (sB fB tsz.toInt) tsz.toInt oM (sAtm (sB fB tsz.toInt) tsz.toInt K) v39.toInt) u44_1 u44_0) ∧ (u44_1.toInt = -1 → zEr m21_A_rC m21_A_rV (520 * tx.toInt.toNat) (m21_A_rD tx.toInt.toNat).toInt ((eTm (sB fB tsz.toInt) tsz.toInt oM (sAtm (sB fB tsz.toInt) tsz.toInt K) (eAtm (sB fB tsz.toInt) tsz.toInt K)) v39.toInt) u44_3 u44_4 (u44_5 tx.toInt.toNat).toInt) ∧ (zPar u44_1 u44_0 u44_3 u44_4 u44_5 tx gC gV fz ((k + 1)) st ((h + 1) + 1)) := hw
            have F44 := f44_9
            have F44_1 : zHid (u44_1.toInt = -1 → zEr m21_A_rC m21_A_rV (520 * tx.toInt.toNat) (m21_A_rD tx.toInt.toNat).toInt ((eTm (sB fB tsz.toInt) tsz.toInt oM (sAtm (sB fB tsz.toInt) tsz.toInt K) (eAtm (sB fB tsz.toInt) tsz.toInt K)) v39.toInt) u44_3 u44_4 (u44_5 tx.toInt.toNat).toInt) := f44_10
            clear f44_10
            refine lv_aload_n hx hb dX11_sum_47 rfl (lv_at hl 1 rfl) ?_
            refine lv_iload_n hx hb dX11_sum_48 rfl (lv_at hl 0 rfl) ?_
            refine lv_bipush (v := 43) hx hb dX11_sum_49 (by decide) ?_
            refine lv_icmp_ne (tgt := 58) hx hb dX11_sum_51 (by decide) (fun c51 => ?_) (fun c51 => by exfalso; have c51 : m21_L_1.toInt = 43 := z5 rfl (by decide) c51; omega)
            have c51 : ¬ m21_L_1.toInt = 43 := z6 rfl (by decide) c51
            refine lv_iconst (v := 3) hx hb dX11_sum_58 (by decide) ?_
            refine lv_iconst (v := 0) hx hb dX11_sum_59 (by decide) ?_
            obtain ⟨hPc, hDc, hFc⟩ := zc3 (wc := [(h0, .inr (11, [.int th, .ref tB, .int tsz, .int u44_0, .int u44_1, .int u44_2, .ref rC, .ref rV, .ref rD, .ref rK, .ref rT, .ref rS, .ref rU, .int lw, .int tx, .ref rL, .ref rX, .ref qR, .ref qB, .ref qP, .int qnb, .int qnp, .ref aR, .ref aB, .ref aP, .int nb, .int np, .ref aN, .ref rf, .int ho, .int br, .ref aK, .int ac, .long dw, .ref aE, .int sr, .int sf, .ref aA, .ref aH, .ref aI, .int hi])), (rC, .inl (cI, 2600, .inl u44_3)), (rV, .inl (cI, 2600, .inl u44_4)), (rD, .inl (cI, 5, .inl u44_5))]) hP hD hS hA [0, 2, 3, 4] (by decide +kernel) rfl
            refine va_callv (va_runV (As := [.int 3, .int 0]) (rest := []) ⟨hx, hb, hml, hown, hts⟩ (g_X11_put_op l dC dI cI cJ h0 3 0 th tB tsz u44_0 u44_1 u44_2 rC rV rD rK rT rS rU lw tx rL rX qR qB qP qnb qnp aR aB aP nb np aN rf ho br aK ac dw aE sr sf aA aH aI hi u44_3 u44_4 u44_5 gC gV fz k st h H.size n_ac n_hi n_ho n_lw n_nb n_np (by decide) n_qnb n_qnp (by omega) n_tsz n_tx ⟨f44_2, f44_3⟩ (by first | exact zPar_mono f44_11 (by omega) (by omega) (by omega) (by omega)) (by first | decide | omega)) (cwV 2 hts (zgV qw1332 qw1334 qw43 qw108 qw1335) rfl rfl rfl hd_X11_put ⟨by (try dsimp only) <;> omega, by (try dsimp only) <;> omega⟩) (zPV hPc hK hDc (va_recv (q := (RX11, TX11, 41)) hK hP (ci := 11) (q0 := 0) rfl rfl)) rfl rfl hl.1 rfl (lv_room (Nat.le_of_ble_eq_true rfl)) dX11_sum_60 ⟨Nat.zero_le _, Nat.zero_le _⟩) hS (fun q _ h => hFc q h) hFc (fun u60 t H locs ht hvm hw hB hz1 hk1 hS9 => ?_)
            obtain ⟨u60_0, u60_1, u60_2⟩ := u60
            obtain ⟨hP9, hD9⟩ := zj2 (wX := [(h0, .inr (11, [.int th, .ref tB, .int tsz, .int u44_0, .int u44_1, .int u44_2, .ref rC, .ref rV, .ref rD, .ref rK, .ref rT, .ref rS, .ref rU, .int lw, .int tx, .ref rL, .ref rX, .ref qR, .ref qB, .ref qP, .int qnb, .int qnp, .ref aR, .ref aB, .ref aP, .int nb, .int np, .ref aN, .ref rf, .int ho, .int br, .ref aK, .int ac, .long dw, .ref aE, .int sr, .int sf, .ref aA, .ref aH, .ref aI, .int hi])), (tB, .inl (cI, 240, .inl fB)), (rC, .inl (cI, 2600, .inl u60_0)), (rV, .inl (cI, 2600, .inl u60_1)), (rD, .inl (cI, 5, .inl u60_2))]) hP hD hk1 hFc ht hB [0, 2, 3, 4] [(true, 0), (false, 1), (true, 1), (true, 2), (true, 3)] rfl (by decide +kernel) (by decide +kernel) rfl
            clear hP hD hS hPc hDc hFc hB hk1 hz1 hvm
            have hP := hP9
            have hD := hD9
            have hS := hS9
            clear hP9 hD9 hS9
            have zn60_3 : (3 : Int32).toInt = 3 := by decide
            obtain ⟨f60_0, f60_1⟩ : (∀ x : Int, eRc x = (3 : Int32).toInt → ¬ x = 1 → ¬ x = 2 → zEr u44_3 u44_4 (520 * tx.toInt.toNat) (u44_5 tx.toInt.toNat).toInt ([(x, 0)]) u60_0 u60_1 (u60_2 tx.toInt.toNat).toInt) ∧ (zPar u44_1 u44_0 u60_0 u60_1 u60_2 tx gC gV fz (k) st (h + 1)) := hw
            have F60 := f60_0
            refine lv_aload_n hx hb dX11_sum_63 rfl (lv_at hl 1 rfl) ?_
            refine va_get (D := (dC, dI)) (ci := 11) (v := .int u44_1) (C := RX11) (T := TX11) (N := 41) hx hb hts iX11 hown hK hP 0 rfl rfl 4 (by decide) (hts _ qw1131) (fun _ h9 => h9) rfl dX11_sum_64 ?_
            refine lv_iconst (v := (-1)) hx hb dX11_sum_67 (by decide) ?_
            refine lv_icmp_ne (tgt := 78) hx hb dX11_sum_68 (by decide) (fun c68 => ?_) (fun c68 => ?_)
            · have c68 : ¬ u44_1.toInt = (-1) := z6 rfl (by decide) c68
              refine lv_iconst (v := (-1)) hx hb dX11_sum_78 (by decide) ?_
              refine lv_istore_n (lv' := [(1, .int (-1)), (0, .ref h0)]) hx hb dX11_sum_79 rfl hl (by decide) rfl (fun ls hl => ?_)
              refine lv_goto (tgt := 21) hx hb dX11_sum_80 (by decide) ?_
              have zj21_m21_L_1 : ((-1) : Int32).toInt = (-1) := by decide
              exact ih21 _ (by omega) u60_0 u60_2 u60_1 u44_0 u44_1 u44_2 (-1) ⟨f44_0, f44_1⟩ ⟨f44_2, f44_3⟩ ⟨f44_4, f44_5⟩ (by omega) (by omega) (by omega) (by omega) (by first | exact zlpS jv21_0 (oP_iff.mpr (by omega)) (by decide) i39 F44 (by omega) (sTm_mono (sAtm_mono (sB fB tsz.toInt) tsz.toInt K)) F72 | exact zlpB jv21_0 (oP_iff.mpr (by omega)) (by decide) i39 F44 (by omega)) (by first | exact zTe_w (by omega) | exact zTe_s jv21_1 jv21_0 (oP_iff.mpr (by omega)) (by decide) i39 F44 (sTm_mono (sAtm_mono (sB fB tsz.toInt) tsz.toInt K)) F44_1 (F60 m21_L_1.toInt (by first | (rw [show m21_L_1.toInt = 43 by omega]; decide) | (rw [show m21_L_1.toInt = 45 by omega]; decide)) (by omega) (by omega)) (by have := hpar.2.2.1; omega) (by have := jv21_2.2.2.1; omega) F72) (by first | exact zPar_bad f60_1 (by omega) (by omega) (by omega)) rfl H locs ls hP hD hS (lv_sub hl [0, 1] rfl)
            · have c68 : u44_1.toInt = (-1) := z5 rfl (by decide) c68
              refine lv_aload_n hx hb dX11_sum_71 rfl (lv_at hl 1 rfl) ?_
              obtain ⟨hPc, hDc, hFc⟩ := zc3 (wc := [(h0, .inr (11, [.int th, .ref tB, .int tsz, .int u44_0, .int u44_1, .int u44_2, .ref rC, .ref rV, .ref rD, .ref rK, .ref rT, .ref rS, .ref rU, .int lw, .int tx, .ref rL, .ref rX, .ref qR, .ref qB, .ref qP, .int qnb, .int qnp, .ref aR, .ref aB, .ref aP, .int nb, .int np, .ref aN, .ref rf, .int ho, .int br, .ref aK, .int ac, .long dw, .ref aE, .int sr, .int sf, .ref aA, .ref aH, .ref aI, .int hi])), (tB, .inl (cI, 240, .inl fB))]) hP hD hS hA [0, 1] (by decide +kernel) rfl
              refine va_calli (va_runV (As := []) (rest := []) ⟨hx, hb, hml, hown, hts⟩ (g_X11_look_t l dC dI cI cJ h0 th tB tsz u44_0 u44_1 u44_2 rC rV rD rK rT rS rU lw tx rL rX qR qB qP qnb qnp aR aB aP nb np aN rf ho br aK ac dw aE sr sf aA aH aI hi fB H.size n_ac n_hi n_ho n_lw n_nb n_np n_qnb n_qnp (by omega) n_tsz ⟨f44_2, f44_3⟩) (cwV 0 hts (zgV qw1273 qw1275 qw32 qw108 qw1276) rfl rfl rfl hd_X11_look ⟨by (try dsimp only) <;> omega, by (try dsimp only) <;> omega⟩) (zPV hPc hK hDc (va_recv (q := (RX11, TX11, 41)) hK hP (ci := 11) (q0 := 0) rfl rfl)) rfl rfl hl.1 rfl (lv_room (Nat.le_of_ble_eq_true rfl)) dX11_sum_72 ⟨Nat.zero_le _, Nat.zero_le _⟩) hS (fun q _ h => hFc q h) hFc (fun v72 u72 t H locs ht hvm hw hB hz1 hk1 hS9 => ?_)
              obtain ⟨u72_0, rfl⟩ : ∃ z, z = u72 := ⟨_, rfl⟩
              obtain ⟨hP9, hD9⟩ := zj2 (wX := [(h0, .inr (11, [.int th, .ref tB, .int tsz, .int u72_0, .int u44_1, .int u44_2, .ref rC, .ref rV, .ref rD, .ref rK, .ref rT, .ref rS, .ref rU, .int lw, .int tx, .ref rL, .ref rX, .ref qR, .ref qB, .ref qP, .int qnb, .int qnp, .ref aR, .ref aB, .ref aP, .int nb, .int np, .ref aN, .ref rf, .int ho, .int br, .ref aK, .int ac, .long dw, .ref aE, .int sr, .int sf, .ref aA, .ref aH, .ref aI, .int hi])), (tB, .inl (cI, 240, .inl fB)), (rC, .inl (cI, 2600, .inl u60_0)), (rV, .inl (cI, 2600, .inl u60_1)), (rD, .inl (cI, 5, .inl u60_2))]) hP hD hk1 hFc ht hB [0, 1] [(true, 0), (true, 1), (false, 2), (false, 3), (false, 4)] rfl (by decide +kernel) (by decide +kernel) rfl
              clear hP hD hS hPc hDc hFc hB hk1 hz1 hvm
              have hP := hP9
              have hD := hD9
              have hS := hS9
              clear hP9 hD9 hS9
              obtain ⟨f72_0, f72_1, f72_2, f72_3, f72_4, f72_5⟩ : (0 ≤ u72_0.toInt) ∧ (u72_0.toInt ≤ 240) ∧ (¬ v72.toInt = -1 → u72_0.toInt < tsz.toInt) ∧ (u44_0.toInt ≤ u72_0.toInt) ∧ (u72_0.toInt ≤ tsz.toInt ∨ u72_0.toInt = u44_0.toInt) ∧ (zLk fB tsz u44_0 v72 u72_0) := hw
              have F72 := f72_5
              refine lv_goto (tgt := 79) hx hb dX11_sum_75 (by decide) ?_
              refine lv_istore_n (lv' := [(1, .int v72), (0, .ref h0)]) hx hb dX11_sum_79 rfl hl (by decide) rfl (fun ls hl => ?_)
              refine lv_goto (tgt := 21) hx hb dX11_sum_80 (by decide) ?_
              exact ih21 _ (by omega) u60_0 u60_2 u60_1 u72_0 u44_1 u44_2 v72 (by omega) ⟨f44_2, f44_3⟩ ⟨f44_4, f44_5⟩ (by omega) (by omega) (by omega) (by omega) (by first | exact zlpS jv21_0 (oP_iff.mpr (by omega)) (by decide) i39 F44 (by omega) (sTm_mono (sAtm_mono (sB fB tsz.toInt) tsz.toInt K)) F72 | exact zlpB jv21_0 (oP_iff.mpr (by omega)) (by decide) i39 F44 (by omega)) (by first | exact zTe_w (by omega) | exact zTe_s jv21_1 jv21_0 (oP_iff.mpr (by omega)) (by decide) i39 F44 (sTm_mono (sAtm_mono (sB fB tsz.toInt) tsz.toInt K)) F44_1 (F60 m21_L_1.toInt (by first | (rw [show m21_L_1.toInt = 43 by omega]; decide) | (rw [show m21_L_1.toInt = 45 by omega]; decide)) (by omega) (by omega)) (by have := hpar.2.2.1; omega) (by have := jv21_2.2.2.1; omega) F72) (by first | exact zPar_mono f60_1 (by omega) (by omega) (by omega) (by omega)) rfl H locs ls hP hD hS (lv_sub hl [0, 1] rfl)
    refine lv_istore_n (lv' := [(1, .int (-1)), (0, .ref h0)]) hx hb dX11_sum_20 rfl hl (by decide) rfl (fun ls hl => ?_)
    have zj21_m21_L_1 : ((-1) : Int32).toInt = (-1) := by decide
    exact J21 _ u1_3 u1_5 u1_4 u1_0 u1_1 u1_2 (-1) ⟨f1_0, f1_1⟩ ⟨f1_2, f1_3⟩ ⟨f1_4, f1_5⟩ (by omega) (by omega) (by omega) (by omega) (by first | exact zlp0 (sSum_two _ _ _ _) F1 (by omega) F13 | exact zlp1 (sSum_two _ _ _ _) F1 (by omega)) (by first | exact zTe_b rfl F1 F1_1 F13 | exact zTe_w (by omega)) (by first | exact zPar_bad f1_11 (by omega) (by omega) (by omega)) rfl H locs ls hP hD hS (lv_sub hl [0, 1] rfl)
  · have c9 : u1_1.toInt = (-1) := z5 rfl (by decide) c9
    refine lv_aload_n hx hb dX11_sum_12 rfl (lv_at hl 0 rfl) ?_
    obtain ⟨hPc, hDc, hFc⟩ := zc3 (wc := [(h0, .inr (11, [.int th, .ref tB, .int tsz, .int u1_0, .int u1_1, .int u1_2, .ref rC, .ref rV, .ref rD, .ref rK, .ref rT, .ref rS, .ref rU, .int lw, .int tx, .ref rL, .ref rX, .ref qR, .ref qB, .ref qP, .int qnb, .int qnp, .ref aR, .ref aB, .ref aP, .int nb, .int np, .ref aN, .ref rf, .int ho, .int br, .ref aK, .int ac, .long dw, .ref aE, .int sr, .int sf, .ref aA, .ref aH, .ref aI, .int hi])), (tB, .inl (cI, 240, .inl fB))]) hP hD hS hA [0, 1] (by decide +kernel) rfl
    refine va_calli (va_runV (As := []) (rest := []) ⟨hx, hb, hml, hown, hts⟩ (g_X11_look_t l dC dI cI cJ h0 th tB tsz u1_0 u1_1 u1_2 rC rV rD rK rT rS rU lw tx rL rX qR qB qP qnb qnp aR aB aP nb np aN rf ho br aK ac dw aE sr sf aA aH aI hi fB H.size n_ac n_hi n_ho n_lw n_nb n_np n_qnb n_qnp (by omega) n_tsz ⟨f1_2, f1_3⟩) (cwV 0 hts (zgV qw1273 qw1275 qw32 qw108 qw1276) rfl rfl rfl hd_X11_look ⟨by (try dsimp only) <;> omega, by (try dsimp only) <;> omega⟩) (zPV hPc hK hDc (va_recv (q := (RX11, TX11, 41)) hK hP (ci := 11) (q0 := 0) rfl rfl)) rfl rfl hl.1 rfl (lv_room (Nat.le_of_ble_eq_true rfl)) dX11_sum_13 ⟨Nat.zero_le _, Nat.zero_le _⟩) hS (fun q _ h => hFc q h) hFc (fun v13 u13 t H locs ht hvm hw hB hz1 hk1 hS9 => ?_)
    obtain ⟨u13_0, rfl⟩ : ∃ z, z = u13 := ⟨_, rfl⟩
    obtain ⟨hP9, hD9⟩ := zj2 (wX := [(h0, .inr (11, [.int th, .ref tB, .int tsz, .int u13_0, .int u1_1, .int u1_2, .ref rC, .ref rV, .ref rD, .ref rK, .ref rT, .ref rS, .ref rU, .int lw, .int tx, .ref rL, .ref rX, .ref qR, .ref qB, .ref qP, .int qnb, .int qnp, .ref aR, .ref aB, .ref aP, .int nb, .int np, .ref aN, .ref rf, .int ho, .int br, .ref aK, .int ac, .long dw, .ref aE, .int sr, .int sf, .ref aA, .ref aH, .ref aI, .int hi])), (tB, .inl (cI, 240, .inl fB)), (rC, .inl (cI, 2600, .inl u1_3)), (rV, .inl (cI, 2600, .inl u1_4)), (rD, .inl (cI, 5, .inl u1_5))]) hP hD hk1 hFc ht hB [0, 1] [(true, 0), (true, 1), (false, 2), (false, 3), (false, 4)] rfl (by decide +kernel) (by decide +kernel) rfl
    clear hP hD hS hPc hDc hFc hB hk1 hz1 hvm
    have hP := hP9
    have hD := hD9
    have hS := hS9
    clear hP9 hD9 hS9
    obtain ⟨f13_0, f13_1, f13_2, f13_3, f13_4, f13_5⟩ : (0 ≤ u13_0.toInt) ∧ (u13_0.toInt ≤ 240) ∧ (¬ v13.toInt = -1 → u13_0.toInt < tsz.toInt) ∧ (u1_0.toInt ≤ u13_0.toInt) ∧ (u13_0.toInt ≤ tsz.toInt ∨ u13_0.toInt = u1_0.toInt) ∧ (zLk fB tsz u1_0 v13 u13_0) := hw
    have F13 := f13_5
    refine lv_goto (tgt := 20) hx hb dX11_sum_16 (by decide) ?_
    have J21 : ∀ (n : Nat) (m21_A_rC : Nat → Int32) (m21_A_rD : Nat → Int32) (m21_A_rV : Nat → Int32) (m21_F_h0_3 : Int32) (m21_F_h0_4 : Int32) (m21_F_h0_5 : Int32) (m21_L_1 : Int32), (0 ≤ m21_F_h0_3.toInt ∧ m21_F_h0_3.toInt ≤ 246) → ((-1) ≤ m21_F_h0_4.toInt ∧ m21_F_h0_4.toInt ≤ 260) → (0 ≤ m21_F_h0_5.toInt ∧ m21_F_h0_5.toInt ≤ 7) → (¬ m21_L_1.toInt = -1 → (m21_F_h0_4.toInt = -1 ∧ m21_F_h0_3.toInt < tsz.toInt ∧ m21_F_h0_5.toInt = 6 - ((K : Nat) : Int))) → (m21_F_h0_4.toInt = -1 → (m21_F_h0_3.toInt ≤ tsz.toInt ∧ m21_F_h0_5.toInt = 6 - ((K : Nat) : Int))) → (tat.toInt ≤ m21_F_h0_3.toInt) → (m21_F_h0_3.toInt ≤ 240 + ((K : Nat) : Int) ∧ 6 - ((K : Nat) : Int) ≤ m21_F_h0_5.toInt ∧ m21_F_h0_5.toInt ≤ 7 - ((K : Nat) : Int)) → (zLp fB tsz (sSum (sB fB tsz.toInt) tsz.toInt K tat.toInt) oP (sTm (sB fB tsz.toInt) tsz.toInt oM (sAtm (sB fB tsz.toInt) tsz.toInt K)) m21_F_h0_4 m21_F_h0_3 m21_L_1) → (zTe fB tsz oP (sTm (sB fB tsz.toInt) tsz.toInt oM (sAtm (sB fB tsz.toInt) tsz.toInt K)) (eTm (sB fB tsz.toInt) tsz.toInt oM (sAtm (sB fB tsz.toInt) tsz.toInt K) (eAtm (sB fB tsz.toInt) tsz.toInt K)) (eTm (sB fB tsz.toInt) tsz.toInt oP (sTm (sB fB tsz.toInt) tsz.toInt oM (sAtm (sB fB tsz.toInt) tsz.toInt K)) (eTm (sB fB tsz.toInt) tsz.toInt oM (sAtm (sB fB tsz.toInt) tsz.toInt K) (eAtm (sB fB tsz.toInt) tsz.toInt K)) tat.toInt) fC fV (520 * tx.toInt.toNat) (fD tx.toInt.toNat).toInt m21_A_rC m21_A_rV (m21_A_rD tx.toInt.toNat).toInt m21_F_h0_4 m21_F_h0_3) → (zPar m21_F_h0_4 m21_F_h0_3 m21_A_rC m21_A_rV m21_A_rD tx gC gV fz (k) st (h + 1)) → (300 - m21_F_h0_3.toInt).toNat = n → ∀ (H : Heap) (locs : List Loc) (ls : Array Slot), va_P (dC, dI) vwCl [(h0, .inr (11, [.int th, .ref tB, .int tsz, .int m21_F_h0_3, .int m21_F_h0_4, .int m21_F_h0_5, .ref rC, .ref rV, .ref rD, .ref rK, .ref rT, .ref rS, .ref rU, .int lw, .int tx, .ref rL, .ref rX, .ref qR, .ref qB, .ref qP, .int qnb, .int qnp, .ref aR, .ref aB, .ref aP, .int nb, .int np, .ref aN, .ref rf, .int ho, .int br, .ref aK, .int ac, .long dw, .ref aE, .int sr, .int sf, .ref aA, .ref aH, .ref aI, .int hi])), (tB, .inl (cI, 240, .inl fB)), (rC, .inl (cI, 2600, .inl m21_A_rC)), (rV, .inl (cI, 2600, .inl m21_A_rV)), (rD, .inl (cI, 5, .inl m21_A_rD))] H → va_D A [(h0, .inr (11, [.int th, .ref tB, .int tsz, .int m21_F_h0_3, .int m21_F_h0_4, .int m21_F_h0_5, .ref rC, .ref rV, .ref rD, .ref rK, .ref rT, .ref rS, .ref rU, .int lw, .int tx, .ref rL, .ref rX, .ref qR, .ref qB, .ref qP, .int qnb, .int qnp, .ref aR, .ref aB, .ref aP, .int nb, .int np, .ref aN, .ref rf, .int ho, .int br, .ref aK, .int ac, .long dw, .ref aE, .int sr, .int sf, .ref aA, .ref aH, .ref aI, .int hi])), (tB, .inl (cI, 240, .inl fB)), (rC, .inl (cI, 2600, .inl m21_A_rC)), (rV, .inl (cI, 2600, .inl m21_A_rV)), (rD, .inl (cI, 5, .inl m21_A_rD))] → va_S A s.heap H locs → lv_has ls 2 [(1, .int m21_L_1), (0, .ref h0)] → W p l e R s m args below meth c H locs 0 0 Q (F0 m 21 ls []) := by
      intro n21
      induction n21 using Nat.strongRecOn with
      | _ n21 ih21 =>
        intro m21_A_rC m21_A_rD m21_A_rV m21_F_h0_3 m21_F_h0_4 m21_F_h0_5 m21_L_1 jf21_0 jf21_1 jf21_2 jf21_3 jf21_4 jf21_5 jf21_6 jv21_0 jv21_1 jv21_2 hmu21 H locs ls hP hD hS hl
        refine lv_iload_n hx hb dX11_sum_21 rfl (lv_at hl 0 rfl) ?_
        refine lv_bipush (v := 43) hx hb dX11_sum_22 (by decide) ?_
        refine lv_icmp_eq (tgt := 33) hx hb dX11_sum_24 (by decide) (fun c24 => ?_) (fun c24 => ?_)
        · have c24 : m21_L_1.toInt = 43 := z5 rfl (by decide) c24
          refine lv_aload_n hx hb dX11_sum_33 rfl (lv_at hl 1 rfl) ?_
          refine lv_dup hx hb dX11_sum_34 rfl ?_
          refine va_get (D := (dC, dI)) (ci := 11) (v := .int m21_F_h0_3) (C := RX11) (T := TX11) (N := 41) hx hb hts iX11 hown hK hP 0 rfl rfl 3 (by decide) (hts _ qw1130) (fun _ h9 => h9) rfl dX11_sum_35 ?_
          refine lv_iconst (v := 1) hx hb dX11_sum_38 (by decide) ?_
          refine lv_iadd hx hb dX11_sum_39 ?_
          refine lv_topi (fun v39 e39 => ?_)
          have i39 : v39.toInt = m21_F_h0_3.toInt + 1 := zadd e39 rfl (by decide) (by omega) (by omega)
          refine va_put (D := (dC, dI)) (ci := 11) (v := .int v39) (ty := .int) (C := RX11) (T := TX11) (N := 41) hx hb hts iX11 tyX11 tyX11_ok nmX11 hown hK hP hD hS 0 rfl rfl 3 (by decide) (hts _ qw1130) (fun _ h9 => h9) rfl (by decide +kernel) rfl rfl (Nat.le_of_ble_eq_true rfl) dX11_sum_40 (fun H locs hP9 hD9 hS9 => ?_)
          clear hP hD hS
          obtain ⟨hP, hD⟩ := zst (wX := [(h0, .inr (11, [.int th, .ref tB, .int tsz, .int v39, .int m21_F_h0_4, .int m21_F_h0_5, .ref rC, .ref rV, .ref rD, .ref rK, .ref rT, .ref rS, .ref rU, .int lw, .int tx, .ref rL, .ref rX, .ref qR, .ref qB, .ref qP, .int qnb, .int qnp, .ref aR, .ref aB, .ref aP, .int nb, .int np, .ref aN, .ref rf, .int ho, .int br, .ref aK, .int ac, .long dw, .ref aE, .int sr, .int sf, .ref aA, .ref aH, .ref aI, .int hi])), (tB, .inl (cI, 240, .inl fB)), (rC, .inl (cI, 2600, .inl m21_A_rC)), (rV, .inl (cI, 2600, .inl m21_A_rV)), (rD, .inl (cI, 5, .inl m21_A_rD))]) hP9 hD9 rfl
          have hS := hS9
          clear hP9 hD9 hS9
          refine lv_aload_n hx hb dX11_sum_43 rfl (lv_at hl 1 rfl) ?_
          have zx_m21_F_h0_4 : ((-1) : Int32).toInt = (-1) := by decide
          have zy_m21_F_h0_4 : m21_F_h0_4 = (-1) := z7 (a := (-1)) (by decide) (by omega)
          rw [zy_m21_F_h0_4] at hP hD
          obtain ⟨hPc, hDc, hFc⟩ := zc3 (wc := [(h0, .inr (11, [.int th, .ref tB, .int tsz, .int v39, .int (-1), .int m21_F_h0_5, .ref rC, .ref rV, .ref rD, .ref rK, .ref rT, .ref rS, .ref rU, .int lw, .int tx, .ref rL, .ref rX, .ref qR, .ref qB, .ref qP, .int qnb, .int qnp, .ref aR, .ref aB, .ref aP, .int nb, .int np, .ref aN, .ref rf, .int ho, .int br, .ref aK, .int ac, .long dw, .ref aE, .int sr, .int sf, .ref aA, .ref aH, .ref aI, .int hi])), (tB, .inl (cI, 240, .inl fB)), (rC, .inl (cI, 2600, .inl m21_A_rC)), (rV, .inl (cI, 2600, .inl m21_A_rV)), (rD, .inl (cI, 5, .inl m21_A_rD))]) hP hD hS hA [0, 1, 2, 3, 4] (by decide +kernel) rfl
          refine va_callv (va_runV (As := []) (rest := []) ⟨hx, hb, hml, hown, hts⟩ (ihT dC dI cI cJ h0 th tB tsz v39 m21_F_h0_5 rC rV rD rK rT rS rU lw tx rL rX qR qB qP qnb qnp aR aB aP nb np aN rf ho br aK ac dw aE sr sf aA aH aI hi fB m21_A_rC m21_A_rV m21_A_rD gC gV fz (k + 1) st (h + 1) H.size n_ac (by omega) n_hi n_ho n_lw n_nb n_np n_qnb n_qnp (by omega) n_tsz n_tx (by first | exact zPar_mono jv21_2 (by omega) (by omega) (by omega) (by omega)) (by first | decide | omega) (by first | decide | omega) (by first | decide | omega) (by first | decide | omega)) (cwV 0 hts (zgV qw1344 qw1346 qw46 qw108 qw1347) rfl rfl rfl hd_X11_term ⟨by (try dsimp only) <;> omega, by (try dsimp only) <;> omega⟩) (zPV hPc hK hDc (va_recv (q := (RX11, TX11, 41)) hK hP (ci := 11) (q0 := 0) rfl rfl)) rfl rfl hl.1 rfl (lv_room (Nat.le_of_ble_eq_true rfl)) dX11_sum_44 ⟨Nat.zero_le _, Nat.zero_le _⟩) hS (fun q _ h => hFc q h) hFc (fun u44 t H locs ht hvm hw hB hz1 hk1 hS9 => ?_)
          obtain ⟨u44_0, u44_1, u44_2, u44_3, u44_4, u44_5⟩ := u44
          obtain ⟨hP9, hD9⟩ := zj2 (wX := [(h0, .inr (11, [.int th, .ref tB, .int tsz, .int u44_0, .int u44_1, .int u44_2, .ref rC, .ref rV, .ref rD, .ref rK, .ref rT, .ref rS, .ref rU, .int lw, .int tx, .ref rL, .ref rX, .ref qR, .ref qB, .ref qP, .int qnb, .int qnp, .ref aR, .ref aB, .ref aP, .int nb, .int np, .ref aN, .ref rf, .int ho, .int br, .ref aK, .int ac, .long dw, .ref aE, .int sr, .int sf, .ref aA, .ref aH, .ref aI, .int hi])), (tB, .inl (cI, 240, .inl fB)), (rC, .inl (cI, 2600, .inl u44_3)), (rV, .inl (cI, 2600, .inl u44_4)), (rD, .inl (cI, 5, .inl u44_5))]) hP hD hk1 hFc ht hB [0, 1, 2, 3, 4] [(true, 0), (true, 1), (true, 2), (true, 3), (true, 4)] rfl (by decide +kernel) (by decide +kernel) rfl
          clear hP hD hS hPc hDc hFc hB hk1 hz1 hvm
          have hP := hP9
          have hD := hD9
          have hS := hS9
          clear hP9 hD9 hS9
          obtain ⟨f44_0, f44_1, f44_2, f44_3, f44_4, f44_5, f44_6, f44_7, f44_8, f44_9, f44_10, f44_11⟩ : (0 ≤ u44_0.toInt) ∧ (u44_0.toInt ≤ 246) ∧ ((-1) ≤ u44_1.toInt) ∧ (u44_1.toInt ≤ 260) ∧ (0 ≤ u44_2.toInt) ∧ (u44_2.toInt ≤ 7) ∧ (u44_1.toInt = -1 → (u44_0.toInt ≤ tsz.toInt ∧ u44_2.toInt = 6 - ((K : Nat) : Int))) ∧ (v39.toInt ≤ u44_0.toInt) ∧ (u44_0.toInt ≤ 240 + ((K : Nat) : Int) ∧ 6 - ((K : Nat) : Int) ≤ u44_2.toInt ∧ u44_2.toInt ≤ 7 - ((K : Nat) : Int)) ∧ (zW (sTm (sB fB tsz.toInt) tsz.toInt oM (sAtm (sB fB tsz.toInt) tsz.toInt K) v39.toInt) u44_1 u44_0) ∧ (u44_1.toInt = -1 → zEr m21_A_rC m21_A_rV (520 * tx.toInt.toNat) (m21_A_rD tx.toInt.toNat).toInt ((eTm (sB fB tsz.toInt) tsz.toInt oM (sAtm (sB fB tsz.toInt) tsz.toInt K) (eAtm (sB fB tsz.toInt) tsz.toInt K)) v39.toInt) u44_3 u44_4 (u44_5 tx.toInt.toNat).toInt) ∧ (zPar u44_1 u44_0 u44_3 u44_4 u44_5 tx gC gV fz ((k + 1)) st ((h + 1) + 1)) := hw
          have F44 := f44_9
          have F44_1 : zHid (u44_1.toInt = -1 → zEr m21_A_rC m21_A_rV (520 * tx.toInt.toNat) (m21_A_rD tx.toInt.toNat).toInt ((eTm (sB fB tsz.toInt) tsz.toInt oM (sAtm (sB fB tsz.toInt) tsz.toInt K) (eAtm (sB fB tsz.toInt) tsz.toInt K)) v39.toInt) u44_3 u44_4 (u44_5 tx.toInt.toNat).toInt) := f44_10
          clear f44_10
          refine lv_aload_n hx hb dX11_sum_47 rfl (lv_at hl 1 rfl) ?_
          refine lv_iload_n hx hb dX11_sum_48 rfl (lv_at hl 0 rfl) ?_
          refine lv_bipush (v := 43) hx hb dX11_sum_49 (by decide) ?_
          refine lv_icmp_ne (tgt := 58) hx hb dX11_sum_51 (by decide) (fun c51 => by exfalso; have c51 : ¬ m21_L_1.toInt = 43 := z6 rfl (by decide) c51; omega) (fun c51 => ?_)
          have c51 : m21_L_1.toInt = 43 := z5 rfl (by decide) c51
          refine lv_iconst (v := 2) hx hb dX11_sum_54 (by decide) ?_
          refine lv_goto (tgt := 59) hx hb dX11_sum_55 (by decide) ?_
          refine lv_iconst (v := 0) hx hb dX11_sum_59 (by decide) ?_
          obtain ⟨hPc, hDc, hFc⟩ := zc3 (wc := [(h0, .inr (11, [.int th, .ref tB, .int tsz, .int u44_0, .int u44_1, .int u44_2, .ref rC, .ref rV, .ref rD, .ref rK, .ref rT, .ref rS, .ref rU, .int lw, .int tx, .ref rL, .ref rX, .ref qR, .ref qB, .ref qP, .int qnb, .int qnp, .ref aR, .ref aB, .ref aP, .int nb, .int np, .ref aN, .ref rf, .int ho, .int br, .ref aK, .int ac, .long dw, .ref aE, .int sr, .int sf, .ref aA, .ref aH, .ref aI, .int hi])), (rC, .inl (cI, 2600, .inl u44_3)), (rV, .inl (cI, 2600, .inl u44_4)), (rD, .inl (cI, 5, .inl u44_5))]) hP hD hS hA [0, 2, 3, 4] (by decide +kernel) rfl
          refine va_callv (va_runV (As := [.int 2, .int 0]) (rest := []) ⟨hx, hb, hml, hown, hts⟩ (g_X11_put_op l dC dI cI cJ h0 2 0 th tB tsz u44_0 u44_1 u44_2 rC rV rD rK rT rS rU lw tx rL rX qR qB qP qnb qnp aR aB aP nb np aN rf ho br aK ac dw aE sr sf aA aH aI hi u44_3 u44_4 u44_5 gC gV fz k st h H.size n_ac n_hi n_ho n_lw n_nb n_np (by decide) n_qnb n_qnp (by omega) n_tsz n_tx ⟨f44_2, f44_3⟩ (by first | exact zPar_mono f44_11 (by omega) (by omega) (by omega) (by omega)) (by first | decide | omega)) (cwV 2 hts (zgV qw1332 qw1334 qw43 qw108 qw1335) rfl rfl rfl hd_X11_put ⟨by (try dsimp only) <;> omega, by (try dsimp only) <;> omega⟩) (zPV hPc hK hDc (va_recv (q := (RX11, TX11, 41)) hK hP (ci := 11) (q0 := 0) rfl rfl)) rfl rfl hl.1 rfl (lv_room (Nat.le_of_ble_eq_true rfl)) dX11_sum_60 ⟨Nat.zero_le _, Nat.zero_le _⟩) hS (fun q _ h => hFc q h) hFc (fun u60 t H locs ht hvm hw hB hz1 hk1 hS9 => ?_)
          obtain ⟨u60_0, u60_1, u60_2⟩ := u60
          obtain ⟨hP9, hD9⟩ := zj2 (wX := [(h0, .inr (11, [.int th, .ref tB, .int tsz, .int u44_0, .int u44_1, .int u44_2, .ref rC, .ref rV, .ref rD, .ref rK, .ref rT, .ref rS, .ref rU, .int lw, .int tx, .ref rL, .ref rX, .ref qR, .ref qB, .ref qP, .int qnb, .int qnp, .ref aR, .ref aB, .ref aP, .int nb, .int np, .ref aN, .ref rf, .int ho, .int br, .ref aK, .int ac, .long dw, .ref aE, .int sr, .int sf, .ref aA, .ref aH, .ref aI, .int hi])), (tB, .inl (cI, 240, .inl fB)), (rC, .inl (cI, 2600, .inl u60_0)), (rV, .inl (cI, 2600, .inl u60_1)), (rD, .inl (cI, 5, .inl u60_2))]) hP hD hk1 hFc ht hB [0, 2, 3, 4] [(true, 0), (false, 1), (true, 1), (true, 2), (true, 3)] rfl (by decide +kernel) (by decide +kernel) rfl
          clear hP hD hS hPc hDc hFc hB hk1 hz1 hvm
          have hP := hP9
          have hD := hD9
          have hS := hS9
          clear hP9 hD9 hS9
          have zn60_2 : (2 : Int32).toInt = 2 := by decide
          obtain ⟨f60_0, f60_1⟩ : (∀ x : Int, eRc x = (2 : Int32).toInt → ¬ x = 1 → ¬ x = 2 → zEr u44_3 u44_4 (520 * tx.toInt.toNat) (u44_5 tx.toInt.toNat).toInt ([(x, 0)]) u60_0 u60_1 (u60_2 tx.toInt.toNat).toInt) ∧ (zPar u44_1 u44_0 u60_0 u60_1 u60_2 tx gC gV fz (k) st (h + 1)) := hw
          have F60 := f60_0
          refine lv_aload_n hx hb dX11_sum_63 rfl (lv_at hl 1 rfl) ?_
          refine va_get (D := (dC, dI)) (ci := 11) (v := .int u44_1) (C := RX11) (T := TX11) (N := 41) hx hb hts iX11 hown hK hP 0 rfl rfl 4 (by decide) (hts _ qw1131) (fun _ h9 => h9) rfl dX11_sum_64 ?_
          refine lv_iconst (v := (-1)) hx hb dX11_sum_67 (by decide) ?_
          refine lv_icmp_ne (tgt := 78) hx hb dX11_sum_68 (by decide) (fun c68 => ?_) (fun c68 => ?_)
          · have c68 : ¬ u44_1.toInt = (-1) := z6 rfl (by decide) c68
            refine lv_iconst (v := (-1)) hx hb dX11_sum_78 (by decide) ?_
            refine lv_istore_n (lv' := [(1, .int (-1)), (0, .ref h0)]) hx hb dX11_sum_79 rfl hl (by decide) rfl (fun ls hl => ?_)
            refine lv_goto (tgt := 21) hx hb dX11_sum_80 (by decide) ?_
            have zj21_m21_L_1 : ((-1) : Int32).toInt = (-1) := by decide
            exact ih21 _ (by omega) u60_0 u60_2 u60_1 u44_0 u44_1 u44_2 (-1) ⟨f44_0, f44_1⟩ ⟨f44_2, f44_3⟩ ⟨f44_4, f44_5⟩ (by omega) (by omega) (by omega) (by omega) (by first | exact zlpS jv21_0 (oP_iff.mpr (by omega)) (by decide) i39 F44 (by omega) (sTm_mono (sAtm_mono (sB fB tsz.toInt) tsz.toInt K)) F72 | exact zlpB jv21_0 (oP_iff.mpr (by omega)) (by decide) i39 F44 (by omega)) (by first | exact zTe_w (by omega) | exact zTe_s jv21_1 jv21_0 (oP_iff.mpr (by omega)) (by decide) i39 F44 (sTm_mono (sAtm_mono (sB fB tsz.toInt) tsz.toInt K)) F44_1 (F60 m21_L_1.toInt (by first | (rw [show m21_L_1.toInt = 43 by omega]; decide) | (rw [show m21_L_1.toInt = 45 by omega]; decide)) (by omega) (by omega)) (by have := hpar.2.2.1; omega) (by have := jv21_2.2.2.1; omega) F72) (by first | exact zPar_bad f60_1 (by omega) (by omega) (by omega)) rfl H locs ls hP hD hS (lv_sub hl [0, 1] rfl)
          · have c68 : u44_1.toInt = (-1) := z5 rfl (by decide) c68
            refine lv_aload_n hx hb dX11_sum_71 rfl (lv_at hl 1 rfl) ?_
            obtain ⟨hPc, hDc, hFc⟩ := zc3 (wc := [(h0, .inr (11, [.int th, .ref tB, .int tsz, .int u44_0, .int u44_1, .int u44_2, .ref rC, .ref rV, .ref rD, .ref rK, .ref rT, .ref rS, .ref rU, .int lw, .int tx, .ref rL, .ref rX, .ref qR, .ref qB, .ref qP, .int qnb, .int qnp, .ref aR, .ref aB, .ref aP, .int nb, .int np, .ref aN, .ref rf, .int ho, .int br, .ref aK, .int ac, .long dw, .ref aE, .int sr, .int sf, .ref aA, .ref aH, .ref aI, .int hi])), (tB, .inl (cI, 240, .inl fB))]) hP hD hS hA [0, 1] (by decide +kernel) rfl
            refine va_calli (va_runV (As := []) (rest := []) ⟨hx, hb, hml, hown, hts⟩ (g_X11_look_t l dC dI cI cJ h0 th tB tsz u44_0 u44_1 u44_2 rC rV rD rK rT rS rU lw tx rL rX qR qB qP qnb qnp aR aB aP nb np aN rf ho br aK ac dw aE sr sf aA aH aI hi fB H.size n_ac n_hi n_ho n_lw n_nb n_np n_qnb n_qnp (by omega) n_tsz ⟨f44_2, f44_3⟩) (cwV 0 hts (zgV qw1273 qw1275 qw32 qw108 qw1276) rfl rfl rfl hd_X11_look ⟨by (try dsimp only) <;> omega, by (try dsimp only) <;> omega⟩) (zPV hPc hK hDc (va_recv (q := (RX11, TX11, 41)) hK hP (ci := 11) (q0 := 0) rfl rfl)) rfl rfl hl.1 rfl (lv_room (Nat.le_of_ble_eq_true rfl)) dX11_sum_72 ⟨Nat.zero_le _, Nat.zero_le _⟩) hS (fun q _ h => hFc q h) hFc (fun v72 u72 t H locs ht hvm hw hB hz1 hk1 hS9 => ?_)
            obtain ⟨u72_0, rfl⟩ : ∃ z, z = u72 := ⟨_, rfl⟩
            obtain ⟨hP9, hD9⟩ := zj2 (wX := [(h0, .inr (11, [.int th, .ref tB, .int tsz, .int u72_0, .int u44_1, .int u44_2, .ref rC, .ref rV, .ref rD, .ref rK, .ref rT, .ref rS, .ref rU, .int lw, .int tx, .ref rL, .ref rX, .ref qR, .ref qB, .ref qP, .int qnb, .int qnp, .ref aR, .ref aB, .ref aP, .int nb, .int np, .ref aN, .ref rf, .int ho, .int br, .ref aK, .int ac, .long dw, .ref aE, .int sr, .int sf, .ref aA, .ref aH, .ref aI, .int hi])), (tB, .inl (cI, 240, .inl fB)), (rC, .inl (cI, 2600, .inl u60_0)), (rV, .inl (cI, 2600, .inl u60_1)), (rD, .inl (cI, 5, .inl u60_2))]) hP hD hk1 hFc ht hB [0, 1] [(true, 0), (true, 1), (false, 2), (false, 3), (false, 4)] rfl (by decide +kernel) (by decide +kernel) rfl
            clear hP hD hS hPc hDc hFc hB hk1 hz1 hvm
            have hP := hP9
            have hD := hD9
            have hS := hS9
            clear hP9 hD9 hS9
            obtain ⟨f72_0, f72_1, f72_2, f72_3, f72_4, f72_5⟩ : (0 ≤ u72_0.toInt) ∧ (u72_0.toInt ≤ 240) ∧ (¬ v72.toInt = -1 → u72_0.toInt < tsz.toInt) ∧ (u44_0.toInt ≤ u72_0.toInt) ∧ (u72_0.toInt ≤ tsz.toInt ∨ u72_0.toInt = u44_0.toInt) ∧ (zLk fB tsz u44_0 v72 u72_0) := hw
            have F72 := f72_5
            refine lv_goto (tgt := 79) hx hb dX11_sum_75 (by decide) ?_
            refine lv_istore_n (lv' := [(1, .int v72), (0, .ref h0)]) hx hb dX11_sum_79 rfl hl (by decide) rfl (fun ls hl => ?_)
            refine lv_goto (tgt := 21) hx hb dX11_sum_80 (by decide) ?_
            exact ih21 _ (by omega) u60_0 u60_2 u60_1 u72_0 u44_1 u44_2 v72 (by omega) ⟨f44_2, f44_3⟩ ⟨f44_4, f44_5⟩ (by omega) (by omega) (by omega) (by omega) (by first | exact zlpS jv21_0 (oP_iff.mpr (by omega)) (by decide) i39 F44 (by omega) (sTm_mono (sAtm_mono (sB fB tsz.toInt) tsz.toInt K)) F72 | exact zlpB jv21_0 (oP_iff.mpr (by omega)) (by decide) i39 F44 (by omega)) (by first | exact zTe_w (by omega) | exact zTe_s jv21_1 jv21_0 (oP_iff.mpr (by omega)) (by decide) i39 F44 (sTm_mono (sAtm_mono (sB fB tsz.toInt) tsz.toInt K)) F44_1 (F60 m21_L_1.toInt (by first | (rw [show m21_L_1.toInt = 43 by omega]; decide) | (rw [show m21_L_1.toInt = 45 by omega]; decide)) (by omega) (by omega)) (by have := hpar.2.2.1; omega) (by have := jv21_2.2.2.1; omega) F72) (by first | exact zPar_mono f60_1 (by omega) (by omega) (by omega) (by omega)) rfl H locs ls hP hD hS (lv_sub hl [0, 1] rfl)
        · have c24 : ¬ m21_L_1.toInt = 43 := z6 rfl (by decide) c24
          refine lv_iload_n hx hb dX11_sum_27 rfl (lv_at hl 0 rfl) ?_
          refine lv_bipush (v := 45) hx hb dX11_sum_28 (by decide) ?_
          refine lv_icmp_ne (tgt := 83) hx hb dX11_sum_30 (by decide) (fun c30 => ?_) (fun c30 => ?_)
          · have c30 : ¬ m21_L_1.toInt = 45 := z6 rfl (by decide) c30
            rw [hQ]
            exact W.vret hx hb hr (fun t ht hW => ⟨⟨(m21_F_h0_3, m21_F_h0_4, m21_F_h0_5, m21_A_rC, m21_A_rV, m21_A_rD), rfl, ⟨by (try dsimp only); omega, by (try dsimp only); omega, by (try dsimp only); omega, by (try dsimp only); omega, by (try dsimp only); omega, by (try dsimp only); omega, by (try dsimp only); omega, by (try dsimp only); omega, by (try dsimp only); omega, by (try dsimp only); exact zlpE jv21_0 (fun z => by have := oP_iff.mp z; omega), by (try dsimp only); exact fun hw => by rw [eSum_two (by rw [zW_1 (zlpE jv21_0 (fun z => by have := oP_iff.mp z; omega)) hw])]; exact zTe_e jv21_1 jv21_0 (fun z => by have := oP_iff.mp z; omega) hw, by (try dsimp only); first | exact zPar_mono jv21_2 (by omega) (by omega) (by omega) (by omega)⟩, ⟨by rw [ht]; exact hP, hD⟩⟩, hS.F ht⟩) hS.2.2 dX11_sum_83
          · have c30 : m21_L_1.toInt = 45 := z5 rfl (by decide) c30
            refine lv_aload_n hx hb dX11_sum_33 rfl (lv_at hl 1 rfl) ?_
            refine lv_dup hx hb dX11_sum_34 rfl ?_
            refine va_get (D := (dC, dI)) (ci := 11) (v := .int m21_F_h0_3) (C := RX11) (T := TX11) (N := 41) hx hb hts iX11 hown hK hP 0 rfl rfl 3 (by decide) (hts _ qw1130) (fun _ h9 => h9) rfl dX11_sum_35 ?_
            refine lv_iconst (v := 1) hx hb dX11_sum_38 (by decide) ?_
            refine lv_iadd hx hb dX11_sum_39 ?_
            refine lv_topi (fun v39 e39 => ?_)
            have i39 : v39.toInt = m21_F_h0_3.toInt + 1 := zadd e39 rfl (by decide) (by omega) (by omega)
            refine va_put (D := (dC, dI)) (ci := 11) (v := .int v39) (ty := .int) (C := RX11) (T := TX11) (N := 41) hx hb hts iX11 tyX11 tyX11_ok nmX11 hown hK hP hD hS 0 rfl rfl 3 (by decide) (hts _ qw1130) (fun _ h9 => h9) rfl (by decide +kernel) rfl rfl (Nat.le_of_ble_eq_true rfl) dX11_sum_40 (fun H locs hP9 hD9 hS9 => ?_)
            clear hP hD hS
            obtain ⟨hP, hD⟩ := zst (wX := [(h0, .inr (11, [.int th, .ref tB, .int tsz, .int v39, .int m21_F_h0_4, .int m21_F_h0_5, .ref rC, .ref rV, .ref rD, .ref rK, .ref rT, .ref rS, .ref rU, .int lw, .int tx, .ref rL, .ref rX, .ref qR, .ref qB, .ref qP, .int qnb, .int qnp, .ref aR, .ref aB, .ref aP, .int nb, .int np, .ref aN, .ref rf, .int ho, .int br, .ref aK, .int ac, .long dw, .ref aE, .int sr, .int sf, .ref aA, .ref aH, .ref aI, .int hi])), (tB, .inl (cI, 240, .inl fB)), (rC, .inl (cI, 2600, .inl m21_A_rC)), (rV, .inl (cI, 2600, .inl m21_A_rV)), (rD, .inl (cI, 5, .inl m21_A_rD))]) hP9 hD9 rfl
            have hS := hS9
            clear hP9 hD9 hS9
            refine lv_aload_n hx hb dX11_sum_43 rfl (lv_at hl 1 rfl) ?_
            have zx_m21_F_h0_4 : ((-1) : Int32).toInt = (-1) := by decide
            have zy_m21_F_h0_4 : m21_F_h0_4 = (-1) := z7 (a := (-1)) (by decide) (by omega)
            rw [zy_m21_F_h0_4] at hP hD
            obtain ⟨hPc, hDc, hFc⟩ := zc3 (wc := [(h0, .inr (11, [.int th, .ref tB, .int tsz, .int v39, .int (-1), .int m21_F_h0_5, .ref rC, .ref rV, .ref rD, .ref rK, .ref rT, .ref rS, .ref rU, .int lw, .int tx, .ref rL, .ref rX, .ref qR, .ref qB, .ref qP, .int qnb, .int qnp, .ref aR, .ref aB, .ref aP, .int nb, .int np, .ref aN, .ref rf, .int ho, .int br, .ref aK, .int ac, .long dw, .ref aE, .int sr, .int sf, .ref aA, .ref aH, .ref aI, .int hi])), (tB, .inl (cI, 240, .inl fB)), (rC, .inl (cI, 2600, .inl m21_A_rC)), (rV, .inl (cI, 2600, .inl m21_A_rV)), (rD, .inl (cI, 5, .inl m21_A_rD))]) hP hD hS hA [0, 1, 2, 3, 4] (by decide +kernel) rfl
            refine va_callv (va_runV (As := []) (rest := []) ⟨hx, hb, hml, hown, hts⟩ (ihT dC dI cI cJ h0 th tB tsz v39 m21_F_h0_5 rC rV rD rK rT rS rU lw tx rL rX qR qB qP qnb qnp aR aB aP nb np aN rf ho br aK ac dw aE sr sf aA aH aI hi fB m21_A_rC m21_A_rV m21_A_rD gC gV fz (k + 1) st (h + 1) H.size n_ac (by omega) n_hi n_ho n_lw n_nb n_np n_qnb n_qnp (by omega) n_tsz n_tx (by first | exact zPar_mono jv21_2 (by omega) (by omega) (by omega) (by omega)) (by first | decide | omega) (by first | decide | omega) (by first | decide | omega) (by first | decide | omega)) (cwV 0 hts (zgV qw1344 qw1346 qw46 qw108 qw1347) rfl rfl rfl hd_X11_term ⟨by (try dsimp only) <;> omega, by (try dsimp only) <;> omega⟩) (zPV hPc hK hDc (va_recv (q := (RX11, TX11, 41)) hK hP (ci := 11) (q0 := 0) rfl rfl)) rfl rfl hl.1 rfl (lv_room (Nat.le_of_ble_eq_true rfl)) dX11_sum_44 ⟨Nat.zero_le _, Nat.zero_le _⟩) hS (fun q _ h => hFc q h) hFc (fun u44 t H locs ht hvm hw hB hz1 hk1 hS9 => ?_)
            obtain ⟨u44_0, u44_1, u44_2, u44_3, u44_4, u44_5⟩ := u44
            obtain ⟨hP9, hD9⟩ := zj2 (wX := [(h0, .inr (11, [.int th, .ref tB, .int tsz, .int u44_0, .int u44_1, .int u44_2, .ref rC, .ref rV, .ref rD, .ref rK, .ref rT, .ref rS, .ref rU, .int lw, .int tx, .ref rL, .ref rX, .ref qR, .ref qB, .ref qP, .int qnb, .int qnp, .ref aR, .ref aB, .ref aP, .int nb, .int np, .ref aN, .ref rf, .int ho, .int br, .ref aK, .int ac, .long dw, .ref aE, .int sr, .int sf, .ref aA, .ref aH, .ref aI, .int hi])), (tB, .inl (cI, 240, .inl fB)), (rC, .inl (cI, 2600, .inl u44_3)), (rV, .inl (cI, 2600, .inl u44_4)), (rD, .inl (cI, 5, .inl u44_5))]) hP hD hk1 hFc ht hB [0, 1, 2, 3, 4] [(true, 0), (true, 1), (true, 2), (true, 3), (true, 4)] rfl (by decide +kernel) (by decide +kernel) rfl
            clear hP hD hS hPc hDc hFc hB hk1 hz1 hvm
            have hP := hP9
            have hD := hD9
            have hS := hS9
            clear hP9 hD9 hS9
            obtain ⟨f44_0, f44_1, f44_2, f44_3, f44_4, f44_5, f44_6, f44_7, f44_8, f44_9, f44_10, f44_11⟩ : (0 ≤ u44_0.toInt) ∧ (u44_0.toInt ≤ 246) ∧ ((-1) ≤ u44_1.toInt) ∧ (u44_1.toInt ≤ 260) ∧ (0 ≤ u44_2.toInt) ∧ (u44_2.toInt ≤ 7) ∧ (u44_1.toInt = -1 → (u44_0.toInt ≤ tsz.toInt ∧ u44_2.toInt = 6 - ((K : Nat) : Int))) ∧ (v39.toInt ≤ u44_0.toInt) ∧ (u44_0.toInt ≤ 240 + ((K : Nat) : Int) ∧ 6 - ((K : Nat) : Int) ≤ u44_2.toInt ∧ u44_2.toInt ≤ 7 - ((K : Nat) : Int)) ∧ (zW (sTm (sB fB tsz.toInt) tsz.toInt oM (sAtm (sB fB tsz.toInt) tsz.toInt K) v39.toInt) u44_1 u44_0) ∧ (u44_1.toInt = -1 → zEr m21_A_rC m21_A_rV (520 * tx.toInt.toNat) (m21_A_rD tx.toInt.toNat).toInt ((eTm (sB fB tsz.toInt) tsz.toInt oM (sAtm (sB fB tsz.toInt) tsz.toInt K) (eAtm (sB fB tsz.toInt) tsz.toInt K)) v39.toInt) u44_3 u44_4 (u44_5 tx.toInt.toNat).toInt) ∧ (zPar u44_1 u44_0 u44_3 u44_4 u44_5 tx gC gV fz ((k + 1)) st ((h + 1) + 1)) := hw
            have F44 := f44_9
            have F44_1 : zHid (u44_1.toInt = -1 → zEr m21_A_rC m21_A_rV (520 * tx.toInt.toNat) (m21_A_rD tx.toInt.toNat).toInt ((eTm (sB fB tsz.toInt) tsz.toInt oM (sAtm (sB fB tsz.toInt) tsz.toInt K) (eAtm (sB fB tsz.toInt) tsz.toInt K)) v39.toInt) u44_3 u44_4 (u44_5 tx.toInt.toNat).toInt) := f44_10
            clear f44_10
            refine lv_aload_n hx hb dX11_sum_47 rfl (lv_at hl 1 rfl) ?_
            refine lv_iload_n hx hb dX11_sum_48 rfl (lv_at hl 0 rfl) ?_
            refine lv_bipush (v := 43) hx hb dX11_sum_49 (by decide) ?_
            refine lv_icmp_ne (tgt := 58) hx hb dX11_sum_51 (by decide) (fun c51 => ?_) (fun c51 => by exfalso; have c51 : m21_L_1.toInt = 43 := z5 rfl (by decide) c51; omega)
            have c51 : ¬ m21_L_1.toInt = 43 := z6 rfl (by decide) c51
            refine lv_iconst (v := 3) hx hb dX11_sum_58 (by decide) ?_
            refine lv_iconst (v := 0) hx hb dX11_sum_59 (by decide) ?_
            obtain ⟨hPc, hDc, hFc⟩ := zc3 (wc := [(h0, .inr (11, [.int th, .ref tB, .int tsz, .int u44_0, .int u44_1, .int u44_2, .ref rC, .ref rV, .ref rD, .ref rK, .ref rT, .ref rS, .ref rU, .int lw, .int tx, .ref rL, .ref rX, .ref qR, .ref qB, .ref qP, .int qnb, .int qnp, .ref aR, .ref aB, .ref aP, .int nb, .int np, .ref aN, .ref rf, .int ho, .int br, .ref aK, .int ac, .long dw, .ref aE, .int sr, .int sf, .ref aA, .ref aH, .ref aI, .int hi])), (rC, .inl (cI, 2600, .inl u44_3)), (rV, .inl (cI, 2600, .inl u44_4)), (rD, .inl (cI, 5, .inl u44_5))]) hP hD hS hA [0, 2, 3, 4] (by decide +kernel) rfl
            refine va_callv (va_runV (As := [.int 3, .int 0]) (rest := []) ⟨hx, hb, hml, hown, hts⟩ (g_X11_put_op l dC dI cI cJ h0 3 0 th tB tsz u44_0 u44_1 u44_2 rC rV rD rK rT rS rU lw tx rL rX qR qB qP qnb qnp aR aB aP nb np aN rf ho br aK ac dw aE sr sf aA aH aI hi u44_3 u44_4 u44_5 gC gV fz k st h H.size n_ac n_hi n_ho n_lw n_nb n_np (by decide) n_qnb n_qnp (by omega) n_tsz n_tx ⟨f44_2, f44_3⟩ (by first | exact zPar_mono f44_11 (by omega) (by omega) (by omega) (by omega)) (by first | decide | omega)) (cwV 2 hts (zgV qw1332 qw1334 qw43 qw108 qw1335) rfl rfl rfl hd_X11_put ⟨by (try dsimp only) <;> omega, by (try dsimp only) <;> omega⟩) (zPV hPc hK hDc (va_recv (q := (RX11, TX11, 41)) hK hP (ci := 11) (q0 := 0) rfl rfl)) rfl rfl hl.1 rfl (lv_room (Nat.le_of_ble_eq_true rfl)) dX11_sum_60 ⟨Nat.zero_le _, Nat.zero_le _⟩) hS (fun q _ h => hFc q h) hFc (fun u60 t H locs ht hvm hw hB hz1 hk1 hS9 => ?_)
            obtain ⟨u60_0, u60_1, u60_2⟩ := u60
            obtain ⟨hP9, hD9⟩ := zj2 (wX := [(h0, .inr (11, [.int th, .ref tB, .int tsz, .int u44_0, .int u44_1, .int u44_2, .ref rC, .ref rV, .ref rD, .ref rK, .ref rT, .ref rS, .ref rU, .int lw, .int tx, .ref rL, .ref rX, .ref qR, .ref qB, .ref qP, .int qnb, .int qnp, .ref aR, .ref aB, .ref aP, .int nb, .int np, .ref aN, .ref rf, .int ho, .int br, .ref aK, .int ac, .long dw, .ref aE, .int sr, .int sf, .ref aA, .ref aH, .ref aI, .int hi])), (tB, .inl (cI, 240, .inl fB)), (rC, .inl (cI, 2600, .inl u60_0)), (rV, .inl (cI, 2600, .inl u60_1)), (rD, .inl (cI, 5, .inl u60_2))]) hP hD hk1 hFc ht hB [0, 2, 3, 4] [(true, 0), (false, 1), (true, 1), (true, 2), (true, 3)] rfl (by decide +kernel) (by decide +kernel) rfl
            clear hP hD hS hPc hDc hFc hB hk1 hz1 hvm
            have hP := hP9
            have hD := hD9
            have hS := hS9
            clear hP9 hD9 hS9
            have zn60_3 : (3 : Int32).toInt = 3 := by decide
            obtain ⟨f60_0, f60_1⟩ : (∀ x : Int, eRc x = (3 : Int32).toInt → ¬ x = 1 → ¬ x = 2 → zEr u44_3 u44_4 (520 * tx.toInt.toNat) (u44_5 tx.toInt.toNat).toInt ([(x, 0)]) u60_0 u60_1 (u60_2 tx.toInt.toNat).toInt) ∧ (zPar u44_1 u44_0 u60_0 u60_1 u60_2 tx gC gV fz (k) st (h + 1)) := hw
            have F60 := f60_0
            refine lv_aload_n hx hb dX11_sum_63 rfl (lv_at hl 1 rfl) ?_
            refine va_get (D := (dC, dI)) (ci := 11) (v := .int u44_1) (C := RX11) (T := TX11) (N := 41) hx hb hts iX11 hown hK hP 0 rfl rfl 4 (by decide) (hts _ qw1131) (fun _ h9 => h9) rfl dX11_sum_64 ?_
            refine lv_iconst (v := (-1)) hx hb dX11_sum_67 (by decide) ?_
            refine lv_icmp_ne (tgt := 78) hx hb dX11_sum_68 (by decide) (fun c68 => ?_) (fun c68 => ?_)
            · have c68 : ¬ u44_1.toInt = (-1) := z6 rfl (by decide) c68
              refine lv_iconst (v := (-1)) hx hb dX11_sum_78 (by decide) ?_
              refine lv_istore_n (lv' := [(1, .int (-1)), (0, .ref h0)]) hx hb dX11_sum_79 rfl hl (by decide) rfl (fun ls hl => ?_)
              refine lv_goto (tgt := 21) hx hb dX11_sum_80 (by decide) ?_
              have zj21_m21_L_1 : ((-1) : Int32).toInt = (-1) := by decide
              exact ih21 _ (by omega) u60_0 u60_2 u60_1 u44_0 u44_1 u44_2 (-1) ⟨f44_0, f44_1⟩ ⟨f44_2, f44_3⟩ ⟨f44_4, f44_5⟩ (by omega) (by omega) (by omega) (by omega) (by first | exact zlpS jv21_0 (oP_iff.mpr (by omega)) (by decide) i39 F44 (by omega) (sTm_mono (sAtm_mono (sB fB tsz.toInt) tsz.toInt K)) F72 | exact zlpB jv21_0 (oP_iff.mpr (by omega)) (by decide) i39 F44 (by omega)) (by first | exact zTe_w (by omega) | exact zTe_s jv21_1 jv21_0 (oP_iff.mpr (by omega)) (by decide) i39 F44 (sTm_mono (sAtm_mono (sB fB tsz.toInt) tsz.toInt K)) F44_1 (F60 m21_L_1.toInt (by first | (rw [show m21_L_1.toInt = 43 by omega]; decide) | (rw [show m21_L_1.toInt = 45 by omega]; decide)) (by omega) (by omega)) (by have := hpar.2.2.1; omega) (by have := jv21_2.2.2.1; omega) F72) (by first | exact zPar_bad f60_1 (by omega) (by omega) (by omega)) rfl H locs ls hP hD hS (lv_sub hl [0, 1] rfl)
            · have c68 : u44_1.toInt = (-1) := z5 rfl (by decide) c68
              refine lv_aload_n hx hb dX11_sum_71 rfl (lv_at hl 1 rfl) ?_
              obtain ⟨hPc, hDc, hFc⟩ := zc3 (wc := [(h0, .inr (11, [.int th, .ref tB, .int tsz, .int u44_0, .int u44_1, .int u44_2, .ref rC, .ref rV, .ref rD, .ref rK, .ref rT, .ref rS, .ref rU, .int lw, .int tx, .ref rL, .ref rX, .ref qR, .ref qB, .ref qP, .int qnb, .int qnp, .ref aR, .ref aB, .ref aP, .int nb, .int np, .ref aN, .ref rf, .int ho, .int br, .ref aK, .int ac, .long dw, .ref aE, .int sr, .int sf, .ref aA, .ref aH, .ref aI, .int hi])), (tB, .inl (cI, 240, .inl fB))]) hP hD hS hA [0, 1] (by decide +kernel) rfl
              refine va_calli (va_runV (As := []) (rest := []) ⟨hx, hb, hml, hown, hts⟩ (g_X11_look_t l dC dI cI cJ h0 th tB tsz u44_0 u44_1 u44_2 rC rV rD rK rT rS rU lw tx rL rX qR qB qP qnb qnp aR aB aP nb np aN rf ho br aK ac dw aE sr sf aA aH aI hi fB H.size n_ac n_hi n_ho n_lw n_nb n_np n_qnb n_qnp (by omega) n_tsz ⟨f44_2, f44_3⟩) (cwV 0 hts (zgV qw1273 qw1275 qw32 qw108 qw1276) rfl rfl rfl hd_X11_look ⟨by (try dsimp only) <;> omega, by (try dsimp only) <;> omega⟩) (zPV hPc hK hDc (va_recv (q := (RX11, TX11, 41)) hK hP (ci := 11) (q0 := 0) rfl rfl)) rfl rfl hl.1 rfl (lv_room (Nat.le_of_ble_eq_true rfl)) dX11_sum_72 ⟨Nat.zero_le _, Nat.zero_le _⟩) hS (fun q _ h => hFc q h) hFc (fun v72 u72 t H locs ht hvm hw hB hz1 hk1 hS9 => ?_)
              obtain ⟨u72_0, rfl⟩ : ∃ z, z = u72 := ⟨_, rfl⟩
              obtain ⟨hP9, hD9⟩ := zj2 (wX := [(h0, .inr (11, [.int th, .ref tB, .int tsz, .int u72_0, .int u44_1, .int u44_2, .ref rC, .ref rV, .ref rD, .ref rK, .ref rT, .ref rS, .ref rU, .int lw, .int tx, .ref rL, .ref rX, .ref qR, .ref qB, .ref qP, .int qnb, .int qnp, .ref aR, .ref aB, .ref aP, .int nb, .int np, .ref aN, .ref rf, .int ho, .int br, .ref aK, .int ac, .long dw, .ref aE, .int sr, .int sf, .ref aA, .ref aH, .ref aI, .int hi])), (tB, .inl (cI, 240, .inl fB)), (rC, .inl (cI, 2600, .inl u60_0)), (rV, .inl (cI, 2600, .inl u60_1)), (rD, .inl (cI, 5, .inl u60_2))]) hP hD hk1 hFc ht hB [0, 1] [(true, 0), (true, 1), (false, 2), (false, 3), (false, 4)] rfl (by decide +kernel) (by decide +kernel) rfl
              clear hP hD hS hPc hDc hFc hB hk1 hz1 hvm
              have hP := hP9
              have hD := hD9
              have hS := hS9
              clear hP9 hD9 hS9
              obtain ⟨f72_0, f72_1, f72_2, f72_3, f72_4, f72_5⟩ : (0 ≤ u72_0.toInt) ∧ (u72_0.toInt ≤ 240) ∧ (¬ v72.toInt = -1 → u72_0.toInt < tsz.toInt) ∧ (u44_0.toInt ≤ u72_0.toInt) ∧ (u72_0.toInt ≤ tsz.toInt ∨ u72_0.toInt = u44_0.toInt) ∧ (zLk fB tsz u44_0 v72 u72_0) := hw
              have F72 := f72_5
              refine lv_goto (tgt := 79) hx hb dX11_sum_75 (by decide) ?_
              refine lv_istore_n (lv' := [(1, .int v72), (0, .ref h0)]) hx hb dX11_sum_79 rfl hl (by decide) rfl (fun ls hl => ?_)
              refine lv_goto (tgt := 21) hx hb dX11_sum_80 (by decide) ?_
              exact ih21 _ (by omega) u60_0 u60_2 u60_1 u72_0 u44_1 u44_2 v72 (by omega) ⟨f44_2, f44_3⟩ ⟨f44_4, f44_5⟩ (by omega) (by omega) (by omega) (by omega) (by first | exact zlpS jv21_0 (oP_iff.mpr (by omega)) (by decide) i39 F44 (by omega) (sTm_mono (sAtm_mono (sB fB tsz.toInt) tsz.toInt K)) F72 | exact zlpB jv21_0 (oP_iff.mpr (by omega)) (by decide) i39 F44 (by omega)) (by first | exact zTe_w (by omega) | exact zTe_s jv21_1 jv21_0 (oP_iff.mpr (by omega)) (by decide) i39 F44 (sTm_mono (sAtm_mono (sB fB tsz.toInt) tsz.toInt K)) F44_1 (F60 m21_L_1.toInt (by first | (rw [show m21_L_1.toInt = 43 by omega]; decide) | (rw [show m21_L_1.toInt = 45 by omega]; decide)) (by omega) (by omega)) (by have := hpar.2.2.1; omega) (by have := jv21_2.2.2.1; omega) F72) (by first | exact zPar_mono f60_1 (by omega) (by omega) (by omega) (by omega)) rfl H locs ls hP hD hS (lv_sub hl [0, 1] rfl)
    refine lv_istore_n (lv' := [(1, .int v13), (0, .ref h0)]) hx hb dX11_sum_20 rfl hl (by decide) rfl (fun ls hl => ?_)
    exact J21 _ u1_3 u1_5 u1_4 u13_0 u1_1 u1_2 v13 (by omega) ⟨f1_2, f1_3⟩ ⟨f1_4, f1_5⟩ (by omega) (by omega) (by omega) (by omega) (by first | exact zlp0 (sSum_two _ _ _ _) F1 (by omega) F13 | exact zlp1 (sSum_two _ _ _ _) F1 (by omega)) (by first | exact zTe_b rfl F1 F1_1 F13 | exact zTe_w (by omega)) (by first | exact zPar_mono f1_11 (by omega) (by omega) (by omega) (by omega)) rfl H locs ls hP hD hS (lv_sub hl [0, 1] rfl)
set_option maxHeartbeats 4000000 in
set_option maxRecDepth 100000 in
theorem g_X11_compare_k (l : Launch) (K fr lo : Nat) (ihS : zQ_X11_sum l K fr lo) (hfr : 1 ≤ fr) (hlo : 40 ≤ lo) : zQ_X11_compare l K (fr + 1) (lo + 40) := by
  intro dC dI cI cJ h0 th tB tsz tat dp rC rV rD rK rT rS rU lw tx rL rX qR qB qP qnb qnp aR aB aP nb np aN rf ho br aK ac dw aE sr sf aA aH aI hi fB fC fV fD gC gV fz k st h sz n_ac n_dp n_hi n_ho n_lw n_nb n_np n_qnb n_qnp n_tat n_tsz n_tx hpar hat hh hKd hK6
  refine Met.ofW (cc := cX11_compare) (maxL := 2) (ret := none) (by decide) rfl ?_
  intro p e s m args below meth c s₁ B hml hv
  obtain ⟨hargs, hsz, hP, hK, hT⟩ := hv
  have hx := B.exec
  have hb := B.bytes
  have hr := B.returns
  have hts : ∀ w ∈ wA, w.before args s = true := fun w h => atoms_spec (ws := .code yX11_compare cX11_compare 2 none :: wA) B.pre w (List.mem_cons_of_mem _ h)
  have hown : s.vm.findClass RX11 = some m.cls := findClass_of_methodNamed B.named
  have hlocks := B.notSynchronized
  subst hsz
  have hD := hT.self (sz := s.heap.size)
  generalize hAe : va_A [(h0, .inr (11, [.int th, .ref tB, .int tsz, .int tat, .int (-1), .int dp, .ref rC, .ref rV, .ref rD, .ref rK, .ref rT, .ref rS, .ref rU, .int lw, .int tx, .ref rL, .ref rX, .ref qR, .ref qB, .ref qP, .int qnb, .int qnp, .ref aR, .ref aB, .ref aP, .int nb, .int np, .ref aN, .ref rf, .int ho, .int br, .ref aK, .int ac, .long dw, .ref aE, .int sr, .int sf, .ref aA, .ref aH, .ref aI, .int hi])), (tB, .inl (cI, 240, .inl fB)), (rC, .inl (cI, 2600, .inl fC)), (rV, .inl (cI, 2600, .inl fV)), (rD, .inl (cI, 5, .inl fD))] s.heap.size = A at hD ⊢
  have hA : ∀ q : Nat, s.heap.size ≤ q → A q := fun q h => by rw [← hAe]; exact Or.inr h
  have hl := lv_entry ([.ref h0]) (n := 2) (Nat.le_of_ble_eq_true rfl)
  rw [show entryFrame m args 2 = entryFrame m ([.ref h0] : List Value).toArray 2 by rw [hargs], lg_entry_eq]
  generalize (lg_sl ([.ref h0]) ++ List.replicate (2 - (lg_sl ([.ref h0])).length) Slot.unset).toArray = ls at hl ⊢
  have hl : lv_has ls 2 [(0, .ref h0)] := hl
  refine zstart (fun H hH => ?_)
  rw [← hH] at hP
  have hS : va_S A s.heap H [] := by rw [hH]; exact va_S.rf
  generalize ([] : List Loc) = locs at hS ⊢
  refine zgen (fun R Q hR hQ => ?_)
  have hRf : R.frames = fr + 1 := by rw [hR]; rfl
  have hRl : R.locals = lo + 40 := by rw [hR]; rfl
  have zm1 : (-1 : Int32).toInt = -1 := by decide
  refine lv_aload_n hx hb dX11_compare_0 rfl (lv_at hl 0 rfl) ?_
  refine va_get (D := (dC, dI)) (ci := 11) (v := .int (-1)) (C := RX11) (T := TX11) (N := 41) hx hb hts iX11 hown hK hP 0 rfl rfl 4 (by decide) (hts _ qw1131) (fun _ h9 => h9) rfl dX11_compare_1 ?_
  refine lv_iconst (v := (-1)) hx hb dX11_compare_4 (by decide) ?_
  refine lv_icmp_ne (tgt := 15) hx hb dX11_compare_5 (by decide) (fun c => absurd (by decide) c) (fun _ => ?_)
  refine lv_aload_n hx hb dX11_compare_8 rfl (lv_at hl 0 rfl) ?_
  obtain ⟨hPc, hDc, hFc⟩ := zc3 (wc := [(h0, .inr (11, [.int th, .ref tB, .int tsz, .int tat, .int (-1), .int dp, .ref rC, .ref rV, .ref rD, .ref rK, .ref rT, .ref rS, .ref rU, .int lw, .int tx, .ref rL, .ref rX, .ref qR, .ref qB, .ref qP, .int qnb, .int qnp, .ref aR, .ref aB, .ref aP, .int nb, .int np, .ref aN, .ref rf, .int ho, .int br, .ref aK, .int ac, .long dw, .ref aE, .int sr, .int sf, .ref aA, .ref aH, .ref aI, .int hi])), (tB, .inl (cI, 240, .inl fB))]) hP hD hS hA [0, 1] (by decide +kernel) rfl
  refine va_calli (va_runV (As := []) (rest := []) ⟨hx, hb, hml, hown, hts⟩ (g_X11_look_t l dC dI cI cJ h0 th tB tsz tat ((-1)) dp rC rV rD rK rT rS rU lw tx rL rX qR qB qP qnb qnp aR aB aP nb np aN rf ho br aK ac dw aE sr sf aA aH aI hi fB H.size n_ac n_hi n_ho n_lw n_nb n_np n_qnb n_qnp n_tat n_tsz (by decide)) (cwV 0 hts (zgV qw1273 qw1275 qw32 qw108 qw1276) rfl rfl rfl hd_X11_look ⟨by (try dsimp only) <;> omega, by (try dsimp only) <;> omega⟩) (zPV hPc hK hDc (va_recv (q := (RX11, TX11, 41)) hK hP (ci := 11) (q0 := 0) rfl rfl)) rfl rfl hl.1 rfl (lv_room (Nat.le_of_ble_eq_true rfl)) dX11_compare_9 ⟨Nat.zero_le _, Nat.zero_le _⟩) hS (fun q _ h => hFc q h) hFc (fun v9 u9 t H locs ht hvm hw hB hz1 hk1 hS9 => ?_)
  obtain ⟨u9_0, rfl⟩ : ∃ z, z = u9 := ⟨_, rfl⟩
  obtain ⟨hP9, hD9⟩ := zj2 (wX := [(h0, .inr (11, [.int th, .ref tB, .int tsz, .int u9_0, .int (-1), .int dp, .ref rC, .ref rV, .ref rD, .ref rK, .ref rT, .ref rS, .ref rU, .int lw, .int tx, .ref rL, .ref rX, .ref qR, .ref qB, .ref qP, .int qnb, .int qnp, .ref aR, .ref aB, .ref aP, .int nb, .int np, .ref aN, .ref rf, .int ho, .int br, .ref aK, .int ac, .long dw, .ref aE, .int sr, .int sf, .ref aA, .ref aH, .ref aI, .int hi])), (tB, .inl (cI, 240, .inl fB)), (rC, .inl (cI, 2600, .inl fC)), (rV, .inl (cI, 2600, .inl fV)), (rD, .inl (cI, 5, .inl fD))]) hP hD hk1 hFc ht hB [0, 1] [(true, 0), (true, 1), (false, 2), (false, 3), (false, 4)] rfl (by decide +kernel) (by decide +kernel) rfl
  clear hP hD hS hPc hDc hFc hB hk1 hz1 hvm
  have hP := hP9
  have hD := hD9
  have hS := hS9
  clear hP9 hD9 hS9
  obtain ⟨f9_0, f9_1, f9_2, f9_3, f9_4, f9_5⟩ : (0 ≤ u9_0.toInt) ∧ (u9_0.toInt ≤ 240) ∧ (¬ v9.toInt = -1 → u9_0.toInt < tsz.toInt) ∧ (tat.toInt ≤ u9_0.toInt) ∧ (u9_0.toInt ≤ tsz.toInt ∨ u9_0.toInt = tat.toInt) ∧ (zLk fB tsz tat v9 u9_0) := hw
  have F9 := f9_5
  refine lv_goto (tgt := 16) hx hb dX11_compare_12 (by decide) ?_
  refine lv_istore_n (lv' := [(1, .int v9), (0, .ref h0)]) hx hb dX11_compare_16 rfl hl (by decide) rfl (fun ls hl => ?_)
  refine lv_iload_n hx hb dX11_compare_17 rfl (lv_at hl 0 rfl) ?_
  have hPc : va_P (dC, dI) vwCl [] H := zP0
  have hDc : va_D (fun _ => True) [] := zD0
  have hFc := zfr hS hA
  refine va_calli (va_runS (As := [.int v9]) (rest := []) ⟨hx, hb, hml, hown, hts⟩ (g_X11_isSign l dC dI cI cJ v9 H.size) (cwS 1 hts (zgS qw1363 qw1364 qw108 qw1365) rfl rfl rfl hd_X11_isSign ⟨by (try dsimp only) <;> omega, by (try dsimp only) <;> omega⟩) (zPS hPc hK hDc) rfl rfl hl.1 rfl (lv_room (Nat.le_of_ble_eq_true rfl)) dX11_compare_18 ⟨Nat.zero_le _, Nat.zero_le _⟩) hS (fun q _ h => hFc q h) hFc (fun v18 u18 t H locs ht hvm hw hB hz1 hk1 hS9 => ?_)
  replace hP := zkeep hP hk1
  replace hS := hS9
  clear hPc hDc hFc hk1 hz1 hvm hS9
  obtain ⟨f18_0, f18_1, f18_2, f18_3⟩ : (0 ≤ v18.toInt) ∧ (v18.toInt ≤ 1) ∧ (¬ v18.toInt = 0 → (60 ≤ v9.toInt ∧ v9.toInt ≤ 62)) ∧ (zIs (oQ v9.toInt) v18) := hw
  have F18 := f18_3
  refine lv_if_ne (tgt := 29) hx hb dX11_compare_21 (by decide) (fun c21 => ?_) (fun c21 => ?_)
  · have c21 : ¬ v18.toInt = 0 := z6 rfl (by decide) c21
    refine lv_aload_n hx hb dX11_compare_29 rfl (lv_at hl 1 rfl) ?_
    refine lv_dup hx hb dX11_compare_30 rfl ?_
    refine va_get (D := (dC, dI)) (ci := 11) (v := .int u9_0) (C := RX11) (T := TX11) (N := 41) hx hb hts iX11 hown hK hP 0 rfl rfl 3 (by decide) (hts _ qw1130) (fun _ h9 => h9) rfl dX11_compare_31 ?_
    refine lv_iconst (v := 1) hx hb dX11_compare_34 (by decide) ?_
    refine lv_iadd hx hb dX11_compare_35 ?_
    refine lv_topi (fun v35 e35 => ?_)
    have i35 : v35.toInt = u9_0.toInt + 1 := zadd e35 rfl (by decide) (by omega) (by omega)
    refine va_put (D := (dC, dI)) (ci := 11) (v := .int v35) (ty := .int) (C := RX11) (T := TX11) (N := 41) hx hb hts iX11 tyX11 tyX11_ok nmX11 hown hK hP hD hS 0 rfl rfl 3 (by decide) (hts _ qw1130) (fun _ h9 => h9) rfl (by decide +kernel) rfl rfl (Nat.le_of_ble_eq_true rfl) dX11_compare_36 (fun H locs hP9 hD9 hS9 => ?_)
    clear hP hD hS
    obtain ⟨hP, hD⟩ := zst (wX := [(h0, .inr (11, [.int th, .ref tB, .int tsz, .int v35, .int (-1), .int dp, .ref rC, .ref rV, .ref rD, .ref rK, .ref rT, .ref rS, .ref rU, .int lw, .int tx, .ref rL, .ref rX, .ref qR, .ref qB, .ref qP, .int qnb, .int qnp, .ref aR, .ref aB, .ref aP, .int nb, .int np, .ref aN, .ref rf, .int ho, .int br, .ref aK, .int ac, .long dw, .ref aE, .int sr, .int sf, .ref aA, .ref aH, .ref aI, .int hi])), (tB, .inl (cI, 240, .inl fB)), (rC, .inl (cI, 2600, .inl fC)), (rV, .inl (cI, 2600, .inl fV)), (rD, .inl (cI, 5, .inl fD))]) hP9 hD9 rfl
    have hS := hS9
    clear hP9 hD9 hS9
    refine lv_aload_n hx hb dX11_compare_39 rfl (lv_at hl 1 rfl) ?_
    obtain ⟨hPc, hDc, hFc⟩ := zc3 (wc := [(h0, .inr (11, [.int th, .ref tB, .int tsz, .int v35, .int (-1), .int dp, .ref rC, .ref rV, .ref rD, .ref rK, .ref rT, .ref rS, .ref rU, .int lw, .int tx, .ref rL, .ref rX, .ref qR, .ref qB, .ref qP, .int qnb, .int qnp, .ref aR, .ref aB, .ref aP, .int nb, .int np, .ref aN, .ref rf, .int ho, .int br, .ref aK, .int ac, .long dw, .ref aE, .int sr, .int sf, .ref aA, .ref aH, .ref aI, .int hi])), (tB, .inl (cI, 240, .inl fB)), (rC, .inl (cI, 2600, .inl fC)), (rV, .inl (cI, 2600, .inl fV)), (rD, .inl (cI, 5, .inl fD))]) hP hD hS hA [0, 1, 2, 3, 4] (by decide +kernel) rfl
    refine va_callv (va_runV (As := []) (rest := []) ⟨hx, hb, hml, hown, hts⟩ (ihS dC dI cI cJ h0 th tB tsz v35 dp rC rV rD rK rT rS rU lw tx rL rX qR qB qP qnb qnp aR aB aP nb np aN rf ho br aK ac dw aE sr sf aA aH aI hi fB fC fV fD gC gV fz (k + 1) st (h + 1) H.size n_ac n_dp n_hi n_ho n_lw n_nb n_np n_qnb n_qnp (by omega) n_tsz n_tx (by first | exact zPar_mono hpar (by omega) (by omega) (by omega) (by omega)) (by first | decide | omega) (by first | decide | omega) (by first | decide | omega) (by first | decide | omega)) (cwV 0 hts (zgV qw1340 qw1342 qw45 qw108 qw1343) rfl rfl rfl hd_X11_sum ⟨by (try dsimp only) <;> omega, by (try dsimp only) <;> omega⟩) (zPV hPc hK hDc (va_recv (q := (RX11, TX11, 41)) hK hP (ci := 11) (q0 := 0) rfl rfl)) rfl rfl hl.1 rfl (lv_room (Nat.le_of_ble_eq_true rfl)) dX11_compare_40 ⟨Nat.zero_le _, Nat.zero_le _⟩) hS (fun q _ h => hFc q h) hFc (fun u40 t H locs ht hvm hw hB hz1 hk1 hS9 => ?_)
    obtain ⟨u40_0, u40_1, u40_2, u40_3, u40_4, u40_5⟩ := u40
    obtain ⟨hP9, hD9⟩ := zj2 (wX := [(h0, .inr (11, [.int th, .ref tB, .int tsz, .int u40_0, .int u40_1, .int u40_2, .ref rC, .ref rV, .ref rD, .ref rK, .ref rT, .ref rS, .ref rU, .int lw, .int tx, .ref rL, .ref rX, .ref qR, .ref qB, .ref qP, .int qnb, .int qnp, .ref aR, .ref aB, .ref aP, .int nb, .int np, .ref aN, .ref rf, .int ho, .int br, .ref aK, .int ac, .long dw, .ref aE, .int sr, .int sf, .ref aA, .ref aH, .ref aI, .int hi])), (tB, .inl (cI, 240, .inl fB)), (rC, .inl (cI, 2600, .inl u40_3)), (rV, .inl (cI, 2600, .inl u40_4)), (rD, .inl (cI, 5, .inl u40_5))]) hP hD hk1 hFc ht hB [0, 1, 2, 3, 4] [(true, 0), (true, 1), (true, 2), (true, 3), (true, 4)] rfl (by decide +kernel) (by decide +kernel) rfl
    clear hP hD hS hPc hDc hFc hB hk1 hz1 hvm
    have hP := hP9
    have hD := hD9
    have hS := hS9
    clear hP9 hD9 hS9
    obtain ⟨f40_0, f40_1, f40_2, f40_3, f40_4, f40_5, f40_6, f40_7, f40_8, f40_9, f40_10, f40_11⟩ : (0 ≤ u40_0.toInt) ∧ (u40_0.toInt ≤ 246) ∧ ((-1) ≤ u40_1.toInt) ∧ (u40_1.toInt ≤ 260) ∧ (0 ≤ u40_2.toInt) ∧ (u40_2.toInt ≤ 7) ∧ (u40_1.toInt = -1 → (u40_0.toInt ≤ tsz.toInt ∧ u40_2.toInt = 6 - ((K : Nat) : Int))) ∧ (v35.toInt ≤ u40_0.toInt) ∧ (u40_0.toInt ≤ 240 + ((K : Nat) : Int) ∧ 6 - ((K : Nat) : Int) ≤ u40_2.toInt ∧ u40_2.toInt ≤ 7 - ((K : Nat) : Int)) ∧ (zW (sSum (sB fB tsz.toInt) tsz.toInt K v35.toInt) u40_1 u40_0) ∧ (u40_1.toInt = -1 → zEr fC fV (520 * tx.toInt.toNat) (fD tx.toInt.toNat).toInt ((eSum (sB fB tsz.toInt) tsz.toInt K) v35.toInt) u40_3 u40_4 (u40_5 tx.toInt.toNat).toInt) ∧ (zPar u40_1 u40_0 u40_3 u40_4 u40_5 tx gC gV fz ((k + 1)) st ((h + 1) + 1)) := hw
    have F40 := f40_9
    have F40_1 : zHid (u40_1.toInt = -1 → zEr fC fV (520 * tx.toInt.toNat) (fD tx.toInt.toNat).toInt ((eSum (sB fB tsz.toInt) tsz.toInt K) v35.toInt) u40_3 u40_4 (u40_5 tx.toInt.toNat).toInt) := f40_10
    clear f40_10
    refine lv_aload_n hx hb dX11_compare_43 rfl (lv_at hl 1 rfl) ?_
    refine lv_iload_n hx hb dX11_compare_44 rfl (lv_at hl 0 rfl) ?_
    refine lv_bipush (v := 61) hx hb dX11_compare_45 (by decide) ?_
    refine lv_icmp_ne (tgt := 55) hx hb dX11_compare_47 (by decide) (fun c47 => ?_) (fun c47 => ?_)
    · have c47 : ¬ v9.toInt = 61 := z6 rfl (by decide) c47
      refine lv_iload_n hx hb dX11_compare_55 rfl (lv_at hl 0 rfl) ?_
      refine lv_bipush (v := 60) hx hb dX11_compare_56 (by decide) ?_
      refine lv_icmp_ne (tgt := 66) hx hb dX11_compare_58 (by decide) (fun c58 => ?_) (fun c58 => ?_)
      · have c58 : ¬ v9.toInt = 60 := z6 rfl (by decide) c58
        refine lv_bipush (v := 8) hx hb dX11_compare_66 (by decide) ?_
        refine lv_iconst (v := 0) hx hb dX11_compare_68 (by decide) ?_
        obtain ⟨hPc, hDc, hFc⟩ := zc3 (wc := [(h0, .inr (11, [.int th, .ref tB, .int tsz, .int u40_0, .int u40_1, .int u40_2, .ref rC, .ref rV, .ref rD, .ref rK, .ref rT, .ref rS, .ref rU, .int lw, .int tx, .ref rL, .ref rX, .ref qR, .ref qB, .ref qP, .int qnb, .int qnp, .ref aR, .ref aB, .ref aP, .int nb, .int np, .ref aN, .ref rf, .int ho, .int br, .ref aK, .int ac, .long dw, .ref aE, .int sr, .int sf, .ref aA, .ref aH, .ref aI, .int hi])), (rC, .inl (cI, 2600, .inl u40_3)), (rV, .inl (cI, 2600, .inl u40_4)), (rD, .inl (cI, 5, .inl u40_5))]) hP hD hS hA [0, 2, 3, 4] (by decide +kernel) rfl
        refine va_callv (va_runV (As := [.int 8, .int 0]) (rest := []) ⟨hx, hb, hml, hown, hts⟩ (g_X11_put_op l dC dI cI cJ h0 8 0 th tB tsz u40_0 u40_1 u40_2 rC rV rD rK rT rS rU lw tx rL rX qR qB qP qnb qnp aR aB aP nb np aN rf ho br aK ac dw aE sr sf aA aH aI hi u40_3 u40_4 u40_5 gC gV fz k st h H.size n_ac n_hi n_ho n_lw n_nb n_np (by decide) n_qnb n_qnp (by omega) n_tsz n_tx ⟨f40_2, f40_3⟩ (by first | exact zPar_mono f40_11 (by omega) (by omega) (by omega) (by omega)) (by first | decide | omega)) (cwV 2 hts (zgV qw1332 qw1334 qw43 qw108 qw1335) rfl rfl rfl hd_X11_put ⟨by (try dsimp only) <;> omega, by (try dsimp only) <;> omega⟩) (zPV hPc hK hDc (va_recv (q := (RX11, TX11, 41)) hK hP (ci := 11) (q0 := 0) rfl rfl)) rfl rfl hl.1 rfl (lv_room (Nat.le_of_ble_eq_true rfl)) dX11_compare_69 ⟨Nat.zero_le _, Nat.zero_le _⟩) hS (fun q _ h => hFc q h) hFc (fun u69 t H locs ht hvm hw hB hz1 hk1 hS9 => ?_)
        obtain ⟨u69_0, u69_1, u69_2⟩ := u69
        obtain ⟨hP9, hD9⟩ := zj2 (wX := [(h0, .inr (11, [.int th, .ref tB, .int tsz, .int u40_0, .int u40_1, .int u40_2, .ref rC, .ref rV, .ref rD, .ref rK, .ref rT, .ref rS, .ref rU, .int lw, .int tx, .ref rL, .ref rX, .ref qR, .ref qB, .ref qP, .int qnb, .int qnp, .ref aR, .ref aB, .ref aP, .int nb, .int np, .ref aN, .ref rf, .int ho, .int br, .ref aK, .int ac, .long dw, .ref aE, .int sr, .int sf, .ref aA, .ref aH, .ref aI, .int hi])), (tB, .inl (cI, 240, .inl fB)), (rC, .inl (cI, 2600, .inl u69_0)), (rV, .inl (cI, 2600, .inl u69_1)), (rD, .inl (cI, 5, .inl u69_2))]) hP hD hk1 hFc ht hB [0, 2, 3, 4] [(true, 0), (false, 1), (true, 1), (true, 2), (true, 3)] rfl (by decide +kernel) (by decide +kernel) rfl
        clear hP hD hS hPc hDc hFc hB hk1 hz1 hvm
        have hP := hP9
        have hD := hD9
        have hS := hS9
        clear hP9 hD9 hS9
        have zn69_8 : (8 : Int32).toInt = 8 := by decide
        obtain ⟨f69_0, f69_1⟩ : (∀ x : Int, eRc x = (8 : Int32).toInt → ¬ x = 1 → ¬ x = 2 → zEr u40_3 u40_4 (520 * tx.toInt.toNat) (u40_5 tx.toInt.toNat).toInt ([(x, 0)]) u69_0 u69_1 (u69_2 tx.toInt.toNat).toInt) ∧ (zPar u40_1 u40_0 u69_0 u69_1 u69_2 tx gC gV fz (k) st (h + 1)) := hw
        have F69 := f69_0
        rw [hQ]
        exact W.vret hx hb hr (fun t ht hW => ⟨⟨(u40_0, u40_1, u40_2, u69_0, u69_1, u69_2), rfl, ⟨by (try dsimp only); omega, by (try dsimp only); omega, by (try dsimp only); omega, by (try dsimp only); omega, by (try dsimp only); omega, by (try dsimp only); omega, by (try dsimp only); omega, by (try dsimp only); omega, by (try dsimp only); omega, by (try dsimp only); exact zcmY F9 F18 (by omega) i35 F40, by (try dsimp only); exact fun hw => erCmp F9 i35 (F40_1 (by omega)) (F69 v9.toInt (by first | (rw [show v9.toInt = 61 by omega]; decide) | (rw [show v9.toInt = 60 by omega]; decide) | (rw [show v9.toInt = 62 by omega]; decide)) (by omega) (by omega)) (by have := hpar.2.2.1; omega), by (try dsimp only); first | exact zPar_mono f69_1 (by omega) (by omega) (by omega) (by omega)⟩, ⟨by rw [ht]; exact hP, hD⟩⟩, hS.F ht⟩) hS.2.2 dX11_compare_72
      · have c58 : v9.toInt = 60 := z5 rfl (by decide) c58
        refine lv_bipush (v := 7) hx hb dX11_compare_61 (by decide) ?_
        refine lv_goto (tgt := 68) hx hb dX11_compare_63 (by decide) ?_
        refine lv_iconst (v := 0) hx hb dX11_compare_68 (by decide) ?_
        obtain ⟨hPc, hDc, hFc⟩ := zc3 (wc := [(h0, .inr (11, [.int th, .ref tB, .int tsz, .int u40_0, .int u40_1, .int u40_2, .ref rC, .ref rV, .ref rD, .ref rK, .ref rT, .ref rS, .ref rU, .int lw, .int tx, .ref rL, .ref rX, .ref qR, .ref qB, .ref qP, .int qnb, .int qnp, .ref aR, .ref aB, .ref aP, .int nb, .int np, .ref aN, .ref rf, .int ho, .int br, .ref aK, .int ac, .long dw, .ref aE, .int sr, .int sf, .ref aA, .ref aH, .ref aI, .int hi])), (rC, .inl (cI, 2600, .inl u40_3)), (rV, .inl (cI, 2600, .inl u40_4)), (rD, .inl (cI, 5, .inl u40_5))]) hP hD hS hA [0, 2, 3, 4] (by decide +kernel) rfl
        refine va_callv (va_runV (As := [.int 7, .int 0]) (rest := []) ⟨hx, hb, hml, hown, hts⟩ (g_X11_put_op l dC dI cI cJ h0 7 0 th tB tsz u40_0 u40_1 u40_2 rC rV rD rK rT rS rU lw tx rL rX qR qB qP qnb qnp aR aB aP nb np aN rf ho br aK ac dw aE sr sf aA aH aI hi u40_3 u40_4 u40_5 gC gV fz k st h H.size n_ac n_hi n_ho n_lw n_nb n_np (by decide) n_qnb n_qnp (by omega) n_tsz n_tx ⟨f40_2, f40_3⟩ (by first | exact zPar_mono f40_11 (by omega) (by omega) (by omega) (by omega)) (by first | decide | omega)) (cwV 2 hts (zgV qw1332 qw1334 qw43 qw108 qw1335) rfl rfl rfl hd_X11_put ⟨by (try dsimp only) <;> omega, by (try dsimp only) <;> omega⟩) (zPV hPc hK hDc (va_recv (q := (RX11, TX11, 41)) hK hP (ci := 11) (q0 := 0) rfl rfl)) rfl rfl hl.1 rfl (lv_room (Nat.le_of_ble_eq_true rfl)) dX11_compare_69 ⟨Nat.zero_le _, Nat.zero_le _⟩) hS (fun q _ h => hFc q h) hFc (fun u69 t H locs ht hvm hw hB hz1 hk1 hS9 => ?_)
        obtain ⟨u69_0, u69_1, u69_2⟩ := u69
        obtain ⟨hP9, hD9⟩ := zj2 (wX := [(h0, .inr (11, [.int th, .ref tB, .int tsz, .int u40_0, .int u40_1, .int u40_2, .ref rC, .ref rV, .ref rD, .ref rK, .ref rT, .ref rS, .ref rU, .int lw, .int tx, .ref rL, .ref rX, .ref qR, .ref qB, .ref qP, .int qnb, .int qnp, .ref aR, .ref aB, .ref aP, .int nb, .int np, .ref aN, .ref rf, .int ho, .int br, .ref aK, .int ac, .long dw, .ref aE, .int sr, .int sf, .ref aA, .ref aH, .ref aI, .int hi])), (tB, .inl (cI, 240, .inl fB)), (rC, .inl (cI, 2600, .inl u69_0)), (rV, .inl (cI, 2600, .inl u69_1)), (rD, .inl (cI, 5, .inl u69_2))]) hP hD hk1 hFc ht hB [0, 2, 3, 4] [(true, 0), (false, 1), (true, 1), (true, 2), (true, 3)] rfl (by decide +kernel) (by decide +kernel) rfl
        clear hP hD hS hPc hDc hFc hB hk1 hz1 hvm
        have hP := hP9
        have hD := hD9
        have hS := hS9
        clear hP9 hD9 hS9
        have zn69_7 : (7 : Int32).toInt = 7 := by decide
        obtain ⟨f69_0, f69_1⟩ : (∀ x : Int, eRc x = (7 : Int32).toInt → ¬ x = 1 → ¬ x = 2 → zEr u40_3 u40_4 (520 * tx.toInt.toNat) (u40_5 tx.toInt.toNat).toInt ([(x, 0)]) u69_0 u69_1 (u69_2 tx.toInt.toNat).toInt) ∧ (zPar u40_1 u40_0 u69_0 u69_1 u69_2 tx gC gV fz (k) st (h + 1)) := hw
        have F69 := f69_0
        rw [hQ]
        exact W.vret hx hb hr (fun t ht hW => ⟨⟨(u40_0, u40_1, u40_2, u69_0, u69_1, u69_2), rfl, ⟨by (try dsimp only); omega, by (try dsimp only); omega, by (try dsimp only); omega, by (try dsimp only); omega, by (try dsimp only); omega, by (try dsimp only); omega, by (try dsimp only); omega, by (try dsimp only); omega, by (try dsimp only); omega, by (try dsimp only); exact zcmY F9 F18 (by omega) i35 F40, by (try dsimp only); exact fun hw => erCmp F9 i35 (F40_1 (by omega)) (F69 v9.toInt (by first | (rw [show v9.toInt = 61 by omega]; decide) | (rw [show v9.toInt = 60 by omega]; decide) | (rw [show v9.toInt = 62 by omega]; decide)) (by omega) (by omega)) (by have := hpar.2.2.1; omega), by (try dsimp only); first | exact zPar_mono f69_1 (by omega) (by omega) (by omega) (by omega)⟩, ⟨by rw [ht]; exact hP, hD⟩⟩, hS.F ht⟩) hS.2.2 dX11_compare_72
    · have c47 : v9.toInt = 61 := z5 rfl (by decide) c47
      refine lv_bipush (v := 6) hx hb dX11_compare_50 (by decide) ?_
      refine lv_goto (tgt := 68) hx hb dX11_compare_52 (by decide) ?_
      refine lv_iconst (v := 0) hx hb dX11_compare_68 (by decide) ?_
      obtain ⟨hPc, hDc, hFc⟩ := zc3 (wc := [(h0, .inr (11, [.int th, .ref tB, .int tsz, .int u40_0, .int u40_1, .int u40_2, .ref rC, .ref rV, .ref rD, .ref rK, .ref rT, .ref rS, .ref rU, .int lw, .int tx, .ref rL, .ref rX, .ref qR, .ref qB, .ref qP, .int qnb, .int qnp, .ref aR, .ref aB, .ref aP, .int nb, .int np, .ref aN, .ref rf, .int ho, .int br, .ref aK, .int ac, .long dw, .ref aE, .int sr, .int sf, .ref aA, .ref aH, .ref aI, .int hi])), (rC, .inl (cI, 2600, .inl u40_3)), (rV, .inl (cI, 2600, .inl u40_4)), (rD, .inl (cI, 5, .inl u40_5))]) hP hD hS hA [0, 2, 3, 4] (by decide +kernel) rfl
      refine va_callv (va_runV (As := [.int 6, .int 0]) (rest := []) ⟨hx, hb, hml, hown, hts⟩ (g_X11_put_op l dC dI cI cJ h0 6 0 th tB tsz u40_0 u40_1 u40_2 rC rV rD rK rT rS rU lw tx rL rX qR qB qP qnb qnp aR aB aP nb np aN rf ho br aK ac dw aE sr sf aA aH aI hi u40_3 u40_4 u40_5 gC gV fz k st h H.size n_ac n_hi n_ho n_lw n_nb n_np (by decide) n_qnb n_qnp (by omega) n_tsz n_tx ⟨f40_2, f40_3⟩ (by first | exact zPar_mono f40_11 (by omega) (by omega) (by omega) (by omega)) (by first | decide | omega)) (cwV 2 hts (zgV qw1332 qw1334 qw43 qw108 qw1335) rfl rfl rfl hd_X11_put ⟨by (try dsimp only) <;> omega, by (try dsimp only) <;> omega⟩) (zPV hPc hK hDc (va_recv (q := (RX11, TX11, 41)) hK hP (ci := 11) (q0 := 0) rfl rfl)) rfl rfl hl.1 rfl (lv_room (Nat.le_of_ble_eq_true rfl)) dX11_compare_69 ⟨Nat.zero_le _, Nat.zero_le _⟩) hS (fun q _ h => hFc q h) hFc (fun u69 t H locs ht hvm hw hB hz1 hk1 hS9 => ?_)
      obtain ⟨u69_0, u69_1, u69_2⟩ := u69
      obtain ⟨hP9, hD9⟩ := zj2 (wX := [(h0, .inr (11, [.int th, .ref tB, .int tsz, .int u40_0, .int u40_1, .int u40_2, .ref rC, .ref rV, .ref rD, .ref rK, .ref rT, .ref rS, .ref rU, .int lw, .int tx, .ref rL, .ref rX, .ref qR, .ref qB, .ref qP, .int qnb, .int qnp, .ref aR, .ref aB, .ref aP, .int nb, .int np, .ref aN, .ref rf, .int ho, .int br, .ref aK, .int ac, .long dw, .ref aE, .int sr, .int sf, .ref aA, .ref aH, .ref aI, .int hi])), (tB, .inl (cI, 240, .inl fB)), (rC, .inl (cI, 2600, .inl u69_0)), (rV, .inl (cI, 2600, .inl u69_1)), (rD, .inl (cI, 5, .inl u69_2))]) hP hD hk1 hFc ht hB [0, 2, 3, 4] [(true, 0), (false, 1), (true, 1), (true, 2), (true, 3)] rfl (by decide +kernel) (by decide +kernel) rfl
      clear hP hD hS hPc hDc hFc hB hk1 hz1 hvm
      have hP := hP9
      have hD := hD9
      have hS := hS9
      clear hP9 hD9 hS9
      have zn69_6 : (6 : Int32).toInt = 6 := by decide
      obtain ⟨f69_0, f69_1⟩ : (∀ x : Int, eRc x = (6 : Int32).toInt → ¬ x = 1 → ¬ x = 2 → zEr u40_3 u40_4 (520 * tx.toInt.toNat) (u40_5 tx.toInt.toNat).toInt ([(x, 0)]) u69_0 u69_1 (u69_2 tx.toInt.toNat).toInt) ∧ (zPar u40_1 u40_0 u69_0 u69_1 u69_2 tx gC gV fz (k) st (h + 1)) := hw
      have F69 := f69_0
      rw [hQ]
      exact W.vret hx hb hr (fun t ht hW => ⟨⟨(u40_0, u40_1, u40_2, u69_0, u69_1, u69_2), rfl, ⟨by (try dsimp only); omega, by (try dsimp only); omega, by (try dsimp only); omega, by (try dsimp only); omega, by (try dsimp only); omega, by (try dsimp only); omega, by (try dsimp only); omega, by (try dsimp only); omega, by (try dsimp only); omega, by (try dsimp only); exact zcmY F9 F18 (by omega) i35 F40, by (try dsimp only); exact fun hw => erCmp F9 i35 (F40_1 (by omega)) (F69 v9.toInt (by first | (rw [show v9.toInt = 61 by omega]; decide) | (rw [show v9.toInt = 60 by omega]; decide) | (rw [show v9.toInt = 62 by omega]; decide)) (by omega) (by omega)) (by have := hpar.2.2.1; omega), by (try dsimp only); first | exact zPar_mono f69_1 (by omega) (by omega) (by omega) (by omega)⟩, ⟨by rw [ht]; exact hP, hD⟩⟩, hS.F ht⟩) hS.2.2 dX11_compare_72
  · have c21 : v18.toInt = 0 := z5 rfl (by decide) c21
    refine lv_aload_n hx hb dX11_compare_24 rfl (lv_at hl 1 rfl) ?_
    obtain ⟨hPc, hDc, hFc⟩ := zc3 (wc := [(h0, .inr (11, [.int th, .ref tB, .int tsz, .int u9_0, .int (-1), .int dp, .ref rC, .ref rV, .ref rD, .ref rK, .ref rT, .ref rS, .ref rU, .int lw, .int tx, .ref rL, .ref rX, .ref qR, .ref qB, .ref qP, .int qnb, .int qnp, .ref aR, .ref aB, .ref aP, .int nb, .int np, .ref aN, .ref rf, .int ho, .int br, .ref aK, .int ac, .long dw, .ref aE, .int sr, .int sf, .ref aA, .ref aH, .ref aI, .int hi]))]) hP hD hS hA [0] (by decide +kernel) rfl
    refine va_callv (va_runV (As := []) (rest := []) ⟨hx, hb, hml, hown, hts⟩ (g_X11_bad_m l dC dI cI cJ h0 th tB tsz u9_0 dp rC rV rD rK rT rS rU lw tx rL rX qR qB qP qnb qnp aR aB aP nb np aN rf ho br aK ac dw aE sr sf aA aH aI hi H.size n_ac n_hi n_ho n_lw n_nb n_np n_qnb n_qnp (by omega) n_tsz) (cwV 0 hts (zgV qw1301 qw1303 qw36 qw108 qw1304) rfl rfl rfl hd_X11_bad ⟨by (try dsimp only) <;> omega, by (try dsimp only) <;> omega⟩) (zPV hPc hK hDc (va_recv (q := (RX11, TX11, 41)) hK hP (ci := 11) (q0 := 0) rfl rfl)) rfl rfl hl.1 rfl (lv_room (Nat.le_of_ble_eq_true rfl)) dX11_compare_25 ⟨Nat.zero_le _, Nat.zero_le _⟩) hS (fun q _ h => hFc q h) hFc (fun u25 t H locs ht hvm hw hB hz1 hk1 hS9 => ?_)
    obtain ⟨hP9, hD9⟩ := zj2 (wX := [(h0, .inr (11, [.int th, .ref tB, .int tsz, .int u9_0, .int u9_0, .int dp, .ref rC, .ref rV, .ref rD, .ref rK, .ref rT, .ref rS, .ref rU, .int lw, .int tx, .ref rL, .ref rX, .ref qR, .ref qB, .ref qP, .int qnb, .int qnp, .ref aR, .ref aB, .ref aP, .int nb, .int np, .ref aN, .ref rf, .int ho, .int br, .ref aK, .int ac, .long dw, .ref aE, .int sr, .int sf, .ref aA, .ref aH, .ref aI, .int hi])), (tB, .inl (cI, 240, .inl fB)), (rC, .inl (cI, 2600, .inl fC)), (rV, .inl (cI, 2600, .inl fV)), (rD, .inl (cI, 5, .inl fD))]) hP hD hk1 hFc ht hB [0] [(true, 0), (false, 1), (false, 2), (false, 3), (false, 4)] rfl (by decide +kernel) (by decide +kernel) rfl
    clear hP hD hS hPc hDc hFc hB hk1 hz1 hvm
    have hP := hP9
    have hD := hD9
    have hS := hS9
    clear hP9 hD9 hS9
    rw [hQ]
    exact W.vret hx hb hr (fun t ht hW => ⟨⟨(u9_0, u9_0, dp, fC, fV, fD), rfl, ⟨by (try dsimp only); omega, by (try dsimp only); omega, by (try dsimp only); omega, by (try dsimp only); omega, by (try dsimp only); omega, by (try dsimp only); omega, by (try dsimp only); omega, by (try dsimp only); omega, by (try dsimp only); omega, by (try dsimp only); exact zcmN F9 F18 (by omega) (by omega) (by omega), by (try dsimp only); exact fun hw => absurd hw (by omega), by (try dsimp only); first | exact zPar_bad hpar (by omega) (by omega) (by omega)⟩, ⟨by rw [ht]; exact hP, hD⟩⟩, hS.F ht⟩) hS.2.2 dX11_compare_28
set_option maxHeartbeats 4000000 in
set_option maxRecDepth 100000 in
theorem g_X11_atom_z (l : Launch) (K fr lo : Nat)  (hfr : 1 ≤ fr) (hlo : 42 ≤ lo) : zQ_X11_atom l 0 (fr + 1) (lo + 40) := by
  intro dC dI cI cJ h0 th tB tsz tat dp rC rV rD rK rT rS rU lw tx rL rX qR qB qP qnb qnp aR aB aP nb np aN rf ho br aK ac dw aE sr sf aA aH aI hi fB fC fV fD gC gV fz k st h sz n_ac n_dp n_hi n_ho n_lw n_nb n_np n_qnb n_qnp n_tat n_tsz n_tx hpar hat hh hKd hK6
  obtain rfl : dp = 6 := z7 (a := 6) (by decide) (by omega)
  refine Met.ofW (cc := cX11_atom) (maxL := 2) (ret := none) (by decide) rfl ?_
  intro p e s m args below meth c s₁ B hml hv
  obtain ⟨hargs, hsz, hP, hK, hT⟩ := hv
  have hx := B.exec
  have hb := B.bytes
  have hr := B.returns
  have hts : ∀ w ∈ wA, w.before args s = true := fun w h => atoms_spec (ws := .code yX11_atom cX11_atom 2 none :: wA) B.pre w (List.mem_cons_of_mem _ h)
  have hown : s.vm.findClass RX11 = some m.cls := findClass_of_methodNamed B.named
  have hlocks := B.notSynchronized
  subst hsz
  have hD := hT.self (sz := s.heap.size)
  generalize hAe : va_A [(h0, .inr (11, [.int th, .ref tB, .int tsz, .int tat, .int (-1), .int 6, .ref rC, .ref rV, .ref rD, .ref rK, .ref rT, .ref rS, .ref rU, .int lw, .int tx, .ref rL, .ref rX, .ref qR, .ref qB, .ref qP, .int qnb, .int qnp, .ref aR, .ref aB, .ref aP, .int nb, .int np, .ref aN, .ref rf, .int ho, .int br, .ref aK, .int ac, .long dw, .ref aE, .int sr, .int sf, .ref aA, .ref aH, .ref aI, .int hi])), (tB, .inl (cI, 240, .inl fB)), (rC, .inl (cI, 2600, .inl fC)), (rV, .inl (cI, 2600, .inl fV)), (rD, .inl (cI, 5, .inl fD))] s.heap.size = A at hD ⊢
  have hA : ∀ q : Nat, s.heap.size ≤ q → A q := fun q h => by rw [← hAe]; exact Or.inr h
  have hl := lv_entry ([.ref h0]) (n := 2) (Nat.le_of_ble_eq_true rfl)
  rw [show entryFrame m args 2 = entryFrame m ([.ref h0] : List Value).toArray 2 by rw [hargs], lg_entry_eq]
  generalize (lg_sl ([.ref h0]) ++ List.replicate (2 - (lg_sl ([.ref h0])).length) Slot.unset).toArray = ls at hl ⊢
  have hl : lv_has ls 2 [(0, .ref h0)] := hl
  refine zstart (fun H hH => ?_)
  rw [← hH] at hP
  have hS : va_S A s.heap H [] := by rw [hH]; exact va_S.rf
  generalize ([] : List Loc) = locs at hS ⊢
  refine zgen (fun R Q hR hQ => ?_)
  have hRf : R.frames = fr + 1 := by rw [hR]; rfl
  have hRl : R.locals = lo + 40 := by rw [hR]; rfl
  have zm1 : (-1 : Int32).toInt = -1 := by decide
  refine lv_aload_n hx hb dX11_atom_0 rfl (lv_at hl 0 rfl) ?_
  obtain ⟨hPc, hDc, hFc⟩ := zc3 (wc := [(h0, .inr (11, [.int th, .ref tB, .int tsz, .int tat, .int (-1), .int 6, .ref rC, .ref rV, .ref rD, .ref rK, .ref rT, .ref rS, .ref rU, .int lw, .int tx, .ref rL, .ref rX, .ref qR, .ref qB, .ref qP, .int qnb, .int qnp, .ref aR, .ref aB, .ref aP, .int nb, .int np, .ref aN, .ref rf, .int ho, .int br, .ref aK, .int ac, .long dw, .ref aE, .int sr, .int sf, .ref aA, .ref aH, .ref aI, .int hi])), (tB, .inl (cI, 240, .inl fB))]) hP hD hS hA [0, 1] (by decide +kernel) rfl
  refine va_calli (va_runV (As := []) (rest := []) ⟨hx, hb, hml, hown, hts⟩ (g_X11_look_t l dC dI cI cJ h0 th tB tsz tat ((-1)) 6 rC rV rD rK rT rS rU lw tx rL rX qR qB qP qnb qnp aR aB aP nb np aN rf ho br aK ac dw aE sr sf aA aH aI hi fB H.size n_ac n_hi n_ho n_lw n_nb n_np n_qnb n_qnp n_tat n_tsz (by decide)) (cwV 0 hts (zgV qw1273 qw1275 qw32 qw108 qw1276) rfl rfl rfl hd_X11_look ⟨by (try dsimp only) <;> omega, by (try dsimp only) <;> omega⟩) (zPV hPc hK hDc (va_recv (q := (RX11, TX11, 41)) hK hP (ci := 11) (q0 := 0) rfl rfl)) rfl rfl hl.1 rfl (lv_room (Nat.le_of_ble_eq_true rfl)) dX11_atom_1 ⟨Nat.zero_le _, Nat.zero_le _⟩) hS (fun q _ h => hFc q h) hFc (fun v1 u1 t H locs ht hvm hw hB hz1 hk1 hS9 => ?_)
  obtain ⟨u1_0, rfl⟩ : ∃ z, z = u1 := ⟨_, rfl⟩
  obtain ⟨hP9, hD9⟩ := zj2 (wX := [(h0, .inr (11, [.int th, .ref tB, .int tsz, .int u1_0, .int (-1), .int 6, .ref rC, .ref rV, .ref rD, .ref rK, .ref rT, .ref rS, .ref rU, .int lw, .int tx, .ref rL, .ref rX, .ref qR, .ref qB, .ref qP, .int qnb, .int qnp, .ref aR, .ref aB, .ref aP, .int nb, .int np, .ref aN, .ref rf, .int ho, .int br, .ref aK, .int ac, .long dw, .ref aE, .int sr, .int sf, .ref aA, .ref aH, .ref aI, .int hi])), (tB, .inl (cI, 240, .inl fB)), (rC, .inl (cI, 2600, .inl fC)), (rV, .inl (cI, 2600, .inl fV)), (rD, .inl (cI, 5, .inl fD))]) hP hD hk1 hFc ht hB [0, 1] [(true, 0), (true, 1), (false, 2), (false, 3), (false, 4)] rfl (by decide +kernel) (by decide +kernel) rfl
  clear hP hD hS hPc hDc hFc hB hk1 hz1 hvm
  have hP := hP9
  have hD := hD9
  have hS := hS9
  clear hP9 hD9 hS9
  obtain ⟨f1_0, f1_1, f1_2, f1_3, f1_4, f1_5⟩ : (0 ≤ u1_0.toInt) ∧ (u1_0.toInt ≤ 240) ∧ (¬ v1.toInt = -1 → u1_0.toInt < tsz.toInt) ∧ (tat.toInt ≤ u1_0.toInt) ∧ (u1_0.toInt ≤ tsz.toInt ∨ u1_0.toInt = tat.toInt) ∧ (zLk fB tsz tat v1 u1_0) := hw
  have F1 := f1_5
  refine lv_istore_n (lv' := [(1, .int v1), (0, .ref h0)]) hx hb dX11_atom_4 rfl hl (by decide) rfl (fun ls hl => ?_)
  refine lv_iload_n hx hb dX11_atom_5 rfl (lv_at hl 0 rfl) ?_
  have hPc : va_P (dC, dI) vwCl [] H := zP0
  have hDc : va_D (fun _ => True) [] := zD0
  have hFc := zfr hS hA
  refine va_calli (va_runS (As := [.int v1]) (rest := []) ⟨hx, hb, hml, hown, hts⟩ (g_X11_isDigit l dC dI cI cJ v1 H.size) (cwS 1 hts (zgS qw1298 qw1299 qw108 qw1300) rfl rfl rfl hd_X11_isDigit ⟨by (try dsimp only) <;> omega, by (try dsimp only) <;> omega⟩) (zPS hPc hK hDc) rfl rfl hl.1 rfl (lv_room (Nat.le_of_ble_eq_true rfl)) dX11_atom_6 ⟨Nat.zero_le _, Nat.zero_le _⟩) hS (fun q _ h => hFc q h) hFc (fun v6 u6 t H locs ht hvm hw hB hz1 hk1 hS9 => ?_)
  replace hP := zkeep hP hk1
  replace hS := hS9
  clear hPc hDc hFc hk1 hz1 hvm hS9
  obtain ⟨f6_0, f6_1, f6_2, f6_3⟩ : (0 ≤ v6.toInt) ∧ (v6.toInt ≤ 1) ∧ (¬ v6.toInt = 0 → (48 ≤ v1.toInt ∧ v1.toInt ≤ 57)) ∧ (zIs (oG v1.toInt) v6) := hw
  have F6 := f6_3
  refine lv_if_eq (tgt := 24) hx hb dX11_atom_9 (by decide) (fun c9 => ?_) (fun c9 => ?_)
  · have c9 : v6.toInt = 0 := z5 rfl (by decide) c9
    refine lv_iload_n hx hb dX11_atom_24 rfl (lv_at hl 0 rfl) ?_
    have hPc : va_P (dC, dI) vwCl [] H := zP0
    have hDc : va_D (fun _ => True) [] := zD0
    have hFc := zfr hS hA
    refine va_calli (va_runS (As := [.int v1]) (rest := []) ⟨hx, hb, hml, hown, hts⟩ (g_X11_letterOf_f l dC dI cI cJ v1 H.size) (cwS 1 hts (zgS qw1356 qw1357 qw108 qw1358) rfl rfl rfl hd_X11_letterOf ⟨by (try dsimp only) <;> omega, by (try dsimp only) <;> omega⟩) (zPS hPc hK hDc) rfl rfl hl.1 rfl (lv_room (Nat.le_of_ble_eq_true rfl)) dX11_atom_25 ⟨Nat.zero_le _, Nat.zero_le _⟩) hS (fun q _ h => hFc q h) hFc (fun v25 u25 t H locs ht hvm hw hB hz1 hk1 hS9 => ?_)
    replace hP := zkeep hP hk1
    replace hS := hS9
    clear hPc hDc hFc hk1 hz1 hvm hS9
    obtain ⟨f25_0, f25_1, f25_2, f25_3, f25_4⟩ : ((-1) ≤ v25.toInt) ∧ (v25.toInt ≤ 5) ∧ (0 ≤ v25.toInt → (v1.toInt = 102 ∨ v1.toInt = 119 ∨ v1.toInt = 121 ∨ v1.toInt = 115 ∨ v1.toInt = 97 ∨ v1.toInt = 109)) ∧ (v25.toInt = -1 → ¬ (v1.toInt = 102 ∨ v1.toInt = 119 ∨ v1.toInt = 121 ∨ v1.toInt = 115 ∨ v1.toInt = 97 ∨ v1.toInt = 109)) ∧ (0 ≤ v25.toInt → v25.toInt = eLt v1.toInt) := hw
    have F25 := f25_4
    refine lv_iconst (v := (-1)) hx hb dX11_atom_28 (by decide) ?_
    refine lv_icmp_eq (tgt := 54) hx hb dX11_atom_29 (by decide) (fun c29 => ?_) (fun c29 => ?_)
    · have c29 : v25.toInt = (-1) := z5 rfl (by decide) c29
      refine lv_iload_n hx hb dX11_atom_54 rfl (lv_at hl 0 rfl) ?_
      refine lv_bipush (v := 91) hx hb dX11_atom_55 (by decide) ?_
      refine lv_icmp_ne (tgt := 85) hx hb dX11_atom_57 (by decide) (fun c57 => ?_) (fun c57 => ?_)
      · have c57 : ¬ v1.toInt = 91 := z6 rfl (by decide) c57
        refine lv_aload_n hx hb dX11_atom_85 rfl (lv_at hl 1 rfl) ?_
        obtain ⟨hPc, hDc, hFc⟩ := zc3 (wc := [(h0, .inr (11, [.int th, .ref tB, .int tsz, .int u1_0, .int (-1), .int 6, .ref rC, .ref rV, .ref rD, .ref rK, .ref rT, .ref rS, .ref rU, .int lw, .int tx, .ref rL, .ref rX, .ref qR, .ref qB, .ref qP, .int qnb, .int qnp, .ref aR, .ref aB, .ref aP, .int nb, .int np, .ref aN, .ref rf, .int ho, .int br, .ref aK, .int ac, .long dw, .ref aE, .int sr, .int sf, .ref aA, .ref aH, .ref aI, .int hi]))]) hP hD hS hA [0] (by decide +kernel) rfl
        refine va_callv (va_runV (As := []) (rest := []) ⟨hx, hb, hml, hown, hts⟩ (g_X11_bad_m l dC dI cI cJ h0 th tB tsz u1_0 6 rC rV rD rK rT rS rU lw tx rL rX qR qB qP qnb qnp aR aB aP nb np aN rf ho br aK ac dw aE sr sf aA aH aI hi H.size n_ac n_hi n_ho n_lw n_nb n_np n_qnb n_qnp (by omega) n_tsz) (cwV 0 hts (zgV qw1301 qw1303 qw36 qw108 qw1304) rfl rfl rfl hd_X11_bad ⟨by (try dsimp only) <;> omega, by (try dsimp only) <;> omega⟩) (zPV hPc hK hDc (va_recv (q := (RX11, TX11, 41)) hK hP (ci := 11) (q0 := 0) rfl rfl)) rfl rfl hl.1 rfl (lv_room (Nat.le_of_ble_eq_true rfl)) dX11_atom_86 ⟨Nat.zero_le _, Nat.zero_le _⟩) hS (fun q _ h => hFc q h) hFc (fun u86 t H locs ht hvm hw hB hz1 hk1 hS9 => ?_)
        obtain ⟨hP9, hD9⟩ := zj2 (wX := [(h0, .inr (11, [.int th, .ref tB, .int tsz, .int u1_0, .int u1_0, .int 6, .ref rC, .ref rV, .ref rD, .ref rK, .ref rT, .ref rS, .ref rU, .int lw, .int tx, .ref rL, .ref rX, .ref qR, .ref qB, .ref qP, .int qnb, .int qnp, .ref aR, .ref aB, .ref aP, .int nb, .int np, .ref aN, .ref rf, .int ho, .int br, .ref aK, .int ac, .long dw, .ref aE, .int sr, .int sf, .ref aA, .ref aH, .ref aI, .int hi])), (tB, .inl (cI, 240, .inl fB)), (rC, .inl (cI, 2600, .inl fC)), (rV, .inl (cI, 2600, .inl fV)), (rD, .inl (cI, 5, .inl fD))]) hP hD hk1 hFc ht hB [0] [(true, 0), (false, 1), (false, 2), (false, 3), (false, 4)] rfl (by decide +kernel) (by decide +kernel) rfl
        clear hP hD hS hPc hDc hFc hB hk1 hz1 hvm
        have hP := hP9
        have hD := hD9
        have hS := hS9
        clear hP9 hD9 hS9
        have zr3 : (6 : Int32).toInt = 6 := by decide
        rw [hQ]
        exact W.vret hx hb hr (fun t ht hW => ⟨⟨(u1_0, u1_0, 6, fC, fV, fD), rfl, ⟨by (try dsimp only); omega, by (try dsimp only); omega, by (try dsimp only); omega, by (try dsimp only); omega, by (try dsimp only); omega, by (try dsimp only); omega, by (try dsimp only); omega, by (try dsimp only); omega, by (try dsimp only); omega, by (try dsimp only); exact zaX F1 F6 (by omega) (f25_3 (by omega)) (by omega) (by omega) (by omega), by (try dsimp only); exact fun hw => absurd hw (by omega), by (try dsimp only); first | exact zPar_bad hpar (by omega) (by omega) (by omega)⟩, ⟨by rw [ht]; exact hP, hD⟩⟩, hS.F ht⟩) hS.2.2 dX11_atom_89
      · have c57 : v1.toInt = 91 := z5 rfl (by decide) c57
        refine lv_aload_n hx hb dX11_atom_60 rfl (lv_at hl 1 rfl) ?_
        obtain ⟨hPc, hDc, hFc⟩ := zc3 (wc := [(h0, .inr (11, [.int th, .ref tB, .int tsz, .int u1_0, .int (-1), .int 6, .ref rC, .ref rV, .ref rD, .ref rK, .ref rT, .ref rS, .ref rU, .int lw, .int tx, .ref rL, .ref rX, .ref qR, .ref qB, .ref qP, .int qnb, .int qnp, .ref aR, .ref aB, .ref aP, .int nb, .int np, .ref aN, .ref rf, .int ho, .int br, .ref aK, .int ac, .long dw, .ref aE, .int sr, .int sf, .ref aA, .ref aH, .ref aI, .int hi]))]) hP hD hS hA [0] (by decide +kernel) rfl
        refine va_callv (va_runV (As := []) (rest := []) ⟨hx, hb, hml, hown, hts⟩ (g_X11_opens_6 l dC dI cI cJ h0 th tB tsz u1_0 rC rV rD rK rT rS rU lw tx rL rX qR qB qP qnb qnp aR aB aP nb np aN rf ho br aK ac dw aE sr sf aA aH aI hi H.size n_ac n_hi n_ho n_lw n_nb n_np n_qnb n_qnp (by omega) n_tsz (by omega)) (cwV 0 hts (zgV qw1328 qw1330 qw42 qw108 qw1331) rfl rfl rfl hd_X11_opens ⟨by (try dsimp only) <;> omega, by (try dsimp only) <;> omega⟩) (zPV hPc hK hDc (va_recv (q := (RX11, TX11, 41)) hK hP (ci := 11) (q0 := 0) rfl rfl)) rfl rfl hl.1 rfl (lv_room (Nat.le_of_ble_eq_true rfl)) dX11_atom_61 ⟨Nat.zero_le _, Nat.zero_le _⟩) hS (fun q _ h => hFc q h) hFc (fun u61 t H locs ht hvm hw hB hz1 hk1 hS9 => ?_)
        obtain ⟨u61_0, rfl⟩ : ∃ z, z = u61 := ⟨_, rfl⟩
        obtain ⟨hP9, hD9⟩ := zj2 (wX := [(h0, .inr (11, [.int th, .ref tB, .int tsz, .int u61_0, .int u1_0, .int 7, .ref rC, .ref rV, .ref rD, .ref rK, .ref rT, .ref rS, .ref rU, .int lw, .int tx, .ref rL, .ref rX, .ref qR, .ref qB, .ref qP, .int qnb, .int qnp, .ref aR, .ref aB, .ref aP, .int nb, .int np, .ref aN, .ref rf, .int ho, .int br, .ref aK, .int ac, .long dw, .ref aE, .int sr, .int sf, .ref aA, .ref aH, .ref aI, .int hi])), (tB, .inl (cI, 240, .inl fB)), (rC, .inl (cI, 2600, .inl fC)), (rV, .inl (cI, 2600, .inl fV)), (rD, .inl (cI, 5, .inl fD))]) hP hD hk1 hFc ht hB [0] [(true, 0), (false, 1), (false, 2), (false, 3), (false, 4)] rfl (by decide +kernel) (by decide +kernel) rfl
        clear hP hD hS hPc hDc hFc hB hk1 hz1 hvm
        have hP := hP9
        have hD := hD9
        have hS := hS9
        clear hP9 hD9 hS9
        obtain ⟨f61_0, f61_1, f61_2⟩ : (1 ≤ u61_0.toInt) ∧ (u61_0.toInt ≤ 240) ∧ (u61_0.toInt = u1_0.toInt + 1) := hw
        refine lv_aload_n hx hb dX11_atom_64 rfl (lv_at hl 1 rfl) ?_
        refine va_get (D := (dC, dI)) (ci := 11) (v := .int u1_0) (C := RX11) (T := TX11) (N := 41) hx hb hts iX11 hown hK hP 0 rfl rfl 4 (by decide) (hts _ qw1131) (fun _ h9 => h9) rfl dX11_atom_65 ?_
        refine lv_iconst (v := (-1)) hx hb dX11_atom_68 (by decide) ?_
        refine lv_icmp_ne (tgt := 89) hx hb dX11_atom_69 (by decide) (fun c69 => ?_) (fun c69 => by exfalso; have c69 : u1_0.toInt = (-1) := z5 rfl (by decide) c69; omega)
        have c69 : ¬ u1_0.toInt = (-1) := z6 rfl (by decide) c69
        have zr3 : (7 : Int32).toInt = 7 := by decide
        rw [hQ]
        exact W.vret hx hb hr (fun t ht hW => ⟨⟨(u61_0, u1_0, 7, fC, fV, fD), rfl, ⟨by (try dsimp only); omega, by (try dsimp only); omega, by (try dsimp only); omega, by (try dsimp only); omega, by (try dsimp only); omega, by (try dsimp only); omega, by (try dsimp only); omega, by (try dsimp only); omega, by (try dsimp only); omega, by (try dsimp only); exact zaT F1 (by omega) (by omega) (by omega), by (try dsimp only); exact fun hw => absurd hw (by omega), by (try dsimp only); first | exact zPar_bad hpar (by omega) (by omega) (by omega)⟩, ⟨by rw [ht]; exact hP, hD⟩⟩, hS.F ht⟩) hS.2.2 dX11_atom_89
    · have c29 : ¬ v25.toInt = (-1) := z6 rfl (by decide) c29
      refine lv_aload_n hx hb dX11_atom_32 rfl (lv_at hl 1 rfl) ?_
      refine lv_dup hx hb dX11_atom_33 rfl ?_
      refine va_get (D := (dC, dI)) (ci := 11) (v := .int u1_0) (C := RX11) (T := TX11) (N := 41) hx hb hts iX11 hown hK hP 0 rfl rfl 3 (by decide) (hts _ qw1130) (fun _ h9 => h9) rfl dX11_atom_34 ?_
      refine lv_iconst (v := 1) hx hb dX11_atom_37 (by decide) ?_
      refine lv_iadd hx hb dX11_atom_38 ?_
      refine lv_topi (fun v38 e38 => ?_)
      have i38 : v38.toInt = u1_0.toInt + 1 := zadd e38 rfl (by decide) (by omega) (by omega)
      refine va_put (D := (dC, dI)) (ci := 11) (v := .int v38) (ty := .int) (C := RX11) (T := TX11) (N := 41) hx hb hts iX11 tyX11 tyX11_ok nmX11 hown hK hP hD hS 0 rfl rfl 3 (by decide) (hts _ qw1130) (fun _ h9 => h9) rfl (by decide +kernel) rfl rfl (Nat.le_of_ble_eq_true rfl) dX11_atom_39 (fun H locs hP9 hD9 hS9 => ?_)
      clear hP hD hS
      obtain ⟨hP, hD⟩ := zst (wX := [(h0, .inr (11, [.int th, .ref tB, .int tsz, .int v38, .int (-1), .int 6, .ref rC, .ref rV, .ref rD, .ref rK, .ref rT, .ref rS, .ref rU, .int lw, .int tx, .ref rL, .ref rX, .ref qR, .ref qB, .ref qP, .int qnb, .int qnp, .ref aR, .ref aB, .ref aP, .int nb, .int np, .ref aN, .ref rf, .int ho, .int br, .ref aK, .int ac, .long dw, .ref aE, .int sr, .int sf, .ref aA, .ref aH, .ref aI, .int hi])), (tB, .inl (cI, 240, .inl fB)), (rC, .inl (cI, 2600, .inl fC)), (rV, .inl (cI, 2600, .inl fV)), (rD, .inl (cI, 5, .inl fD))]) hP9 hD9 rfl
      have hS := hS9
      clear hP9 hD9 hS9
      refine lv_aload_n hx hb dX11_atom_42 rfl (lv_at hl 1 rfl) ?_
      refine lv_iconst (v := 1) hx hb dX11_atom_43 (by decide) ?_
      refine lv_iload_n hx hb dX11_atom_44 rfl (lv_at hl 0 rfl) ?_
      have hPc : va_P (dC, dI) vwCl [] H := zP0
      have hDc : va_D (fun _ => True) [] := zD0
      have hFc := zfr hS hA
      refine va_calli (va_runS (As := [.int v1]) (rest := [.int 1, .ref h0]) ⟨hx, hb, hml, hown, hts⟩ (g_X11_letterOf_f l dC dI cI cJ v1 H.size) (cwS 1 hts (zgS qw1356 qw1357 qw108 qw1358) rfl rfl rfl hd_X11_letterOf ⟨by (try dsimp only) <;> omega, by (try dsimp only) <;> omega⟩) (zPS hPc hK hDc) rfl rfl hl.1 rfl (lv_room (Nat.le_of_ble_eq_true rfl)) dX11_atom_45 ⟨Nat.zero_le _, Nat.zero_le _⟩) hS (fun q _ h => hFc q h) hFc (fun v45 u45 t H locs ht hvm hw hB hz1 hk1 hS9 => ?_)
      replace hP := zkeep hP hk1
      replace hS := hS9
      clear hPc hDc hFc hk1 hz1 hvm hS9
      obtain ⟨f45_0, f45_1, f45_2, f45_3, f45_4⟩ : ((-1) ≤ v45.toInt) ∧ (v45.toInt ≤ 5) ∧ (0 ≤ v45.toInt → (v1.toInt = 102 ∨ v1.toInt = 119 ∨ v1.toInt = 121 ∨ v1.toInt = 115 ∨ v1.toInt = 97 ∨ v1.toInt = 109)) ∧ (v45.toInt = -1 → ¬ (v1.toInt = 102 ∨ v1.toInt = 119 ∨ v1.toInt = 121 ∨ v1.toInt = 115 ∨ v1.toInt = 97 ∨ v1.toInt = 109)) ∧ (0 ≤ v45.toInt → v45.toInt = eLt v1.toInt) := hw
      have F45 := f45_4
      have q48 : 0 ≤ v45.toInt := by omega
      obtain ⟨hPc, hDc, hFc⟩ := zc3 (wc := [(h0, .inr (11, [.int th, .ref tB, .int tsz, .int v38, .int (-1), .int 6, .ref rC, .ref rV, .ref rD, .ref rK, .ref rT, .ref rS, .ref rU, .int lw, .int tx, .ref rL, .ref rX, .ref qR, .ref qB, .ref qP, .int qnb, .int qnp, .ref aR, .ref aB, .ref aP, .int nb, .int np, .ref aN, .ref rf, .int ho, .int br, .ref aK, .int ac, .long dw, .ref aE, .int sr, .int sf, .ref aA, .ref aH, .ref aI, .int hi])), (rC, .inl (cI, 2600, .inl fC)), (rV, .inl (cI, 2600, .inl fV)), (rD, .inl (cI, 5, .inl fD))]) hP hD hS hA [0, 2, 3, 4] (by decide +kernel) rfl
      refine va_callv (va_runV (As := [.int 1, .int v45]) (rest := []) ⟨hx, hb, hml, hown, hts⟩ (g_X11_put_let l dC dI cI cJ h0 v45 th tB tsz v38 ((-1)) 6 rC rV rD rK rT rS rU lw tx rL rX qR qB qP qnb qnp aR aB aP nb np aN rf ho br aK ac dw aE sr sf aA aH aI hi fC fV fD gC gV fz k st h H.size n_ac n_hi n_ho n_lw n_nb n_np (by omega) n_qnb n_qnp (by omega) n_tsz n_tx (by decide) (by first | exact zPar_mono hpar (by omega) (by omega) (by omega) (by omega)) (by first | decide | omega)) (cwV 2 hts (zgV qw1332 qw1334 qw43 qw108 qw1335) rfl rfl rfl hd_X11_put ⟨by (try dsimp only) <;> omega, by (try dsimp only) <;> omega⟩) (zPV hPc hK hDc (va_recv (q := (RX11, TX11, 41)) hK hP (ci := 11) (q0 := 0) rfl rfl)) rfl rfl hl.1 rfl (lv_room (Nat.le_of_ble_eq_true rfl)) dX11_atom_48 ⟨Nat.zero_le _, Nat.zero_le _⟩) hS (fun q _ h => hFc q h) hFc (fun u48 t H locs ht hvm hw hB hz1 hk1 hS9 => ?_)
      obtain ⟨u48_0, u48_1, u48_2⟩ := u48
      obtain ⟨hP9, hD9⟩ := zj2 (wX := [(h0, .inr (11, [.int th, .ref tB, .int tsz, .int v38, .int (-1), .int 6, .ref rC, .ref rV, .ref rD, .ref rK, .ref rT, .ref rS, .ref rU, .int lw, .int tx, .ref rL, .ref rX, .ref qR, .ref qB, .ref qP, .int qnb, .int qnp, .ref aR, .ref aB, .ref aP, .int nb, .int np, .ref aN, .ref rf, .int ho, .int br, .ref aK, .int ac, .long dw, .ref aE, .int sr, .int sf, .ref aA, .ref aH, .ref aI, .int hi])), (tB, .inl (cI, 240, .inl fB)), (rC, .inl (cI, 2600, .inl u48_0)), (rV, .inl (cI, 2600, .inl u48_1)), (rD, .inl (cI, 5, .inl u48_2))]) hP hD hk1 hFc ht hB [0, 2, 3, 4] [(true, 0), (false, 1), (true, 1), (true, 2), (true, 3)] rfl (by decide +kernel) (by decide +kernel) rfl
      clear hP hD hS hPc hDc hFc hB hk1 hz1 hvm
      have hP := hP9
      have hD := hD9
      have hS := hS9
      clear hP9 hD9 hS9
      obtain ⟨f48_0, f48_1⟩ : (zEr fC fV (520 * tx.toInt.toNat) (fD tx.toInt.toNat).toInt ([(2, v45.toInt)]) u48_0 u48_1 (u48_2 tx.toInt.toNat).toInt) ∧ (zPar (-1) v38 u48_0 u48_1 u48_2 tx gC gV fz (k) st (h + 1)) := hw
      have F48 := f48_0
      refine lv_goto (tgt := 89) hx hb dX11_atom_51 (by decide) ?_
      have zr2 : ((-1) : Int32).toInt = (-1) := by decide
      have zr3 : (6 : Int32).toInt = 6 := by decide
      rw [hQ]
      exact W.vret hx hb hr (fun t ht hW => ⟨⟨(v38, (-1), 6, u48_0, u48_1, u48_2), rfl, ⟨by (try dsimp only); omega, by (try dsimp only); omega, by (try dsimp only); omega, by (try dsimp only); omega, by (try dsimp only); omega, by (try dsimp only); omega, by (try dsimp only); omega, by (try dsimp only); omega, by (try dsimp only); omega, by (try dsimp only); exact zaL F1 (f25_2 (by omega)) i38 (by first | decide | omega), by (try dsimp only); exact fun hw => fra_l F1 (f25_2 (by omega)) (F45 (by omega)) F48, by (try dsimp only); first | exact zPar_mono f48_1 (by omega) (by omega) (by omega) (by omega)⟩, ⟨by rw [ht]; exact hP, hD⟩⟩, hS.F ht⟩) hS.2.2 dX11_atom_89
  · have c9 : ¬ v6.toInt = 0 := z6 rfl (by decide) c9
    refine lv_aload_n hx hb dX11_atom_12 rfl (lv_at hl 1 rfl) ?_
    refine lv_iconst (v := 0) hx hb dX11_atom_13 (by decide) ?_
    refine lv_aload_n hx hb dX11_atom_14 rfl (lv_at hl 1 rfl) ?_
    obtain ⟨hPc, hDc, hFc⟩ := zc3 (wc := [(h0, .inr (11, [.int th, .ref tB, .int tsz, .int u1_0, .int (-1), .int 6, .ref rC, .ref rV, .ref rD, .ref rK, .ref rT, .ref rS, .ref rU, .int lw, .int tx, .ref rL, .ref rX, .ref qR, .ref qB, .ref qP, .int qnb, .int qnp, .ref aR, .ref aB, .ref aP, .int nb, .int np, .ref aN, .ref rf, .int ho, .int br, .ref aK, .int ac, .long dw, .ref aE, .int sr, .int sf, .ref aA, .ref aH, .ref aI, .int hi])), (tB, .inl (cI, 240, .inl fB))]) hP hD hS hA [0, 1] (by decide +kernel) rfl
    refine va_calli (va_runV (As := []) (rest := [.int 0, .ref h0]) ⟨hx, hb, hml, hown, hts⟩ (g_X11_plainNumber l dC dI cI cJ h0 th tB tsz u1_0 6 rC rV rD rK rT rS rU lw tx rL rX qR qB qP qnb qnp aR aB aP nb np aN rf ho br aK ac dw aE sr sf aA aH aI hi fB H.size n_ac n_hi n_ho n_lw n_nb n_np n_qnb n_qnp ⟨f1_0, f1_1⟩ n_tsz (by omega) (zdg F1 F6 (by omega))) (cwV 0 hts (zgV qw1352 qw1354 qw48 qw108 qw1355) rfl rfl rfl hd_X11_plainNumber ⟨by (try dsimp only) <;> omega, by (try dsimp only) <;> omega⟩) (zPV hPc hK hDc (va_recv (q := (RX11, TX11, 41)) hK hP (ci := 11) (q0 := 0) rfl rfl)) rfl rfl hl.1 rfl (lv_room (Nat.le_of_ble_eq_true rfl)) dX11_atom_15 ⟨Nat.zero_le _, Nat.zero_le _⟩) hS (fun q _ h => hFc q h) hFc (fun v15 u15 t H locs ht hvm hw hB hz1 hk1 hS9 => ?_)
    obtain ⟨u15_0, u15_1⟩ := u15
    obtain ⟨hP9, hD9⟩ := zj2 (wX := [(h0, .inr (11, [.int th, .ref tB, .int tsz, .int u15_0, .int u15_1, .int 6, .ref rC, .ref rV, .ref rD, .ref rK, .ref rT, .ref rS, .ref rU, .int lw, .int tx, .ref rL, .ref rX, .ref qR, .ref qB, .ref qP, .int qnb, .int qnp, .ref aR, .ref aB, .ref aP, .int nb, .int np, .ref aN, .ref rf, .int ho, .int br, .ref aK, .int ac, .long dw, .ref aE, .int sr, .int sf, .ref aA, .ref aH, .ref aI, .int hi])), (tB, .inl (cI, 240, .inl fB)), (rC, .inl (cI, 2600, .inl fC)), (rV, .inl (cI, 2600, .inl fV)), (rD, .inl (cI, 5, .inl fD))]) hP hD hk1 hFc ht hB [0, 1] [(true, 0), (true, 1), (false, 2), (false, 3), (false, 4)] rfl (by decide +kernel) (by decide +kernel) rfl
    clear hP hD hS hPc hDc hFc hB hk1 hz1 hvm
    have hP := hP9
    have hD := hD9
    have hS := hS9
    clear hP9 hD9 hS9
    obtain ⟨f15_0, f15_1, f15_2, f15_3, f15_4, f15_5, f15_6, f15_7, f15_8, f15_9⟩ : (0 ≤ v15.toInt) ∧ (v15.toInt ≤ 99999) ∧ (0 ≤ u15_0.toInt) ∧ (u15_0.toInt ≤ 240) ∧ ((-1) ≤ u15_1.toInt) ∧ (u15_1.toInt ≤ 239) ∧ (u1_0.toInt ≤ u15_0.toInt) ∧ (u15_0.toInt ≤ tsz.toInt) ∧ (zW (sNum (sB fB tsz.toInt) u1_0.toInt) u15_1 u15_0) ∧ (u15_1.toInt = -1 → v15.toInt = sNv (sB fB tsz.toInt) u1_0.toInt) := hw
    have F15 := f15_8
    have F15_1 := f15_9
    obtain ⟨hPc, hDc, hFc⟩ := zc3 (wc := [(h0, .inr (11, [.int th, .ref tB, .int tsz, .int u15_0, .int u15_1, .int 6, .ref rC, .ref rV, .ref rD, .ref rK, .ref rT, .ref rS, .ref rU, .int lw, .int tx, .ref rL, .ref rX, .ref qR, .ref qB, .ref qP, .int qnb, .int qnp, .ref aR, .ref aB, .ref aP, .int nb, .int np, .ref aN, .ref rf, .int ho, .int br, .ref aK, .int ac, .long dw, .ref aE, .int sr, .int sf, .ref aA, .ref aH, .ref aI, .int hi])), (rC, .inl (cI, 2600, .inl fC)), (rV, .inl (cI, 2600, .inl fV)), (rD, .inl (cI, 5, .inl fD))]) hP hD hS hA [0, 2, 3, 4] (by decide +kernel) rfl
    refine va_callv (va_runV (As := [.int 0, .int v15]) (rest := []) ⟨hx, hb, hml, hown, hts⟩ (g_X11_put_num l dC dI cI cJ h0 v15 th tB tsz u15_0 u15_1 6 rC rV rD rK rT rS rU lw tx rL rX qR qB qP qnb qnp aR aB aP nb np aN rf ho br aK ac dw aE sr sf aA aH aI hi fC fV fD gC gV fz k st h H.size n_ac n_hi n_ho n_lw n_nb n_np n_qnb n_qnp (by omega) n_tsz n_tx (by omega) (by first | exact zPar_mono hpar (by omega) (by omega) (by omega) (by omega)) (by first | decide | omega)) (cwV 2 hts (zgV qw1332 qw1334 qw43 qw108 qw1335) rfl rfl rfl hd_X11_put ⟨by (try dsimp only) <;> omega, by (try dsimp only) <;> omega⟩) (zPV hPc hK hDc (va_recv (q := (RX11, TX11, 41)) hK hP (ci := 11) (q0 := 0) rfl rfl)) rfl rfl hl.1 rfl (lv_room (Nat.le_of_ble_eq_true rfl)) dX11_atom_18 ⟨Nat.zero_le _, Nat.zero_le _⟩) hS (fun q _ h => hFc q h) hFc (fun u18 t H locs ht hvm hw hB hz1 hk1 hS9 => ?_)
    obtain ⟨u18_0, u18_1, u18_2⟩ := u18
    obtain ⟨hP9, hD9⟩ := zj2 (wX := [(h0, .inr (11, [.int th, .ref tB, .int tsz, .int u15_0, .int u15_1, .int 6, .ref rC, .ref rV, .ref rD, .ref rK, .ref rT, .ref rS, .ref rU, .int lw, .int tx, .ref rL, .ref rX, .ref qR, .ref qB, .ref qP, .int qnb, .int qnp, .ref aR, .ref aB, .ref aP, .int nb, .int np, .ref aN, .ref rf, .int ho, .int br, .ref aK, .int ac, .long dw, .ref aE, .int sr, .int sf, .ref aA, .ref aH, .ref aI, .int hi])), (tB, .inl (cI, 240, .inl fB)), (rC, .inl (cI, 2600, .inl u18_0)), (rV, .inl (cI, 2600, .inl u18_1)), (rD, .inl (cI, 5, .inl u18_2))]) hP hD hk1 hFc ht hB [0, 2, 3, 4] [(true, 0), (false, 1), (true, 1), (true, 2), (true, 3)] rfl (by decide +kernel) (by decide +kernel) rfl
    clear hP hD hS hPc hDc hFc hB hk1 hz1 hvm
    have hP := hP9
    have hD := hD9
    have hS := hS9
    clear hP9 hD9 hS9
    obtain ⟨f18_0, f18_1⟩ : (zEr fC fV (520 * tx.toInt.toNat) (fD tx.toInt.toNat).toInt ([(1, v15.toInt)]) u18_0 u18_1 (u18_2 tx.toInt.toNat).toInt) ∧ (zPar u15_1 u15_0 u18_0 u18_1 u18_2 tx gC gV fz (k) st (h + 1)) := hw
    have F18 := f18_0
    refine lv_goto (tgt := 89) hx hb dX11_atom_21 (by decide) ?_
    have zr3 : (6 : Int32).toInt = 6 := by decide
    rw [hQ]
    exact W.vret hx hb hr (fun t ht hW => ⟨⟨(u15_0, u15_1, 6, u18_0, u18_1, u18_2), rfl, ⟨by (try dsimp only); omega, by (try dsimp only); omega, by (try dsimp only); omega, by (try dsimp only); omega, by (try dsimp only); omega, by (try dsimp only); omega, by (try dsimp only); omega, by (try dsimp only); omega, by (try dsimp only); omega, by (try dsimp only); exact zaN F1 F6 (by omega) F15, by (try dsimp only); exact fun hw => fra_n F1 (by omega) (F15_1 hw) F18, by (try dsimp only); first | exact zPar_mono f18_1 (by omega) (by omega) (by omega) (by omega)⟩, ⟨by rw [ht]; exact hP, hD⟩⟩, hS.F ht⟩) hS.2.2 dX11_atom_89
set_option maxHeartbeats 4000000 in
set_option maxRecDepth 100000 in
theorem g_X11_atom_k (l : Launch) (K fr lo : Nat) (ihS : zQ_X11_sum l K fr lo) (hfr : 2 ≤ fr) (hlo : 61 ≤ lo) : zQ_X11_atom l (K + 1) (fr + 1) (lo + 40) := by
  intro dC dI cI cJ h0 th tB tsz tat dp rC rV rD rK rT rS rU lw tx rL rX qR qB qP qnb qnp aR aB aP nb np aN rf ho br aK ac dw aE sr sf aA aH aI hi fB fC fV fD gC gV fz k st h sz n_ac n_dp n_hi n_ho n_lw n_nb n_np n_qnb n_qnp n_tat n_tsz n_tx hpar hat hh hKd hK6
  refine Met.ofW (cc := cX11_atom) (maxL := 2) (ret := none) (by decide) rfl ?_
  intro p e s m args below meth c s₁ B hml hv
  obtain ⟨hargs, hsz, hP, hK, hT⟩ := hv
  have hx := B.exec
  have hb := B.bytes
  have hr := B.returns
  have hts : ∀ w ∈ wA, w.before args s = true := fun w h => atoms_spec (ws := .code yX11_atom cX11_atom 2 none :: wA) B.pre w (List.mem_cons_of_mem _ h)
  have hown : s.vm.findClass RX11 = some m.cls := findClass_of_methodNamed B.named
  have hlocks := B.notSynchronized
  subst hsz
  have hD := hT.self (sz := s.heap.size)
  generalize hAe : va_A [(h0, .inr (11, [.int th, .ref tB, .int tsz, .int tat, .int (-1), .int dp, .ref rC, .ref rV, .ref rD, .ref rK, .ref rT, .ref rS, .ref rU, .int lw, .int tx, .ref rL, .ref rX, .ref qR, .ref qB, .ref qP, .int qnb, .int qnp, .ref aR, .ref aB, .ref aP, .int nb, .int np, .ref aN, .ref rf, .int ho, .int br, .ref aK, .int ac, .long dw, .ref aE, .int sr, .int sf, .ref aA, .ref aH, .ref aI, .int hi])), (tB, .inl (cI, 240, .inl fB)), (rC, .inl (cI, 2600, .inl fC)), (rV, .inl (cI, 2600, .inl fV)), (rD, .inl (cI, 5, .inl fD))] s.heap.size = A at hD ⊢
  have hA : ∀ q : Nat, s.heap.size ≤ q → A q := fun q h => by rw [← hAe]; exact Or.inr h
  have hl := lv_entry ([.ref h0]) (n := 2) (Nat.le_of_ble_eq_true rfl)
  rw [show entryFrame m args 2 = entryFrame m ([.ref h0] : List Value).toArray 2 by rw [hargs], lg_entry_eq]
  generalize (lg_sl ([.ref h0]) ++ List.replicate (2 - (lg_sl ([.ref h0])).length) Slot.unset).toArray = ls at hl ⊢
  have hl : lv_has ls 2 [(0, .ref h0)] := hl
  refine zstart (fun H hH => ?_)
  rw [← hH] at hP
  have hS : va_S A s.heap H [] := by rw [hH]; exact va_S.rf
  generalize ([] : List Loc) = locs at hS ⊢
  refine zgen (fun R Q hR hQ => ?_)
  have hRf : R.frames = fr + 1 := by rw [hR]; rfl
  have hRl : R.locals = lo + 40 := by rw [hR]; rfl
  have zm1 : (-1 : Int32).toInt = -1 := by decide
  refine lv_aload_n hx hb dX11_atom_0 rfl (lv_at hl 0 rfl) ?_
  obtain ⟨hPc, hDc, hFc⟩ := zc3 (wc := [(h0, .inr (11, [.int th, .ref tB, .int tsz, .int tat, .int (-1), .int dp, .ref rC, .ref rV, .ref rD, .ref rK, .ref rT, .ref rS, .ref rU, .int lw, .int tx, .ref rL, .ref rX, .ref qR, .ref qB, .ref qP, .int qnb, .int qnp, .ref aR, .ref aB, .ref aP, .int nb, .int np, .ref aN, .ref rf, .int ho, .int br, .ref aK, .int ac, .long dw, .ref aE, .int sr, .int sf, .ref aA, .ref aH, .ref aI, .int hi])), (tB, .inl (cI, 240, .inl fB))]) hP hD hS hA [0, 1] (by decide +kernel) rfl
  refine va_calli (va_runV (As := []) (rest := []) ⟨hx, hb, hml, hown, hts⟩ (g_X11_look_t l dC dI cI cJ h0 th tB tsz tat ((-1)) dp rC rV rD rK rT rS rU lw tx rL rX qR qB qP qnb qnp aR aB aP nb np aN rf ho br aK ac dw aE sr sf aA aH aI hi fB H.size n_ac n_hi n_ho n_lw n_nb n_np n_qnb n_qnp n_tat n_tsz (by decide)) (cwV 0 hts (zgV qw1273 qw1275 qw32 qw108 qw1276) rfl rfl rfl hd_X11_look ⟨by (try dsimp only) <;> omega, by (try dsimp only) <;> omega⟩) (zPV hPc hK hDc (va_recv (q := (RX11, TX11, 41)) hK hP (ci := 11) (q0 := 0) rfl rfl)) rfl rfl hl.1 rfl (lv_room (Nat.le_of_ble_eq_true rfl)) dX11_atom_1 ⟨Nat.zero_le _, Nat.zero_le _⟩) hS (fun q _ h => hFc q h) hFc (fun v1 u1 t H locs ht hvm hw hB hz1 hk1 hS9 => ?_)
  obtain ⟨u1_0, rfl⟩ : ∃ z, z = u1 := ⟨_, rfl⟩
  obtain ⟨hP9, hD9⟩ := zj2 (wX := [(h0, .inr (11, [.int th, .ref tB, .int tsz, .int u1_0, .int (-1), .int dp, .ref rC, .ref rV, .ref rD, .ref rK, .ref rT, .ref rS, .ref rU, .int lw, .int tx, .ref rL, .ref rX, .ref qR, .ref qB, .ref qP, .int qnb, .int qnp, .ref aR, .ref aB, .ref aP, .int nb, .int np, .ref aN, .ref rf, .int ho, .int br, .ref aK, .int ac, .long dw, .ref aE, .int sr, .int sf, .ref aA, .ref aH, .ref aI, .int hi])), (tB, .inl (cI, 240, .inl fB)), (rC, .inl (cI, 2600, .inl fC)), (rV, .inl (cI, 2600, .inl fV)), (rD, .inl (cI, 5, .inl fD))]) hP hD hk1 hFc ht hB [0, 1] [(true, 0), (true, 1), (false, 2), (false, 3), (false, 4)] rfl (by decide +kernel) (by decide +kernel) rfl
  clear hP hD hS hPc hDc hFc hB hk1 hz1 hvm
  have hP := hP9
  have hD := hD9
  have hS := hS9
  clear hP9 hD9 hS9
  obtain ⟨f1_0, f1_1, f1_2, f1_3, f1_4, f1_5⟩ : (0 ≤ u1_0.toInt) ∧ (u1_0.toInt ≤ 240) ∧ (¬ v1.toInt = -1 → u1_0.toInt < tsz.toInt) ∧ (tat.toInt ≤ u1_0.toInt) ∧ (u1_0.toInt ≤ tsz.toInt ∨ u1_0.toInt = tat.toInt) ∧ (zLk fB tsz tat v1 u1_0) := hw
  have F1 := f1_5
  refine lv_istore_n (lv' := [(1, .int v1), (0, .ref h0)]) hx hb dX11_atom_4 rfl hl (by decide) rfl (fun ls hl => ?_)
  refine lv_iload_n hx hb dX11_atom_5 rfl (lv_at hl 0 rfl) ?_
  have hPc : va_P (dC, dI) vwCl [] H := zP0
  have hDc : va_D (fun _ => True) [] := zD0
  have hFc := zfr hS hA
  refine va_calli (va_runS (As := [.int v1]) (rest := []) ⟨hx, hb, hml, hown, hts⟩ (g_X11_isDigit l dC dI cI cJ v1 H.size) (cwS 1 hts (zgS qw1298 qw1299 qw108 qw1300) rfl rfl rfl hd_X11_isDigit ⟨by (try dsimp only) <;> omega, by (try dsimp only) <;> omega⟩) (zPS hPc hK hDc) rfl rfl hl.1 rfl (lv_room (Nat.le_of_ble_eq_true rfl)) dX11_atom_6 ⟨Nat.zero_le _, Nat.zero_le _⟩) hS (fun q _ h => hFc q h) hFc (fun v6 u6 t H locs ht hvm hw hB hz1 hk1 hS9 => ?_)
  replace hP := zkeep hP hk1
  replace hS := hS9
  clear hPc hDc hFc hk1 hz1 hvm hS9
  obtain ⟨f6_0, f6_1, f6_2, f6_3⟩ : (0 ≤ v6.toInt) ∧ (v6.toInt ≤ 1) ∧ (¬ v6.toInt = 0 → (48 ≤ v1.toInt ∧ v1.toInt ≤ 57)) ∧ (zIs (oG v1.toInt) v6) := hw
  have F6 := f6_3
  refine lv_if_eq (tgt := 24) hx hb dX11_atom_9 (by decide) (fun c9 => ?_) (fun c9 => ?_)
  · have c9 : v6.toInt = 0 := z5 rfl (by decide) c9
    refine lv_iload_n hx hb dX11_atom_24 rfl (lv_at hl 0 rfl) ?_
    have hPc : va_P (dC, dI) vwCl [] H := zP0
    have hDc : va_D (fun _ => True) [] := zD0
    have hFc := zfr hS hA
    refine va_calli (va_runS (As := [.int v1]) (rest := []) ⟨hx, hb, hml, hown, hts⟩ (g_X11_letterOf_f l dC dI cI cJ v1 H.size) (cwS 1 hts (zgS qw1356 qw1357 qw108 qw1358) rfl rfl rfl hd_X11_letterOf ⟨by (try dsimp only) <;> omega, by (try dsimp only) <;> omega⟩) (zPS hPc hK hDc) rfl rfl hl.1 rfl (lv_room (Nat.le_of_ble_eq_true rfl)) dX11_atom_25 ⟨Nat.zero_le _, Nat.zero_le _⟩) hS (fun q _ h => hFc q h) hFc (fun v25 u25 t H locs ht hvm hw hB hz1 hk1 hS9 => ?_)
    replace hP := zkeep hP hk1
    replace hS := hS9
    clear hPc hDc hFc hk1 hz1 hvm hS9
    obtain ⟨f25_0, f25_1, f25_2, f25_3, f25_4⟩ : ((-1) ≤ v25.toInt) ∧ (v25.toInt ≤ 5) ∧ (0 ≤ v25.toInt → (v1.toInt = 102 ∨ v1.toInt = 119 ∨ v1.toInt = 121 ∨ v1.toInt = 115 ∨ v1.toInt = 97 ∨ v1.toInt = 109)) ∧ (v25.toInt = -1 → ¬ (v1.toInt = 102 ∨ v1.toInt = 119 ∨ v1.toInt = 121 ∨ v1.toInt = 115 ∨ v1.toInt = 97 ∨ v1.toInt = 109)) ∧ (0 ≤ v25.toInt → v25.toInt = eLt v1.toInt) := hw
    have F25 := f25_4
    refine lv_iconst (v := (-1)) hx hb dX11_atom_28 (by decide) ?_
    refine lv_icmp_eq (tgt := 54) hx hb dX11_atom_29 (by decide) (fun c29 => ?_) (fun c29 => ?_)
    · have c29 : v25.toInt = (-1) := z5 rfl (by decide) c29
      refine lv_iload_n hx hb dX11_atom_54 rfl (lv_at hl 0 rfl) ?_
      refine lv_bipush (v := 91) hx hb dX11_atom_55 (by decide) ?_
      refine lv_icmp_ne (tgt := 85) hx hb dX11_atom_57 (by decide) (fun c57 => ?_) (fun c57 => ?_)
      · have c57 : ¬ v1.toInt = 91 := z6 rfl (by decide) c57
        refine lv_aload_n hx hb dX11_atom_85 rfl (lv_at hl 1 rfl) ?_
        obtain ⟨hPc, hDc, hFc⟩ := zc3 (wc := [(h0, .inr (11, [.int th, .ref tB, .int tsz, .int u1_0, .int (-1), .int dp, .ref rC, .ref rV, .ref rD, .ref rK, .ref rT, .ref rS, .ref rU, .int lw, .int tx, .ref rL, .ref rX, .ref qR, .ref qB, .ref qP, .int qnb, .int qnp, .ref aR, .ref aB, .ref aP, .int nb, .int np, .ref aN, .ref rf, .int ho, .int br, .ref aK, .int ac, .long dw, .ref aE, .int sr, .int sf, .ref aA, .ref aH, .ref aI, .int hi]))]) hP hD hS hA [0] (by decide +kernel) rfl
        refine va_callv (va_runV (As := []) (rest := []) ⟨hx, hb, hml, hown, hts⟩ (g_X11_bad_m l dC dI cI cJ h0 th tB tsz u1_0 dp rC rV rD rK rT rS rU lw tx rL rX qR qB qP qnb qnp aR aB aP nb np aN rf ho br aK ac dw aE sr sf aA aH aI hi H.size n_ac n_hi n_ho n_lw n_nb n_np n_qnb n_qnp (by omega) n_tsz) (cwV 0 hts (zgV qw1301 qw1303 qw36 qw108 qw1304) rfl rfl rfl hd_X11_bad ⟨by (try dsimp only) <;> omega, by (try dsimp only) <;> omega⟩) (zPV hPc hK hDc (va_recv (q := (RX11, TX11, 41)) hK hP (ci := 11) (q0 := 0) rfl rfl)) rfl rfl hl.1 rfl (lv_room (Nat.le_of_ble_eq_true rfl)) dX11_atom_86 ⟨Nat.zero_le _, Nat.zero_le _⟩) hS (fun q _ h => hFc q h) hFc (fun u86 t H locs ht hvm hw hB hz1 hk1 hS9 => ?_)
        obtain ⟨hP9, hD9⟩ := zj2 (wX := [(h0, .inr (11, [.int th, .ref tB, .int tsz, .int u1_0, .int u1_0, .int dp, .ref rC, .ref rV, .ref rD, .ref rK, .ref rT, .ref rS, .ref rU, .int lw, .int tx, .ref rL, .ref rX, .ref qR, .ref qB, .ref qP, .int qnb, .int qnp, .ref aR, .ref aB, .ref aP, .int nb, .int np, .ref aN, .ref rf, .int ho, .int br, .ref aK, .int ac, .long dw, .ref aE, .int sr, .int sf, .ref aA, .ref aH, .ref aI, .int hi])), (tB, .inl (cI, 240, .inl fB)), (rC, .inl (cI, 2600, .inl fC)), (rV, .inl (cI, 2600, .inl fV)), (rD, .inl (cI, 5, .inl fD))]) hP hD hk1 hFc ht hB [0] [(true, 0), (false, 1), (false, 2), (false, 3), (false, 4)] rfl (by decide +kernel) (by decide +kernel) rfl
        clear hP hD hS hPc hDc hFc hB hk1 hz1 hvm
        have hP := hP9
        have hD := hD9
        have hS := hS9
        clear hP9 hD9 hS9
        rw [hQ]
        exact W.vret hx hb hr (fun t ht hW => ⟨⟨(u1_0, u1_0, dp, fC, fV, fD), rfl, ⟨by (try dsimp only); omega, by (try dsimp only); omega, by (try dsimp only); omega, by (try dsimp only); omega, by (try dsimp only); omega, by (try dsimp only); omega, by (try dsimp only); omega, by (try dsimp only); omega, by (try dsimp only); omega, by (try dsimp only); exact zaX F1 F6 (by omega) (f25_3 (by omega)) (by omega) (by omega) (by omega), by (try dsimp only); exact fun hw => absurd hw (by omega), by (try dsimp only); first | exact zPar_bad hpar (by omega) (by omega) (by omega)⟩, ⟨by rw [ht]; exact hP, hD⟩⟩, hS.F ht⟩) hS.2.2 dX11_atom_89
      · have c57 : v1.toInt = 91 := z5 rfl (by decide) c57
        have q60 : dp.toInt ≤ 5 := by omega
        refine lv_aload_n hx hb dX11_atom_60 rfl (lv_at hl 1 rfl) ?_
        obtain ⟨hPc, hDc, hFc⟩ := zc3 (wc := [(h0, .inr (11, [.int th, .ref tB, .int tsz, .int u1_0, .int (-1), .int dp, .ref rC, .ref rV, .ref rD, .ref rK, .ref rT, .ref rS, .ref rU, .int lw, .int tx, .ref rL, .ref rX, .ref qR, .ref qB, .ref qP, .int qnb, .int qnp, .ref aR, .ref aB, .ref aP, .int nb, .int np, .ref aN, .ref rf, .int ho, .int br, .ref aK, .int ac, .long dw, .ref aE, .int sr, .int sf, .ref aA, .ref aH, .ref aI, .int hi]))]) hP hD hS hA [0] (by decide +kernel) rfl
        refine va_callv (va_runV (As := []) (rest := []) ⟨hx, hb, hml, hown, hts⟩ (g_X11_opens_s l dC dI cI cJ h0 th tB tsz u1_0 dp rC rV rD rK rT rS rU lw tx rL rX qR qB qP qnb qnp aR aB aP nb np aN rf ho br aK ac dw aE sr sf aA aH aI hi H.size n_ac (by omega) n_hi n_ho n_lw n_nb n_np n_qnb n_qnp (by omega) n_tsz (by omega)) (cwV 0 hts (zgV qw1328 qw1330 qw42 qw108 qw1331) rfl rfl rfl hd_X11_opens ⟨by (try dsimp only) <;> omega, by (try dsimp only) <;> omega⟩) (zPV hPc hK hDc (va_recv (q := (RX11, TX11, 41)) hK hP (ci := 11) (q0 := 0) rfl rfl)) rfl rfl hl.1 rfl (lv_room (Nat.le_of_ble_eq_true rfl)) dX11_atom_61 ⟨Nat.zero_le _, Nat.zero_le _⟩) hS (fun q _ h => hFc q h) hFc (fun u61 t H locs ht hvm hw hB hz1 hk1 hS9 => ?_)
        obtain ⟨u61_0, u61_1⟩ := u61
        obtain ⟨hP9, hD9⟩ := zj2 (wX := [(h0, .inr (11, [.int th, .ref tB, .int tsz, .int u61_0, .int (-1), .int u61_1, .ref rC, .ref rV, .ref rD, .ref rK, .ref rT, .ref rS, .ref rU, .int lw, .int tx, .ref rL, .ref rX, .ref qR, .ref qB, .ref qP, .int qnb, .int qnp, .ref aR, .ref aB, .ref aP, .int nb, .int np, .ref aN, .ref rf, .int ho, .int br, .ref aK, .int ac, .long dw, .ref aE, .int sr, .int sf, .ref aA, .ref aH, .ref aI, .int hi])), (tB, .inl (cI, 240, .inl fB)), (rC, .inl (cI, 2600, .inl fC)), (rV, .inl (cI, 2600, .inl fV)), (rD, .inl (cI, 5, .inl fD))]) hP hD hk1 hFc ht hB [0] [(true, 0), (false, 1), (false, 2), (false, 3), (false, 4)] rfl (by decide +kernel) (by decide +kernel) rfl
        clear hP hD hS hPc hDc hFc hB hk1 hz1 hvm
        have hP := hP9
        have hD := hD9
        have hS := hS9
        clear hP9 hD9 hS9
        obtain ⟨f61_0, f61_1, f61_2, f61_3, f61_4, f61_5⟩ : (1 ≤ u61_0.toInt) ∧ (u61_0.toInt ≤ 240) ∧ (1 ≤ u61_1.toInt) ∧ (u61_1.toInt ≤ 6) ∧ (u61_0.toInt = u1_0.toInt + 1) ∧ (u61_1.toInt = dp.toInt + 1) := hw
        refine lv_aload_n hx hb dX11_atom_64 rfl (lv_at hl 1 rfl) ?_
        refine va_get (D := (dC, dI)) (ci := 11) (v := .int (-1)) (C := RX11) (T := TX11) (N := 41) hx hb hts iX11 hown hK hP 0 rfl rfl 4 (by decide) (hts _ qw1131) (fun _ h9 => h9) rfl dX11_atom_65 ?_
        refine lv_iconst (v := (-1)) hx hb dX11_atom_68 (by decide) ?_
        refine lv_icmp_ne (tgt := 89) hx hb dX11_atom_69 (by decide) (fun c => absurd (by decide) c) (fun _ => ?_)
        refine lv_aload_n hx hb dX11_atom_72 rfl (lv_at hl 1 rfl) ?_
        obtain ⟨hPc, hDc, hFc⟩ := zc3 (wc := [(h0, .inr (11, [.int th, .ref tB, .int tsz, .int u61_0, .int (-1), .int u61_1, .ref rC, .ref rV, .ref rD, .ref rK, .ref rT, .ref rS, .ref rU, .int lw, .int tx, .ref rL, .ref rX, .ref qR, .ref qB, .ref qP, .int qnb, .int qnp, .ref aR, .ref aB, .ref aP, .int nb, .int np, .ref aN, .ref rf, .int ho, .int br, .ref aK, .int ac, .long dw, .ref aE, .int sr, .int sf, .ref aA, .ref aH, .ref aI, .int hi])), (tB, .inl (cI, 240, .inl fB)), (rC, .inl (cI, 2600, .inl fC)), (rV, .inl (cI, 2600, .inl fV)), (rD, .inl (cI, 5, .inl fD))]) hP hD hS hA [0, 1, 2, 3, 4] (by decide +kernel) rfl
        refine va_callv (va_runV (As := []) (rest := []) ⟨hx, hb, hml, hown, hts⟩ (ihS dC dI cI cJ h0 th tB tsz u61_0 u61_1 rC rV rD rK rT rS rU lw tx rL rX qR qB qP qnb qnp aR aB aP nb np aN rf ho br aK ac dw aE sr sf aA aH aI hi fB fC fV fD gC gV fz k st h H.size n_ac (by omega) n_hi n_ho n_lw n_nb n_np n_qnb n_qnp (by omega) n_tsz n_tx (by first | exact zPar_mono hpar (by omega) (by omega) (by omega) (by omega)) (by first | decide | omega) (by first | decide | omega) (by first | decide | omega) (by first | decide | omega)) (cwV 0 hts (zgV qw1340 qw1342 qw45 qw108 qw1343) rfl rfl rfl hd_X11_sum ⟨by (try dsimp only) <;> omega, by (try dsimp only) <;> omega⟩) (zPV hPc hK hDc (va_recv (q := (RX11, TX11, 41)) hK hP (ci := 11) (q0 := 0) rfl rfl)) rfl rfl hl.1 rfl (lv_room (Nat.le_of_ble_eq_true rfl)) dX11_atom_73 ⟨Nat.zero_le _, Nat.zero_le _⟩) hS (fun q _ h => hFc q h) hFc (fun u73 t H locs ht hvm hw hB hz1 hk1 hS9 => ?_)
        obtain ⟨u73_0, u73_1, u73_2, u73_3, u73_4, u73_5⟩ := u73
        obtain ⟨hP9, hD9⟩ := zj2 (wX := [(h0, .inr (11, [.int th, .ref tB, .int tsz, .int u73_0, .int u73_1, .int u73_2, .ref rC, .ref rV, .ref rD, .ref rK, .ref rT, .ref rS, .ref rU, .int lw, .int tx, .ref rL, .ref rX, .ref qR, .ref qB, .ref qP, .int qnb, .int qnp, .ref aR, .ref aB, .ref aP, .int nb, .int np, .ref aN, .ref rf, .int ho, .int br, .ref aK, .int ac, .long dw, .ref aE, .int sr, .int sf, .ref aA, .ref aH, .ref aI, .int hi])), (tB, .inl (cI, 240, .inl fB)), (rC, .inl (cI, 2600, .inl u73_3)), (rV, .inl (cI, 2600, .inl u73_4)), (rD, .inl (cI, 5, .inl u73_5))]) hP hD hk1 hFc ht hB [0, 1, 2, 3, 4] [(true, 0), (true, 1), (true, 2), (true, 3), (true, 4)] rfl (by decide +kernel) (by decide +kernel) rfl
        clear hP hD hS hPc hDc hFc hB hk1 hz1 hvm
        have hP := hP9
        have hD := hD9
        have hS := hS9
        clear hP9 hD9 hS9
        obtain ⟨f73_0, f73_1, f73_2, f73_3, f73_4, f73_5, f73_6, f73_7, f73_8, f73_9, f73_10, f73_11⟩ : (0 ≤ u73_0.toInt) ∧ (u73_0.toInt ≤ 246) ∧ ((-1) ≤ u73_1.toInt) ∧ (u73_1.toInt ≤ 260) ∧ (0 ≤ u73_2.toInt) ∧ (u73_2.toInt ≤ 7) ∧ (u73_1.toInt = -1 → (u73_0.toInt ≤ tsz.toInt ∧ u73_2.toInt = 6 - ((K : Nat) : Int))) ∧ (u61_0.toInt ≤ u73_0.toInt) ∧ (u73_0.toInt ≤ 240 + ((K : Nat) : Int) ∧ 6 - ((K : Nat) : Int) ≤ u73_2.toInt ∧ u73_2.toInt ≤ 7 - ((K : Nat) : Int)) ∧ (zW (sSum (sB fB tsz.toInt) tsz.toInt K u61_0.toInt) u73_1 u73_0) ∧ (u73_1.toInt = -1 → zEr fC fV (520 * tx.toInt.toNat) (fD tx.toInt.toNat).toInt ((eSum (sB fB tsz.toInt) tsz.toInt K) u61_0.toInt) u73_3 u73_4 (u73_5 tx.toInt.toNat).toInt) ∧ (zPar u73_1 u73_0 u73_3 u73_4 u73_5 tx gC gV fz (k) st (h + 1)) := hw
        have F73 := f73_9
        have F73_1 : zHid (u73_1.toInt = -1 → zEr fC fV (520 * tx.toInt.toNat) (fD tx.toInt.toNat).toInt ((eSum (sB fB tsz.toInt) tsz.toInt K) u61_0.toInt) u73_3 u73_4 (u73_5 tx.toInt.toNat).toInt) := f73_10
        clear f73_10
        refine lv_aload_n hx hb dX11_atom_76 rfl (lv_at hl 1 rfl) ?_
        refine lv_bipush (v := 93) hx hb dX11_atom_77 (by decide) ?_
        obtain ⟨hPc, hDc, hFc⟩ := zc3 (wc := [(h0, .inr (11, [.int th, .ref tB, .int tsz, .int u73_0, .int u73_1, .int u73_2, .ref rC, .ref rV, .ref rD, .ref rK, .ref rT, .ref rS, .ref rU, .int lw, .int tx, .ref rL, .ref rX, .ref qR, .ref qB, .ref qP, .int qnb, .int qnp, .ref aR, .ref aB, .ref aP, .int nb, .int np, .ref aN, .ref rf, .int ho, .int br, .ref aK, .int ac, .long dw, .ref aE, .int sr, .int sf, .ref aA, .ref aH, .ref aI, .int hi])), (tB, .inl (cI, 240, .inl fB))]) hP hD hS hA [0, 1] (by decide +kernel) rfl
        refine va_callv (va_runV (As := [.int 93]) (rest := []) ⟨hx, hb, hml, hown, hts⟩ (g_X11_closes_s l dC dI cI cJ h0 93 th tB tsz u73_0 u73_1 u73_2 rC rV rD rK rT rS rU lw tx rL rX qR qB qP qnb qnp aR aB aP nb np aN rf ho br aK ac dw aE sr sf aA aH aI hi fB H.size n_ac ⟨f73_4, f73_5⟩ n_hi n_ho n_lw n_nb n_np (by decide) n_qnb n_qnp ⟨f73_0, f73_1⟩ n_tsz ⟨f73_2, f73_3⟩ (by omega)) (cwV 1 hts (zgV qw1336 qw1338 qw44 qw108 qw1339) rfl rfl rfl hd_X11_closes ⟨by (try dsimp only) <;> omega, by (try dsimp only) <;> omega⟩) (zPV hPc hK hDc (va_recv (q := (RX11, TX11, 41)) hK hP (ci := 11) (q0 := 0) rfl rfl)) rfl rfl hl.1 rfl (lv_room (Nat.le_of_ble_eq_true rfl)) dX11_atom_79 ⟨Nat.zero_le _, Nat.zero_le _⟩) hS (fun q _ h => hFc q h) hFc (fun u79 t H locs ht hvm hw hB hz1 hk1 hS9 => ?_)
        obtain ⟨u79_0, u79_1, u79_2⟩ := u79
        obtain ⟨hP9, hD9⟩ := zj2 (wX := [(h0, .inr (11, [.int th, .ref tB, .int tsz, .int u79_0, .int u79_1, .int u79_2, .ref rC, .ref rV, .ref rD, .ref rK, .ref rT, .ref rS, .ref rU, .int lw, .int tx, .ref rL, .ref rX, .ref qR, .ref qB, .ref qP, .int qnb, .int qnp, .ref aR, .ref aB, .ref aP, .int nb, .int np, .ref aN, .ref rf, .int ho, .int br, .ref aK, .int ac, .long dw, .ref aE, .int sr, .int sf, .ref aA, .ref aH, .ref aI, .int hi])), (tB, .inl (cI, 240, .inl fB)), (rC, .inl (cI, 2600, .inl u73_3)), (rV, .inl (cI, 2600, .inl u73_4)), (rD, .inl (cI, 5, .inl u73_5))]) hP hD hk1 hFc ht hB [0, 1] [(true, 0), (true, 1), (false, 2), (false, 3), (false, 4)] rfl (by decide +kernel) (by decide +kernel) rfl
        clear hP hD hS hPc hDc hFc hB hk1 hz1 hvm
        have hP := hP9
        have hD := hD9
        have hS := hS9
        clear hP9 hD9 hS9
        have zn79_93 : (93 : Int32).toInt = 93 := by decide
        obtain ⟨f79_0, f79_1, f79_2, f79_3, f79_4, f79_5, f79_6, f79_7, f79_8, f79_9, f79_10⟩ : (1 ≤ u79_0.toInt) ∧ (u79_0.toInt ≤ 247) ∧ ((-1) ≤ u79_1.toInt) ∧ (u79_1.toInt ≤ 260) ∧ ((-1) ≤ u79_2.toInt) ∧ (u79_2.toInt ≤ 6) ∧ (u79_1.toInt = -1 → (u73_1.toInt = -1 ∧ u79_0.toInt ≤ tsz.toInt)) ∧ (u73_0.toInt ≤ u79_0.toInt) ∧ (u79_2.toInt = u73_2.toInt - 1) ∧ (u79_0.toInt ≤ u73_0.toInt + 1 ∨ u79_0.toInt ≤ 241) ∧ (∀ x : Int × Int, zW x u73_1 u73_0 → zW (sEnd (sB fB tsz.toInt) tsz.toInt (93 : Int32).toInt x) u79_1 u79_0) := hw
        have F79 := f79_10
        have q82 : u79_0.toInt ≤ 246 ∧ 0 ≤ u79_2.toInt ∧ u79_2.toInt ≤ 7 := by omega
        have q82b := q82.2
        refine lv_goto (tgt := 89) hx hb dX11_atom_82 (by decide) ?_
        rw [hQ]
        exact W.vret hx hb hr (fun t ht hW => ⟨⟨(u79_0, u79_1, u79_2, u73_3, u73_4, u73_5), rfl, ⟨by (try dsimp only); omega, by (try dsimp only); omega, by (try dsimp only); omega, by (try dsimp only); omega, by (try dsimp only); omega, by (try dsimp only); omega, by (try dsimp only); omega, by (try dsimp only); omega, by (try dsimp only); omega, by (try dsimp only); exact zaB F1 (by omega) (show _ = _ from by omega) (F79 _ F73), by (try dsimp only); exact fun hw => fra_b F1 (by omega) (show _ = _ from by omega) (F73_1 (by omega)), by (try dsimp only); first | exact zPar_mono f73_11 (by omega) (by omega) (by omega) (by omega)⟩, ⟨by rw [ht]; exact hP, hD⟩⟩, hS.F ht⟩) hS.2.2 dX11_atom_89
    · have c29 : ¬ v25.toInt = (-1) := z6 rfl (by decide) c29
      refine lv_aload_n hx hb dX11_atom_32 rfl (lv_at hl 1 rfl) ?_
      refine lv_dup hx hb dX11_atom_33 rfl ?_
      refine va_get (D := (dC, dI)) (ci := 11) (v := .int u1_0) (C := RX11) (T := TX11) (N := 41) hx hb hts iX11 hown hK hP 0 rfl rfl 3 (by decide) (hts _ qw1130) (fun _ h9 => h9) rfl dX11_atom_34 ?_
      refine lv_iconst (v := 1) hx hb dX11_atom_37 (by decide) ?_
      refine lv_iadd hx hb dX11_atom_38 ?_
      refine lv_topi (fun v38 e38 => ?_)
      have i38 : v38.toInt = u1_0.toInt + 1 := zadd e38 rfl (by decide) (by omega) (by omega)
      refine va_put (D := (dC, dI)) (ci := 11) (v := .int v38) (ty := .int) (C := RX11) (T := TX11) (N := 41) hx hb hts iX11 tyX11 tyX11_ok nmX11 hown hK hP hD hS 0 rfl rfl 3 (by decide) (hts _ qw1130) (fun _ h9 => h9) rfl (by decide +kernel) rfl rfl (Nat.le_of_ble_eq_true rfl) dX11_atom_39 (fun H locs hP9 hD9 hS9 => ?_)
      clear hP hD hS
      obtain ⟨hP, hD⟩ := zst (wX := [(h0, .inr (11, [.int th, .ref tB, .int tsz, .int v38, .int (-1), .int dp, .ref rC, .ref rV, .ref rD, .ref rK, .ref rT, .ref rS, .ref rU, .int lw, .int tx, .ref rL, .ref rX, .ref qR, .ref qB, .ref qP, .int qnb, .int qnp, .ref aR, .ref aB, .ref aP, .int nb, .int np, .ref aN, .ref rf, .int ho, .int br, .ref aK, .int ac, .long dw, .ref aE, .int sr, .int sf, .ref aA, .ref aH, .ref aI, .int hi])), (tB, .inl (cI, 240, .inl fB)), (rC, .inl (cI, 2600, .inl fC)), (rV, .inl (cI, 2600, .inl fV)), (rD, .inl (cI, 5, .inl fD))]) hP9 hD9 rfl
      have hS := hS9
      clear hP9 hD9 hS9
      refine lv_aload_n hx hb dX11_atom_42 rfl (lv_at hl 1 rfl) ?_
      refine lv_iconst (v := 1) hx hb dX11_atom_43 (by decide) ?_
      refine lv_iload_n hx hb dX11_atom_44 rfl (lv_at hl 0 rfl) ?_
      have hPc : va_P (dC, dI) vwCl [] H := zP0
      have hDc : va_D (fun _ => True) [] := zD0
      have hFc := zfr hS hA
      refine va_calli (va_runS (As := [.int v1]) (rest := [.int 1, .ref h0]) ⟨hx, hb, hml, hown, hts⟩ (g_X11_letterOf_f l dC dI cI cJ v1 H.size) (cwS 1 hts (zgS qw1356 qw1357 qw108 qw1358) rfl rfl rfl hd_X11_letterOf ⟨by (try dsimp only) <;> omega, by (try dsimp only) <;> omega⟩) (zPS hPc hK hDc) rfl rfl hl.1 rfl (lv_room (Nat.le_of_ble_eq_true rfl)) dX11_atom_45 ⟨Nat.zero_le _, Nat.zero_le _⟩) hS (fun q _ h => hFc q h) hFc (fun v45 u45 t H locs ht hvm hw hB hz1 hk1 hS9 => ?_)
      replace hP := zkeep hP hk1
      replace hS := hS9
      clear hPc hDc hFc hk1 hz1 hvm hS9
      obtain ⟨f45_0, f45_1, f45_2, f45_3, f45_4⟩ : ((-1) ≤ v45.toInt) ∧ (v45.toInt ≤ 5) ∧ (0 ≤ v45.toInt → (v1.toInt = 102 ∨ v1.toInt = 119 ∨ v1.toInt = 121 ∨ v1.toInt = 115 ∨ v1.toInt = 97 ∨ v1.toInt = 109)) ∧ (v45.toInt = -1 → ¬ (v1.toInt = 102 ∨ v1.toInt = 119 ∨ v1.toInt = 121 ∨ v1.toInt = 115 ∨ v1.toInt = 97 ∨ v1.toInt = 109)) ∧ (0 ≤ v45.toInt → v45.toInt = eLt v1.toInt) := hw
      have F45 := f45_4
      have q48 : 0 ≤ v45.toInt := by omega
      obtain ⟨hPc, hDc, hFc⟩ := zc3 (wc := [(h0, .inr (11, [.int th, .ref tB, .int tsz, .int v38, .int (-1), .int dp, .ref rC, .ref rV, .ref rD, .ref rK, .ref rT, .ref rS, .ref rU, .int lw, .int tx, .ref rL, .ref rX, .ref qR, .ref qB, .ref qP, .int qnb, .int qnp, .ref aR, .ref aB, .ref aP, .int nb, .int np, .ref aN, .ref rf, .int ho, .int br, .ref aK, .int ac, .long dw, .ref aE, .int sr, .int sf, .ref aA, .ref aH, .ref aI, .int hi])), (rC, .inl (cI, 2600, .inl fC)), (rV, .inl (cI, 2600, .inl fV)), (rD, .inl (cI, 5, .inl fD))]) hP hD hS hA [0, 2, 3, 4] (by decide +kernel) rfl
      refine va_callv (va_runV (As := [.int 1, .int v45]) (rest := []) ⟨hx, hb, hml, hown, hts⟩ (g_X11_put_let l dC dI cI cJ h0 v45 th tB tsz v38 ((-1)) dp rC rV rD rK rT rS rU lw tx rL rX qR qB qP qnb qnp aR aB aP nb np aN rf ho br aK ac dw aE sr sf aA aH aI hi fC fV fD gC gV fz k st h H.size n_ac n_hi n_ho n_lw n_nb n_np (by omega) n_qnb n_qnp (by omega) n_tsz n_tx (by decide) (by first | exact zPar_mono hpar (by omega) (by omega) (by omega) (by omega)) (by first | decide | omega)) (cwV 2 hts (zgV qw1332 qw1334 qw43 qw108 qw1335) rfl rfl rfl hd_X11_put ⟨by (try dsimp only) <;> omega, by (try dsimp only) <;> omega⟩) (zPV hPc hK hDc (va_recv (q := (RX11, TX11, 41)) hK hP (ci := 11) (q0 := 0) rfl rfl)) rfl rfl hl.1 rfl (lv_room (Nat.le_of_ble_eq_true rfl)) dX11_atom_48 ⟨Nat.zero_le _, Nat.zero_le _⟩) hS (fun q _ h => hFc q h) hFc (fun u48 t H locs ht hvm hw hB hz1 hk1 hS9 => ?_)
      obtain ⟨u48_0, u48_1, u48_2⟩ := u48
      obtain ⟨hP9, hD9⟩ := zj2 (wX := [(h0, .inr (11, [.int th, .ref tB, .int tsz, .int v38, .int (-1), .int dp, .ref rC, .ref rV, .ref rD, .ref rK, .ref rT, .ref rS, .ref rU, .int lw, .int tx, .ref rL, .ref rX, .ref qR, .ref qB, .ref qP, .int qnb, .int qnp, .ref aR, .ref aB, .ref aP, .int nb, .int np, .ref aN, .ref rf, .int ho, .int br, .ref aK, .int ac, .long dw, .ref aE, .int sr, .int sf, .ref aA, .ref aH, .ref aI, .int hi])), (tB, .inl (cI, 240, .inl fB)), (rC, .inl (cI, 2600, .inl u48_0)), (rV, .inl (cI, 2600, .inl u48_1)), (rD, .inl (cI, 5, .inl u48_2))]) hP hD hk1 hFc ht hB [0, 2, 3, 4] [(true, 0), (false, 1), (true, 1), (true, 2), (true, 3)] rfl (by decide +kernel) (by decide +kernel) rfl
      clear hP hD hS hPc hDc hFc hB hk1 hz1 hvm
      have hP := hP9
      have hD := hD9
      have hS := hS9
      clear hP9 hD9 hS9
      obtain ⟨f48_0, f48_1⟩ : (zEr fC fV (520 * tx.toInt.toNat) (fD tx.toInt.toNat).toInt ([(2, v45.toInt)]) u48_0 u48_1 (u48_2 tx.toInt.toNat).toInt) ∧ (zPar (-1) v38 u48_0 u48_1 u48_2 tx gC gV fz (k) st (h + 1)) := hw
      have F48 := f48_0
      refine lv_goto (tgt := 89) hx hb dX11_atom_51 (by decide) ?_
      have zr2 : ((-1) : Int32).toInt = (-1) := by decide
      rw [hQ]
      exact W.vret hx hb hr (fun t ht hW => ⟨⟨(v38, (-1), dp, u48_0, u48_1, u48_2), rfl, ⟨by (try dsimp only); omega, by (try dsimp only); omega, by (try dsimp only); omega, by (try dsimp only); omega, by (try dsimp only); omega, by (try dsimp only); omega, by (try dsimp only); omega, by (try dsimp only); omega, by (try dsimp only); omega, by (try dsimp only); exact zaL F1 (f25_2 (by omega)) i38 (by first | decide | omega), by (try dsimp only); exact fun hw => fra_l F1 (f25_2 (by omega)) (F45 (by omega)) F48, by (try dsimp only); first | exact zPar_mono f48_1 (by omega) (by omega) (by omega) (by omega)⟩, ⟨by rw [ht]; exact hP, hD⟩⟩, hS.F ht⟩) hS.2.2 dX11_atom_89
  · have c9 : ¬ v6.toInt = 0 := z6 rfl (by decide) c9
    refine lv_aload_n hx hb dX11_atom_12 rfl (lv_at hl 1 rfl) ?_
    refine lv_iconst (v := 0) hx hb dX11_atom_13 (by decide) ?_
    refine lv_aload_n hx hb dX11_atom_14 rfl (lv_at hl 1 rfl) ?_
    obtain ⟨hPc, hDc, hFc⟩ := zc3 (wc := [(h0, .inr (11, [.int th, .ref tB, .int tsz, .int u1_0, .int (-1), .int dp, .ref rC, .ref rV, .ref rD, .ref rK, .ref rT, .ref rS, .ref rU, .int lw, .int tx, .ref rL, .ref rX, .ref qR, .ref qB, .ref qP, .int qnb, .int qnp, .ref aR, .ref aB, .ref aP, .int nb, .int np, .ref aN, .ref rf, .int ho, .int br, .ref aK, .int ac, .long dw, .ref aE, .int sr, .int sf, .ref aA, .ref aH, .ref aI, .int hi])), (tB, .inl (cI, 240, .inl fB))]) hP hD hS hA [0, 1] (by decide +kernel) rfl
    refine va_calli (va_runV (As := []) (rest := [.int 0, .ref h0]) ⟨hx, hb, hml, hown, hts⟩ (g_X11_plainNumber l dC dI cI cJ h0 th tB tsz u1_0 dp rC rV rD rK rT rS rU lw tx rL rX qR qB qP qnb qnp aR aB aP nb np aN rf ho br aK ac dw aE sr sf aA aH aI hi fB H.size n_ac n_hi n_ho n_lw n_nb n_np n_qnb n_qnp ⟨f1_0, f1_1⟩ n_tsz (by omega) (zdg F1 F6 (by omega))) (cwV 0 hts (zgV qw1352 qw1354 qw48 qw108 qw1355) rfl rfl rfl hd_X11_plainNumber ⟨by (try dsimp only) <;> omega, by (try dsimp only) <;> omega⟩) (zPV hPc hK hDc (va_recv (q := (RX11, TX11, 41)) hK hP (ci := 11) (q0 := 0) rfl rfl)) rfl rfl hl.1 rfl (lv_room (Nat.le_of_ble_eq_true rfl)) dX11_atom_15 ⟨Nat.zero_le _, Nat.zero_le _⟩) hS (fun q _ h => hFc q h) hFc (fun v15 u15 t H locs ht hvm hw hB hz1 hk1 hS9 => ?_)
    obtain ⟨u15_0, u15_1⟩ := u15
    obtain ⟨hP9, hD9⟩ := zj2 (wX := [(h0, .inr (11, [.int th, .ref tB, .int tsz, .int u15_0, .int u15_1, .int dp, .ref rC, .ref rV, .ref rD, .ref rK, .ref rT, .ref rS, .ref rU, .int lw, .int tx, .ref rL, .ref rX, .ref qR, .ref qB, .ref qP, .int qnb, .int qnp, .ref aR, .ref aB, .ref aP, .int nb, .int np, .ref aN, .ref rf, .int ho, .int br, .ref aK, .int ac, .long dw, .ref aE, .int sr, .int sf, .ref aA, .ref aH, .ref aI, .int hi])), (tB, .inl (cI, 240, .inl fB)), (rC, .inl (cI, 2600, .inl fC)), (rV, .inl (cI, 2600, .inl fV)), (rD, .inl (cI, 5, .inl fD))]) hP hD hk1 hFc ht hB [0, 1] [(true, 0), (true, 1), (false, 2), (false, 3), (false, 4)] rfl (by decide +kernel) (by decide +kernel) rfl
    clear hP hD hS hPc hDc hFc hB hk1 hz1 hvm
    have hP := hP9
    have hD := hD9
    have hS := hS9
    clear hP9 hD9 hS9
    obtain ⟨f15_0, f15_1, f15_2, f15_3, f15_4, f15_5, f15_6, f15_7, f15_8, f15_9⟩ : (0 ≤ v15.toInt) ∧ (v15.toInt ≤ 99999) ∧ (0 ≤ u15_0.toInt) ∧ (u15_0.toInt ≤ 240) ∧ ((-1) ≤ u15_1.toInt) ∧ (u15_1.toInt ≤ 239) ∧ (u1_0.toInt ≤ u15_0.toInt) ∧ (u15_0.toInt ≤ tsz.toInt) ∧ (zW (sNum (sB fB tsz.toInt) u1_0.toInt) u15_1 u15_0) ∧ (u15_1.toInt = -1 → v15.toInt = sNv (sB fB tsz.toInt) u1_0.toInt) := hw
    have F15 := f15_8
    have F15_1 := f15_9
    obtain ⟨hPc, hDc, hFc⟩ := zc3 (wc := [(h0, .inr (11, [.int th, .ref tB, .int tsz, .int u15_0, .int u15_1, .int dp, .ref rC, .ref rV, .ref rD, .ref rK, .ref rT, .ref rS, .ref rU, .int lw, .int tx, .ref rL, .ref rX, .ref qR, .ref qB, .ref qP, .int qnb, .int qnp, .ref aR, .ref aB, .ref aP, .int nb, .int np, .ref aN, .ref rf, .int ho, .int br, .ref aK, .int ac, .long dw, .ref aE, .int sr, .int sf, .ref aA, .ref aH, .ref aI, .int hi])), (rC, .inl (cI, 2600, .inl fC)), (rV, .inl (cI, 2600, .inl fV)), (rD, .inl (cI, 5, .inl fD))]) hP hD hS hA [0, 2, 3, 4] (by decide +kernel) rfl
    refine va_callv (va_runV (As := [.int 0, .int v15]) (rest := []) ⟨hx, hb, hml, hown, hts⟩ (g_X11_put_num l dC dI cI cJ h0 v15 th tB tsz u15_0 u15_1 dp rC rV rD rK rT rS rU lw tx rL rX qR qB qP qnb qnp aR aB aP nb np aN rf ho br aK ac dw aE sr sf aA aH aI hi fC fV fD gC gV fz k st h H.size n_ac n_hi n_ho n_lw n_nb n_np n_qnb n_qnp (by omega) n_tsz n_tx (by omega) (by first | exact zPar_mono hpar (by omega) (by omega) (by omega) (by omega)) (by first | decide | omega)) (cwV 2 hts (zgV qw1332 qw1334 qw43 qw108 qw1335) rfl rfl rfl hd_X11_put ⟨by (try dsimp only) <;> omega, by (try dsimp only) <;> omega⟩) (zPV hPc hK hDc (va_recv (q := (RX11, TX11, 41)) hK hP (ci := 11) (q0 := 0) rfl rfl)) rfl rfl hl.1 rfl (lv_room (Nat.le_of_ble_eq_true rfl)) dX11_atom_18 ⟨Nat.zero_le _, Nat.zero_le _⟩) hS (fun q _ h => hFc q h) hFc (fun u18 t H locs ht hvm hw hB hz1 hk1 hS9 => ?_)
    obtain ⟨u18_0, u18_1, u18_2⟩ := u18
    obtain ⟨hP9, hD9⟩ := zj2 (wX := [(h0, .inr (11, [.int th, .ref tB, .int tsz, .int u15_0, .int u15_1, .int dp, .ref rC, .ref rV, .ref rD, .ref rK, .ref rT, .ref rS, .ref rU, .int lw, .int tx, .ref rL, .ref rX, .ref qR, .ref qB, .ref qP, .int qnb, .int qnp, .ref aR, .ref aB, .ref aP, .int nb, .int np, .ref aN, .ref rf, .int ho, .int br, .ref aK, .int ac, .long dw, .ref aE, .int sr, .int sf, .ref aA, .ref aH, .ref aI, .int hi])), (tB, .inl (cI, 240, .inl fB)), (rC, .inl (cI, 2600, .inl u18_0)), (rV, .inl (cI, 2600, .inl u18_1)), (rD, .inl (cI, 5, .inl u18_2))]) hP hD hk1 hFc ht hB [0, 2, 3, 4] [(true, 0), (false, 1), (true, 1), (true, 2), (true, 3)] rfl (by decide +kernel) (by decide +kernel) rfl
    clear hP hD hS hPc hDc hFc hB hk1 hz1 hvm
    have hP := hP9
    have hD := hD9
    have hS := hS9
    clear hP9 hD9 hS9
    obtain ⟨f18_0, f18_1⟩ : (zEr fC fV (520 * tx.toInt.toNat) (fD tx.toInt.toNat).toInt ([(1, v15.toInt)]) u18_0 u18_1 (u18_2 tx.toInt.toNat).toInt) ∧ (zPar u15_1 u15_0 u18_0 u18_1 u18_2 tx gC gV fz (k) st (h + 1)) := hw
    have F18 := f18_0
    refine lv_goto (tgt := 89) hx hb dX11_atom_21 (by decide) ?_
    rw [hQ]
    exact W.vret hx hb hr (fun t ht hW => ⟨⟨(u15_0, u15_1, dp, u18_0, u18_1, u18_2), rfl, ⟨by (try dsimp only); omega, by (try dsimp only); omega, by (try dsimp only); omega, by (try dsimp only); omega, by (try dsimp only); omega, by (try dsimp only); omega, by (try dsimp only); omega, by (try dsimp only); omega, by (try dsimp only); omega, by (try dsimp only); exact zaN F1 F6 (by omega) F15, by (try dsimp only); exact fun hw => fra_n F1 (by omega) (F15_1 hw) F18, by (try dsimp only); first | exact zPar_mono f18_1 (by omega) (by omega) (by omega) (by omega)⟩, ⟨by rw [ht]; exact hP, hD⟩⟩, hS.F ht⟩) hS.2.2 dX11_atom_89
