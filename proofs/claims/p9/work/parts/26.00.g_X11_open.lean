set_option maxHeartbeats 4000000 in
set_option maxRecDepth 100000 in
theorem g_X11_unit_z (l : Launch) (K fr lo : Nat) (f1 l1 f2 l2 : Nat) (ihS : zQ_X11_sum l 0 f1 l1) (ihP : zQ_X11_compare l 0 f2 l2) (hfl : f1 ≤ fr ∧ l1 ≤ lo ∧ f2 ≤ fr ∧ l2 ≤ lo) (hfr : 1 ≤ fr) (hlo : 40 ≤ lo) : zQ_X11_unit l 0 (fr + 1) (lo + 40) := by
  intro dC dI cI cJ h0 th tB tsz tat dp rC rV rD rK rT rS rU lw tx rL rX qR qB qP qnb qnp aR aB aP nb np aN rf ho br aK ac dw aE sr sf aA aH aI hi fB fC fV fD gC gV fz k st h sz n_ac n_dp n_hi n_ho n_lw n_nb n_np n_qnb n_qnp n_tat n_tsz n_tx hpar hat hh hKd hK6
  obtain rfl : dp = 6 := z7 (a := 6) (by decide) (by omega)
  refine Met.ofW (cc := cX11_unit) (maxL := 2) (ret := none) (by decide) rfl ?_
  intro p e s m args below meth c s₁ B hml hv
  obtain ⟨hargs, hsz, hP, hK, hT⟩ := hv
  have hx := B.exec
  have hb := B.bytes
  have hr := B.returns
  have hts : ∀ w ∈ wA, w.before args s = true := fun w h => atoms_spec (ws := .code yX11_unit cX11_unit 2 none :: wA) B.pre w (List.mem_cons_of_mem _ h)
  have hown : s.vm.findClass RX11 = some m.cls := findClass_of_methodNamed B.named
  have hlocks := B.notSynchronized
  subst hsz
  have hD := hT.self (sz := s.heap.size)
  generalize hAe : va_A [(h0, .inr (11, [.int th, .ref tB, .int tsz, .int tat, .int (-1), .int 6, .ref rC, .ref rV, .ref rD, .ref rK, .ref rT, .ref rS, .ref rU, .int lw, .int tx, .ref rL, .ref rX, .ref qR, .ref qB, .ref qP, .int qnb, .int qnp, .ref aR, .ref aB, .ref aP, .int nb, .int np, .ref aN, .ref rf, .int ho, .int br, .ref aK, .int ac, .long dw, .ref aE, .int sr, .int sf, .ref aA, .ref aH, .ref aI, .int hi])), (tB, .inl (cI, 240, .inl fB)), (rC, .inl (cI, 2600, .inl fC)), (rV, .inl (cI, 2600, .inl fV)), (rD, .inl (cI, 5, .inl fD))] s.heap.size = A at hD ⊢
  have hA : ∀ q : Nat, s.heap.size ≤ q → A q := fun q h => by rw [← hAe]; exact Or.inr h
  have hl := lv_entry ([.ref h0]) (n := 2) (Nat.le_of_ble_eq_true rfl)
  rw [show entryFrame m args 2 = entryFrame m ([.ref h0] : List Value).toArray 2 by rw [hargs], lg_entry_eq]
  generalize (lg_sl ([.ref h0]) ++ List.replicate (2 - (lg_sl ([.ref h0])).length) Slot.unset).toArray = ls at hl ⊢
  have hl : lv_has ls 2 [(0, .ref h0)] := hl
  refine zstart (fun H hH => ?_)
  rw [← hH] at hP
  have hS : va_S A s.heap H [] := by rw [hH]; exact va_S.rf
  generalize ([] : List Loc) = locs at hS ⊢
  refine zgen (fun R Q hR hQ => ?_)
  have hRf : R.frames = fr + 1 := by rw [hR]; rfl
  have hRl : R.locals = lo + 40 := by rw [hR]; rfl
  have zm1 : (-1 : Int32).toInt = -1 := by decide
  refine lv_aload_n hx hb dX11_unit_0 rfl (lv_at hl 0 rfl) ?_
  obtain ⟨hPc, hDc, hFc⟩ := zc3 (wc := [(h0, .inr (11, [.int th, .ref tB, .int tsz, .int tat, .int (-1), .int 6, .ref rC, .ref rV, .ref rD, .ref rK, .ref rT, .ref rS, .ref rU, .int lw, .int tx, .ref rL, .ref rX, .ref qR, .ref qB, .ref qP, .int qnb, .int qnp, .ref aR, .ref aB, .ref aP, .int nb, .int np, .ref aN, .ref rf, .int ho, .int br, .ref aK, .int ac, .long dw, .ref aE, .int sr, .int sf, .ref aA, .ref aH, .ref aI, .int hi])), (tB, .inl (cI, 240, .inl fB))]) hP hD hS hA [0, 1] (by decide +kernel) rfl
  refine va_calli (va_runV (As := []) (rest := []) ⟨hx, hb, hml, hown, hts⟩ (g_X11_look_t l dC dI cI cJ h0 th tB tsz tat ((-1)) 6 rC rV rD rK rT rS rU lw tx rL rX qR qB qP qnb qnp aR aB aP nb np aN rf ho br aK ac dw aE sr sf aA aH aI hi fB H.size n_ac n_hi n_ho n_lw n_nb n_np n_qnb n_qnp n_tat n_tsz (by decide)) (cwV 0 hts (zgV qw1273 qw1275 qw32 qw108 qw1276) rfl rfl rfl hd_X11_look ⟨by (try dsimp only) <;> omega, by (try dsimp only) <;> omega⟩) (zPV hPc hK hDc (va_recv (q := (RX11, TX11, 41)) hK hP (ci := 11) (q0 := 0) rfl rfl)) rfl rfl hl.1 rfl (lv_room (Nat.le_of_ble_eq_true rfl)) dX11_unit_1 ⟨Nat.zero_le _, Nat.zero_le _⟩) hS (fun q _ h => hFc q h) hFc (fun v1 u1 t H locs ht hvm hw hB hz1 hk1 hS9 => ?_)
  obtain ⟨u1_0, rfl⟩ : ∃ z, z = u1 := ⟨_, rfl⟩
  obtain ⟨hP9, hD9⟩ := zj2 (wX := [(h0, .inr (11, [.int th, .ref tB, .int tsz, .int u1_0, .int (-1), .int 6, .ref rC, .ref rV, .ref rD, .ref rK, .ref rT, .ref rS, .ref rU, .int lw, .int tx, .ref rL, .ref rX, .ref qR, .ref qB, .ref qP, .int qnb, .int qnp, .ref aR, .ref aB, .ref aP, .int nb, .int np, .ref aN, .ref rf, .int ho, .int br, .ref aK, .int ac, .long dw, .ref aE, .int sr, .int sf, .ref aA, .ref aH, .ref aI, .int hi])), (tB, .inl (cI, 240, .inl fB)), (rC, .inl (cI, 2600, .inl fC)), (rV, .inl (cI, 2600, .inl fV)), (rD, .inl (cI, 5, .inl fD))]) hP hD hk1 hFc ht hB [0, 1] [(true, 0), (true, 1), (false, 2), (false, 3), (false, 4)] rfl (by decide +kernel) (by decide +kernel) rfl
  clear hP hD hS hPc hDc hFc hB hk1 hz1 hvm
  have hP := hP9
  have hD := hD9
  have hS := hS9
  clear hP9 hD9 hS9
  obtain ⟨f1_0, f1_1, f1_2, f1_3, f1_4, f1_5⟩ : (0 ≤ u1_0.toInt) ∧ (u1_0.toInt ≤ 240) ∧ (¬ v1.toInt = -1 → u1_0.toInt < tsz.toInt) ∧ (tat.toInt ≤ u1_0.toInt) ∧ (u1_0.toInt ≤ tsz.toInt ∨ u1_0.toInt = tat.toInt) ∧ (zLk fB tsz tat v1 u1_0) := hw
  have F1 := f1_5
  refine lv_istore_n (lv' := [(1, .int v1), (0, .ref h0)]) hx hb dX11_unit_4 rfl hl (by decide) rfl (fun ls hl => ?_)
  refine lv_iload_n hx hb dX11_unit_5 rfl (lv_at hl 0 rfl) ?_
  refine lv_bipush (v := 33) hx hb dX11_unit_6 (by decide) ?_
  refine lv_icmp_ne (tgt := 47) hx hb dX11_unit_8 (by decide) (fun c8 => ?_) (fun c8 => ?_)
  · have c8 : ¬ v1.toInt = 33 := z6 rfl (by decide) c8
    refine lv_iload_n hx hb dX11_unit_47 rfl (lv_at hl 0 rfl) ?_
    refine lv_bipush (v := 40) hx hb dX11_unit_48 (by decide) ?_
    refine lv_icmp_ne (tgt := 78) hx hb dX11_unit_50 (by decide) (fun c50 => ?_) (fun c50 => ?_)
    · have c50 : ¬ v1.toInt = 40 := z6 rfl (by decide) c50
      refine lv_aload_n hx hb dX11_unit_78 rfl (lv_at hl 1 rfl) ?_
      obtain ⟨hPc, hDc, hFc⟩ := zc3 (wc := [(h0, .inr (11, [.int th, .ref tB, .int tsz, .int u1_0, .int (-1), .int 6, .ref rC, .ref rV, .ref rD, .ref rK, .ref rT, .ref rS, .ref rU, .int lw, .int tx, .ref rL, .ref rX, .ref qR, .ref qB, .ref qP, .int qnb, .int qnp, .ref aR, .ref aB, .ref aP, .int nb, .int np, .ref aN, .ref rf, .int ho, .int br, .ref aK, .int ac, .long dw, .ref aE, .int sr, .int sf, .ref aA, .ref aH, .ref aI, .int hi])), (tB, .inl (cI, 240, .inl fB)), (rC, .inl (cI, 2600, .inl fC)), (rV, .inl (cI, 2600, .inl fV)), (rD, .inl (cI, 5, .inl fD))]) hP hD hS hA [0, 1, 2, 3, 4] (by decide +kernel) rfl
      refine va_callv (va_runV (As := []) (rest := []) ⟨hx, hb, hml, hown, hts⟩ (ihS dC dI cI cJ h0 th tB tsz u1_0 6 rC rV rD rK rT rS rU lw tx rL rX qR qB qP qnb qnp aR aB aP nb np aN rf ho br aK ac dw aE sr sf aA aH aI hi fB fC fV fD gC gV fz k st h H.size n_ac (by decide) n_hi n_ho n_lw n_nb n_np n_qnb n_qnp ⟨f1_0, f1_1⟩ n_tsz n_tx (by first | exact zPar_mono hpar (by omega) (by omega) (by omega) (by omega)) (by first | decide | omega) (by first | decide | omega) (by first | decide | omega) (by first | decide | omega)) (cwV 0 hts (zgV qw1340 qw1342 qw45 qw108 qw1343) rfl rfl rfl hd_X11_sum ⟨by (try dsimp only) <;> omega, by (try dsimp only) <;> omega⟩) (zPV hPc hK hDc (va_recv (q := (RX11, TX11, 41)) hK hP (ci := 11) (q0 := 0) rfl rfl)) rfl rfl hl.1 rfl (lv_room (Nat.le_of_ble_eq_true rfl)) dX11_unit_79 ⟨Nat.zero_le _, Nat.zero_le _⟩) hS (fun q _ h => hFc q h) hFc (fun u79 t H locs ht hvm hw hB hz1 hk1 hS9 => ?_)
      obtain ⟨u79_0, u79_1, u79_2, u79_3, u79_4, u79_5⟩ := u79
      obtain ⟨hP9, hD9⟩ := zj2 (wX := [(h0, .inr (11, [.int th, .ref tB, .int tsz, .int u79_0, .int u79_1, .int u79_2, .ref rC, .ref rV, .ref rD, .ref rK, .ref rT, .ref rS, .ref rU, .int lw, .int tx, .ref rL, .ref rX, .ref qR, .ref qB, .ref qP, .int qnb, .int qnp, .ref aR, .ref aB, .ref aP, .int nb, .int np, .ref aN, .ref rf, .int ho, .int br, .ref aK, .int ac, .long dw, .ref aE, .int sr, .int sf, .ref aA, .ref aH, .ref aI, .int hi])), (tB, .inl (cI, 240, .inl fB)), (rC, .inl (cI, 2600, .inl u79_3)), (rV, .inl (cI, 2600, .inl u79_4)), (rD, .inl (cI, 5, .inl u79_5))]) hP hD hk1 hFc ht hB [0, 1, 2, 3, 4] [(true, 0), (true, 1), (true, 2), (true, 3), (true, 4)] rfl (by decide +kernel) (by decide +kernel) rfl
      clear hP hD hS hPc hDc hFc hB hk1 hz1 hvm
      have hP := hP9
      have hD := hD9
      have hS := hS9
      clear hP9 hD9 hS9
      obtain ⟨f79_0, f79_1, f79_2, f79_3, f79_4, f79_5, f79_6, f79_7, f79_8, f79_9, f79_10, f79_11⟩ : (0 ≤ u79_0.toInt) ∧ (u79_0.toInt ≤ 246) ∧ ((-1) ≤ u79_1.toInt) ∧ (u79_1.toInt ≤ 260) ∧ (0 ≤ u79_2.toInt) ∧ (u79_2.toInt ≤ 7) ∧ (u79_1.toInt = -1 → (u79_0.toInt ≤ tsz.toInt ∧ u79_2.toInt = 6 - ((0 : Nat) : Int))) ∧ (u1_0.toInt ≤ u79_0.toInt) ∧ (u79_0.toInt ≤ 240 + ((0 : Nat) : Int) ∧ 6 - ((0 : Nat) : Int) ≤ u79_2.toInt ∧ u79_2.toInt ≤ 7 - ((0 : Nat) : Int)) ∧ (zW (sSum (sB fB tsz.toInt) tsz.toInt 0 u1_0.toInt) u79_1 u79_0) ∧ (u79_1.toInt = -1 → zEr fC fV (520 * tx.toInt.toNat) (fD tx.toInt.toNat).toInt ((eSum (sB fB tsz.toInt) tsz.toInt 0) u1_0.toInt) u79_3 u79_4 (u79_5 tx.toInt.toNat).toInt) ∧ (zPar u79_1 u79_0 u79_3 u79_4 u79_5 tx gC gV fz (k) st (h + 1)) := hw
      have F79 := f79_9
      have F79_1 : zHid (u79_1.toInt = -1 → zEr fC fV (520 * tx.toInt.toNat) (fD tx.toInt.toNat).toInt ((eSum (sB fB tsz.toInt) tsz.toInt 0) u1_0.toInt) u79_3 u79_4 (u79_5 tx.toInt.toNat).toInt) := f79_10
      clear f79_10
      refine lv_aload_n hx hb dX11_unit_82 rfl (lv_at hl 1 rfl) ?_
      refine va_get (D := (dC, dI)) (ci := 11) (v := .int u79_1) (C := RX11) (T := TX11) (N := 41) hx hb hts iX11 hown hK hP 0 rfl rfl 4 (by decide) (hts _ qw1131) (fun _ h9 => h9) rfl dX11_unit_83 ?_
      refine lv_iconst (v := (-1)) hx hb dX11_unit_86 (by decide) ?_
      refine lv_icmp_ne (tgt := 94) hx hb dX11_unit_87 (by decide) (fun c87 => ?_) (fun c87 => ?_)
      · have c87 : ¬ u79_1.toInt = (-1) := z6 rfl (by decide) c87
        rw [hQ]
        exact W.vret hx hb hr (fun t ht hW => ⟨⟨(u79_0, u79_1, u79_2, u79_3, u79_4, u79_5), rfl, ⟨by (try dsimp only); omega, by (try dsimp only); omega, by (try dsimp only); omega, by (try dsimp only); omega, by (try dsimp only); omega, by (try dsimp only); omega, by (try dsimp only); omega, by (try dsimp only); omega, by (try dsimp only); omega, by (try dsimp only); exact zunS0 F1 (by omega) (by omega) F79 (by omega), by (try dsimp only); exact fun hw => absurd hw (by omega), by (try dsimp only); first | exact zPar_bad f79_11 (by omega) (by omega) (by omega)⟩, ⟨by rw [ht]; exact hP, hD⟩⟩, hS.F ht⟩) hS.2.2 dX11_unit_94
      · have c87 : u79_1.toInt = (-1) := z5 rfl (by decide) c87
        refine lv_aload_n hx hb dX11_unit_90 rfl (lv_at hl 1 rfl) ?_
        have zx_u79_1 : ((-1) : Int32).toInt = (-1) := by decide
        have zy_u79_1 : u79_1 = (-1) := z7 (a := (-1)) (by decide) (by omega)
        rw [zy_u79_1] at hP hD
        obtain ⟨hPc, hDc, hFc⟩ := zc3 (wc := [(h0, .inr (11, [.int th, .ref tB, .int tsz, .int u79_0, .int (-1), .int u79_2, .ref rC, .ref rV, .ref rD, .ref rK, .ref rT, .ref rS, .ref rU, .int lw, .int tx, .ref rL, .ref rX, .ref qR, .ref qB, .ref qP, .int qnb, .int qnp, .ref aR, .ref aB, .ref aP, .int nb, .int np, .ref aN, .ref rf, .int ho, .int br, .ref aK, .int ac, .long dw, .ref aE, .int sr, .int sf, .ref aA, .ref aH, .ref aI, .int hi])), (tB, .inl (cI, 240, .inl fB)), (rC, .inl (cI, 2600, .inl u79_3)), (rV, .inl (cI, 2600, .inl u79_4)), (rD, .inl (cI, 5, .inl u79_5))]) hP hD hS hA [0, 1, 2, 3, 4] (by decide +kernel) rfl
        refine va_callv (va_runV (As := []) (rest := []) ⟨hx, hb, hml, hown, hts⟩ (ihP dC dI cI cJ h0 th tB tsz u79_0 u79_2 rC rV rD rK rT rS rU lw tx rL rX qR qB qP qnb qnp aR aB aP nb np aN rf ho br aK ac dw aE sr sf aA aH aI hi fB u79_3 u79_4 u79_5 gC gV fz k st h H.size n_ac (by omega) n_hi n_ho n_lw n_nb n_np n_qnb n_qnp (by omega) n_tsz n_tx (by first | exact zPar_mono f79_11 (by omega) (by omega) (by omega) (by omega)) (by first | decide | omega) (by first | decide | omega) (by first | decide | omega) (by first | decide | omega)) (cwV 0 hts (zgV qw1359 qw1361 qw49 qw108 qw1362) rfl rfl rfl hd_X11_compare ⟨by (try dsimp only) <;> omega, by (try dsimp only) <;> omega⟩) (zPV hPc hK hDc (va_recv (q := (RX11, TX11, 41)) hK hP (ci := 11) (q0 := 0) rfl rfl)) rfl rfl hl.1 rfl (lv_room (Nat.le_of_ble_eq_true rfl)) dX11_unit_91 ⟨Nat.zero_le _, Nat.zero_le _⟩) hS (fun q _ h => hFc q h) hFc (fun u91 t H locs ht hvm hw hB hz1 hk1 hS9 => ?_)
        obtain ⟨u91_0, u91_1, u91_2, u91_3, u91_4, u91_5⟩ := u91
        obtain ⟨hP9, hD9⟩ := zj2 (wX := [(h0, .inr (11, [.int th, .ref tB, .int tsz, .int u91_0, .int u91_1, .int u91_2, .ref rC, .ref rV, .ref rD, .ref rK, .ref rT, .ref rS, .ref rU, .int lw, .int tx, .ref rL, .ref rX, .ref qR, .ref qB, .ref qP, .int qnb, .int qnp, .ref aR, .ref aB, .ref aP, .int nb, .int np, .ref aN, .ref rf, .int ho, .int br, .ref aK, .int ac, .long dw, .ref aE, .int sr, .int sf, .ref aA, .ref aH, .ref aI, .int hi])), (tB, .inl (cI, 240, .inl fB)), (rC, .inl (cI, 2600, .inl u91_3)), (rV, .inl (cI, 2600, .inl u91_4)), (rD, .inl (cI, 5, .inl u91_5))]) hP hD hk1 hFc ht hB [0, 1, 2, 3, 4] [(true, 0), (true, 1), (true, 2), (true, 3), (true, 4)] rfl (by decide +kernel) (by decide +kernel) rfl
        clear hP hD hS hPc hDc hFc hB hk1 hz1 hvm
        have hP := hP9
        have hD := hD9
        have hS := hS9
        clear hP9 hD9 hS9
        obtain ⟨f91_0, f91_1, f91_2, f91_3, f91_4, f91_5, f91_6, f91_7, f91_8, f91_9, f91_10, f91_11⟩ : (0 ≤ u91_0.toInt) ∧ (u91_0.toInt ≤ 246) ∧ ((-1) ≤ u91_1.toInt) ∧ (u91_1.toInt ≤ 260) ∧ (0 ≤ u91_2.toInt) ∧ (u91_2.toInt ≤ 7) ∧ (u91_1.toInt = -1 → (u91_0.toInt ≤ tsz.toInt ∧ u91_2.toInt = 6 - ((0 : Nat) : Int))) ∧ (u79_0.toInt ≤ u91_0.toInt) ∧ (u91_0.toInt ≤ 240 + ((0 : Nat) : Int) ∧ 6 - ((0 : Nat) : Int) ≤ u91_2.toInt ∧ u91_2.toInt ≤ 7 - ((0 : Nat) : Int)) ∧ (zW (sCmp (sB fB tsz.toInt) tsz.toInt (sSum (sB fB tsz.toInt) tsz.toInt 0) u79_0.toInt) u91_1 u91_0) ∧ (u91_1.toInt = -1 → zEr u79_3 u79_4 (520 * tx.toInt.toNat) (u79_5 tx.toInt.toNat).toInt (eCmp (sB fB tsz.toInt) tsz.toInt (eSum (sB fB tsz.toInt) tsz.toInt 0) u79_0.toInt) u91_3 u91_4 (u91_5 tx.toInt.toNat).toInt) ∧ (zPar u91_1 u91_0 u91_3 u91_4 u91_5 tx gC gV fz (k) st (h + 1)) := hw
        have F91 := f91_9
        have F91_1 : zHid (u91_1.toInt = -1 → zEr u79_3 u79_4 (520 * tx.toInt.toNat) (u79_5 tx.toInt.toNat).toInt (eCmp (sB fB tsz.toInt) tsz.toInt (eSum (sB fB tsz.toInt) tsz.toInt 0) u79_0.toInt) u91_3 u91_4 (u91_5 tx.toInt.toNat).toInt) := f91_10
        clear f91_10
        rw [hQ]
        exact W.vret hx hb hr (fun t ht hW => ⟨⟨(u91_0, u91_1, u91_2, u91_3, u91_4, u91_5), rfl, ⟨by (try dsimp only); omega, by (try dsimp only); omega, by (try dsimp only); omega, by (try dsimp only); omega, by (try dsimp only); omega, by (try dsimp only); omega, by (try dsimp only); omega, by (try dsimp only); omega, by (try dsimp only); omega, by (try dsimp only); exact zunS1 F1 (by omega) (by omega) F79 (by omega) F91, by (try dsimp only); exact fun hw => erSum F1 (by omega) (by omega) F79 (by omega) (F79_1 (by omega)) (F91_1 hw) (by have := hpar.2.2.1; omega), by (try dsimp only); first | exact zPar_mono f91_11 (by omega) (by omega) (by omega) (by omega)⟩, ⟨by rw [ht]; exact hP, hD⟩⟩, hS.F ht⟩) hS.2.2 dX11_unit_94
    · have c50 : v1.toInt = 40 := z5 rfl (by decide) c50
      refine lv_aload_n hx hb dX11_unit_53 rfl (lv_at hl 1 rfl) ?_
      obtain ⟨hPc, hDc, hFc⟩ := zc3 (wc := [(h0, .inr (11, [.int th, .ref tB, .int tsz, .int u1_0, .int (-1), .int 6, .ref rC, .ref rV, .ref rD, .ref rK, .ref rT, .ref rS, .ref rU, .int lw, .int tx, .ref rL, .ref rX, .ref qR, .ref qB, .ref qP, .int qnb, .int qnp, .ref aR, .ref aB, .ref aP, .int nb, .int np, .ref aN, .ref rf, .int ho, .int br, .ref aK, .int ac, .long dw, .ref aE, .int sr, .int sf, .ref aA, .ref aH, .ref aI, .int hi]))]) hP hD hS hA [0] (by decide +kernel) rfl
      refine va_callv (va_runV (As := []) (rest := []) ⟨hx, hb, hml, hown, hts⟩ (g_X11_opens_6 l dC dI cI cJ h0 th tB tsz u1_0 rC rV rD rK rT rS rU lw tx rL rX qR qB qP qnb qnp aR aB aP nb np aN rf ho br aK ac dw aE sr sf aA aH aI hi H.size n_ac n_hi n_ho n_lw n_nb n_np n_qnb n_qnp (by omega) n_tsz (by omega)) (cwV 0 hts (zgV qw1328 qw1330 qw42 qw108 qw1331) rfl rfl rfl hd_X11_opens ⟨by (try dsimp only) <;> omega, by (try dsimp only) <;> omega⟩) (zPV hPc hK hDc (va_recv (q := (RX11, TX11, 41)) hK hP (ci := 11) (q0 := 0) rfl rfl)) rfl rfl hl.1 rfl (lv_room (Nat.le_of_ble_eq_true rfl)) dX11_unit_54 ⟨Nat.zero_le _, Nat.zero_le _⟩) hS (fun q _ h => hFc q h) hFc (fun u54 t H locs ht hvm hw hB hz1 hk1 hS9 => ?_)
      obtain ⟨u54_0, rfl⟩ : ∃ z, z = u54 := ⟨_, rfl⟩
      obtain ⟨hP9, hD9⟩ := zj2 (wX := [(h0, .inr (11, [.int th, .ref tB, .int tsz, .int u54_0, .int u1_0, .int 7, .ref rC, .ref rV, .ref rD, .ref rK, .ref rT, .ref rS, .ref rU, .int lw, .int tx, .ref rL, .ref rX, .ref qR, .ref qB, .ref qP, .int qnb, .int qnp, .ref aR, .ref aB, .ref aP, .int nb, .int np, .ref aN, .ref rf, .int ho, .int br, .ref aK, .int ac, .long dw, .ref aE, .int sr, .int sf, .ref aA, .ref aH, .ref aI, .int hi])), (tB, .inl (cI, 240, .inl fB)), (rC, .inl (cI, 2600, .inl fC)), (rV, .inl (cI, 2600, .inl fV)), (rD, .inl (cI, 5, .inl fD))]) hP hD hk1 hFc ht hB [0] [(true, 0), (false, 1), (false, 2), (false, 3), (false, 4)] rfl (by decide +kernel) (by decide +kernel) rfl
      clear hP hD hS hPc hDc hFc hB hk1 hz1 hvm
      have hP := hP9
      have hD := hD9
      have hS := hS9
      clear hP9 hD9 hS9
      obtain ⟨f54_0, f54_1, f54_2⟩ : (1 ≤ u54_0.toInt) ∧ (u54_0.toInt ≤ 240) ∧ (u54_0.toInt = u1_0.toInt + 1) := hw
      refine lv_aload_n hx hb dX11_unit_57 rfl (lv_at hl 1 rfl) ?_
      refine va_get (D := (dC, dI)) (ci := 11) (v := .int u1_0) (C := RX11) (T := TX11) (N := 41) hx hb hts iX11 hown hK hP 0 rfl rfl 4 (by decide) (hts _ qw1131) (fun _ h9 => h9) rfl dX11_unit_58 ?_
      refine lv_iconst (v := (-1)) hx hb dX11_unit_61 (by decide) ?_
      refine lv_icmp_ne (tgt := 94) hx hb dX11_unit_62 (by decide) (fun c62 => ?_) (fun c62 => by exfalso; have c62 : u1_0.toInt = (-1) := z5 rfl (by decide) c62; omega)
      have c62 : ¬ u1_0.toInt = (-1) := z6 rfl (by decide) c62
      have zr3 : (7 : Int32).toInt = 7 := by decide
      rw [hQ]
      exact W.vret hx hb hr (fun t ht hW => ⟨⟨(u54_0, u1_0, 7, fC, fV, fD), rfl, ⟨by (try dsimp only); omega, by (try dsimp only); omega, by (try dsimp only); omega, by (try dsimp only); omega, by (try dsimp only); omega, by (try dsimp only); omega, by (try dsimp only); omega, by (try dsimp only); omega, by (try dsimp only); omega, by (try dsimp only); exact zunT F1 (by omega) (by omega) (by omega), by (try dsimp only); exact fun hw => absurd hw (by omega), by (try dsimp only); first | exact zPar_bad hpar (by omega) (by omega) (by omega)⟩, ⟨by rw [ht]; exact hP, hD⟩⟩, hS.F ht⟩) hS.2.2 dX11_unit_94
  · have c8 : v1.toInt = 33 := z5 rfl (by decide) c8
    refine lv_aload_n hx hb dX11_unit_11 rfl (lv_at hl 1 rfl) ?_
    obtain ⟨hPc, hDc, hFc⟩ := zc3 (wc := [(h0, .inr (11, [.int th, .ref tB, .int tsz, .int u1_0, .int (-1), .int 6, .ref rC, .ref rV, .ref rD, .ref rK, .ref rT, .ref rS, .ref rU, .int lw, .int tx, .ref rL, .ref rX, .ref qR, .ref qB, .ref qP, .int qnb, .int qnp, .ref aR, .ref aB, .ref aP, .int nb, .int np, .ref aN, .ref rf, .int ho, .int br, .ref aK, .int ac, .long dw, .ref aE, .int sr, .int sf, .ref aA, .ref aH, .ref aI, .int hi]))]) hP hD hS hA [0] (by decide +kernel) rfl
    refine va_callv (va_runV (As := []) (rest := []) ⟨hx, hb, hml, hown, hts⟩ (g_X11_opens_6 l dC dI cI cJ h0 th tB tsz u1_0 rC rV rD rK rT rS rU lw tx rL rX qR qB qP qnb qnp aR aB aP nb np aN rf ho br aK ac dw aE sr sf aA aH aI hi H.size n_ac n_hi n_ho n_lw n_nb n_np n_qnb n_qnp (by omega) n_tsz (by omega)) (cwV 0 hts (zgV qw1328 qw1330 qw42 qw108 qw1331) rfl rfl rfl hd_X11_opens ⟨by (try dsimp only) <;> omega, by (try dsimp only) <;> omega⟩) (zPV hPc hK hDc (va_recv (q := (RX11, TX11, 41)) hK hP (ci := 11) (q0 := 0) rfl rfl)) rfl rfl hl.1 rfl (lv_room (Nat.le_of_ble_eq_true rfl)) dX11_unit_12 ⟨Nat.zero_le _, Nat.zero_le _⟩) hS (fun q _ h => hFc q h) hFc (fun u12 t H locs ht hvm hw hB hz1 hk1 hS9 => ?_)
    obtain ⟨u12_0, rfl⟩ : ∃ z, z = u12 := ⟨_, rfl⟩
    obtain ⟨hP9, hD9⟩ := zj2 (wX := [(h0, .inr (11, [.int th, .ref tB, .int tsz, .int u12_0, .int u1_0, .int 7, .ref rC, .ref rV, .ref rD, .ref rK, .ref rT, .ref rS, .ref rU, .int lw, .int tx, .ref rL, .ref rX, .ref qR, .ref qB, .ref qP, .int qnb, .int qnp, .ref aR, .ref aB, .ref aP, .int nb, .int np, .ref aN, .ref rf, .int ho, .int br, .ref aK, .int ac, .long dw, .ref aE, .int sr, .int sf, .ref aA, .ref aH, .ref aI, .int hi])), (tB, .inl (cI, 240, .inl fB)), (rC, .inl (cI, 2600, .inl fC)), (rV, .inl (cI, 2600, .inl fV)), (rD, .inl (cI, 5, .inl fD))]) hP hD hk1 hFc ht hB [0] [(true, 0), (false, 1), (false, 2), (false, 3), (false, 4)] rfl (by decide +kernel) (by decide +kernel) rfl
    clear hP hD hS hPc hDc hFc hB hk1 hz1 hvm
    have hP := hP9
    have hD := hD9
    have hS := hS9
    clear hP9 hD9 hS9
    obtain ⟨f12_0, f12_1, f12_2⟩ : (1 ≤ u12_0.toInt) ∧ (u12_0.toInt ≤ 240) ∧ (u12_0.toInt = u1_0.toInt + 1) := hw
    refine lv_aload_n hx hb dX11_unit_15 rfl (lv_at hl 1 rfl) ?_
    refine va_get (D := (dC, dI)) (ci := 11) (v := .int u1_0) (C := RX11) (T := TX11) (N := 41) hx hb hts iX11 hown hK hP 0 rfl rfl 4 (by decide) (hts _ qw1131) (fun _ h9 => h9) rfl dX11_unit_16 ?_
    refine lv_iconst (v := (-1)) hx hb dX11_unit_19 (by decide) ?_
    refine lv_icmp_ne (tgt := 94) hx hb dX11_unit_20 (by decide) (fun c20 => ?_) (fun c20 => by exfalso; have c20 : u1_0.toInt = (-1) := z5 rfl (by decide) c20; omega)
    have c20 : ¬ u1_0.toInt = (-1) := z6 rfl (by decide) c20
    have zr3 : (7 : Int32).toInt = 7 := by decide
    rw [hQ]
    exact W.vret hx hb hr (fun t ht hW => ⟨⟨(u12_0, u1_0, 7, fC, fV, fD), rfl, ⟨by (try dsimp only); omega, by (try dsimp only); omega, by (try dsimp only); omega, by (try dsimp only); omega, by (try dsimp only); omega, by (try dsimp only); omega, by (try dsimp only); omega, by (try dsimp only); omega, by (try dsimp only); omega, by (try dsimp only); exact zunT F1 (by omega) (by omega) (by omega), by (try dsimp only); exact fun hw => absurd hw (by omega), by (try dsimp only); first | exact zPar_bad hpar (by omega) (by omega) (by omega)⟩, ⟨by rw [ht]; exact hP, hD⟩⟩, hS.F ht⟩) hS.2.2 dX11_unit_94
set_option maxHeartbeats 4000000 in
set_option maxRecDepth 100000 in
theorem g_X11_unit_k (l : Launch) (K fr lo : Nat) (f1 l1 f2 l2 f3 l3 f4 l4 : Nat) (ihS : zQ_X11_sum l (K + 1) f1 l1) (ihP : zQ_X11_compare l (K + 1) f2 l2) (ihU : zQ_X11_unit l K f3 l3) (ihC : zQ_X11_condition l K f4 l4) (hfl : f1 ≤ fr ∧ l1 ≤ lo ∧ f2 ≤ fr ∧ l2 ≤ lo ∧ f3 ≤ fr ∧ l3 ≤ lo ∧ f4 ≤ fr ∧ l4 ≤ lo) (hfr : 2 ≤ fr) (hlo : 61 ≤ lo) : zQ_X11_unit l (K + 1) (fr + 1) (lo + 40) := by
  intro dC dI cI cJ h0 th tB tsz tat dp rC rV rD rK rT rS rU lw tx rL rX qR qB qP qnb qnp aR aB aP nb np aN rf ho br aK ac dw aE sr sf aA aH aI hi fB fC fV fD gC gV fz k st h sz n_ac n_dp n_hi n_ho n_lw n_nb n_np n_qnb n_qnp n_tat n_tsz n_tx hpar hat hh hKd hK6
  refine Met.ofW (cc := cX11_unit) (maxL := 2) (ret := none) (by decide) rfl ?_
  intro p e s m args below meth c s₁ B hml hv
  obtain ⟨hargs, hsz, hP, hK, hT⟩ := hv
  have hx := B.exec
  have hb := B.bytes
  have hr := B.returns
  have hts : ∀ w ∈ wA, w.before args s = true := fun w h => atoms_spec (ws := .code yX11_unit cX11_unit 2 none :: wA) B.pre w (List.mem_cons_of_mem _ h)
  have hown : s.vm.findClass RX11 = some m.cls := findClass_of_methodNamed B.named
  have hlocks := B.notSynchronized
  subst hsz
  have hD := hT.self (sz := s.heap.size)
  generalize hAe : va_A [(h0, .inr (11, [.int th, .ref tB, .int tsz, .int tat, .int (-1), .int dp, .ref rC, .ref rV, .ref rD, .ref rK, .ref rT, .ref rS, .ref rU, .int lw, .int tx, .ref rL, .ref rX, .ref qR, .ref qB, .ref qP, .int qnb, .int qnp, .ref aR, .ref aB, .ref aP, .int nb, .int np, .ref aN, .ref rf, .int ho, .int br, .ref aK, .int ac, .long dw, .ref aE, .int sr, .int sf, .ref aA, .ref aH, .ref aI, .int hi])), (tB, .inl (cI, 240, .inl fB)), (rC, .inl (cI, 2600, .inl fC)), (rV, .inl (cI, 2600, .inl fV)), (rD, .inl (cI, 5, .inl fD))] s.heap.size = A at hD ⊢
  have hA : ∀ q : Nat, s.heap.size ≤ q → A q := fun q h => by rw [← hAe]; exact Or.inr h
  have hl := lv_entry ([.ref h0]) (n := 2) (Nat.le_of_ble_eq_true rfl)
  rw [show entryFrame m args 2 = entryFrame m ([.ref h0] : List Value).toArray 2 by rw [hargs], lg_entry_eq]
  generalize (lg_sl ([.ref h0]) ++ List.replicate (2 - (lg_sl ([.ref h0])).length) Slot.unset).toArray = ls at hl ⊢
  have hl : lv_has ls 2 [(0, .ref h0)] := hl
  refine zstart (fun H hH => ?_)
  rw [← hH] at hP
  have hS : va_S A s.heap H [] := by rw [hH]; exact va_S.rf
  generalize ([] : List Loc) = locs at hS ⊢
  refine zgen (fun R Q hR hQ => ?_)
  have hRf : R.frames = fr + 1 := by rw [hR]; rfl
  have hRl : R.locals = lo + 40 := by rw [hR]; rfl
  have zm1 : (-1 : Int32).toInt = -1 := by decide
  refine lv_aload_n hx hb dX11_unit_0 rfl (lv_at hl 0 rfl) ?_
  obtain ⟨hPc, hDc, hFc⟩ := zc3 (wc := [(h0, .inr (11, [.int th, .ref tB, .int tsz, .int tat, .int (-1), .int dp, .ref rC, .ref rV, .ref rD, .ref rK, .ref rT, .ref rS, .ref rU, .int lw, .int tx, .ref rL, .ref rX, .ref qR, .ref qB, .ref qP, .int qnb, .int qnp, .ref aR, .ref aB, .ref aP, .int nb, .int np, .ref aN, .ref rf, .int ho, .int br, .ref aK, .int ac, .long dw, .ref aE, .int sr, .int sf, .ref aA, .ref aH, .ref aI, .int hi])), (tB, .inl (cI, 240, .inl fB))]) hP hD hS hA [0, 1] (by decide +kernel) rfl
  refine va_calli (va_runV (As := []) (rest := []) ⟨hx, hb, hml, hown, hts⟩ (g_X11_look_t l dC dI cI cJ h0 th tB tsz tat ((-1)) dp rC rV rD rK rT rS rU lw tx rL rX qR qB qP qnb qnp aR aB aP nb np aN rf ho br aK ac dw aE sr sf aA aH aI hi fB H.size n_ac n_hi n_ho n_lw n_nb n_np n_qnb n_qnp n_tat n_tsz (by decide)) (cwV 0 hts (zgV qw1273 qw1275 qw32 qw108 qw1276) rfl rfl rfl hd_X11_look ⟨by (try dsimp only) <;> omega, by (try dsimp only) <;> omega⟩) (zPV hPc hK hDc (va_recv (q := (RX11, TX11, 41)) hK hP (ci := 11) (q0 := 0) rfl rfl)) rfl rfl hl.1 rfl (lv_room (Nat.le_of_ble_eq_true rfl)) dX11_unit_1 ⟨Nat.zero_le _, Nat.zero_le _⟩) hS (fun q _ h => hFc q h) hFc (fun v1 u1 t H locs ht hvm hw hB hz1 hk1 hS9 => ?_)
  obtain ⟨u1_0, rfl⟩ : ∃ z, z = u1 := ⟨_, rfl⟩
  obtain ⟨hP9, hD9⟩ := zj2 (wX := [(h0, .inr (11, [.int th, .ref tB, .int tsz, .int u1_0, .int (-1), .int dp, .ref rC, .ref rV, .ref rD, .ref rK, .ref rT, .ref rS, .ref rU, .int lw, .int tx, .ref rL, .ref rX, .ref qR, .ref qB, .ref qP, .int qnb, .int qnp, .ref aR, .ref aB, .ref aP, .int nb, .int np, .ref aN, .ref rf, .int ho, .int br, .ref aK, .int ac, .long dw, .ref aE, .int sr, .int sf, .ref aA, .ref aH, .ref aI, .int hi])), (tB, .inl (cI, 240, .inl fB)), (rC, .inl (cI, 2600, .inl fC)), (rV, .inl (cI, 2600, .inl fV)), (rD, .inl (cI, 5, .inl fD))]) hP hD hk1 hFc ht hB [0, 1] [(true, 0), (true, 1), (false, 2), (false, 3), (false, 4)] rfl (by decide +kernel) (by decide +kernel) rfl
  clear hP hD hS hPc hDc hFc hB hk1 hz1 hvm
  have hP := hP9
  have hD := hD9
  have hS := hS9
  clear hP9 hD9 hS9
  obtain ⟨f1_0, f1_1, f1_2, f1_3, f1_4, f1_5⟩ : (0 ≤ u1_0.toInt) ∧ (u1_0.toInt ≤ 240) ∧ (¬ v1.toInt = -1 → u1_0.toInt < tsz.toInt) ∧ (tat.toInt ≤ u1_0.toInt) ∧ (u1_0.toInt ≤ tsz.toInt ∨ u1_0.toInt = tat.toInt) ∧ (zLk fB tsz tat v1 u1_0) := hw
  have F1 := f1_5
  refine lv_istore_n (lv' := [(1, .int v1), (0, .ref h0)]) hx hb dX11_unit_4 rfl hl (by decide) rfl (fun ls hl => ?_)
  refine lv_iload_n hx hb dX11_unit_5 rfl (lv_at hl 0 rfl) ?_
  refine lv_bipush (v := 33) hx hb dX11_unit_6 (by decide) ?_
  refine lv_icmp_ne (tgt := 47) hx hb dX11_unit_8 (by decide) (fun c8 => ?_) (fun c8 => ?_)
  · have c8 : ¬ v1.toInt = 33 := z6 rfl (by decide) c8
    refine lv_iload_n hx hb dX11_unit_47 rfl (lv_at hl 0 rfl) ?_
    refine lv_bipush (v := 40) hx hb dX11_unit_48 (by decide) ?_
    refine lv_icmp_ne (tgt := 78) hx hb dX11_unit_50 (by decide) (fun c50 => ?_) (fun c50 => ?_)
    · have c50 : ¬ v1.toInt = 40 := z6 rfl (by decide) c50
      refine lv_aload_n hx hb dX11_unit_78 rfl (lv_at hl 1 rfl) ?_
      obtain ⟨hPc, hDc, hFc⟩ := zc3 (wc := [(h0, .inr (11, [.int th, .ref tB, .int tsz, .int u1_0, .int (-1), .int dp, .ref rC, .ref rV, .ref rD, .ref rK, .ref rT, .ref rS, .ref rU, .int lw, .int tx, .ref rL, .ref rX, .ref qR, .ref qB, .ref qP, .int qnb, .int qnp, .ref aR, .ref aB, .ref aP, .int nb, .int np, .ref aN, .ref rf, .int ho, .int br, .ref aK, .int ac, .long dw, .ref aE, .int sr, .int sf, .ref aA, .ref aH, .ref aI, .int hi])), (tB, .inl (cI, 240, .inl fB)), (rC, .inl (cI, 2600, .inl fC)), (rV, .inl (cI, 2600, .inl fV)), (rD, .inl (cI, 5, .inl fD))]) hP hD hS hA [0, 1, 2, 3, 4] (by decide +kernel) rfl
      refine va_callv (va_runV (As := []) (rest := []) ⟨hx, hb, hml, hown, hts⟩ (ihS dC dI cI cJ h0 th tB tsz u1_0 dp rC rV rD rK rT rS rU lw tx rL rX qR qB qP qnb qnp aR aB aP nb np aN rf ho br aK ac dw aE sr sf aA aH aI hi fB fC fV fD gC gV fz k st h H.size n_ac n_dp n_hi n_ho n_lw n_nb n_np n_qnb n_qnp ⟨f1_0, f1_1⟩ n_tsz n_tx (by first | exact zPar_mono hpar (by omega) (by omega) (by omega) (by omega)) (by first | decide | omega) (by first | decide | omega) (by first | decide | omega) (by first | decide | omega)) (cwV 0 hts (zgV qw1340 qw1342 qw45 qw108 qw1343) rfl rfl rfl hd_X11_sum ⟨by (try dsimp only) <;> omega, by (try dsimp only) <;> omega⟩) (zPV hPc hK hDc (va_recv (q := (RX11, TX11, 41)) hK hP (ci := 11) (q0 := 0) rfl rfl)) rfl rfl hl.1 rfl (lv_room (Nat.le_of_ble_eq_true rfl)) dX11_unit_79 ⟨Nat.zero_le _, Nat.zero_le _⟩) hS (fun q _ h => hFc q h) hFc (fun u79 t H locs ht hvm hw hB hz1 hk1 hS9 => ?_)
      obtain ⟨u79_0, u79_1, u79_2, u79_3, u79_4, u79_5⟩ := u79
      obtain ⟨hP9, hD9⟩ := zj2 (wX := [(h0, .inr (11, [.int th, .ref tB, .int tsz, .int u79_0, .int u79_1, .int u79_2, .ref rC, .ref rV, .ref rD, .ref rK, .ref rT, .ref rS, .ref rU, .int lw, .int tx, .ref rL, .ref rX, .ref qR, .ref qB, .ref qP, .int qnb, .int qnp, .ref aR, .ref aB, .ref aP, .int nb, .int np, .ref aN, .ref rf, .int ho, .int br, .ref aK, .int ac, .long dw, .ref aE, .int sr, .int sf, .ref aA, .ref aH, .ref aI, .int hi])), (tB, .inl (cI, 240, .inl fB)), (rC, .inl (cI, 2600, .inl u79_3)), (rV, .inl (cI, 2600, .inl u79_4)), (rD, .inl (cI, 5, .inl u79_5))]) hP hD hk1 hFc ht hB [0, 1, 2, 3, 4] [(true, 0), (true, 1), (true, 2), (true, 3), (true, 4)] rfl (by decide +kernel) (by decide +kernel) rfl
      clear hP hD hS hPc hDc hFc hB hk1 hz1 hvm
      have hP := hP9
      have hD := hD9
      have hS := hS9
      clear hP9 hD9 hS9
      obtain ⟨f79_0, f79_1, f79_2, f79_3, f79_4, f79_5, f79_6, f79_7, f79_8, f79_9, f79_10, f79_11⟩ : (0 ≤ u79_0.toInt) ∧ (u79_0.toInt ≤ 246) ∧ ((-1) ≤ u79_1.toInt) ∧ (u79_1.toInt ≤ 260) ∧ (0 ≤ u79_2.toInt) ∧ (u79_2.toInt ≤ 7) ∧ (u79_1.toInt = -1 → (u79_0.toInt ≤ tsz.toInt ∧ u79_2.toInt = 6 - (((K + 1) : Nat) : Int))) ∧ (u1_0.toInt ≤ u79_0.toInt) ∧ (u79_0.toInt ≤ 240 + (((K + 1) : Nat) : Int) ∧ 6 - (((K + 1) : Nat) : Int) ≤ u79_2.toInt ∧ u79_2.toInt ≤ 7 - (((K + 1) : Nat) : Int)) ∧ (zW (sSum (sB fB tsz.toInt) tsz.toInt (K + 1) u1_0.toInt) u79_1 u79_0) ∧ (u79_1.toInt = -1 → zEr fC fV (520 * tx.toInt.toNat) (fD tx.toInt.toNat).toInt ((eSum (sB fB tsz.toInt) tsz.toInt (K + 1)) u1_0.toInt) u79_3 u79_4 (u79_5 tx.toInt.toNat).toInt) ∧ (zPar u79_1 u79_0 u79_3 u79_4 u79_5 tx gC gV fz (k) st (h + 1)) := hw
      have F79 := f79_9
      have F79_1 : zHid (u79_1.toInt = -1 → zEr fC fV (520 * tx.toInt.toNat) (fD tx.toInt.toNat).toInt ((eSum (sB fB tsz.toInt) tsz.toInt (K + 1)) u1_0.toInt) u79_3 u79_4 (u79_5 tx.toInt.toNat).toInt) := f79_10
      clear f79_10
      refine lv_aload_n hx hb dX11_unit_82 rfl (lv_at hl 1 rfl) ?_
      refine va_get (D := (dC, dI)) (ci := 11) (v := .int u79_1) (C := RX11) (T := TX11) (N := 41) hx hb hts iX11 hown hK hP 0 rfl rfl 4 (by decide) (hts _ qw1131) (fun _ h9 => h9) rfl dX11_unit_83 ?_
      refine lv_iconst (v := (-1)) hx hb dX11_unit_86 (by decide) ?_
      refine lv_icmp_ne (tgt := 94) hx hb dX11_unit_87 (by decide) (fun c87 => ?_) (fun c87 => ?_)
      · have c87 : ¬ u79_1.toInt = (-1) := z6 rfl (by decide) c87
        rw [hQ]
        exact W.vret hx hb hr (fun t ht hW => ⟨⟨(u79_0, u79_1, u79_2, u79_3, u79_4, u79_5), rfl, ⟨by (try dsimp only); omega, by (try dsimp only); omega, by (try dsimp only); omega, by (try dsimp only); omega, by (try dsimp only); omega, by (try dsimp only); omega, by (try dsimp only); omega, by (try dsimp only); omega, by (try dsimp only); omega, by (try dsimp only); exact zunS0 F1 (by omega) (by omega) F79 (by omega), by (try dsimp only); exact fun hw => absurd hw (by omega), by (try dsimp only); first | exact zPar_bad f79_11 (by omega) (by omega) (by omega)⟩, ⟨by rw [ht]; exact hP, hD⟩⟩, hS.F ht⟩) hS.2.2 dX11_unit_94
      · have c87 : u79_1.toInt = (-1) := z5 rfl (by decide) c87
        refine lv_aload_n hx hb dX11_unit_90 rfl (lv_at hl 1 rfl) ?_
        have zx_u79_1 : ((-1) : Int32).toInt = (-1) := by decide
        have zy_u79_1 : u79_1 = (-1) := z7 (a := (-1)) (by decide) (by omega)
        rw [zy_u79_1] at hP hD
        obtain ⟨hPc, hDc, hFc⟩ := zc3 (wc := [(h0, .inr (11, [.int th, .ref tB, .int tsz, .int u79_0, .int (-1), .int u79_2, .ref rC, .ref rV, .ref rD, .ref rK, .ref rT, .ref rS, .ref rU, .int lw, .int tx, .ref rL, .ref rX, .ref qR, .ref qB, .ref qP, .int qnb, .int qnp, .ref aR, .ref aB, .ref aP, .int nb, .int np, .ref aN, .ref rf, .int ho, .int br, .ref aK, .int ac, .long dw, .ref aE, .int sr, .int sf, .ref aA, .ref aH, .ref aI, .int hi])), (tB, .inl (cI, 240, .inl fB)), (rC, .inl (cI, 2600, .inl u79_3)), (rV, .inl (cI, 2600, .inl u79_4)), (rD, .inl (cI, 5, .inl u79_5))]) hP hD hS hA [0, 1, 2, 3, 4] (by decide +kernel) rfl
        refine va_callv (va_runV (As := []) (rest := []) ⟨hx, hb, hml, hown, hts⟩ (ihP dC dI cI cJ h0 th tB tsz u79_0 u79_2 rC rV rD rK rT rS rU lw tx rL rX qR qB qP qnb qnp aR aB aP nb np aN rf ho br aK ac dw aE sr sf aA aH aI hi fB u79_3 u79_4 u79_5 gC gV fz k st h H.size n_ac (by omega) n_hi n_ho n_lw n_nb n_np n_qnb n_qnp (by omega) n_tsz n_tx (by first | exact zPar_mono f79_11 (by omega) (by omega) (by omega) (by omega)) (by first | decide | omega) (by first | decide | omega) (by first | decide | omega) (by first | decide | omega)) (cwV 0 hts (zgV qw1359 qw1361 qw49 qw108 qw1362) rfl rfl rfl hd_X11_compare ⟨by (try dsimp only) <;> omega, by (try dsimp only) <;> omega⟩) (zPV hPc hK hDc (va_recv (q := (RX11, TX11, 41)) hK hP (ci := 11) (q0 := 0) rfl rfl)) rfl rfl hl.1 rfl (lv_room (Nat.le_of_ble_eq_true rfl)) dX11_unit_91 ⟨Nat.zero_le _, Nat.zero_le _⟩) hS (fun q _ h => hFc q h) hFc (fun u91 t H locs ht hvm hw hB hz1 hk1 hS9 => ?_)
        obtain ⟨u91_0, u91_1, u91_2, u91_3, u91_4, u91_5⟩ := u91
        obtain ⟨hP9, hD9⟩ := zj2 (wX := [(h0, .inr (11, [.int th, .ref tB, .int tsz, .int u91_0, .int u91_1, .int u91_2, .ref rC, .ref rV, .ref rD, .ref rK, .ref rT, .ref rS, .ref rU, .int lw, .int tx, .ref rL, .ref rX, .ref qR, .ref qB, .ref qP, .int qnb, .int qnp, .ref aR, .ref aB, .ref aP, .int nb, .int np, .ref aN, .ref rf, .int ho, .int br, .ref aK, .int ac, .long dw, .ref aE, .int sr, .int sf, .ref aA, .ref aH, .ref aI, .int hi])), (tB, .inl (cI, 240, .inl fB)), (rC, .inl (cI, 2600, .inl u91_3)), (rV, .inl (cI, 2600, .inl u91_4)), (rD, .inl (cI, 5, .inl u91_5))]) hP hD hk1 hFc ht hB [0, 1, 2, 3, 4] [(true, 0), (true, 1), (true, 2), (true, 3), (true, 4)] rfl (by decide +kernel) (by decide +kernel) rfl
        clear hP hD hS hPc hDc hFc hB hk1 hz1 hvm
        have hP := hP9
        have hD := hD9
        have hS := hS9
        clear hP9 hD9 hS9
        obtain ⟨f91_0, f91_1, f91_2, f91_3, f91_4, f91_5, f91_6, f91_7, f91_8, f91_9, f91_10, f91_11⟩ : (0 ≤ u91_0.toInt) ∧ (u91_0.toInt ≤ 246) ∧ ((-1) ≤ u91_1.toInt) ∧ (u91_1.toInt ≤ 260) ∧ (0 ≤ u91_2.toInt) ∧ (u91_2.toInt ≤ 7) ∧ (u91_1.toInt = -1 → (u91_0.toInt ≤ tsz.toInt ∧ u91_2.toInt = 6 - (((K + 1) : Nat) : Int))) ∧ (u79_0.toInt ≤ u91_0.toInt) ∧ (u91_0.toInt ≤ 240 + (((K + 1) : Nat) : Int) ∧ 6 - (((K + 1) : Nat) : Int) ≤ u91_2.toInt ∧ u91_2.toInt ≤ 7 - (((K + 1) : Nat) : Int)) ∧ (zW (sCmp (sB fB tsz.toInt) tsz.toInt (sSum (sB fB tsz.toInt) tsz.toInt (K + 1)) u79_0.toInt) u91_1 u91_0) ∧ (u91_1.toInt = -1 → zEr u79_3 u79_4 (520 * tx.toInt.toNat) (u79_5 tx.toInt.toNat).toInt (eCmp (sB fB tsz.toInt) tsz.toInt (eSum (sB fB tsz.toInt) tsz.toInt (K + 1)) u79_0.toInt) u91_3 u91_4 (u91_5 tx.toInt.toNat).toInt) ∧ (zPar u91_1 u91_0 u91_3 u91_4 u91_5 tx gC gV fz (k) st (h + 1)) := hw
        have F91 := f91_9
        have F91_1 : zHid (u91_1.toInt = -1 → zEr u79_3 u79_4 (520 * tx.toInt.toNat) (u79_5 tx.toInt.toNat).toInt (eCmp (sB fB tsz.toInt) tsz.toInt (eSum (sB fB tsz.toInt) tsz.toInt (K + 1)) u79_0.toInt) u91_3 u91_4 (u91_5 tx.toInt.toNat).toInt) := f91_10
        clear f91_10
        rw [hQ]
        exact W.vret hx hb hr (fun t ht hW => ⟨⟨(u91_0, u91_1, u91_2, u91_3, u91_4, u91_5), rfl, ⟨by (try dsimp only); omega, by (try dsimp only); omega, by (try dsimp only); omega, by (try dsimp only); omega, by (try dsimp only); omega, by (try dsimp only); omega, by (try dsimp only); omega, by (try dsimp only); omega, by (try dsimp only); omega, by (try dsimp only); exact zunS1 F1 (by omega) (by omega) F79 (by omega) F91, by (try dsimp only); exact fun hw => erSum F1 (by omega) (by omega) F79 (by omega) (F79_1 (by omega)) (F91_1 hw) (by have := hpar.2.2.1; omega), by (try dsimp only); first | exact zPar_mono f91_11 (by omega) (by omega) (by omega) (by omega)⟩, ⟨by rw [ht]; exact hP, hD⟩⟩, hS.F ht⟩) hS.2.2 dX11_unit_94
    · have c50 : v1.toInt = 40 := z5 rfl (by decide) c50
      have q53 : dp.toInt ≤ 5 := by omega
      refine lv_aload_n hx hb dX11_unit_53 rfl (lv_at hl 1 rfl) ?_
      obtain ⟨hPc, hDc, hFc⟩ := zc3 (wc := [(h0, .inr (11, [.int th, .ref tB, .int tsz, .int u1_0, .int (-1), .int dp, .ref rC, .ref rV, .ref rD, .ref rK, .ref rT, .ref rS, .ref rU, .int lw, .int tx, .ref rL, .ref rX, .ref qR, .ref qB, .ref qP, .int qnb, .int qnp, .ref aR, .ref aB, .ref aP, .int nb, .int np, .ref aN, .ref rf, .int ho, .int br, .ref aK, .int ac, .long dw, .ref aE, .int sr, .int sf, .ref aA, .ref aH, .ref aI, .int hi]))]) hP hD hS hA [0] (by decide +kernel) rfl
      refine va_callv (va_runV (As := []) (rest := []) ⟨hx, hb, hml, hown, hts⟩ (g_X11_opens_s l dC dI cI cJ h0 th tB tsz u1_0 dp rC rV rD rK rT rS rU lw tx rL rX qR qB qP qnb qnp aR aB aP nb np aN rf ho br aK ac dw aE sr sf aA aH aI hi H.size n_ac (by omega) n_hi n_ho n_lw n_nb n_np n_qnb n_qnp (by omega) n_tsz (by omega)) (cwV 0 hts (zgV qw1328 qw1330 qw42 qw108 qw1331) rfl rfl rfl hd_X11_opens ⟨by (try dsimp only) <;> omega, by (try dsimp only) <;> omega⟩) (zPV hPc hK hDc (va_recv (q := (RX11, TX11, 41)) hK hP (ci := 11) (q0 := 0) rfl rfl)) rfl rfl hl.1 rfl (lv_room (Nat.le_of_ble_eq_true rfl)) dX11_unit_54 ⟨Nat.zero_le _, Nat.zero_le _⟩) hS (fun q _ h => hFc q h) hFc (fun u54 t H locs ht hvm hw hB hz1 hk1 hS9 => ?_)
      obtain ⟨u54_0, u54_1⟩ := u54
      obtain ⟨hP9, hD9⟩ := zj2 (wX := [(h0, .inr (11, [.int th, .ref tB, .int tsz, .int u54_0, .int (-1), .int u54_1, .ref rC, .ref rV, .ref rD, .ref rK, .ref rT, .ref rS, .ref rU, .int lw, .int tx, .ref rL, .ref rX, .ref qR, .ref qB, .ref qP, .int qnb, .int qnp, .ref aR, .ref aB, .ref aP, .int nb, .int np, .ref aN, .ref rf, .int ho, .int br, .ref aK, .int ac, .long dw, .ref aE, .int sr, .int sf, .ref aA, .ref aH, .ref aI, .int hi])), (tB, .inl (cI, 240, .inl fB)), (rC, .inl (cI, 2600, .inl fC)), (rV, .inl (cI, 2600, .inl fV)), (rD, .inl (cI, 5, .inl fD))]) hP hD hk1 hFc ht hB [0] [(true, 0), (false, 1), (false, 2), (false, 3), (false, 4)] rfl (by decide +kernel) (by decide +kernel) rfl
      clear hP hD hS hPc hDc hFc hB hk1 hz1 hvm
      have hP := hP9
      have hD := hD9
      have hS := hS9
      clear hP9 hD9 hS9
      obtain ⟨f54_0, f54_1, f54_2, f54_3, f54_4, f54_5⟩ : (1 ≤ u54_0.toInt) ∧ (u54_0.toInt ≤ 240) ∧ (1 ≤ u54_1.toInt) ∧ (u54_1.toInt ≤ 6) ∧ (u54_0.toInt = u1_0.toInt + 1) ∧ (u54_1.toInt = dp.toInt + 1) := hw
      refine lv_aload_n hx hb dX11_unit_57 rfl (lv_at hl 1 rfl) ?_
      refine va_get (D := (dC, dI)) (ci := 11) (v := .int (-1)) (C := RX11) (T := TX11) (N := 41) hx hb hts iX11 hown hK hP 0 rfl rfl 4 (by decide) (hts _ qw1131) (fun _ h9 => h9) rfl dX11_unit_58 ?_
      refine lv_iconst (v := (-1)) hx hb dX11_unit_61 (by decide) ?_
      refine lv_icmp_ne (tgt := 94) hx hb dX11_unit_62 (by decide) (fun c => absurd (by decide) c) (fun _ => ?_)
      refine lv_aload_n hx hb dX11_unit_65 rfl (lv_at hl 1 rfl) ?_
      obtain ⟨hPc, hDc, hFc⟩ := zc3 (wc := [(h0, .inr (11, [.int th, .ref tB, .int tsz, .int u54_0, .int (-1), .int u54_1, .ref rC, .ref rV, .ref rD, .ref rK, .ref rT, .ref rS, .ref rU, .int lw, .int tx, .ref rL, .ref rX, .ref qR, .ref qB, .ref qP, .int qnb, .int qnp, .ref aR, .ref aB, .ref aP, .int nb, .int np, .ref aN, .ref rf, .int ho, .int br, .ref aK, .int ac, .long dw, .ref aE, .int sr, .int sf, .ref aA, .ref aH, .ref aI, .int hi])), (tB, .inl (cI, 240, .inl fB)), (rC, .inl (cI, 2600, .inl fC)), (rV, .inl (cI, 2600, .inl fV)), (rD, .inl (cI, 5, .inl fD))]) hP hD hS hA [0, 1, 2, 3, 4] (by decide +kernel) rfl
      refine va_callv (va_runV (As := []) (rest := []) ⟨hx, hb, hml, hown, hts⟩ (ihC dC dI cI cJ h0 th tB tsz u54_0 u54_1 rC rV rD rK rT rS rU lw tx rL rX qR qB qP qnb qnp aR aB aP nb np aN rf ho br aK ac dw aE sr sf aA aH aI hi fB fC fV fD gC gV fz k st h H.size n_ac (by omega) n_hi n_ho n_lw n_nb n_np n_qnb n_qnp (by omega) n_tsz n_tx (by first | exact zPar_mono hpar (by omega) (by omega) (by omega) (by omega)) (by first | decide | omega) (by first | decide | omega) (by first | decide | omega) (by first | decide | omega)) (cwV 0 hts (zgV qw1320 qw1322 qw40 qw108 qw1323) rfl rfl rfl hd_X11_condition ⟨by (try dsimp only) <;> omega, by (try dsimp only) <;> omega⟩) (zPV hPc hK hDc (va_recv (q := (RX11, TX11, 41)) hK hP (ci := 11) (q0 := 0) rfl rfl)) rfl rfl hl.1 rfl (lv_room (Nat.le_of_ble_eq_true rfl)) dX11_unit_66 ⟨Nat.zero_le _, Nat.zero_le _⟩) hS (fun q _ h => hFc q h) hFc (fun u66 t H locs ht hvm hw hB hz1 hk1 hS9 => ?_)
      obtain ⟨u66_0, u66_1, u66_2, u66_3, u66_4, u66_5⟩ := u66
      obtain ⟨hP9, hD9⟩ := zj2 (wX := [(h0, .inr (11, [.int th, .ref tB, .int tsz, .int u66_0, .int u66_1, .int u66_2, .ref rC, .ref rV, .ref rD, .ref rK, .ref rT, .ref rS, .ref rU, .int lw, .int tx, .ref rL, .ref rX, .ref qR, .ref qB, .ref qP, .int qnb, .int qnp, .ref aR, .ref aB, .ref aP, .int nb, .int np, .ref aN, .ref rf, .int ho, .int br, .ref aK, .int ac, .long dw, .ref aE, .int sr, .int sf, .ref aA, .ref aH, .ref aI, .int hi])), (tB, .inl (cI, 240, .inl fB)), (rC, .inl (cI, 2600, .inl u66_3)), (rV, .inl (cI, 2600, .inl u66_4)), (rD, .inl (cI, 5, .inl u66_5))]) hP hD hk1 hFc ht hB [0, 1, 2, 3, 4] [(true, 0), (true, 1), (true, 2), (true, 3), (true, 4)] rfl (by decide +kernel) (by decide +kernel) rfl
      clear hP hD hS hPc hDc hFc hB hk1 hz1 hvm
      have hP := hP9
      have hD := hD9
      have hS := hS9
      clear hP9 hD9 hS9
      obtain ⟨f66_0, f66_1, f66_2, f66_3, f66_4, f66_5, f66_6, f66_7, f66_8, f66_9, f66_10, f66_11⟩ : (0 ≤ u66_0.toInt) ∧ (u66_0.toInt ≤ 246) ∧ ((-1) ≤ u66_1.toInt) ∧ (u66_1.toInt ≤ 260) ∧ (0 ≤ u66_2.toInt) ∧ (u66_2.toInt ≤ 7) ∧ (u66_1.toInt = -1 → (u66_0.toInt ≤ tsz.toInt ∧ u66_2.toInt = 6 - ((K : Nat) : Int))) ∧ (u54_0.toInt ≤ u66_0.toInt) ∧ (u66_0.toInt ≤ 240 + ((K : Nat) : Int) ∧ 6 - ((K : Nat) : Int) ≤ u66_2.toInt ∧ u66_2.toInt ≤ 7 - ((K : Nat) : Int)) ∧ (zW (sCon (sB fB tsz.toInt) tsz.toInt K u54_0.toInt) u66_1 u66_0) ∧ (u66_1.toInt = -1 → zEr fC fV (520 * tx.toInt.toNat) (fD tx.toInt.toNat).toInt (eCon (sB fB tsz.toInt) tsz.toInt K u54_0.toInt) u66_3 u66_4 (u66_5 tx.toInt.toNat).toInt) ∧ (zPar u66_1 u66_0 u66_3 u66_4 u66_5 tx gC gV fz (k) st (h + 1)) := hw
      have F66 := f66_9
      have F66_1 : zHid (u66_1.toInt = -1 → zEr fC fV (520 * tx.toInt.toNat) (fD tx.toInt.toNat).toInt (eCon (sB fB tsz.toInt) tsz.toInt K u54_0.toInt) u66_3 u66_4 (u66_5 tx.toInt.toNat).toInt) := f66_10
      clear f66_10
      refine lv_aload_n hx hb dX11_unit_69 rfl (lv_at hl 1 rfl) ?_
      refine lv_bipush (v := 41) hx hb dX11_unit_70 (by decide) ?_
      obtain ⟨hPc, hDc, hFc⟩ := zc3 (wc := [(h0, .inr (11, [.int th, .ref tB, .int tsz, .int u66_0, .int u66_1, .int u66_2, .ref rC, .ref rV, .ref rD, .ref rK, .ref rT, .ref rS, .ref rU, .int lw, .int tx, .ref rL, .ref rX, .ref qR, .ref qB, .ref qP, .int qnb, .int qnp, .ref aR, .ref aB, .ref aP, .int nb, .int np, .ref aN, .ref rf, .int ho, .int br, .ref aK, .int ac, .long dw, .ref aE, .int sr, .int sf, .ref aA, .ref aH, .ref aI, .int hi])), (tB, .inl (cI, 240, .inl fB))]) hP hD hS hA [0, 1] (by decide +kernel) rfl
      refine va_callv (va_runV (As := [.int 41]) (rest := []) ⟨hx, hb, hml, hown, hts⟩ (g_X11_closes_s l dC dI cI cJ h0 41 th tB tsz u66_0 u66_1 u66_2 rC rV rD rK rT rS rU lw tx rL rX qR qB qP qnb qnp aR aB aP nb np aN rf ho br aK ac dw aE sr sf aA aH aI hi fB H.size n_ac ⟨f66_4, f66_5⟩ n_hi n_ho n_lw n_nb n_np (by decide) n_qnb n_qnp ⟨f66_0, f66_1⟩ n_tsz ⟨f66_2, f66_3⟩ (by omega)) (cwV 1 hts (zgV qw1336 qw1338 qw44 qw108 qw1339) rfl rfl rfl hd_X11_closes ⟨by (try dsimp only) <;> omega, by (try dsimp only) <;> omega⟩) (zPV hPc hK hDc (va_recv (q := (RX11, TX11, 41)) hK hP (ci := 11) (q0 := 0) rfl rfl)) rfl rfl hl.1 rfl (lv_room (Nat.le_of_ble_eq_true rfl)) dX11_unit_72 ⟨Nat.zero_le _, Nat.zero_le _⟩) hS (fun q _ h => hFc q h) hFc (fun u72 t H locs ht hvm hw hB hz1 hk1 hS9 => ?_)
      obtain ⟨u72_0, u72_1, u72_2⟩ := u72
      obtain ⟨hP9, hD9⟩ := zj2 (wX := [(h0, .inr (11, [.int th, .ref tB, .int tsz, .int u72_0, .int u72_1, .int u72_2, .ref rC, .ref rV, .ref rD, .ref rK, .ref rT, .ref rS, .ref rU, .int lw, .int tx, .ref rL, .ref rX, .ref qR, .ref qB, .ref qP, .int qnb, .int qnp, .ref aR, .ref aB, .ref aP, .int nb, .int np, .ref aN, .ref rf, .int ho, .int br, .ref aK, .int ac, .long dw, .ref aE, .int sr, .int sf, .ref aA, .ref aH, .ref aI, .int hi])), (tB, .inl (cI, 240, .inl fB)), (rC, .inl (cI, 2600, .inl u66_3)), (rV, .inl (cI, 2600, .inl u66_4)), (rD, .inl (cI, 5, .inl u66_5))]) hP hD hk1 hFc ht hB [0, 1] [(true, 0), (true, 1), (false, 2), (false, 3), (false, 4)] rfl (by decide +kernel) (by decide +kernel) rfl
      clear hP hD hS hPc hDc hFc hB hk1 hz1 hvm
      have hP := hP9
      have hD := hD9
      have hS := hS9
      clear hP9 hD9 hS9
      have zn72_41 : (41 : Int32).toInt = 41 := by decide
      obtain ⟨f72_0, f72_1, f72_2, f72_3, f72_4, f72_5, f72_6, f72_7, f72_8, f72_9, f72_10⟩ : (1 ≤ u72_0.toInt) ∧ (u72_0.toInt ≤ 247) ∧ ((-1) ≤ u72_1.toInt) ∧ (u72_1.toInt ≤ 260) ∧ ((-1) ≤ u72_2.toInt) ∧ (u72_2.toInt ≤ 6) ∧ (u72_1.toInt = -1 → (u66_1.toInt = -1 ∧ u72_0.toInt ≤ tsz.toInt)) ∧ (u66_0.toInt ≤ u72_0.toInt) ∧ (u72_2.toInt = u66_2.toInt - 1) ∧ (u72_0.toInt ≤ u66_0.toInt + 1 ∨ u72_0.toInt ≤ 241) ∧ (∀ x : Int × Int, zW x u66_1 u66_0 → zW (sEnd (sB fB tsz.toInt) tsz.toInt (41 : Int32).toInt x) u72_1 u72_0) := hw
      have F72 := f72_10
      have q75 : u72_0.toInt ≤ 246 ∧ 0 ≤ u72_2.toInt ∧ u72_2.toInt ≤ 7 := by omega
      have q75b := q75.2
      refine lv_goto (tgt := 94) hx hb dX11_unit_75 (by decide) ?_
      rw [hQ]
      exact W.vret hx hb hr (fun t ht hW => ⟨⟨(u72_0, u72_1, u72_2, u66_3, u66_4, u66_5), rfl, ⟨by (try dsimp only); omega, by (try dsimp only); omega, by (try dsimp only); omega, by (try dsimp only); omega, by (try dsimp only); omega, by (try dsimp only); omega, by (try dsimp only); omega, by (try dsimp only); omega, by (try dsimp only); omega, by (try dsimp only); exact zunP F1 (by omega) (show _ = _ from by omega) (F72 _ F66), by (try dsimp only); exact fun hw => erPar F1 (by omega) (show _ = _ from by omega) (F66_1 (by omega)), by (try dsimp only); first | exact zPar_mono f66_11 (by omega) (by omega) (by omega) (by omega)⟩, ⟨by rw [ht]; exact hP, hD⟩⟩, hS.F ht⟩) hS.2.2 dX11_unit_94
  · have c8 : v1.toInt = 33 := z5 rfl (by decide) c8
    have q11 : dp.toInt ≤ 5 := by omega
    refine lv_aload_n hx hb dX11_unit_11 rfl (lv_at hl 1 rfl) ?_
    obtain ⟨hPc, hDc, hFc⟩ := zc3 (wc := [(h0, .inr (11, [.int th, .ref tB, .int tsz, .int u1_0, .int (-1), .int dp, .ref rC, .ref rV, .ref rD, .ref rK, .ref rT, .ref rS, .ref rU, .int lw, .int tx, .ref rL, .ref rX, .ref qR, .ref qB, .ref qP, .int qnb, .int qnp, .ref aR, .ref aB, .ref aP, .int nb, .int np, .ref aN, .ref rf, .int ho, .int br, .ref aK, .int ac, .long dw, .ref aE, .int sr, .int sf, .ref aA, .ref aH, .ref aI, .int hi]))]) hP hD hS hA [0] (by decide +kernel) rfl
    refine va_callv (va_runV (As := []) (rest := []) ⟨hx, hb, hml, hown, hts⟩ (g_X11_opens_s l dC dI cI cJ h0 th tB tsz u1_0 dp rC rV rD rK rT rS rU lw tx rL rX qR qB qP qnb qnp aR aB aP nb np aN rf ho br aK ac dw aE sr sf aA aH aI hi H.size n_ac (by omega) n_hi n_ho n_lw n_nb n_np n_qnb n_qnp (by omega) n_tsz (by omega)) (cwV 0 hts (zgV qw1328 qw1330 qw42 qw108 qw1331) rfl rfl rfl hd_X11_opens ⟨by (try dsimp only) <;> omega, by (try dsimp only) <;> omega⟩) (zPV hPc hK hDc (va_recv (q := (RX11, TX11, 41)) hK hP (ci := 11) (q0 := 0) rfl rfl)) rfl rfl hl.1 rfl (lv_room (Nat.le_of_ble_eq_true rfl)) dX11_unit_12 ⟨Nat.zero_le _, Nat.zero_le _⟩) hS (fun q _ h => hFc q h) hFc (fun u12 t H locs ht hvm hw hB hz1 hk1 hS9 => ?_)
    obtain ⟨u12_0, u12_1⟩ := u12
    obtain ⟨hP9, hD9⟩ := zj2 (wX := [(h0, .inr (11, [.int th, .ref tB, .int tsz, .int u12_0, .int (-1), .int u12_1, .ref rC, .ref rV, .ref rD, .ref rK, .ref rT, .ref rS, .ref rU, .int lw, .int tx, .ref rL, .ref rX, .ref qR, .ref qB, .ref qP, .int qnb, .int qnp, .ref aR, .ref aB, .ref aP, .int nb, .int np, .ref aN, .ref rf, .int ho, .int br, .ref aK, .int ac, .long dw, .ref aE, .int sr, .int sf, .ref aA, .ref aH, .ref aI, .int hi])), (tB, .inl (cI, 240, .inl fB)), (rC, .inl (cI, 2600, .inl fC)), (rV, .inl (cI, 2600, .inl fV)), (rD, .inl (cI, 5, .inl fD))]) hP hD hk1 hFc ht hB [0] [(true, 0), (false, 1), (false, 2), (false, 3), (false, 4)] rfl (by decide +kernel) (by decide +kernel) rfl
    clear hP hD hS hPc hDc hFc hB hk1 hz1 hvm
    have hP := hP9
    have hD := hD9
    have hS := hS9
    clear hP9 hD9 hS9
    obtain ⟨f12_0, f12_1, f12_2, f12_3, f12_4, f12_5⟩ : (1 ≤ u12_0.toInt) ∧ (u12_0.toInt ≤ 240) ∧ (1 ≤ u12_1.toInt) ∧ (u12_1.toInt ≤ 6) ∧ (u12_0.toInt = u1_0.toInt + 1) ∧ (u12_1.toInt = dp.toInt + 1) := hw
    refine lv_aload_n hx hb dX11_unit_15 rfl (lv_at hl 1 rfl) ?_
    refine va_get (D := (dC, dI)) (ci := 11) (v := .int (-1)) (C := RX11) (T := TX11) (N := 41) hx hb hts iX11 hown hK hP 0 rfl rfl 4 (by decide) (hts _ qw1131) (fun _ h9 => h9) rfl dX11_unit_16 ?_
    refine lv_iconst (v := (-1)) hx hb dX11_unit_19 (by decide) ?_
    refine lv_icmp_ne (tgt := 94) hx hb dX11_unit_20 (by decide) (fun c => absurd (by decide) c) (fun _ => ?_)
    refine lv_aload_n hx hb dX11_unit_23 rfl (lv_at hl 1 rfl) ?_
    obtain ⟨hPc, hDc, hFc⟩ := zc3 (wc := [(h0, .inr (11, [.int th, .ref tB, .int tsz, .int u12_0, .int (-1), .int u12_1, .ref rC, .ref rV, .ref rD, .ref rK, .ref rT, .ref rS, .ref rU, .int lw, .int tx, .ref rL, .ref rX, .ref qR, .ref qB, .ref qP, .int qnb, .int qnp, .ref aR, .ref aB, .ref aP, .int nb, .int np, .ref aN, .ref rf, .int ho, .int br, .ref aK, .int ac, .long dw, .ref aE, .int sr, .int sf, .ref aA, .ref aH, .ref aI, .int hi])), (tB, .inl (cI, 240, .inl fB)), (rC, .inl (cI, 2600, .inl fC)), (rV, .inl (cI, 2600, .inl fV)), (rD, .inl (cI, 5, .inl fD))]) hP hD hS hA [0, 1, 2, 3, 4] (by decide +kernel) rfl
    refine va_callv (va_runV (As := []) (rest := []) ⟨hx, hb, hml, hown, hts⟩ (ihU dC dI cI cJ h0 th tB tsz u12_0 u12_1 rC rV rD rK rT rS rU lw tx rL rX qR qB qP qnb qnp aR aB aP nb np aN rf ho br aK ac dw aE sr sf aA aH aI hi fB fC fV fD gC gV fz (k + 1) st h H.size n_ac (by omega) n_hi n_ho n_lw n_nb n_np n_qnb n_qnp (by omega) n_tsz n_tx (by first | exact zPar_mono hpar (by omega) (by omega) (by omega) (by omega)) (by first | decide | omega) (by first | decide | omega) (by first | decide | omega) (by first | decide | omega)) (cwV 0 hts (zgV qw1324 qw1326 qw41 qw108 qw1327) rfl rfl rfl hd_X11_unit ⟨by (try dsimp only) <;> omega, by (try dsimp only) <;> omega⟩) (zPV hPc hK hDc (va_recv (q := (RX11, TX11, 41)) hK hP (ci := 11) (q0 := 0) rfl rfl)) rfl rfl hl.1 rfl (lv_room (Nat.le_of_ble_eq_true rfl)) dX11_unit_24 ⟨Nat.zero_le _, Nat.zero_le _⟩) hS (fun q _ h => hFc q h) hFc (fun u24 t H locs ht hvm hw hB hz1 hk1 hS9 => ?_)
    obtain ⟨u24_0, u24_1, u24_2, u24_3, u24_4, u24_5⟩ := u24
    obtain ⟨hP9, hD9⟩ := zj2 (wX := [(h0, .inr (11, [.int th, .ref tB, .int tsz, .int u24_0, .int u24_1, .int u24_2, .ref rC, .ref rV, .ref rD, .ref rK, .ref rT, .ref rS, .ref rU, .int lw, .int tx, .ref rL, .ref rX, .ref qR, .ref qB, .ref qP, .int qnb, .int qnp, .ref aR, .ref aB, .ref aP, .int nb, .int np, .ref aN, .ref rf, .int ho, .int br, .ref aK, .int ac, .long dw, .ref aE, .int sr, .int sf, .ref aA, .ref aH, .ref aI, .int hi])), (tB, .inl (cI, 240, .inl fB)), (rC, .inl (cI, 2600, .inl u24_3)), (rV, .inl (cI, 2600, .inl u24_4)), (rD, .inl (cI, 5, .inl u24_5))]) hP hD hk1 hFc ht hB [0, 1, 2, 3, 4] [(true, 0), (true, 1), (true, 2), (true, 3), (true, 4)] rfl (by decide +kernel) (by decide +kernel) rfl
    clear hP hD hS hPc hDc hFc hB hk1 hz1 hvm
    have hP := hP9
    have hD := hD9
    have hS := hS9
    clear hP9 hD9 hS9
    obtain ⟨f24_0, f24_1, f24_2, f24_3, f24_4, f24_5, f24_6, f24_7, f24_8, f24_9, f24_10, f24_11⟩ : (0 ≤ u24_0.toInt) ∧ (u24_0.toInt ≤ 246) ∧ ((-1) ≤ u24_1.toInt) ∧ (u24_1.toInt ≤ 260) ∧ (0 ≤ u24_2.toInt) ∧ (u24_2.toInt ≤ 7) ∧ (u24_1.toInt = -1 → (u24_0.toInt ≤ tsz.toInt ∧ u24_2.toInt = 6 - ((K : Nat) : Int))) ∧ (u12_0.toInt ≤ u24_0.toInt) ∧ (u24_0.toInt ≤ 240 + ((K : Nat) : Int) ∧ 6 - ((K : Nat) : Int) ≤ u24_2.toInt ∧ u24_2.toInt ≤ 7 - ((K : Nat) : Int)) ∧ (zW (sUn (sB fB tsz.toInt) tsz.toInt K u12_0.toInt) u24_1 u24_0) ∧ (u24_1.toInt = -1 → zEr fC fV (520 * tx.toInt.toNat) (fD tx.toInt.toNat).toInt ((eUn (sB fB tsz.toInt) tsz.toInt K) u12_0.toInt) u24_3 u24_4 (u24_5 tx.toInt.toNat).toInt) ∧ (zPar u24_1 u24_0 u24_3 u24_4 u24_5 tx gC gV fz ((k + 1)) st (h + 1)) := hw
    have F24 := f24_9
    have F24_1 : zHid (u24_1.toInt = -1 → zEr fC fV (520 * tx.toInt.toNat) (fD tx.toInt.toNat).toInt ((eUn (sB fB tsz.toInt) tsz.toInt K) u12_0.toInt) u24_3 u24_4 (u24_5 tx.toInt.toNat).toInt) := f24_10
    clear f24_10
    refine lv_aload_n hx hb dX11_unit_27 rfl (lv_at hl 1 rfl) ?_
    refine lv_bipush (v := 9) hx hb dX11_unit_28 (by decide) ?_
    refine lv_iconst (v := 0) hx hb dX11_unit_30 (by decide) ?_
    obtain ⟨hPc, hDc, hFc⟩ := zc3 (wc := [(h0, .inr (11, [.int th, .ref tB, .int tsz, .int u24_0, .int u24_1, .int u24_2, .ref rC, .ref rV, .ref rD, .ref rK, .ref rT, .ref rS, .ref rU, .int lw, .int tx, .ref rL, .ref rX, .ref qR, .ref qB, .ref qP, .int qnb, .int qnp, .ref aR, .ref aB, .ref aP, .int nb, .int np, .ref aN, .ref rf, .int ho, .int br, .ref aK, .int ac, .long dw, .ref aE, .int sr, .int sf, .ref aA, .ref aH, .ref aI, .int hi])), (rC, .inl (cI, 2600, .inl u24_3)), (rV, .inl (cI, 2600, .inl u24_4)), (rD, .inl (cI, 5, .inl u24_5))]) hP hD hS hA [0, 2, 3, 4] (by decide +kernel) rfl
    refine va_callv (va_runV (As := [.int 9, .int 0]) (rest := []) ⟨hx, hb, hml, hown, hts⟩ (g_X11_put_not l dC dI cI cJ h0 0 th tB tsz u24_0 u24_1 u24_2 rC rV rD rK rT rS rU lw tx rL rX qR qB qP qnb qnp aR aB aP nb np aN rf ho br aK ac dw aE sr sf aA aH aI hi u24_3 u24_4 u24_5 gC gV fz k st h H.size n_ac n_hi n_ho n_lw n_nb n_np n_qnb n_qnp (by omega) n_tsz n_tx ⟨f24_2, f24_3⟩ (by first | exact zPar_mono f24_11 (by omega) (by omega) (by omega) (by omega))) (cwV 2 hts (zgV qw1332 qw1334 qw43 qw108 qw1335) rfl rfl rfl hd_X11_put ⟨by (try dsimp only) <;> omega, by (try dsimp only) <;> omega⟩) (zPV hPc hK hDc (va_recv (q := (RX11, TX11, 41)) hK hP (ci := 11) (q0 := 0) rfl rfl)) rfl rfl hl.1 rfl (lv_room (Nat.le_of_ble_eq_true rfl)) dX11_unit_31 ⟨Nat.zero_le _, Nat.zero_le _⟩) hS (fun q _ h => hFc q h) hFc (fun u31 t H locs ht hvm hw hB hz1 hk1 hS9 => ?_)
    obtain ⟨u31_0, u31_1, u31_2⟩ := u31
    obtain ⟨hP9, hD9⟩ := zj2 (wX := [(h0, .inr (11, [.int th, .ref tB, .int tsz, .int u24_0, .int u24_1, .int u24_2, .ref rC, .ref rV, .ref rD, .ref rK, .ref rT, .ref rS, .ref rU, .int lw, .int tx, .ref rL, .ref rX, .ref qR, .ref qB, .ref qP, .int qnb, .int qnp, .ref aR, .ref aB, .ref aP, .int nb, .int np, .ref aN, .ref rf, .int ho, .int br, .ref aK, .int ac, .long dw, .ref aE, .int sr, .int sf, .ref aA, .ref aH, .ref aI, .int hi])), (tB, .inl (cI, 240, .inl fB)), (rC, .inl (cI, 2600, .inl u31_0)), (rV, .inl (cI, 2600, .inl u31_1)), (rD, .inl (cI, 5, .inl u31_2))]) hP hD hk1 hFc ht hB [0, 2, 3, 4] [(true, 0), (false, 1), (true, 1), (true, 2), (true, 3)] rfl (by decide +kernel) (by decide +kernel) rfl
    clear hP hD hS hPc hDc hFc hB hk1 hz1 hvm
    have hP := hP9
    have hD := hD9
    have hS := hS9
    clear hP9 hD9 hS9
    obtain ⟨f31_0, f31_1⟩ : (zEr u24_3 u24_4 (520 * tx.toInt.toNat) (u24_5 tx.toInt.toNat).toInt ([(33, 0)]) u31_0 u31_1 (u31_2 tx.toInt.toNat).toInt) ∧ (zPar u24_1 u24_0 u31_0 u31_1 u31_2 tx gC gV fz (k) st (h + 1)) := hw
    have F31 := f31_0
    refine lv_aload_n hx hb dX11_unit_34 rfl (lv_at hl 1 rfl) ?_
    refine lv_dup hx hb dX11_unit_35 rfl ?_
    refine va_get (D := (dC, dI)) (ci := 11) (v := .int u24_2) (C := RX11) (T := TX11) (N := 41) hx hb hts iX11 hown hK hP 0 rfl rfl 5 (by decide) (hts _ qw1132) (fun _ h9 => h9) rfl dX11_unit_36 ?_
    refine lv_iconst (v := 1) hx hb dX11_unit_39 (by decide) ?_
    refine lv_isub hx hb dX11_unit_40 ?_
    refine lv_topi (fun v40 e40 => ?_)
    have i40 : v40.toInt = u24_2.toInt - 1 := zsub e40 rfl (by decide) (by omega) (by omega)
    refine va_put (D := (dC, dI)) (ci := 11) (v := .int v40) (ty := .int) (C := RX11) (T := TX11) (N := 41) hx hb hts iX11 tyX11 tyX11_ok nmX11 hown hK hP hD hS 0 rfl rfl 5 (by decide) (hts _ qw1132) (fun _ h9 => h9) rfl (by decide +kernel) rfl rfl (Nat.le_of_ble_eq_true rfl) dX11_unit_41 (fun H locs hP9 hD9 hS9 => ?_)
    clear hP hD hS
    obtain ⟨hP, hD⟩ := zst (wX := [(h0, .inr (11, [.int th, .ref tB, .int tsz, .int u24_0, .int u24_1, .int v40, .ref rC, .ref rV, .ref rD, .ref rK, .ref rT, .ref rS, .ref rU, .int lw, .int tx, .ref rL, .ref rX, .ref qR, .ref qB, .ref qP, .int qnb, .int qnp, .ref aR, .ref aB, .ref aP, .int nb, .int np, .ref aN, .ref rf, .int ho, .int br, .ref aK, .int ac, .long dw, .ref aE, .int sr, .int sf, .ref aA, .ref aH, .ref aI, .int hi])), (tB, .inl (cI, 240, .inl fB)), (rC, .inl (cI, 2600, .inl u31_0)), (rV, .inl (cI, 2600, .inl u31_1)), (rD, .inl (cI, 5, .inl u31_2))]) hP9 hD9 rfl
    have hS := hS9
    clear hP9 hD9 hS9
    have q44 : 0 ≤ v40.toInt ∧ v40.toInt ≤ 7 := by omega
    refine lv_goto (tgt := 94) hx hb dX11_unit_44 (by decide) ?_
    rw [hQ]
    exact W.vret hx hb hr (fun t ht hW => ⟨⟨(u24_0, u24_1, v40, u31_0, u31_1, u31_2), rfl, ⟨by (try dsimp only); omega, by (try dsimp only); omega, by (try dsimp only); omega, by (try dsimp only); omega, by (try dsimp only); omega, by (try dsimp only); omega, by (try dsimp only); omega, by (try dsimp only); omega, by (try dsimp only); omega, by (try dsimp only); exact zunN F1 (by omega) (show _ = _ from by omega) F24, by (try dsimp only); exact fun hw => erNot F1 (by omega) (show _ = _ from by omega) (F24_1 (by omega)) F31 (by have := hpar.2.2.1; omega), by (try dsimp only); first | exact zPar_mono f31_1 (by omega) (by omega) (by omega) (by omega)⟩, ⟨by rw [ht]; exact hP, hD⟩⟩, hS.F ht⟩) hS.2.2 dX11_unit_94
set_option maxHeartbeats 4000000 in
set_option maxRecDepth 100000 in
theorem g_X11_goOnAnd_k (l : Launch) (K fr lo : Nat) (ihU : zQ_X11_unit l K fr lo) (hfr : 1 ≤ fr) (hlo : 40 ≤ lo) : zQ_X11_goOnAnd l K (fr + 1) (lo + 40) := by
  intro dC dI cI cJ h0 th tB tsz tat wr dp rC rV rD rK rT rS rU lw tx rL rX qR qB qP qnb qnp aR aB aP nb np aN rf ho br aK ac dw aE sr sf aA aH aI hi fB fC fV fD gC gV fz k st h sz n_ac n_dp n_hi n_ho n_lw n_nb n_np n_qnb n_qnp n_tat n_tsz n_tx n_wr hpar hdp hdq hh hK6
  refine Met.ofW (cc := cX11_goOnAnd) (maxL := 1) (ret := none) (by decide) rfl ?_
  intro p e s m args below meth c s₁ B hml hv
  obtain ⟨hargs, hsz, hP, hK, hT⟩ := hv
  have hx := B.exec
  have hb := B.bytes
  have hr := B.returns
  have hts : ∀ w ∈ wA, w.before args s = true := fun w h => atoms_spec (ws := .code yX11_goOnAnd cX11_goOnAnd 1 none :: wA) B.pre w (List.mem_cons_of_mem _ h)
  have hown : s.vm.findClass RX11 = some m.cls := findClass_of_methodNamed B.named
  have hlocks := B.notSynchronized
  subst hsz
  have hD := hT.self (sz := s.heap.size)
  generalize hAe : va_A [(h0, .inr (11, [.int th, .ref tB, .int tsz, .int tat, .int wr, .int dp, .ref rC, .ref rV, .ref rD, .ref rK, .ref rT, .ref rS, .ref rU, .int lw, .int tx, .ref rL, .ref rX, .ref qR, .ref qB, .ref qP, .int qnb, .int qnp, .ref aR, .ref aB, .ref aP, .int nb, .int np, .ref aN, .ref rf, .int ho, .int br, .ref aK, .int ac, .long dw, .ref aE, .int sr, .int sf, .ref aA, .ref aH, .ref aI, .int hi])), (tB, .inl (cI, 240, .inl fB)), (rC, .inl (cI, 2600, .inl fC)), (rV, .inl (cI, 2600, .inl fV)), (rD, .inl (cI, 5, .inl fD))] s.heap.size = A at hD ⊢
  have hA : ∀ q : Nat, s.heap.size ≤ q → A q := fun q h => by rw [← hAe]; exact Or.inr h
  have hl := lv_entry ([.ref h0]) (n := 1) (Nat.le_of_ble_eq_true rfl)
  rw [show entryFrame m args 1 = entryFrame m ([.ref h0] : List Value).toArray 1 by rw [hargs], lg_entry_eq]
  generalize (lg_sl ([.ref h0]) ++ List.replicate (1 - (lg_sl ([.ref h0])).length) Slot.unset).toArray = ls at hl ⊢
  have hl : lv_has ls 1 [(0, .ref h0)] := hl
  refine zstart (fun H hH => ?_)
  rw [← hH] at hP
  have hS : va_S A s.heap H [] := by rw [hH]; exact va_S.rf
  generalize ([] : List Loc) = locs at hS ⊢
  refine zgen (fun R Q hR hQ => ?_)
  have hRf : R.frames = fr + 1 := by rw [hR]; rfl
  have hRl : R.locals = lo + 40 := by rw [hR]; rfl
  have J0 : ∀ (n : Nat) (m0_A_rC : Nat → Int32) (m0_A_rD : Nat → Int32) (m0_A_rV : Nat → Int32) (m0_F_h0_3 : Int32) (m0_F_h0_4 : Int32) (m0_F_h0_5 : Int32), (0 ≤ m0_F_h0_3.toInt ∧ m0_F_h0_3.toInt ≤ 246) → ((-1) ≤ m0_F_h0_4.toInt ∧ m0_F_h0_4.toInt ≤ 260) → (0 ≤ m0_F_h0_5.toInt ∧ m0_F_h0_5.toInt ≤ 7) → (m0_F_h0_4.toInt = -1 → (m0_F_h0_3.toInt ≤ tsz.toInt ∧ m0_F_h0_5.toInt = 6 - ((K : Nat) : Int))) → (tat.toInt ≤ m0_F_h0_3.toInt) → (m0_F_h0_3.toInt ≤ 240 + ((K : Nat) : Int) ∧ 6 - ((K : Nat) : Int) ≤ m0_F_h0_5.toInt ∧ m0_F_h0_5.toInt ≤ 7 - ((K : Nat) : Int)) → (∀ x : Int × Int, zW x wr tat → zGl fB tsz (sGl (sB fB tsz.toInt) tsz.toInt oD (sUn (sB fB tsz.toInt) tsz.toInt K) x) oD (sUn (sB fB tsz.toInt) tsz.toInt K) m0_F_h0_4 m0_F_h0_3) → (zTg fB tsz oD (sUn (sB fB tsz.toInt) tsz.toInt K) (eUn (sB fB tsz.toInt) tsz.toInt K) (eL (sB fB tsz.toInt) tsz.toInt oD (sUn (sB fB tsz.toInt) tsz.toInt K) (eUn (sB fB tsz.toInt) tsz.toInt K) (sk (sB fB tsz.toInt) tsz.toInt tat.toInt)) fC fV (520 * tx.toInt.toNat) (fD tx.toInt.toNat).toInt m0_A_rC m0_A_rV (m0_A_rD tx.toInt.toNat).toInt m0_F_h0_4 m0_F_h0_3) → (zPar m0_F_h0_4 m0_F_h0_3 m0_A_rC m0_A_rV m0_A_rD tx gC gV fz (k) st (h + 1)) → (300 - m0_F_h0_3.toInt).toNat = n → ∀ (H : Heap) (locs : List Loc) (ls : Array Slot), va_P (dC, dI) vwCl [(h0, .inr (11, [.int th, .ref tB, .int tsz, .int m0_F_h0_3, .int m0_F_h0_4, .int m0_F_h0_5, .ref rC, .ref rV, .ref rD, .ref rK, .ref rT, .ref rS, .ref rU, .int lw, .int tx, .ref rL, .ref rX, .ref qR, .ref qB, .ref qP, .int qnb, .int qnp, .ref aR, .ref aB, .ref aP, .int nb, .int np, .ref aN, .ref rf, .int ho, .int br, .ref aK, .int ac, .long dw, .ref aE, .int sr, .int sf, .ref aA, .ref aH, .ref aI, .int hi])), (tB, .inl (cI, 240, .inl fB)), (rC, .inl (cI, 2600, .inl m0_A_rC)), (rV, .inl (cI, 2600, .inl m0_A_rV)), (rD, .inl (cI, 5, .inl m0_A_rD))] H → va_D A [(h0, .inr (11, [.int th, .ref tB, .int tsz, .int m0_F_h0_3, .int m0_F_h0_4, .int m0_F_h0_5, .ref rC, .ref rV, .ref rD, .ref rK, .ref rT, .ref rS, .ref rU, .int lw, .int tx, .ref rL, .ref rX, .ref qR, .ref qB, .ref qP, .int qnb, .int qnp, .ref aR, .ref aB, .ref aP, .int nb, .int np, .ref aN, .ref rf, .int ho, .int br, .ref aK, .int ac, .long dw, .ref aE, .int sr, .int sf, .ref aA, .ref aH, .ref aI, .int hi])), (tB, .inl (cI, 240, .inl fB)), (rC, .inl (cI, 2600, .inl m0_A_rC)), (rV, .inl (cI, 2600, .inl m0_A_rV)), (rD, .inl (cI, 5, .inl m0_A_rD))] → va_S A s.heap H locs → lv_has ls 1 [(0, .ref h0)] → W p l e R s m args below meth c H locs 0 0 Q (F0 m 0 ls []) := by
    intro n0
    induction n0 using Nat.strongRecOn with
    | _ n0 ih0 =>
      intro m0_A_rC m0_A_rD m0_A_rV m0_F_h0_3 m0_F_h0_4 m0_F_h0_5 jf0_0 jf0_1 jf0_2 jf0_3 jf0_4 jf0_5 jv0_0 jv0_1 jv0_2 hmu0 H locs ls hP hD hS hl
      have zm1 : (-1 : Int32).toInt = -1 := by decide
      refine lv_aload_n hx hb dX11_goOnAnd_0 rfl (lv_at hl 0 rfl) ?_
      refine va_get (D := (dC, dI)) (ci := 11) (v := .int m0_F_h0_4) (C := RX11) (T := TX11) (N := 41) hx hb hts iX11 hown hK hP 0 rfl rfl 4 (by decide) (hts _ qw1131) (fun _ h9 => h9) rfl dX11_goOnAnd_1 ?_
      refine lv_iconst (v := (-1)) hx hb dX11_goOnAnd_4 (by decide) ?_
      refine lv_icmp_ne (tgt := 41) hx hb dX11_goOnAnd_5 (by decide) (fun c5 => ?_) (fun c5 => ?_)
      · have c5 : ¬ m0_F_h0_4.toInt = (-1) := z6 rfl (by decide) c5
        rw [hQ]
        exact W.vret hx hb hr (fun t ht hW => ⟨⟨(m0_F_h0_3, m0_F_h0_4, m0_F_h0_5, m0_A_rC, m0_A_rV, m0_A_rD), rfl, ⟨by (try dsimp only); omega, by (try dsimp only); omega, by (try dsimp only); omega, by (try dsimp only); omega, by (try dsimp only); omega, by (try dsimp only); omega, by (try dsimp only); omega, by (try dsimp only); omega, by (try dsimp only); omega, by (try dsimp only); exact fun x hx => zglW (jv0_0 x hx) (by omega), by (try dsimp only); exact fun hw => absurd hw (by omega), by (try dsimp only); first | exact zPar_bad jv0_2 (by omega) (by omega) (by omega)⟩, ⟨by rw [ht]; exact hP, hD⟩⟩, hS.F ht⟩) hS.2.2 dX11_goOnAnd_41
      · have c5 : m0_F_h0_4.toInt = (-1) := z5 rfl (by decide) c5
        refine lv_aload_n hx hb dX11_goOnAnd_8 rfl (lv_at hl 0 rfl) ?_
        obtain ⟨hPc, hDc, hFc⟩ := zc3 (wc := [(h0, .inr (11, [.int th, .ref tB, .int tsz, .int m0_F_h0_3, .int m0_F_h0_4, .int m0_F_h0_5, .ref rC, .ref rV, .ref rD, .ref rK, .ref rT, .ref rS, .ref rU, .int lw, .int tx, .ref rL, .ref rX, .ref qR, .ref qB, .ref qP, .int qnb, .int qnp, .ref aR, .ref aB, .ref aP, .int nb, .int np, .ref aN, .ref rf, .int ho, .int br, .ref aK, .int ac, .long dw, .ref aE, .int sr, .int sf, .ref aA, .ref aH, .ref aI, .int hi])), (tB, .inl (cI, 240, .inl fB))]) hP hD hS hA [0, 1] (by decide +kernel) rfl
        refine va_calli (va_runV (As := []) (rest := []) ⟨hx, hb, hml, hown, hts⟩ (g_X11_look_t l dC dI cI cJ h0 th tB tsz m0_F_h0_3 m0_F_h0_4 m0_F_h0_5 rC rV rD rK rT rS rU lw tx rL rX qR qB qP qnb qnp aR aB aP nb np aN rf ho br aK ac dw aE sr sf aA aH aI hi fB H.size n_ac n_hi n_ho n_lw n_nb n_np n_qnb n_qnp (by omega) n_tsz jf0_1) (cwV 0 hts (zgV qw1273 qw1275 qw32 qw108 qw1276) rfl rfl rfl hd_X11_look ⟨by (try dsimp only) <;> omega, by (try dsimp only) <;> omega⟩) (zPV hPc hK hDc (va_recv (q := (RX11, TX11, 41)) hK hP (ci := 11) (q0 := 0) rfl rfl)) rfl rfl hl.1 rfl (lv_room (Nat.le_of_ble_eq_true rfl)) dX11_goOnAnd_9 ⟨Nat.zero_le _, Nat.zero_le _⟩) hS (fun q _ h => hFc q h) hFc (fun v9 u9 t H locs ht hvm hw hB hz1 hk1 hS9 => ?_)
        obtain ⟨u9_0, rfl⟩ : ∃ z, z = u9 := ⟨_, rfl⟩
        obtain ⟨hP9, hD9⟩ := zj2 (wX := [(h0, .inr (11, [.int th, .ref tB, .int tsz, .int u9_0, .int m0_F_h0_4, .int m0_F_h0_5, .ref rC, .ref rV, .ref rD, .ref rK, .ref rT, .ref rS, .ref rU, .int lw, .int tx, .ref rL, .ref rX, .ref qR, .ref qB, .ref qP, .int qnb, .int qnp, .ref aR, .ref aB, .ref aP, .int nb, .int np, .ref aN, .ref rf, .int ho, .int br, .ref aK, .int ac, .long dw, .ref aE, .int sr, .int sf, .ref aA, .ref aH, .ref aI, .int hi])), (tB, .inl (cI, 240, .inl fB)), (rC, .inl (cI, 2600, .inl m0_A_rC)), (rV, .inl (cI, 2600, .inl m0_A_rV)), (rD, .inl (cI, 5, .inl m0_A_rD))]) hP hD hk1 hFc ht hB [0, 1] [(true, 0), (true, 1), (false, 2), (false, 3), (false, 4)] rfl (by decide +kernel) (by decide +kernel) rfl
        clear hP hD hS hPc hDc hFc hB hk1 hz1 hvm
        have hP := hP9
        have hD := hD9
        have hS := hS9
        clear hP9 hD9 hS9
        obtain ⟨f9_0, f9_1, f9_2, f9_3, f9_4, f9_5⟩ : (0 ≤ u9_0.toInt) ∧ (u9_0.toInt ≤ 240) ∧ (¬ v9.toInt = -1 → u9_0.toInt < tsz.toInt) ∧ (m0_F_h0_3.toInt ≤ u9_0.toInt) ∧ (u9_0.toInt ≤ tsz.toInt ∨ u9_0.toInt = m0_F_h0_3.toInt) ∧ (zLk fB tsz m0_F_h0_3 v9 u9_0) := hw
        have F9 := f9_5
        refine lv_bipush (v := 38) hx hb dX11_goOnAnd_12 (by decide) ?_
        refine lv_icmp_ne (tgt := 41) hx hb dX11_goOnAnd_14 (by decide) (fun c14 => ?_) (fun c14 => ?_)
        · have c14 : ¬ v9.toInt = 38 := z6 rfl (by decide) c14
          rw [hQ]
          exact W.vret hx hb hr (fun t ht hW => ⟨⟨(u9_0, m0_F_h0_4, m0_F_h0_5, m0_A_rC, m0_A_rV, m0_A_rD), rfl, ⟨by (try dsimp only); omega, by (try dsimp only); omega, by (try dsimp only); omega, by (try dsimp only); omega, by (try dsimp only); omega, by (try dsimp only); omega, by (try dsimp only); omega, by (try dsimp only); omega, by (try dsimp only); omega, by (try dsimp only); exact fun x hx => zglE (jv0_0 x hx) (by omega) F9 (fun z => by have := oD_iff.mp z; omega), by (try dsimp only); exact zTg_e jv0_1 F9 (fun z => by have := oD_iff.mp z; omega), by (try dsimp only); first | exact zPar_mono jv0_2 (by omega) (by omega) (by omega) (by omega)⟩, ⟨by rw [ht]; exact hP, hD⟩⟩, hS.F ht⟩) hS.2.2 dX11_goOnAnd_41
        · have c14 : v9.toInt = 38 := z5 rfl (by decide) c14
          refine lv_aload_n hx hb dX11_goOnAnd_17 rfl (lv_at hl 0 rfl) ?_
          refine lv_dup hx hb dX11_goOnAnd_18 rfl ?_
          refine va_get (D := (dC, dI)) (ci := 11) (v := .int u9_0) (C := RX11) (T := TX11) (N := 41) hx hb hts iX11 hown hK hP 0 rfl rfl 3 (by decide) (hts _ qw1130) (fun _ h9 => h9) rfl dX11_goOnAnd_19 ?_
          refine lv_iconst (v := 1) hx hb dX11_goOnAnd_22 (by decide) ?_
          refine lv_iadd hx hb dX11_goOnAnd_23 ?_
          refine lv_topi (fun v23 e23 => ?_)
          have i23 : v23.toInt = u9_0.toInt + 1 := zadd e23 rfl (by decide) (by omega) (by omega)
          refine va_put (D := (dC, dI)) (ci := 11) (v := .int v23) (ty := .int) (C := RX11) (T := TX11) (N := 41) hx hb hts iX11 tyX11 tyX11_ok nmX11 hown hK hP hD hS 0 rfl rfl 3 (by decide) (hts _ qw1130) (fun _ h9 => h9) rfl (by decide +kernel) rfl rfl (Nat.le_of_ble_eq_true rfl) dX11_goOnAnd_24 (fun H locs hP9 hD9 hS9 => ?_)
          clear hP hD hS
          obtain ⟨hP, hD⟩ := zst (wX := [(h0, .inr (11, [.int th, .ref tB, .int tsz, .int v23, .int m0_F_h0_4, .int m0_F_h0_5, .ref rC, .ref rV, .ref rD, .ref rK, .ref rT, .ref rS, .ref rU, .int lw, .int tx, .ref rL, .ref rX, .ref qR, .ref qB, .ref qP, .int qnb, .int qnp, .ref aR, .ref aB, .ref aP, .int nb, .int np, .ref aN, .ref rf, .int ho, .int br, .ref aK, .int ac, .long dw, .ref aE, .int sr, .int sf, .ref aA, .ref aH, .ref aI, .int hi])), (tB, .inl (cI, 240, .inl fB)), (rC, .inl (cI, 2600, .inl m0_A_rC)), (rV, .inl (cI, 2600, .inl m0_A_rV)), (rD, .inl (cI, 5, .inl m0_A_rD))]) hP9 hD9 rfl
          have hS := hS9
          clear hP9 hD9 hS9
          refine lv_aload_n hx hb dX11_goOnAnd_27 rfl (lv_at hl 0 rfl) ?_
          have zx_m0_F_h0_4 : ((-1) : Int32).toInt = (-1) := by decide
          have zy_m0_F_h0_4 : m0_F_h0_4 = (-1) := z7 (a := (-1)) (by decide) (by omega)
          rw [zy_m0_F_h0_4] at hP hD
          obtain ⟨hPc, hDc, hFc⟩ := zc3 (wc := [(h0, .inr (11, [.int th, .ref tB, .int tsz, .int v23, .int (-1), .int m0_F_h0_5, .ref rC, .ref rV, .ref rD, .ref rK, .ref rT, .ref rS, .ref rU, .int lw, .int tx, .ref rL, .ref rX, .ref qR, .ref qB, .ref qP, .int qnb, .int qnp, .ref aR, .ref aB, .ref aP, .int nb, .int np, .ref aN, .ref rf, .int ho, .int br, .ref aK, .int ac, .long dw, .ref aE, .int sr, .int sf, .ref aA, .ref aH, .ref aI, .int hi])), (tB, .inl (cI, 240, .inl fB)), (rC, .inl (cI, 2600, .inl m0_A_rC)), (rV, .inl (cI, 2600, .inl m0_A_rV)), (rD, .inl (cI, 5, .inl m0_A_rD))]) hP hD hS hA [0, 1, 2, 3, 4] (by decide +kernel) rfl
          refine va_callv (va_runV (As := []) (rest := []) ⟨hx, hb, hml, hown, hts⟩ (ihU dC dI cI cJ h0 th tB tsz v23 m0_F_h0_5 rC rV rD rK rT rS rU lw tx rL rX qR qB qP qnb qnp aR aB aP nb np aN rf ho br aK ac dw aE sr sf aA aH aI hi fB m0_A_rC m0_A_rV m0_A_rD gC gV fz (k + 1) st (h + 1) H.size n_ac (by omega) n_hi n_ho n_lw n_nb n_np n_qnb n_qnp (by omega) n_tsz n_tx (by first | exact zPar_mono jv0_2 (by omega) (by omega) (by omega) (by omega)) (by first | decide | omega) (by first | decide | omega) (by first | decide | omega) (by first | decide | omega)) (cwV 0 hts (zgV qw1324 qw1326 qw41 qw108 qw1327) rfl rfl rfl hd_X11_unit ⟨by (try dsimp only) <;> omega, by (try dsimp only) <;> omega⟩) (zPV hPc hK hDc (va_recv (q := (RX11, TX11, 41)) hK hP (ci := 11) (q0 := 0) rfl rfl)) rfl rfl hl.1 rfl (lv_room (Nat.le_of_ble_eq_true rfl)) dX11_goOnAnd_28 ⟨Nat.zero_le _, Nat.zero_le _⟩) hS (fun q _ h => hFc q h) hFc (fun u28 t H locs ht hvm hw hB hz1 hk1 hS9 => ?_)
          obtain ⟨u28_0, u28_1, u28_2, u28_3, u28_4, u28_5⟩ := u28
          obtain ⟨hP9, hD9⟩ := zj2 (wX := [(h0, .inr (11, [.int th, .ref tB, .int tsz, .int u28_0, .int u28_1, .int u28_2, .ref rC, .ref rV, .ref rD, .ref rK, .ref rT, .ref rS, .ref rU, .int lw, .int tx, .ref rL, .ref rX, .ref qR, .ref qB, .ref qP, .int qnb, .int qnp, .ref aR, .ref aB, .ref aP, .int nb, .int np, .ref aN, .ref rf, .int ho, .int br, .ref aK, .int ac, .long dw, .ref aE, .int sr, .int sf, .ref aA, .ref aH, .ref aI, .int hi])), (tB, .inl (cI, 240, .inl fB)), (rC, .inl (cI, 2600, .inl u28_3)), (rV, .inl (cI, 2600, .inl u28_4)), (rD, .inl (cI, 5, .inl u28_5))]) hP hD hk1 hFc ht hB [0, 1, 2, 3, 4] [(true, 0), (true, 1), (true, 2), (true, 3), (true, 4)] rfl (by decide +kernel) (by decide +kernel) rfl
          clear hP hD hS hPc hDc hFc hB hk1 hz1 hvm
          have hP := hP9
          have hD := hD9
          have hS := hS9
          clear hP9 hD9 hS9
          obtain ⟨f28_0, f28_1, f28_2, f28_3, f28_4, f28_5, f28_6, f28_7, f28_8, f28_9, f28_10, f28_11⟩ : (0 ≤ u28_0.toInt) ∧ (u28_0.toInt ≤ 246) ∧ ((-1) ≤ u28_1.toInt) ∧ (u28_1.toInt ≤ 260) ∧ (0 ≤ u28_2.toInt) ∧ (u28_2.toInt ≤ 7) ∧ (u28_1.toInt = -1 → (u28_0.toInt ≤ tsz.toInt ∧ u28_2.toInt = 6 - ((K : Nat) : Int))) ∧ (v23.toInt ≤ u28_0.toInt) ∧ (u28_0.toInt ≤ 240 + ((K : Nat) : Int) ∧ 6 - ((K : Nat) : Int) ≤ u28_2.toInt ∧ u28_2.toInt ≤ 7 - ((K : Nat) : Int)) ∧ (zW (sUn (sB fB tsz.toInt) tsz.toInt K v23.toInt) u28_1 u28_0) ∧ (u28_1.toInt = -1 → zEr m0_A_rC m0_A_rV (520 * tx.toInt.toNat) (m0_A_rD tx.toInt.toNat).toInt ((eUn (sB fB tsz.toInt) tsz.toInt K) v23.toInt) u28_3 u28_4 (u28_5 tx.toInt.toNat).toInt) ∧ (zPar u28_1 u28_0 u28_3 u28_4 u28_5 tx gC gV fz ((k + 1)) st ((h + 1) + 1)) := hw
          have F28 := f28_9
          have F28_1 : zHid (u28_1.toInt = -1 → zEr m0_A_rC m0_A_rV (520 * tx.toInt.toNat) (m0_A_rD tx.toInt.toNat).toInt ((eUn (sB fB tsz.toInt) tsz.toInt K) v23.toInt) u28_3 u28_4 (u28_5 tx.toInt.toNat).toInt) := f28_10
          clear f28_10
          refine lv_aload_n hx hb dX11_goOnAnd_31 rfl (lv_at hl 0 rfl) ?_
          refine lv_bipush (v := 10) hx hb dX11_goOnAnd_32 (by decide) ?_
          refine lv_iconst (v := 0) hx hb dX11_goOnAnd_34 (by decide) ?_
          obtain ⟨hPc, hDc, hFc⟩ := zc3 (wc := [(h0, .inr (11, [.int th, .ref tB, .int tsz, .int u28_0, .int u28_1, .int u28_2, .ref rC, .ref rV, .ref rD, .ref rK, .ref rT, .ref rS, .ref rU, .int lw, .int tx, .ref rL, .ref rX, .ref qR, .ref qB, .ref qP, .int qnb, .int qnp, .ref aR, .ref aB, .ref aP, .int nb, .int np, .ref aN, .ref rf, .int ho, .int br, .ref aK, .int ac, .long dw, .ref aE, .int sr, .int sf, .ref aA, .ref aH, .ref aI, .int hi])), (rC, .inl (cI, 2600, .inl u28_3)), (rV, .inl (cI, 2600, .inl u28_4)), (rD, .inl (cI, 5, .inl u28_5))]) hP hD hS hA [0, 2, 3, 4] (by decide +kernel) rfl
          refine va_callv (va_runV (As := [.int 10, .int 0]) (rest := []) ⟨hx, hb, hml, hown, hts⟩ (g_X11_put_op l dC dI cI cJ h0 10 0 th tB tsz u28_0 u28_1 u28_2 rC rV rD rK rT rS rU lw tx rL rX qR qB qP qnb qnp aR aB aP nb np aN rf ho br aK ac dw aE sr sf aA aH aI hi u28_3 u28_4 u28_5 gC gV fz k st h H.size n_ac n_hi n_ho n_lw n_nb n_np (by decide) n_qnb n_qnp (by omega) n_tsz n_tx ⟨f28_2, f28_3⟩ (by first | exact zPar_mono f28_11 (by omega) (by omega) (by omega) (by omega)) (by first | decide | omega)) (cwV 2 hts (zgV qw1332 qw1334 qw43 qw108 qw1335) rfl rfl rfl hd_X11_put ⟨by (try dsimp only) <;> omega, by (try dsimp only) <;> omega⟩) (zPV hPc hK hDc (va_recv (q := (RX11, TX11, 41)) hK hP (ci := 11) (q0 := 0) rfl rfl)) rfl rfl hl.1 rfl (lv_room (Nat.le_of_ble_eq_true rfl)) dX11_goOnAnd_35 ⟨Nat.zero_le _, Nat.zero_le _⟩) hS (fun q _ h => hFc q h) hFc (fun u35 t H locs ht hvm hw hB hz1 hk1 hS9 => ?_)
          obtain ⟨u35_0, u35_1, u35_2⟩ := u35
          obtain ⟨hP9, hD9⟩ := zj2 (wX := [(h0, .inr (11, [.int th, .ref tB, .int tsz, .int u28_0, .int u28_1, .int u28_2, .ref rC, .ref rV, .ref rD, .ref rK, .ref rT, .ref rS, .ref rU, .int lw, .int tx, .ref rL, .ref rX, .ref qR, .ref qB, .ref qP, .int qnb, .int qnp, .ref aR, .ref aB, .ref aP, .int nb, .int np, .ref aN, .ref rf, .int ho, .int br, .ref aK, .int ac, .long dw, .ref aE, .int sr, .int sf, .ref aA, .ref aH, .ref aI, .int hi])), (tB, .inl (cI, 240, .inl fB)), (rC, .inl (cI, 2600, .inl u35_0)), (rV, .inl (cI, 2600, .inl u35_1)), (rD, .inl (cI, 5, .inl u35_2))]) hP hD hk1 hFc ht hB [0, 2, 3, 4] [(true, 0), (false, 1), (true, 1), (true, 2), (true, 3)] rfl (by decide +kernel) (by decide +kernel) rfl
          clear hP hD hS hPc hDc hFc hB hk1 hz1 hvm
          have hP := hP9
          have hD := hD9
          have hS := hS9
          clear hP9 hD9 hS9
          have zn35_10 : (10 : Int32).toInt = 10 := by decide
          obtain ⟨f35_0, f35_1⟩ : (∀ x : Int, eRc x = (10 : Int32).toInt → ¬ x = 1 → ¬ x = 2 → zEr u28_3 u28_4 (520 * tx.toInt.toNat) (u28_5 tx.toInt.toNat).toInt ([(x, 0)]) u35_0 u35_1 (u35_2 tx.toInt.toNat).toInt) ∧ (zPar u28_1 u28_0 u35_0 u35_1 u35_2 tx gC gV fz (k) st (h + 1)) := hw
          have F35 := f35_0
          refine lv_goto (tgt := 0) hx hb dX11_goOnAnd_38 (by decide) ?_
          exact ih0 _ (by omega) u35_0 u35_2 u35_1 u28_0 u28_1 u28_2 ⟨f28_0, f28_1⟩ ⟨f28_2, f28_3⟩ ⟨f28_4, f28_5⟩ (by omega) (by omega) (by omega) (fun x hx => zglS (jv0_0 x hx) (by omega) F9 (oD_iff.mpr (by omega)) (by decide) i23 F28 (sUn_mono (sB fB tsz.toInt) tsz.toInt K)) (zTg_s jv0_1 (by omega) F9 (oD_iff.mpr (by omega)) (by decide) i23 F28 (sUn_mono (sB fB tsz.toInt) tsz.toInt K) F28_1 (F35 v9.toInt (by first | (rw [show v9.toInt = 38 by omega]; decide)) (by omega) (by omega)) (by have := hpar.2.2.1; omega) (by have := jv0_2.2.2.1; omega)) (by first | exact zPar_mono f35_1 (by omega) (by omega) (by omega) (by omega)) rfl H locs ls hP hD hS (lv_sub hl [0] rfl)
  exact J0 _ fC fD fV tat wr dp n_tat n_wr n_dp (by omega) (by omega) (by omega) (fun x hx => zgl0 hx) (zTg_0) (by first | exact zPar_mono hpar (by omega) (by omega) (by omega) (by omega)) rfl H locs ls hP hD hS (lv_sub hl [0] rfl)
set_option maxHeartbeats 4000000 in
set_option maxRecDepth 100000 in
theorem g_X11_goOnOr_k (l : Launch) (K fr lo : Nat) (f1 l1 f2 l2 : Nat) (ihU : zQ_X11_unit l K f1 l1) (ihG : zQ_X11_goOnAnd l K f2 l2) (hfl : f1 ≤ fr ∧ l1 ≤ lo ∧ f2 ≤ fr ∧ l2 ≤ lo) (hfr : 1 ≤ fr) (hlo : 40 ≤ lo) : zQ_X11_goOnOr l K (fr + 1) (lo + 40) := by
  intro dC dI cI cJ h0 th tB tsz tat wr dp rC rV rD rK rT rS rU lw tx rL rX qR qB qP qnb qnp aR aB aP nb np aN rf ho br aK ac dw aE sr sf aA aH aI hi fB fC fV fD gC gV fz k st h sz n_ac n_dp n_hi n_ho n_lw n_nb n_np n_qnb n_qnp n_tat n_tsz n_tx n_wr hpar hdp hdq hh hK6
  refine Met.ofW (cc := cX11_goOnOr) (maxL := 1) (ret := none) (by decide) rfl ?_
  intro p e s m args below meth c s₁ B hml hv
  obtain ⟨hargs, hsz, hP, hK, hT⟩ := hv
  have hx := B.exec
  have hb := B.bytes
  have hr := B.returns
  have hts : ∀ w ∈ wA, w.before args s = true := fun w h => atoms_spec (ws := .code yX11_goOnOr cX11_goOnOr 1 none :: wA) B.pre w (List.mem_cons_of_mem _ h)
  have hown : s.vm.findClass RX11 = some m.cls := findClass_of_methodNamed B.named
  have hlocks := B.notSynchronized
  subst hsz
  have hD := hT.self (sz := s.heap.size)
  generalize hAe : va_A [(h0, .inr (11, [.int th, .ref tB, .int tsz, .int tat, .int wr, .int dp, .ref rC, .ref rV, .ref rD, .ref rK, .ref rT, .ref rS, .ref rU, .int lw, .int tx, .ref rL, .ref rX, .ref qR, .ref qB, .ref qP, .int qnb, .int qnp, .ref aR, .ref aB, .ref aP, .int nb, .int np, .ref aN, .ref rf, .int ho, .int br, .ref aK, .int ac, .long dw, .ref aE, .int sr, .int sf, .ref aA, .ref aH, .ref aI, .int hi])), (tB, .inl (cI, 240, .inl fB)), (rC, .inl (cI, 2600, .inl fC)), (rV, .inl (cI, 2600, .inl fV)), (rD, .inl (cI, 5, .inl fD))] s.heap.size = A at hD ⊢
  have hA : ∀ q : Nat, s.heap.size ≤ q → A q := fun q h => by rw [← hAe]; exact Or.inr h
  have hl := lv_entry ([.ref h0]) (n := 1) (Nat.le_of_ble_eq_true rfl)
  rw [show entryFrame m args 1 = entryFrame m ([.ref h0] : List Value).toArray 1 by rw [hargs], lg_entry_eq]
  generalize (lg_sl ([.ref h0]) ++ List.replicate (1 - (lg_sl ([.ref h0])).length) Slot.unset).toArray = ls at hl ⊢
  have hl : lv_has ls 1 [(0, .ref h0)] := hl
  refine zstart (fun H hH => ?_)
  rw [← hH] at hP
  have hS : va_S A s.heap H [] := by rw [hH]; exact va_S.rf
  generalize ([] : List Loc) = locs at hS ⊢
  refine zgen (fun R Q hR hQ => ?_)
  have hRf : R.frames = fr + 1 := by rw [hR]; rfl
  have hRl : R.locals = lo + 40 := by rw [hR]; rfl
  have J0 : ∀ (n : Nat) (m0_A_rC : Nat → Int32) (m0_A_rD : Nat → Int32) (m0_A_rV : Nat → Int32) (m0_F_h0_3 : Int32) (m0_F_h0_4 : Int32) (m0_F_h0_5 : Int32), (0 ≤ m0_F_h0_3.toInt ∧ m0_F_h0_3.toInt ≤ 246) → ((-1) ≤ m0_F_h0_4.toInt ∧ m0_F_h0_4.toInt ≤ 260) → (0 ≤ m0_F_h0_5.toInt ∧ m0_F_h0_5.toInt ≤ 7) → (m0_F_h0_4.toInt = -1 → (m0_F_h0_3.toInt ≤ tsz.toInt ∧ m0_F_h0_5.toInt = 6 - ((K : Nat) : Int))) → (tat.toInt ≤ m0_F_h0_3.toInt) → (m0_F_h0_3.toInt ≤ 240 + ((K : Nat) : Int) ∧ 6 - ((K : Nat) : Int) ≤ m0_F_h0_5.toInt ∧ m0_F_h0_5.toInt ≤ 7 - ((K : Nat) : Int)) → (∀ x : Int × Int, zW x wr tat → zGl fB tsz (sGl (sB fB tsz.toInt) tsz.toInt oO (sTm (sB fB tsz.toInt) tsz.toInt oD (sUn (sB fB tsz.toInt) tsz.toInt K)) x) oO (sTm (sB fB tsz.toInt) tsz.toInt oD (sUn (sB fB tsz.toInt) tsz.toInt K)) m0_F_h0_4 m0_F_h0_3) → (zTg fB tsz oO (sTm (sB fB tsz.toInt) tsz.toInt oD (sUn (sB fB tsz.toInt) tsz.toInt K)) (eTm (sB fB tsz.toInt) tsz.toInt oD (sUn (sB fB tsz.toInt) tsz.toInt K) (eUn (sB fB tsz.toInt) tsz.toInt K)) (eL (sB fB tsz.toInt) tsz.toInt oO (sTm (sB fB tsz.toInt) tsz.toInt oD (sUn (sB fB tsz.toInt) tsz.toInt K)) (eTm (sB fB tsz.toInt) tsz.toInt oD (sUn (sB fB tsz.toInt) tsz.toInt K) (eUn (sB fB tsz.toInt) tsz.toInt K)) (sk (sB fB tsz.toInt) tsz.toInt tat.toInt)) fC fV (520 * tx.toInt.toNat) (fD tx.toInt.toNat).toInt m0_A_rC m0_A_rV (m0_A_rD tx.toInt.toNat).toInt m0_F_h0_4 m0_F_h0_3) → (zPar m0_F_h0_4 m0_F_h0_3 m0_A_rC m0_A_rV m0_A_rD tx gC gV fz (k) st (h + 1)) → (300 - m0_F_h0_3.toInt).toNat = n → ∀ (H : Heap) (locs : List Loc) (ls : Array Slot), va_P (dC, dI) vwCl [(h0, .inr (11, [.int th, .ref tB, .int tsz, .int m0_F_h0_3, .int m0_F_h0_4, .int m0_F_h0_5, .ref rC, .ref rV, .ref rD, .ref rK, .ref rT, .ref rS, .ref rU, .int lw, .int tx, .ref rL, .ref rX, .ref qR, .ref qB, .ref qP, .int qnb, .int qnp, .ref aR, .ref aB, .ref aP, .int nb, .int np, .ref aN, .ref rf, .int ho, .int br, .ref aK, .int ac, .long dw, .ref aE, .int sr, .int sf, .ref aA, .ref aH, .ref aI, .int hi])), (tB, .inl (cI, 240, .inl fB)), (rC, .inl (cI, 2600, .inl m0_A_rC)), (rV, .inl (cI, 2600, .inl m0_A_rV)), (rD, .inl (cI, 5, .inl m0_A_rD))] H → va_D A [(h0, .inr (11, [.int th, .ref tB, .int tsz, .int m0_F_h0_3, .int m0_F_h0_4, .int m0_F_h0_5, .ref rC, .ref rV, .ref rD, .ref rK, .ref rT, .ref rS, .ref rU, .int lw, .int tx, .ref rL, .ref rX, .ref qR, .ref qB, .ref qP, .int qnb, .int qnp, .ref aR, .ref aB, .ref aP, .int nb, .int np, .ref aN, .ref rf, .int ho, .int br, .ref aK, .int ac, .long dw, .ref aE, .int sr, .int sf, .ref aA, .ref aH, .ref aI, .int hi])), (tB, .inl (cI, 240, .inl fB)), (rC, .inl (cI, 2600, .inl m0_A_rC)), (rV, .inl (cI, 2600, .inl m0_A_rV)), (rD, .inl (cI, 5, .inl m0_A_rD))] → va_S A s.heap H locs → lv_has ls 1 [(0, .ref h0)] → W p l e R s m args below meth c H locs 0 0 Q (F0 m 0 ls []) := by
    intro n0
    induction n0 using Nat.strongRecOn with
    | _ n0 ih0 =>
      intro m0_A_rC m0_A_rD m0_A_rV m0_F_h0_3 m0_F_h0_4 m0_F_h0_5 jf0_0 jf0_1 jf0_2 jf0_3 jf0_4 jf0_5 jv0_0 jv0_1 jv0_2 hmu0 H locs ls hP hD hS hl
      have zm1 : (-1 : Int32).toInt = -1 := by decide
      refine lv_aload_n hx hb dX11_goOnOr_0 rfl (lv_at hl 0 rfl) ?_
      refine va_get (D := (dC, dI)) (ci := 11) (v := .int m0_F_h0_4) (C := RX11) (T := TX11) (N := 41) hx hb hts iX11 hown hK hP 0 rfl rfl 4 (by decide) (hts _ qw1131) (fun _ h9 => h9) rfl dX11_goOnOr_1 ?_
      refine lv_iconst (v := (-1)) hx hb dX11_goOnOr_4 (by decide) ?_
      refine lv_icmp_ne (tgt := 45) hx hb dX11_goOnOr_5 (by decide) (fun c5 => ?_) (fun c5 => ?_)
      · have c5 : ¬ m0_F_h0_4.toInt = (-1) := z6 rfl (by decide) c5
        rw [hQ]
        exact W.vret hx hb hr (fun t ht hW => ⟨⟨(m0_F_h0_3, m0_F_h0_4, m0_F_h0_5, m0_A_rC, m0_A_rV, m0_A_rD), rfl, ⟨by (try dsimp only); omega, by (try dsimp only); omega, by (try dsimp only); omega, by (try dsimp only); omega, by (try dsimp only); omega, by (try dsimp only); omega, by (try dsimp only); omega, by (try dsimp only); omega, by (try dsimp only); omega, by (try dsimp only); exact fun x hx => zglW (jv0_0 x hx) (by omega), by (try dsimp only); exact fun hw => absurd hw (by omega), by (try dsimp only); first | exact zPar_bad jv0_2 (by omega) (by omega) (by omega)⟩, ⟨by rw [ht]; exact hP, hD⟩⟩, hS.F ht⟩) hS.2.2 dX11_goOnOr_45
      · have c5 : m0_F_h0_4.toInt = (-1) := z5 rfl (by decide) c5
        refine lv_aload_n hx hb dX11_goOnOr_8 rfl (lv_at hl 0 rfl) ?_
        obtain ⟨hPc, hDc, hFc⟩ := zc3 (wc := [(h0, .inr (11, [.int th, .ref tB, .int tsz, .int m0_F_h0_3, .int m0_F_h0_4, .int m0_F_h0_5, .ref rC, .ref rV, .ref rD, .ref rK, .ref rT, .ref rS, .ref rU, .int lw, .int tx, .ref rL, .ref rX, .ref qR, .ref qB, .ref qP, .int qnb, .int qnp, .ref aR, .ref aB, .ref aP, .int nb, .int np, .ref aN, .ref rf, .int ho, .int br, .ref aK, .int ac, .long dw, .ref aE, .int sr, .int sf, .ref aA, .ref aH, .ref aI, .int hi])), (tB, .inl (cI, 240, .inl fB))]) hP hD hS hA [0, 1] (by decide +kernel) rfl
        refine va_calli (va_runV (As := []) (rest := []) ⟨hx, hb, hml, hown, hts⟩ (g_X11_look_t l dC dI cI cJ h0 th tB tsz m0_F_h0_3 m0_F_h0_4 m0_F_h0_5 rC rV rD rK rT rS rU lw tx rL rX qR qB qP qnb qnp aR aB aP nb np aN rf ho br aK ac dw aE sr sf aA aH aI hi fB H.size n_ac n_hi n_ho n_lw n_nb n_np n_qnb n_qnp (by omega) n_tsz jf0_1) (cwV 0 hts (zgV qw1273 qw1275 qw32 qw108 qw1276) rfl rfl rfl hd_X11_look ⟨by (try dsimp only) <;> omega, by (try dsimp only) <;> omega⟩) (zPV hPc hK hDc (va_recv (q := (RX11, TX11, 41)) hK hP (ci := 11) (q0 := 0) rfl rfl)) rfl rfl hl.1 rfl (lv_room (Nat.le_of_ble_eq_true rfl)) dX11_goOnOr_9 ⟨Nat.zero_le _, Nat.zero_le _⟩) hS (fun q _ h => hFc q h) hFc (fun v9 u9 t H locs ht hvm hw hB hz1 hk1 hS9 => ?_)
        obtain ⟨u9_0, rfl⟩ : ∃ z, z = u9 := ⟨_, rfl⟩
        obtain ⟨hP9, hD9⟩ := zj2 (wX := [(h0, .inr (11, [.int th, .ref tB, .int tsz, .int u9_0, .int m0_F_h0_4, .int m0_F_h0_5, .ref rC, .ref rV, .ref rD, .ref rK, .ref rT, .ref rS, .ref rU, .int lw, .int tx, .ref rL, .ref rX, .ref qR, .ref qB, .ref qP, .int qnb, .int qnp, .ref aR, .ref aB, .ref aP, .int nb, .int np, .ref aN, .ref rf, .int ho, .int br, .ref aK, .int ac, .long dw, .ref aE, .int sr, .int sf, .ref aA, .ref aH, .ref aI, .int hi])), (tB, .inl (cI, 240, .inl fB)), (rC, .inl (cI, 2600, .inl m0_A_rC)), (rV, .inl (cI, 2600, .inl m0_A_rV)), (rD, .inl (cI, 5, .inl m0_A_rD))]) hP hD hk1 hFc ht hB [0, 1] [(true, 0), (true, 1), (false, 2), (false, 3), (false, 4)] rfl (by decide +kernel) (by decide +kernel) rfl
        clear hP hD hS hPc hDc hFc hB hk1 hz1 hvm
        have hP := hP9
        have hD := hD9
        have hS := hS9
        clear hP9 hD9 hS9
        obtain ⟨f9_0, f9_1, f9_2, f9_3, f9_4, f9_5⟩ : (0 ≤ u9_0.toInt) ∧ (u9_0.toInt ≤ 240) ∧ (¬ v9.toInt = -1 → u9_0.toInt < tsz.toInt) ∧ (m0_F_h0_3.toInt ≤ u9_0.toInt) ∧ (u9_0.toInt ≤ tsz.toInt ∨ u9_0.toInt = m0_F_h0_3.toInt) ∧ (zLk fB tsz m0_F_h0_3 v9 u9_0) := hw
        have F9 := f9_5
        refine lv_bipush (v := 124) hx hb dX11_goOnOr_12 (by decide) ?_
        refine lv_icmp_ne (tgt := 45) hx hb dX11_goOnOr_14 (by decide) (fun c14 => ?_) (fun c14 => ?_)
        · have c14 : ¬ v9.toInt = 124 := z6 rfl (by decide) c14
          rw [hQ]
          exact W.vret hx hb hr (fun t ht hW => ⟨⟨(u9_0, m0_F_h0_4, m0_F_h0_5, m0_A_rC, m0_A_rV, m0_A_rD), rfl, ⟨by (try dsimp only); omega, by (try dsimp only); omega, by (try dsimp only); omega, by (try dsimp only); omega, by (try dsimp only); omega, by (try dsimp only); omega, by (try dsimp only); omega, by (try dsimp only); omega, by (try dsimp only); omega, by (try dsimp only); exact fun x hx => zglE (jv0_0 x hx) (by omega) F9 (fun z => by have := oO_iff.mp z; omega), by (try dsimp only); exact zTg_e jv0_1 F9 (fun z => by have := oO_iff.mp z; omega), by (try dsimp only); first | exact zPar_mono jv0_2 (by omega) (by omega) (by omega) (by omega)⟩, ⟨by rw [ht]; exact hP, hD⟩⟩, hS.F ht⟩) hS.2.2 dX11_goOnOr_45
        · have c14 : v9.toInt = 124 := z5 rfl (by decide) c14
          refine lv_aload_n hx hb dX11_goOnOr_17 rfl (lv_at hl 0 rfl) ?_
          refine lv_dup hx hb dX11_goOnOr_18 rfl ?_
          refine va_get (D := (dC, dI)) (ci := 11) (v := .int u9_0) (C := RX11) (T := TX11) (N := 41) hx hb hts iX11 hown hK hP 0 rfl rfl 3 (by decide) (hts _ qw1130) (fun _ h9 => h9) rfl dX11_goOnOr_19 ?_
          refine lv_iconst (v := 1) hx hb dX11_goOnOr_22 (by decide) ?_
          refine lv_iadd hx hb dX11_goOnOr_23 ?_
          refine lv_topi (fun v23 e23 => ?_)
          have i23 : v23.toInt = u9_0.toInt + 1 := zadd e23 rfl (by decide) (by omega) (by omega)
          refine va_put (D := (dC, dI)) (ci := 11) (v := .int v23) (ty := .int) (C := RX11) (T := TX11) (N := 41) hx hb hts iX11 tyX11 tyX11_ok nmX11 hown hK hP hD hS 0 rfl rfl 3 (by decide) (hts _ qw1130) (fun _ h9 => h9) rfl (by decide +kernel) rfl rfl (Nat.le_of_ble_eq_true rfl) dX11_goOnOr_24 (fun H locs hP9 hD9 hS9 => ?_)
          clear hP hD hS
          obtain ⟨hP, hD⟩ := zst (wX := [(h0, .inr (11, [.int th, .ref tB, .int tsz, .int v23, .int m0_F_h0_4, .int m0_F_h0_5, .ref rC, .ref rV, .ref rD, .ref rK, .ref rT, .ref rS, .ref rU, .int lw, .int tx, .ref rL, .ref rX, .ref qR, .ref qB, .ref qP, .int qnb, .int qnp, .ref aR, .ref aB, .ref aP, .int nb, .int np, .ref aN, .ref rf, .int ho, .int br, .ref aK, .int ac, .long dw, .ref aE, .int sr, .int sf, .ref aA, .ref aH, .ref aI, .int hi])), (tB, .inl (cI, 240, .inl fB)), (rC, .inl (cI, 2600, .inl m0_A_rC)), (rV, .inl (cI, 2600, .inl m0_A_rV)), (rD, .inl (cI, 5, .inl m0_A_rD))]) hP9 hD9 rfl
          have hS := hS9
          clear hP9 hD9 hS9
          refine lv_aload_n hx hb dX11_goOnOr_27 rfl (lv_at hl 0 rfl) ?_
          have zx_m0_F_h0_4 : ((-1) : Int32).toInt = (-1) := by decide
          have zy_m0_F_h0_4 : m0_F_h0_4 = (-1) := z7 (a := (-1)) (by decide) (by omega)
          rw [zy_m0_F_h0_4] at hP hD
          obtain ⟨hPc, hDc, hFc⟩ := zc3 (wc := [(h0, .inr (11, [.int th, .ref tB, .int tsz, .int v23, .int (-1), .int m0_F_h0_5, .ref rC, .ref rV, .ref rD, .ref rK, .ref rT, .ref rS, .ref rU, .int lw, .int tx, .ref rL, .ref rX, .ref qR, .ref qB, .ref qP, .int qnb, .int qnp, .ref aR, .ref aB, .ref aP, .int nb, .int np, .ref aN, .ref rf, .int ho, .int br, .ref aK, .int ac, .long dw, .ref aE, .int sr, .int sf, .ref aA, .ref aH, .ref aI, .int hi])), (tB, .inl (cI, 240, .inl fB)), (rC, .inl (cI, 2600, .inl m0_A_rC)), (rV, .inl (cI, 2600, .inl m0_A_rV)), (rD, .inl (cI, 5, .inl m0_A_rD))]) hP hD hS hA [0, 1, 2, 3, 4] (by decide +kernel) rfl
          refine va_callv (va_runV (As := []) (rest := []) ⟨hx, hb, hml, hown, hts⟩ (ihU dC dI cI cJ h0 th tB tsz v23 m0_F_h0_5 rC rV rD rK rT rS rU lw tx rL rX qR qB qP qnb qnp aR aB aP nb np aN rf ho br aK ac dw aE sr sf aA aH aI hi fB m0_A_rC m0_A_rV m0_A_rD gC gV fz (k + 1) st (h + 1) H.size n_ac (by omega) n_hi n_ho n_lw n_nb n_np n_qnb n_qnp (by omega) n_tsz n_tx (by first | exact zPar_mono jv0_2 (by omega) (by omega) (by omega) (by omega)) (by first | decide | omega) (by first | decide | omega) (by first | decide | omega) (by first | decide | omega)) (cwV 0 hts (zgV qw1324 qw1326 qw41 qw108 qw1327) rfl rfl rfl hd_X11_unit ⟨by (try dsimp only) <;> omega, by (try dsimp only) <;> omega⟩) (zPV hPc hK hDc (va_recv (q := (RX11, TX11, 41)) hK hP (ci := 11) (q0 := 0) rfl rfl)) rfl rfl hl.1 rfl (lv_room (Nat.le_of_ble_eq_true rfl)) dX11_goOnOr_28 ⟨Nat.zero_le _, Nat.zero_le _⟩) hS (fun q _ h => hFc q h) hFc (fun u28 t H locs ht hvm hw hB hz1 hk1 hS9 => ?_)
          obtain ⟨u28_0, u28_1, u28_2, u28_3, u28_4, u28_5⟩ := u28
          obtain ⟨hP9, hD9⟩ := zj2 (wX := [(h0, .inr (11, [.int th, .ref tB, .int tsz, .int u28_0, .int u28_1, .int u28_2, .ref rC, .ref rV, .ref rD, .ref rK, .ref rT, .ref rS, .ref rU, .int lw, .int tx, .ref rL, .ref rX, .ref qR, .ref qB, .ref qP, .int qnb, .int qnp, .ref aR, .ref aB, .ref aP, .int nb, .int np, .ref aN, .ref rf, .int ho, .int br, .ref aK, .int ac, .long dw, .ref aE, .int sr, .int sf, .ref aA, .ref aH, .ref aI, .int hi])), (tB, .inl (cI, 240, .inl fB)), (rC, .inl (cI, 2600, .inl u28_3)), (rV, .inl (cI, 2600, .inl u28_4)), (rD, .inl (cI, 5, .inl u28_5))]) hP hD hk1 hFc ht hB [0, 1, 2, 3, 4] [(true, 0), (true, 1), (true, 2), (true, 3), (true, 4)] rfl (by decide +kernel) (by decide +kernel) rfl
          clear hP hD hS hPc hDc hFc hB hk1 hz1 hvm
          have hP := hP9
          have hD := hD9
          have hS := hS9
          clear hP9 hD9 hS9
          obtain ⟨f28_0, f28_1, f28_2, f28_3, f28_4, f28_5, f28_6, f28_7, f28_8, f28_9, f28_10, f28_11⟩ : (0 ≤ u28_0.toInt) ∧ (u28_0.toInt ≤ 246) ∧ ((-1) ≤ u28_1.toInt) ∧ (u28_1.toInt ≤ 260) ∧ (0 ≤ u28_2.toInt) ∧ (u28_2.toInt ≤ 7) ∧ (u28_1.toInt = -1 → (u28_0.toInt ≤ tsz.toInt ∧ u28_2.toInt = 6 - ((K : Nat) : Int))) ∧ (v23.toInt ≤ u28_0.toInt) ∧ (u28_0.toInt ≤ 240 + ((K : Nat) : Int) ∧ 6 - ((K : Nat) : Int) ≤ u28_2.toInt ∧ u28_2.toInt ≤ 7 - ((K : Nat) : Int)) ∧ (zW (sUn (sB fB tsz.toInt) tsz.toInt K v23.toInt) u28_1 u28_0) ∧ (u28_1.toInt = -1 → zEr m0_A_rC m0_A_rV (520 * tx.toInt.toNat) (m0_A_rD tx.toInt.toNat).toInt ((eUn (sB fB tsz.toInt) tsz.toInt K) v23.toInt) u28_3 u28_4 (u28_5 tx.toInt.toNat).toInt) ∧ (zPar u28_1 u28_0 u28_3 u28_4 u28_5 tx gC gV fz ((k + 1)) st ((h + 1) + 1)) := hw
          have F28 := f28_9
          have F28_1 : zHid (u28_1.toInt = -1 → zEr m0_A_rC m0_A_rV (520 * tx.toInt.toNat) (m0_A_rD tx.toInt.toNat).toInt ((eUn (sB fB tsz.toInt) tsz.toInt K) v23.toInt) u28_3 u28_4 (u28_5 tx.toInt.toNat).toInt) := f28_10
          clear f28_10
          refine lv_aload_n hx hb dX11_goOnOr_31 rfl (lv_at hl 0 rfl) ?_
          obtain ⟨hPc, hDc, hFc⟩ := zc3 (wc := [(h0, .inr (11, [.int th, .ref tB, .int tsz, .int u28_0, .int u28_1, .int u28_2, .ref rC, .ref rV, .ref rD, .ref rK, .ref rT, .ref rS, .ref rU, .int lw, .int tx, .ref rL, .ref rX, .ref qR, .ref qB, .ref qP, .int qnb, .int qnp, .ref aR, .ref aB, .ref aP, .int nb, .int np, .ref aN, .ref rf, .int ho, .int br, .ref aK, .int ac, .long dw, .ref aE, .int sr, .int sf, .ref aA, .ref aH, .ref aI, .int hi])), (tB, .inl (cI, 240, .inl fB)), (rC, .inl (cI, 2600, .inl u28_3)), (rV, .inl (cI, 2600, .inl u28_4)), (rD, .inl (cI, 5, .inl u28_5))]) hP hD hS hA [0, 1, 2, 3, 4] (by decide +kernel) rfl
          refine va_callv (va_runV (As := []) (rest := []) ⟨hx, hb, hml, hown, hts⟩ (ihG dC dI cI cJ h0 th tB tsz u28_0 u28_1 u28_2 rC rV rD rK rT rS rU lw tx rL rX qR qB qP qnb qnp aR aB aP nb np aN rf ho br aK ac dw aE sr sf aA aH aI hi fB u28_3 u28_4 u28_5 gC gV fz (k + 1) st (h + 1) H.size n_ac ⟨f28_4, f28_5⟩ n_hi n_ho n_lw n_nb n_np n_qnb n_qnp ⟨f28_0, f28_1⟩ n_tsz n_tx ⟨f28_2, f28_3⟩ (by first | exact zPar_mono f28_11 (by omega) (by omega) (by omega) (by omega)) (by first | decide | omega) (by first | decide | omega) (by first | decide | omega) (by first | decide | omega)) (cwV 0 hts (zgV qw1366 qw1368 qw50 qw108 qw1369) rfl rfl rfl hd_X11_goOnAnd ⟨by (try dsimp only) <;> omega, by (try dsimp only) <;> omega⟩) (zPV hPc hK hDc (va_recv (q := (RX11, TX11, 41)) hK hP (ci := 11) (q0 := 0) rfl rfl)) rfl rfl hl.1 rfl (lv_room (Nat.le_of_ble_eq_true rfl)) dX11_goOnOr_32 ⟨Nat.zero_le _, Nat.zero_le _⟩) hS (fun q _ h => hFc q h) hFc (fun u32 t H locs ht hvm hw hB hz1 hk1 hS9 => ?_)
          obtain ⟨u32_0, u32_1, u32_2, u32_3, u32_4, u32_5⟩ := u32
          obtain ⟨hP9, hD9⟩ := zj2 (wX := [(h0, .inr (11, [.int th, .ref tB, .int tsz, .int u32_0, .int u32_1, .int u32_2, .ref rC, .ref rV, .ref rD, .ref rK, .ref rT, .ref rS, .ref rU, .int lw, .int tx, .ref rL, .ref rX, .ref qR, .ref qB, .ref qP, .int qnb, .int qnp, .ref aR, .ref aB, .ref aP, .int nb, .int np, .ref aN, .ref rf, .int ho, .int br, .ref aK, .int ac, .long dw, .ref aE, .int sr, .int sf, .ref aA, .ref aH, .ref aI, .int hi])), (tB, .inl (cI, 240, .inl fB)), (rC, .inl (cI, 2600, .inl u32_3)), (rV, .inl (cI, 2600, .inl u32_4)), (rD, .inl (cI, 5, .inl u32_5))]) hP hD hk1 hFc ht hB [0, 1, 2, 3, 4] [(true, 0), (true, 1), (true, 2), (true, 3), (true, 4)] rfl (by decide +kernel) (by decide +kernel) rfl
          clear hP hD hS hPc hDc hFc hB hk1 hz1 hvm
          have hP := hP9
          have hD := hD9
          have hS := hS9
          clear hP9 hD9 hS9
          obtain ⟨f32_0, f32_1, f32_2, f32_3, f32_4, f32_5, f32_6, f32_7, f32_8, f32_9, f32_10, f32_11⟩ : (0 ≤ u32_0.toInt) ∧ (u32_0.toInt ≤ 246) ∧ ((-1) ≤ u32_1.toInt) ∧ (u32_1.toInt ≤ 260) ∧ (0 ≤ u32_2.toInt) ∧ (u32_2.toInt ≤ 7) ∧ (u32_1.toInt = -1 → (u32_0.toInt ≤ tsz.toInt ∧ u32_2.toInt = 6 - ((K : Nat) : Int))) ∧ (u28_0.toInt ≤ u32_0.toInt) ∧ (u32_0.toInt ≤ 240 + ((K : Nat) : Int) ∧ 6 - ((K : Nat) : Int) ≤ u32_2.toInt ∧ u32_2.toInt ≤ 7 - ((K : Nat) : Int)) ∧ (∀ x : Int × Int, zW x u28_1 u28_0 → zW (sGl (sB fB tsz.toInt) tsz.toInt oD (sUn (sB fB tsz.toInt) tsz.toInt K) x) u32_1 u32_0) ∧ (u32_1.toInt = -1 → zEr u28_3 u28_4 (520 * tx.toInt.toNat) (u28_5 tx.toInt.toNat).toInt (eL (sB fB tsz.toInt) tsz.toInt oD (sUn (sB fB tsz.toInt) tsz.toInt K) (eUn (sB fB tsz.toInt) tsz.toInt K) (sk (sB fB tsz.toInt) tsz.toInt u28_0.toInt)) u32_3 u32_4 (u32_5 tx.toInt.toNat).toInt) ∧ (zPar u32_1 u32_0 u32_3 u32_4 u32_5 tx gC gV fz ((k + 1)) st ((h + 1) + 1)) := hw
          have F32 := f32_9
          have F32_1 : zHid (u32_1.toInt = -1 → zEr u28_3 u28_4 (520 * tx.toInt.toNat) (u28_5 tx.toInt.toNat).toInt (eL (sB fB tsz.toInt) tsz.toInt oD (sUn (sB fB tsz.toInt) tsz.toInt K) (eUn (sB fB tsz.toInt) tsz.toInt K) (sk (sB fB tsz.toInt) tsz.toInt u28_0.toInt)) u32_3 u32_4 (u32_5 tx.toInt.toNat).toInt) := f32_10
          clear f32_10
          refine lv_aload_n hx hb dX11_goOnOr_35 rfl (lv_at hl 0 rfl) ?_
          refine lv_bipush (v := 11) hx hb dX11_goOnOr_36 (by decide) ?_
          refine lv_iconst (v := 0) hx hb dX11_goOnOr_38 (by decide) ?_
          obtain ⟨hPc, hDc, hFc⟩ := zc3 (wc := [(h0, .inr (11, [.int th, .ref tB, .int tsz, .int u32_0, .int u32_1, .int u32_2, .ref rC, .ref rV, .ref rD, .ref rK, .ref rT, .ref rS, .ref rU, .int lw, .int tx, .ref rL, .ref rX, .ref qR, .ref qB, .ref qP, .int qnb, .int qnp, .ref aR, .ref aB, .ref aP, .int nb, .int np, .ref aN, .ref rf, .int ho, .int br, .ref aK, .int ac, .long dw, .ref aE, .int sr, .int sf, .ref aA, .ref aH, .ref aI, .int hi])), (rC, .inl (cI, 2600, .inl u32_3)), (rV, .inl (cI, 2600, .inl u32_4)), (rD, .inl (cI, 5, .inl u32_5))]) hP hD hS hA [0, 2, 3, 4] (by decide +kernel) rfl
          refine va_callv (va_runV (As := [.int 11, .int 0]) (rest := []) ⟨hx, hb, hml, hown, hts⟩ (g_X11_put_op l dC dI cI cJ h0 11 0 th tB tsz u32_0 u32_1 u32_2 rC rV rD rK rT rS rU lw tx rL rX qR qB qP qnb qnp aR aB aP nb np aN rf ho br aK ac dw aE sr sf aA aH aI hi u32_3 u32_4 u32_5 gC gV fz k st h H.size n_ac n_hi n_ho n_lw n_nb n_np (by decide) n_qnb n_qnp (by omega) n_tsz n_tx ⟨f32_2, f32_3⟩ (by first | exact zPar_mono f32_11 (by omega) (by omega) (by omega) (by omega)) (by first | decide | omega)) (cwV 2 hts (zgV qw1332 qw1334 qw43 qw108 qw1335) rfl rfl rfl hd_X11_put ⟨by (try dsimp only) <;> omega, by (try dsimp only) <;> omega⟩) (zPV hPc hK hDc (va_recv (q := (RX11, TX11, 41)) hK hP (ci := 11) (q0 := 0) rfl rfl)) rfl rfl hl.1 rfl (lv_room (Nat.le_of_ble_eq_true rfl)) dX11_goOnOr_39 ⟨Nat.zero_le _, Nat.zero_le _⟩) hS (fun q _ h => hFc q h) hFc (fun u39 t H locs ht hvm hw hB hz1 hk1 hS9 => ?_)
          obtain ⟨u39_0, u39_1, u39_2⟩ := u39
          obtain ⟨hP9, hD9⟩ := zj2 (wX := [(h0, .inr (11, [.int th, .ref tB, .int tsz, .int u32_0, .int u32_1, .int u32_2, .ref rC, .ref rV, .ref rD, .ref rK, .ref rT, .ref rS, .ref rU, .int lw, .int tx, .ref rL, .ref rX, .ref qR, .ref qB, .ref qP, .int qnb, .int qnp, .ref aR, .ref aB, .ref aP, .int nb, .int np, .ref aN, .ref rf, .int ho, .int br, .ref aK, .int ac, .long dw, .ref aE, .int sr, .int sf, .ref aA, .ref aH, .ref aI, .int hi])), (tB, .inl (cI, 240, .inl fB)), (rC, .inl (cI, 2600, .inl u39_0)), (rV, .inl (cI, 2600, .inl u39_1)), (rD, .inl (cI, 5, .inl u39_2))]) hP hD hk1 hFc ht hB [0, 2, 3, 4] [(true, 0), (false, 1), (true, 1), (true, 2), (true, 3)] rfl (by decide +kernel) (by decide +kernel) rfl
          clear hP hD hS hPc hDc hFc hB hk1 hz1 hvm
          have hP := hP9
          have hD := hD9
          have hS := hS9
          clear hP9 hD9 hS9
          have zn39_11 : (11 : Int32).toInt = 11 := by decide
          obtain ⟨f39_0, f39_1⟩ : (∀ x : Int, eRc x = (11 : Int32).toInt → ¬ x = 1 → ¬ x = 2 → zEr u32_3 u32_4 (520 * tx.toInt.toNat) (u32_5 tx.toInt.toNat).toInt ([(x, 0)]) u39_0 u39_1 (u39_2 tx.toInt.toNat).toInt) ∧ (zPar u32_1 u32_0 u39_0 u39_1 u39_2 tx gC gV fz (k) st (h + 1)) := hw
          have F39 := f39_0
          refine lv_goto (tgt := 0) hx hb dX11_goOnOr_42 (by decide) ?_
          exact ih0 _ (by omega) u39_0 u39_2 u39_1 u32_0 u32_1 u32_2 ⟨f32_0, f32_1⟩ ⟨f32_2, f32_3⟩ ⟨f32_4, f32_5⟩ (by omega) (by omega) (by omega) (fun x hx => zglS (jv0_0 x hx) (by omega) F9 (oO_iff.mpr (by omega)) (by decide) i23 (F32 _ F28) (sTm_mono (sUn_mono (sB fB tsz.toInt) tsz.toInt K))) (zTg_s jv0_1 (by omega) F9 (oO_iff.mpr (by omega)) (by decide) i23 (F32 _ F28) (sTm_mono (sUn_mono (sB fB tsz.toInt) tsz.toInt K)) (erTm F28 (F32 _ F28) F28_1 F32_1 (by have := jv0_2.2.2.1; omega)) (F39 v9.toInt (by first | (rw [show v9.toInt = 124 by omega]; decide)) (by omega) (by omega)) (by have := hpar.2.2.1; omega) (by have := jv0_2.2.2.1; omega)) (by first | exact zPar_mono f39_1 (by omega) (by omega) (by omega) (by omega)) rfl H locs ls hP hD hS (lv_sub hl [0] rfl)
  exact J0 _ fC fD fV tat wr dp n_tat n_wr n_dp (by omega) (by omega) (by omega) (fun x hx => zgl0 hx) (zTg_0) (by first | exact zPar_mono hpar (by omega) (by omega) (by omega) (by omega)) rfl H locs ls hP hD hS (lv_sub hl [0] rfl)
set_option maxHeartbeats 4000000 in
set_option maxRecDepth 100000 in
theorem g_X11_condition_k (l : Launch) (K fr lo : Nat) (f1 l1 f2 l2 f3 l3 : Nat) (ihU : zQ_X11_unit l K f1 l1) (ihG : zQ_X11_goOnAnd l K f2 l2) (ihO : zQ_X11_goOnOr l K f3 l3) (hfl : f1 ≤ fr ∧ l1 ≤ lo ∧ f2 ≤ fr ∧ l2 ≤ lo ∧ f3 ≤ fr ∧ l3 ≤ lo) (hfr : 0 ≤ fr) (hlo : 0 ≤ lo) : zQ_X11_condition l K (fr + 1) (lo + 40) := by
  intro dC dI cI cJ h0 th tB tsz tat dp rC rV rD rK rT rS rU lw tx rL rX qR qB qP qnb qnp aR aB aP nb np aN rf ho br aK ac dw aE sr sf aA aH aI hi fB fC fV fD gC gV fz k st h sz n_ac n_dp n_hi n_ho n_lw n_nb n_np n_qnb n_qnp n_tat n_tsz n_tx hpar hat hh hKd hK6
  refine Met.ofW (cc := cX11_condition) (maxL := 1) (ret := none) (by decide) rfl ?_
  intro p e s m args below meth c s₁ B hml hv
  obtain ⟨hargs, hsz, hP, hK, hT⟩ := hv
  have hx := B.exec
  have hb := B.bytes
  have hr := B.returns
  have hts : ∀ w ∈ wA, w.before args s = true := fun w h => atoms_spec (ws := .code yX11_condition cX11_condition 1 none :: wA) B.pre w (List.mem_cons_of_mem _ h)
  have hown : s.vm.findClass RX11 = some m.cls := findClass_of_methodNamed B.named
  have hlocks := B.notSynchronized
  subst hsz
  have hD := hT.self (sz := s.heap.size)
  generalize hAe : va_A [(h0, .inr (11, [.int th, .ref tB, .int tsz, .int tat, .int (-1), .int dp, .ref rC, .ref rV, .ref rD, .ref rK, .ref rT, .ref rS, .ref rU, .int lw, .int tx, .ref rL, .ref rX, .ref qR, .ref qB, .ref qP, .int qnb, .int qnp, .ref aR, .ref aB, .ref aP, .int nb, .int np, .ref aN, .ref rf, .int ho, .int br, .ref aK, .int ac, .long dw, .ref aE, .int sr, .int sf, .ref aA, .ref aH, .ref aI, .int hi])), (tB, .inl (cI, 240, .inl fB)), (rC, .inl (cI, 2600, .inl fC)), (rV, .inl (cI, 2600, .inl fV)), (rD, .inl (cI, 5, .inl fD))] s.heap.size = A at hD ⊢
  have hA : ∀ q : Nat, s.heap.size ≤ q → A q := fun q h => by rw [← hAe]; exact Or.inr h
  have hl := lv_entry ([.ref h0]) (n := 1) (Nat.le_of_ble_eq_true rfl)
  rw [show entryFrame m args 1 = entryFrame m ([.ref h0] : List Value).toArray 1 by rw [hargs], lg_entry_eq]
  generalize (lg_sl ([.ref h0]) ++ List.replicate (1 - (lg_sl ([.ref h0])).length) Slot.unset).toArray = ls at hl ⊢
  have hl : lv_has ls 1 [(0, .ref h0)] := hl
  refine zstart (fun H hH => ?_)
  rw [← hH] at hP
  have hS : va_S A s.heap H [] := by rw [hH]; exact va_S.rf
  generalize ([] : List Loc) = locs at hS ⊢
  refine zgen (fun R Q hR hQ => ?_)
  have hRf : R.frames = fr + 1 := by rw [hR]; rfl
  have hRl : R.locals = lo + 40 := by rw [hR]; rfl
  have zm1 : (-1 : Int32).toInt = -1 := by decide
  refine lv_aload_n hx hb dX11_condition_0 rfl (lv_at hl 0 rfl) ?_
  obtain ⟨hPc, hDc, hFc⟩ := zc3 (wc := [(h0, .inr (11, [.int th, .ref tB, .int tsz, .int tat, .int (-1), .int dp, .ref rC, .ref rV, .ref rD, .ref rK, .ref rT, .ref rS, .ref rU, .int lw, .int tx, .ref rL, .ref rX, .ref qR, .ref qB, .ref qP, .int qnb, .int qnp, .ref aR, .ref aB, .ref aP, .int nb, .int np, .ref aN, .ref rf, .int ho, .int br, .ref aK, .int ac, .long dw, .ref aE, .int sr, .int sf, .ref aA, .ref aH, .ref aI, .int hi])), (tB, .inl (cI, 240, .inl fB)), (rC, .inl (cI, 2600, .inl fC)), (rV, .inl (cI, 2600, .inl fV)), (rD, .inl (cI, 5, .inl fD))]) hP hD hS hA [0, 1, 2, 3, 4] (by decide +kernel) rfl
  refine va_callv (va_runV (As := []) (rest := []) ⟨hx, hb, hml, hown, hts⟩ (ihU dC dI cI cJ h0 th tB tsz tat dp rC rV rD rK rT rS rU lw tx rL rX qR qB qP qnb qnp aR aB aP nb np aN rf ho br aK ac dw aE sr sf aA aH aI hi fB fC fV fD gC gV fz k st h H.size n_ac n_dp n_hi n_ho n_lw n_nb n_np n_qnb n_qnp n_tat n_tsz n_tx (by first | exact zPar_mono hpar (by omega) (by omega) (by omega) (by omega)) (by first | decide | omega) (by first | decide | omega) (by first | decide | omega) (by first | decide | omega)) (cwV 0 hts (zgV qw1324 qw1326 qw41 qw108 qw1327) rfl rfl rfl hd_X11_unit ⟨by (try dsimp only) <;> omega, by (try dsimp only) <;> omega⟩) (zPV hPc hK hDc (va_recv (q := (RX11, TX11, 41)) hK hP (ci := 11) (q0 := 0) rfl rfl)) rfl rfl hl.1 rfl (lv_room (Nat.le_of_ble_eq_true rfl)) dX11_condition_1 ⟨Nat.zero_le _, Nat.zero_le _⟩) hS (fun q _ h => hFc q h) hFc (fun u1 t H locs ht hvm hw hB hz1 hk1 hS9 => ?_)
  obtain ⟨u1_0, u1_1, u1_2, u1_3, u1_4, u1_5⟩ := u1
  obtain ⟨hP9, hD9⟩ := zj2 (wX := [(h0, .inr (11, [.int th, .ref tB, .int tsz, .int u1_0, .int u1_1, .int u1_2, .ref rC, .ref rV, .ref rD, .ref rK, .ref rT, .ref rS, .ref rU, .int lw, .int tx, .ref rL, .ref rX, .ref qR, .ref qB, .ref qP, .int qnb, .int qnp, .ref aR, .ref aB, .ref aP, .int nb, .int np, .ref aN, .ref rf, .int ho, .int br, .ref aK, .int ac, .long dw, .ref aE, .int sr, .int sf, .ref aA, .ref aH, .ref aI, .int hi])), (tB, .inl (cI, 240, .inl fB)), (rC, .inl (cI, 2600, .inl u1_3)), (rV, .inl (cI, 2600, .inl u1_4)), (rD, .inl (cI, 5, .inl u1_5))]) hP hD hk1 hFc ht hB [0, 1, 2, 3, 4] [(true, 0), (true, 1), (true, 2), (true, 3), (true, 4)] rfl (by decide +kernel) (by decide +kernel) rfl
  clear hP hD hS hPc hDc hFc hB hk1 hz1 hvm
  have hP := hP9
  have hD := hD9
  have hS := hS9
  clear hP9 hD9 hS9
  obtain ⟨f1_0, f1_1, f1_2, f1_3, f1_4, f1_5, f1_6, f1_7, f1_8, f1_9, f1_10, f1_11⟩ : (0 ≤ u1_0.toInt) ∧ (u1_0.toInt ≤ 246) ∧ ((-1) ≤ u1_1.toInt) ∧ (u1_1.toInt ≤ 260) ∧ (0 ≤ u1_2.toInt) ∧ (u1_2.toInt ≤ 7) ∧ (u1_1.toInt = -1 → (u1_0.toInt ≤ tsz.toInt ∧ u1_2.toInt = 6 - ((K : Nat) : Int))) ∧ (tat.toInt ≤ u1_0.toInt) ∧ (u1_0.toInt ≤ 240 + ((K : Nat) : Int) ∧ 6 - ((K : Nat) : Int) ≤ u1_2.toInt ∧ u1_2.toInt ≤ 7 - ((K : Nat) : Int)) ∧ (zW (sUn (sB fB tsz.toInt) tsz.toInt K tat.toInt) u1_1 u1_0) ∧ (u1_1.toInt = -1 → zEr fC fV (520 * tx.toInt.toNat) (fD tx.toInt.toNat).toInt ((eUn (sB fB tsz.toInt) tsz.toInt K) tat.toInt) u1_3 u1_4 (u1_5 tx.toInt.toNat).toInt) ∧ (zPar u1_1 u1_0 u1_3 u1_4 u1_5 tx gC gV fz (k) st (h + 1)) := hw
  have F1 := f1_9
  have F1_1 : zHid (u1_1.toInt = -1 → zEr fC fV (520 * tx.toInt.toNat) (fD tx.toInt.toNat).toInt ((eUn (sB fB tsz.toInt) tsz.toInt K) tat.toInt) u1_3 u1_4 (u1_5 tx.toInt.toNat).toInt) := f1_10
  clear f1_10
  refine lv_aload_n hx hb dX11_condition_4 rfl (lv_at hl 0 rfl) ?_
  obtain ⟨hPc, hDc, hFc⟩ := zc3 (wc := [(h0, .inr (11, [.int th, .ref tB, .int tsz, .int u1_0, .int u1_1, .int u1_2, .ref rC, .ref rV, .ref rD, .ref rK, .ref rT, .ref rS, .ref rU, .int lw, .int tx, .ref rL, .ref rX, .ref qR, .ref qB, .ref qP, .int qnb, .int qnp, .ref aR, .ref aB, .ref aP, .int nb, .int np, .ref aN, .ref rf, .int ho, .int br, .ref aK, .int ac, .long dw, .ref aE, .int sr, .int sf, .ref aA, .ref aH, .ref aI, .int hi])), (tB, .inl (cI, 240, .inl fB)), (rC, .inl (cI, 2600, .inl u1_3)), (rV, .inl (cI, 2600, .inl u1_4)), (rD, .inl (cI, 5, .inl u1_5))]) hP hD hS hA [0, 1, 2, 3, 4] (by decide +kernel) rfl
  refine va_callv (va_runV (As := []) (rest := []) ⟨hx, hb, hml, hown, hts⟩ (ihG dC dI cI cJ h0 th tB tsz u1_0 u1_1 u1_2 rC rV rD rK rT rS rU lw tx rL rX qR qB qP qnb qnp aR aB aP nb np aN rf ho br aK ac dw aE sr sf aA aH aI hi fB u1_3 u1_4 u1_5 gC gV fz k st h H.size n_ac ⟨f1_4, f1_5⟩ n_hi n_ho n_lw n_nb n_np n_qnb n_qnp ⟨f1_0, f1_1⟩ n_tsz n_tx ⟨f1_2, f1_3⟩ (by first | exact zPar_mono f1_11 (by omega) (by omega) (by omega) (by omega)) (by first | decide | omega) (by first | decide | omega) (by first | decide | omega) (by first | decide | omega)) (cwV 0 hts (zgV qw1366 qw1368 qw50 qw108 qw1369) rfl rfl rfl hd_X11_goOnAnd ⟨by (try dsimp only) <;> omega, by (try dsimp only) <;> omega⟩) (zPV hPc hK hDc (va_recv (q := (RX11, TX11, 41)) hK hP (ci := 11) (q0 := 0) rfl rfl)) rfl rfl hl.1 rfl (lv_room (Nat.le_of_ble_eq_true rfl)) dX11_condition_5 ⟨Nat.zero_le _, Nat.zero_le _⟩) hS (fun q _ h => hFc q h) hFc (fun u5 t H locs ht hvm hw hB hz1 hk1 hS9 => ?_)
  obtain ⟨u5_0, u5_1, u5_2, u5_3, u5_4, u5_5⟩ := u5
  obtain ⟨hP9, hD9⟩ := zj2 (wX := [(h0, .inr (11, [.int th, .ref tB, .int tsz, .int u5_0, .int u5_1, .int u5_2, .ref rC, .ref rV, .ref rD, .ref rK, .ref rT, .ref rS, .ref rU, .int lw, .int tx, .ref rL, .ref rX, .ref qR, .ref qB, .ref qP, .int qnb, .int qnp, .ref aR, .ref aB, .ref aP, .int nb, .int np, .ref aN, .ref rf, .int ho, .int br, .ref aK, .int ac, .long dw, .ref aE, .int sr, .int sf, .ref aA, .ref aH, .ref aI, .int hi])), (tB, .inl (cI, 240, .inl fB)), (rC, .inl (cI, 2600, .inl u5_3)), (rV, .inl (cI, 2600, .inl u5_4)), (rD, .inl (cI, 5, .inl u5_5))]) hP hD hk1 hFc ht hB [0, 1, 2, 3, 4] [(true, 0), (true, 1), (true, 2), (true, 3), (true, 4)] rfl (by decide +kernel) (by decide +kernel) rfl
  clear hP hD hS hPc hDc hFc hB hk1 hz1 hvm
  have hP := hP9
  have hD := hD9
  have hS := hS9
  clear hP9 hD9 hS9
  obtain ⟨f5_0, f5_1, f5_2, f5_3, f5_4, f5_5, f5_6, f5_7, f5_8, f5_9, f5_10, f5_11⟩ : (0 ≤ u5_0.toInt) ∧ (u5_0.toInt ≤ 246) ∧ ((-1) ≤ u5_1.toInt) ∧ (u5_1.toInt ≤ 260) ∧ (0 ≤ u5_2.toInt) ∧ (u5_2.toInt ≤ 7) ∧ (u5_1.toInt = -1 → (u5_0.toInt ≤ tsz.toInt ∧ u5_2.toInt = 6 - ((K : Nat) : Int))) ∧ (u1_0.toInt ≤ u5_0.toInt) ∧ (u5_0.toInt ≤ 240 + ((K : Nat) : Int) ∧ 6 - ((K : Nat) : Int) ≤ u5_2.toInt ∧ u5_2.toInt ≤ 7 - ((K : Nat) : Int)) ∧ (∀ x : Int × Int, zW x u1_1 u1_0 → zW (sGl (sB fB tsz.toInt) tsz.toInt oD (sUn (sB fB tsz.toInt) tsz.toInt K) x) u5_1 u5_0) ∧ (u5_1.toInt = -1 → zEr u1_3 u1_4 (520 * tx.toInt.toNat) (u1_5 tx.toInt.toNat).toInt (eL (sB fB tsz.toInt) tsz.toInt oD (sUn (sB fB tsz.toInt) tsz.toInt K) (eUn (sB fB tsz.toInt) tsz.toInt K) (sk (sB fB tsz.toInt) tsz.toInt u1_0.toInt)) u5_3 u5_4 (u5_5 tx.toInt.toNat).toInt) ∧ (zPar u5_1 u5_0 u5_3 u5_4 u5_5 tx gC gV fz (k) st (h + 1)) := hw
  have F5 := f5_9
  have F5_1 : zHid (u5_1.toInt = -1 → zEr u1_3 u1_4 (520 * tx.toInt.toNat) (u1_5 tx.toInt.toNat).toInt (eL (sB fB tsz.toInt) tsz.toInt oD (sUn (sB fB tsz.toInt) tsz.toInt K) (eUn (sB fB tsz.toInt) tsz.toInt K) (sk (sB fB tsz.toInt) tsz.toInt u1_0.toInt)) u5_3 u5_4 (u5_5 tx.toInt.toNat).toInt) := f5_10
  clear f5_10
  refine lv_aload_n hx hb dX11_condition_8 rfl (lv_at hl 0 rfl) ?_
  obtain ⟨hPc, hDc, hFc⟩ := zc3 (wc := [(h0, .inr (11, [.int th, .ref tB, .int tsz, .int u5_0, .int u5_1, .int u5_2, .ref rC, .ref rV, .ref rD, .ref rK, .ref rT, .ref rS, .ref rU, .int lw, .int tx, .ref rL, .ref rX, .ref qR, .ref qB, .ref qP, .int qnb, .int qnp, .ref aR, .ref aB, .ref aP, .int nb, .int np, .ref aN, .ref rf, .int ho, .int br, .ref aK, .int ac, .long dw, .ref aE, .int sr, .int sf, .ref aA, .ref aH, .ref aI, .int hi])), (tB, .inl (cI, 240, .inl fB)), (rC, .inl (cI, 2600, .inl u5_3)), (rV, .inl (cI, 2600, .inl u5_4)), (rD, .inl (cI, 5, .inl u5_5))]) hP hD hS hA [0, 1, 2, 3, 4] (by decide +kernel) rfl
  refine va_callv (va_runV (As := []) (rest := []) ⟨hx, hb, hml, hown, hts⟩ (ihO dC dI cI cJ h0 th tB tsz u5_0 u5_1 u5_2 rC rV rD rK rT rS rU lw tx rL rX qR qB qP qnb qnp aR aB aP nb np aN rf ho br aK ac dw aE sr sf aA aH aI hi fB u5_3 u5_4 u5_5 gC gV fz k st h H.size n_ac ⟨f5_4, f5_5⟩ n_hi n_ho n_lw n_nb n_np n_qnb n_qnp ⟨f5_0, f5_1⟩ n_tsz n_tx ⟨f5_2, f5_3⟩ (by first | exact zPar_mono f5_11 (by omega) (by omega) (by omega) (by omega)) (by first | decide | omega) (by first | decide | omega) (by first | decide | omega) (by first | decide | omega)) (cwV 0 hts (zgV qw1370 qw1372 qw51 qw108 qw1373) rfl rfl rfl hd_X11_goOnOr ⟨by (try dsimp only) <;> omega, by (try dsimp only) <;> omega⟩) (zPV hPc hK hDc (va_recv (q := (RX11, TX11, 41)) hK hP (ci := 11) (q0 := 0) rfl rfl)) rfl rfl hl.1 rfl (lv_room (Nat.le_of_ble_eq_true rfl)) dX11_condition_9 ⟨Nat.zero_le _, Nat.zero_le _⟩) hS (fun q _ h => hFc q h) hFc (fun u9 t H locs ht hvm hw hB hz1 hk1 hS9 => ?_)
  obtain ⟨u9_0, u9_1, u9_2, u9_3, u9_4, u9_5⟩ := u9
  obtain ⟨hP9, hD9⟩ := zj2 (wX := [(h0, .inr (11, [.int th, .ref tB, .int tsz, .int u9_0, .int u9_1, .int u9_2, .ref rC, .ref rV, .ref rD, .ref rK, .ref rT, .ref rS, .ref rU, .int lw, .int tx, .ref rL, .ref rX, .ref qR, .ref qB, .ref qP, .int qnb, .int qnp, .ref aR, .ref aB, .ref aP, .int nb, .int np, .ref aN, .ref rf, .int ho, .int br, .ref aK, .int ac, .long dw, .ref aE, .int sr, .int sf, .ref aA, .ref aH, .ref aI, .int hi])), (tB, .inl (cI, 240, .inl fB)), (rC, .inl (cI, 2600, .inl u9_3)), (rV, .inl (cI, 2600, .inl u9_4)), (rD, .inl (cI, 5, .inl u9_5))]) hP hD hk1 hFc ht hB [0, 1, 2, 3, 4] [(true, 0), (true, 1), (true, 2), (true, 3), (true, 4)] rfl (by decide +kernel) (by decide +kernel) rfl
  clear hP hD hS hPc hDc hFc hB hk1 hz1 hvm
  have hP := hP9
  have hD := hD9
  have hS := hS9
  clear hP9 hD9 hS9
  obtain ⟨f9_0, f9_1, f9_2, f9_3, f9_4, f9_5, f9_6, f9_7, f9_8, f9_9, f9_10, f9_11⟩ : (0 ≤ u9_0.toInt) ∧ (u9_0.toInt ≤ 246) ∧ ((-1) ≤ u9_1.toInt) ∧ (u9_1.toInt ≤ 260) ∧ (0 ≤ u9_2.toInt) ∧ (u9_2.toInt ≤ 7) ∧ (u9_1.toInt = -1 → (u9_0.toInt ≤ tsz.toInt ∧ u9_2.toInt = 6 - ((K : Nat) : Int))) ∧ (u5_0.toInt ≤ u9_0.toInt) ∧ (u9_0.toInt ≤ 240 + ((K : Nat) : Int) ∧ 6 - ((K : Nat) : Int) ≤ u9_2.toInt ∧ u9_2.toInt ≤ 7 - ((K : Nat) : Int)) ∧ (∀ x : Int × Int, zW x u5_1 u5_0 → zW (sGl (sB fB tsz.toInt) tsz.toInt oO (sTm (sB fB tsz.toInt) tsz.toInt oD (sUn (sB fB tsz.toInt) tsz.toInt K)) x) u9_1 u9_0) ∧ (u9_1.toInt = -1 → zEr u5_3 u5_4 (520 * tx.toInt.toNat) (u5_5 tx.toInt.toNat).toInt (eL (sB fB tsz.toInt) tsz.toInt oO (sTm (sB fB tsz.toInt) tsz.toInt oD (sUn (sB fB tsz.toInt) tsz.toInt K)) (eTm (sB fB tsz.toInt) tsz.toInt oD (sUn (sB fB tsz.toInt) tsz.toInt K) (eUn (sB fB tsz.toInt) tsz.toInt K)) (sk (sB fB tsz.toInt) tsz.toInt u5_0.toInt)) u9_3 u9_4 (u9_5 tx.toInt.toNat).toInt) ∧ (zPar u9_1 u9_0 u9_3 u9_4 u9_5 tx gC gV fz (k) st (h + 1)) := hw
  have F9 := f9_9
  have F9_1 : zHid (u9_1.toInt = -1 → zEr u5_3 u5_4 (520 * tx.toInt.toNat) (u5_5 tx.toInt.toNat).toInt (eL (sB fB tsz.toInt) tsz.toInt oO (sTm (sB fB tsz.toInt) tsz.toInt oD (sUn (sB fB tsz.toInt) tsz.toInt K)) (eTm (sB fB tsz.toInt) tsz.toInt oD (sUn (sB fB tsz.toInt) tsz.toInt K) (eUn (sB fB tsz.toInt) tsz.toInt K)) (sk (sB fB tsz.toInt) tsz.toInt u5_0.toInt)) u9_3 u9_4 (u9_5 tx.toInt.toNat).toInt) := f9_10
  clear f9_10
  rw [hQ]
  exact W.vret hx hb hr (fun t ht hW => ⟨⟨(u9_0, u9_1, u9_2, u9_3, u9_4, u9_5), rfl, ⟨by (try dsimp only); omega, by (try dsimp only); omega, by (try dsimp only); omega, by (try dsimp only); omega, by (try dsimp only); omega, by (try dsimp only); omega, by (try dsimp only); omega, by (try dsimp only); omega, by (try dsimp only); omega, by (try dsimp only); exact zW_to (F9 _ (F5 _ F1)) (sCon_two _ _ _ _), by (try dsimp only); exact fun hw => erTwo (sUn_mono (sB fB tsz.toInt) tsz.toInt K) rfl F1 (F5 _ F1) (F9 _ (F5 _ F1)) hw (zGlk (F5 _ F1) (F9 _ (F5 _ F1))) (zGlk F1 (F5 _ F1)) F1_1 F5_1 F9_1 (by have := hpar.2.2.1; omega) (by have := f1_11.2.2.1; omega), by (try dsimp only); first | exact zPar_mono f9_11 (by omega) (by omega) (by omega) (by omega)⟩, ⟨by rw [ht]; exact hP, hD⟩⟩, hS.F ht⟩) hS.2.2 dX11_condition_12
theorem zE_A0 (l : Launch) : zQ_X11_atom l 0 21 101 := g_X11_atom_z l 0 20 61  (by omega) (by omega)
theorem zE_T0 (l : Launch) : zQ_X11_term l 0 22 141 := g_X11_term_k l 0 21 101 (zE_A0 l) (by omega) (by omega)
theorem zE_S0 (l : Launch) : zQ_X11_sum l 0 23 181 := g_X11_sum_k l 0 22 141 (zE_T0 l) (by omega) (by omega)
theorem zE_P0 (l : Launch) : zQ_X11_compare l 0 24 221 := g_X11_compare_k l 0 23 181 (zE_S0 l) (by omega) (by omega)
theorem zE_A1 (l : Launch) : zQ_X11_atom l 1 24 221 := g_X11_atom_k l 0 23 181 (zE_S0 l) (by omega) (by omega)
theorem zE_T1 (l : Launch) : zQ_X11_term l 1 25 261 := g_X11_term_k l 1 24 221 (zE_A1 l) (by omega) (by omega)
theorem zE_S1 (l : Launch) : zQ_X11_sum l 1 26 301 := g_X11_sum_k l 1 25 261 (zE_T1 l) (by omega) (by omega)
theorem zE_P1 (l : Launch) : zQ_X11_compare l 1 27 341 := g_X11_compare_k l 1 26 301 (zE_S1 l) (by omega) (by omega)
theorem zE_A2 (l : Launch) : zQ_X11_atom l 2 27 341 := g_X11_atom_k l 1 26 301 (zE_S1 l) (by omega) (by omega)
theorem zE_T2 (l : Launch) : zQ_X11_term l 2 28 381 := g_X11_term_k l 2 27 341 (zE_A2 l) (by omega) (by omega)
theorem zE_S2 (l : Launch) : zQ_X11_sum l 2 29 421 := g_X11_sum_k l 2 28 381 (zE_T2 l) (by omega) (by omega)
theorem zE_P2 (l : Launch) : zQ_X11_compare l 2 30 461 := g_X11_compare_k l 2 29 421 (zE_S2 l) (by omega) (by omega)
theorem zE_A3 (l : Launch) : zQ_X11_atom l 3 30 461 := g_X11_atom_k l 2 29 421 (zE_S2 l) (by omega) (by omega)
theorem zE_T3 (l : Launch) : zQ_X11_term l 3 31 501 := g_X11_term_k l 3 30 461 (zE_A3 l) (by omega) (by omega)
theorem zE_S3 (l : Launch) : zQ_X11_sum l 3 32 541 := g_X11_sum_k l 3 31 501 (zE_T3 l) (by omega) (by omega)
theorem zE_P3 (l : Launch) : zQ_X11_compare l 3 33 581 := g_X11_compare_k l 3 32 541 (zE_S3 l) (by omega) (by omega)
theorem zE_A4 (l : Launch) : zQ_X11_atom l 4 33 581 := g_X11_atom_k l 3 32 541 (zE_S3 l) (by omega) (by omega)
theorem zE_T4 (l : Launch) : zQ_X11_term l 4 34 621 := g_X11_term_k l 4 33 581 (zE_A4 l) (by omega) (by omega)
theorem zE_S4 (l : Launch) : zQ_X11_sum l 4 35 661 := g_X11_sum_k l 4 34 621 (zE_T4 l) (by omega) (by omega)
theorem zE_P4 (l : Launch) : zQ_X11_compare l 4 36 701 := g_X11_compare_k l 4 35 661 (zE_S4 l) (by omega) (by omega)
theorem zE_A5 (l : Launch) : zQ_X11_atom l 5 36 701 := g_X11_atom_k l 4 35 661 (zE_S4 l) (by omega) (by omega)
theorem zE_T5 (l : Launch) : zQ_X11_term l 5 37 741 := g_X11_term_k l 5 36 701 (zE_A5 l) (by omega) (by omega)
theorem zE_S5 (l : Launch) : zQ_X11_sum l 5 38 781 := g_X11_sum_k l 5 37 741 (zE_T5 l) (by omega) (by omega)
theorem zE_P5 (l : Launch) : zQ_X11_compare l 5 39 821 := g_X11_compare_k l 5 38 781 (zE_S5 l) (by omega) (by omega)
theorem zE_A6 (l : Launch) : zQ_X11_atom l 6 39 821 := g_X11_atom_k l 5 38 781 (zE_S5 l) (by omega) (by omega)
theorem zE_T6 (l : Launch) : zQ_X11_term l 6 40 861 := g_X11_term_k l 6 39 821 (zE_A6 l) (by omega) (by omega)
theorem zE_S6 (l : Launch) : zQ_X11_sum l 6 41 901 := g_X11_sum_k l 6 40 861 (zE_T6 l) (by omega) (by omega)
theorem zE_P6 (l : Launch) : zQ_X11_compare l 6 42 941 := g_X11_compare_k l 6 41 901 (zE_S6 l) (by omega) (by omega)
theorem zE_U0 (l : Launch) : zQ_X11_unit l 0 25 261 := g_X11_unit_z l 0 24 221 23 181 24 221 (zE_S0 l) (zE_P0 l) (by omega) (by omega) (by omega)
theorem zE_G0 (l : Launch) : zQ_X11_goOnAnd l 0 26 301 := g_X11_goOnAnd_k l 0 25 261 (zE_U0 l) (by omega) (by omega)
theorem zE_O0 (l : Launch) : zQ_X11_goOnOr l 0 27 341 := g_X11_goOnOr_k l 0 26 301 25 261 26 301 (zE_U0 l) (zE_G0 l) (by omega) (by omega) (by omega)
theorem zE_C0 (l : Launch) : zQ_X11_condition l 0 28 381 := g_X11_condition_k l 0 27 341 25 261 26 301 27 341 (zE_U0 l) (zE_G0 l) (zE_O0 l) (by omega) (by omega) (by omega)
theorem zE_U1 (l : Launch) : zQ_X11_unit l 1 29 421 := g_X11_unit_k l 0 28 381 26 301 27 341 25 261 28 381 (zE_S1 l) (zE_P1 l) (zE_U0 l) (zE_C0 l) (by omega) (by omega) (by omega)
theorem zE_G1 (l : Launch) : zQ_X11_goOnAnd l 1 30 461 := g_X11_goOnAnd_k l 1 29 421 (zE_U1 l) (by omega) (by omega)
theorem zE_O1 (l : Launch) : zQ_X11_goOnOr l 1 31 501 := g_X11_goOnOr_k l 1 30 461 29 421 30 461 (zE_U1 l) (zE_G1 l) (by omega) (by omega) (by omega)
theorem zE_C1 (l : Launch) : zQ_X11_condition l 1 32 541 := g_X11_condition_k l 1 31 501 29 421 30 461 31 501 (zE_U1 l) (zE_G1 l) (zE_O1 l) (by omega) (by omega) (by omega)
theorem zE_U2 (l : Launch) : zQ_X11_unit l 2 33 581 := g_X11_unit_k l 1 32 541 29 421 30 461 29 421 32 541 (zE_S2 l) (zE_P2 l) (zE_U1 l) (zE_C1 l) (by omega) (by omega) (by omega)
theorem zE_G2 (l : Launch) : zQ_X11_goOnAnd l 2 34 621 := g_X11_goOnAnd_k l 2 33 581 (zE_U2 l) (by omega) (by omega)
theorem zE_O2 (l : Launch) : zQ_X11_goOnOr l 2 35 661 := g_X11_goOnOr_k l 2 34 621 33 581 34 621 (zE_U2 l) (zE_G2 l) (by omega) (by omega) (by omega)
theorem zE_C2 (l : Launch) : zQ_X11_condition l 2 36 701 := g_X11_condition_k l 2 35 661 33 581 34 621 35 661 (zE_U2 l) (zE_G2 l) (zE_O2 l) (by omega) (by omega) (by omega)
theorem zE_U3 (l : Launch) : zQ_X11_unit l 3 37 741 := g_X11_unit_k l 2 36 701 32 541 33 581 33 581 36 701 (zE_S3 l) (zE_P3 l) (zE_U2 l) (zE_C2 l) (by omega) (by omega) (by omega)
theorem zE_G3 (l : Launch) : zQ_X11_goOnAnd l 3 38 781 := g_X11_goOnAnd_k l 3 37 741 (zE_U3 l) (by omega) (by omega)
theorem zE_O3 (l : Launch) : zQ_X11_goOnOr l 3 39 821 := g_X11_goOnOr_k l 3 38 781 37 741 38 781 (zE_U3 l) (zE_G3 l) (by omega) (by omega) (by omega)
theorem zE_C3 (l : Launch) : zQ_X11_condition l 3 40 861 := g_X11_condition_k l 3 39 821 37 741 38 781 39 821 (zE_U3 l) (zE_G3 l) (zE_O3 l) (by omega) (by omega) (by omega)
theorem zE_U4 (l : Launch) : zQ_X11_unit l 4 41 901 := g_X11_unit_k l 3 40 861 35 661 36 701 37 741 40 861 (zE_S4 l) (zE_P4 l) (zE_U3 l) (zE_C3 l) (by omega) (by omega) (by omega)
theorem zE_G4 (l : Launch) : zQ_X11_goOnAnd l 4 42 941 := g_X11_goOnAnd_k l 4 41 901 (zE_U4 l) (by omega) (by omega)
theorem zE_O4 (l : Launch) : zQ_X11_goOnOr l 4 43 981 := g_X11_goOnOr_k l 4 42 941 41 901 42 941 (zE_U4 l) (zE_G4 l) (by omega) (by omega) (by omega)
theorem zE_C4 (l : Launch) : zQ_X11_condition l 4 44 1021 := g_X11_condition_k l 4 43 981 41 901 42 941 43 981 (zE_U4 l) (zE_G4 l) (zE_O4 l) (by omega) (by omega) (by omega)
theorem zE_U5 (l : Launch) : zQ_X11_unit l 5 45 1061 := g_X11_unit_k l 4 44 1021 38 781 39 821 41 901 44 1021 (zE_S5 l) (zE_P5 l) (zE_U4 l) (zE_C4 l) (by omega) (by omega) (by omega)
theorem zE_G5 (l : Launch) : zQ_X11_goOnAnd l 5 46 1101 := g_X11_goOnAnd_k l 5 45 1061 (zE_U5 l) (by omega) (by omega)
theorem zE_O5 (l : Launch) : zQ_X11_goOnOr l 5 47 1141 := g_X11_goOnOr_k l 5 46 1101 45 1061 46 1101 (zE_U5 l) (zE_G5 l) (by omega) (by omega) (by omega)
theorem zE_C5 (l : Launch) : zQ_X11_condition l 5 48 1181 := g_X11_condition_k l 5 47 1141 45 1061 46 1101 47 1141 (zE_U5 l) (zE_G5 l) (zE_O5 l) (by omega) (by omega) (by omega)
theorem zE_U6 (l : Launch) : zQ_X11_unit l 6 49 1221 := g_X11_unit_k l 5 48 1181 41 901 42 941 45 1061 48 1181 (zE_S6 l) (zE_P6 l) (zE_U5 l) (zE_C5 l) (by omega) (by omega) (by omega)
theorem zE_G6 (l : Launch) : zQ_X11_goOnAnd l 6 50 1261 := g_X11_goOnAnd_k l 6 49 1221 (zE_U6 l) (by omega) (by omega)
theorem zE_O6 (l : Launch) : zQ_X11_goOnOr l 6 51 1301 := g_X11_goOnOr_k l 6 50 1261 49 1221 50 1261 (zE_U6 l) (zE_G6 l) (by omega) (by omega) (by omega)
theorem zE_C6 (l : Launch) : zQ_X11_condition l 6 52 1341 := g_X11_condition_k l 6 51 1301 49 1221 50 1261 51 1301 (zE_U6 l) (zE_G6 l) (zE_O6 l) (by omega) (by omega) (by omega)
set_option maxHeartbeats 4000000 in
set_option maxRecDepth 100000 in
theorem g_X11_atEnd (l : Launch) (dC : Nat → ClassId) (dI : Nat → Nat → Nat) (cI cJ : ClassId) (h0 : Nat) (th : Int32) (tB : Nat) (tsz : Int32) (tat : Int32) (wr : Int32) (dp : Int32) (rC : Nat) (rV : Nat) (rD : Nat) (rK : Nat) (rT : Nat) (rS : Nat) (rU : Nat) (lw : Int32) (tx : Int32) (rL : Nat) (rX : Nat) (qR : Nat) (qB : Nat) (qP : Nat) (qnb : Int32) (qnp : Int32) (aR : Nat) (aB : Nat) (aP : Nat) (nb : Int32) (np : Int32) (aN : Nat) (rf : Nat) (ho : Int32) (br : Int32) (aK : Nat) (ac : Int32) (dw : Int64) (aE : Nat) (sr : Int32) (sf : Int32) (aA : Nat) (aH : Nat) (aI : Nat) (hi : Int32) (fB : Nat → Int32) (sz : Nat) (n_ac : 0 ≤ ac.toInt ∧ ac.toInt ≤ 40) (n_hi : 0 ≤ hi.toInt ∧ hi.toInt ≤ 1) (n_ho : (-1) ≤ ho.toInt ∧ ho.toInt ≤ 3) (n_lw : 0 ≤ lw.toInt ∧ lw.toInt ≤ 4) (n_nb : 0 ≤ nb.toInt ∧ nb.toInt ≤ 6) (n_np : 0 ≤ np.toInt ∧ np.toInt ≤ 5) (n_qnb : 0 ≤ qnb.toInt ∧ qnb.toInt ≤ 6) (n_qnp : 0 ≤ qnp.toInt ∧ qnp.toInt ≤ 5) (n_tat : 0 ≤ tat.toInt ∧ tat.toInt ≤ 248) (n_tsz : 0 ≤ tsz.toInt ∧ tsz.toInt ≤ 240) (n_wr : (-1) ≤ wr.toInt ∧ wr.toInt ≤ 260) (hcl : wr.toInt = -1 → tat.toInt ≤ tsz.toInt) (hty : zTy tsz fB)   : Met l yX11_atEnd (.code yX11_atEnd cX11_atEnd 1 (some .int) :: wA) ({ frames := 2, cells := 0, slots := 0, locals := 40 }) (zP (dC, dI) [(cI, .int), (cJ, .long)] [.ref h0] sz [(h0, .inr (11, [.int th, .ref tB, .int tsz, .int tat, .int wr, .int dp, .ref rC, .ref rV, .ref rD, .ref rK, .ref rT, .ref rS, .ref rU, .int lw, .int tx, .ref rL, .ref rX, .ref qR, .ref qB, .ref qP, .int qnb, .int qnp, .ref aR, .ref aB, .ref aP, .int nb, .int np, .ref aN, .ref rf, .int ho, .int br, .ref aK, .int ac, .long dw, .ref aE, .int sr, .int sf, .ref aA, .ref aH, .ref aI, .int hi])), (tB, .inl (cI, 240, .inl fB))]) (va_Qi (fun (r : Int32) (u : Int32 × Int32) => ((-1) ≤ r.toInt) ∧ (r.toInt ≤ 260) ∧ (0 ≤ u.1.toInt) ∧ (u.1.toInt ≤ 248) ∧ ((-1) ≤ u.2.toInt) ∧ (u.2.toInt ≤ 260) ∧ (r.toInt = u.2.toInt) ∧ (u.2.toInt = -1 → wr.toInt = -1) ∧ (tat.toInt ≤ u.1.toInt) ∧ (∀ x : Int × Int, zW x wr tat → r.toInt = sFin (sB fB tsz.toInt) tsz.toInt x)) (fun (u : Int32 × Int32) (t : State) => va_P (dC, dI) vwCl [(h0, .inr (11, [.int th, .ref tB, .int tsz, .int u.1, .int u.2, .int dp, .ref rC, .ref rV, .ref rD, .ref rK, .ref rT, .ref rS, .ref rU, .int lw, .int tx, .ref rL, .ref rX, .ref qR, .ref qB, .ref qP, .int qnb, .int qnp, .ref aR, .ref aB, .ref aP, .int nb, .int np, .ref aN, .ref rf, .int ho, .int br, .ref aK, .int ac, .long dw, .ref aE, .int sr, .int sf, .ref aA, .ref aH, .ref aI, .int hi])), (tB, .inl (cI, 240, .inl fB))] t.heap ∧ va_D (va_A [(h0, .inr (11, [.int th, .ref tB, .int tsz, .int tat, .int wr, .int dp, .ref rC, .ref rV, .ref rD, .ref rK, .ref rT, .ref rS, .ref rU, .int lw, .int tx, .ref rL, .ref rX, .ref qR, .ref qB, .ref qP, .int qnb, .int qnp, .ref aR, .ref aB, .ref aP, .int nb, .int np, .ref aN, .ref rf, .int ho, .int br, .ref aK, .int ac, .long dw, .ref aE, .int sr, .int sf, .ref aA, .ref aH, .ref aI, .int hi])), (tB, .inl (cI, 240, .inl fB))] sz) [(h0, .inr (11, [.int th, .ref tB, .int tsz, .int u.1, .int u.2, .int dp, .ref rC, .ref rV, .ref rD, .ref rK, .ref rT, .ref rS, .ref rU, .int lw, .int tx, .ref rL, .ref rX, .ref qR, .ref qB, .ref qP, .int qnb, .int qnp, .ref aR, .ref aB, .ref aP, .int nb, .int np, .ref aN, .ref rf, .int ho, .int br, .ref aK, .int ac, .long dw, .ref aE, .int sr, .int sf, .ref aA, .ref aH, .ref aI, .int hi])), (tB, .inl (cI, 240, .inl fB))]) (va_A [(h0, .inr (11, [.int th, .ref tB, .int tsz, .int tat, .int wr, .int dp, .ref rC, .ref rV, .ref rD, .ref rK, .ref rT, .ref rS, .ref rU, .int lw, .int tx, .ref rL, .ref rX, .ref qR, .ref qB, .ref qP, .int qnb, .int qnp, .ref aR, .ref aB, .ref aP, .int nb, .int np, .ref aN, .ref rf, .int ho, .int br, .ref aK, .int ac, .long dw, .ref aE, .int sr, .int sf, .ref aA, .ref aH, .ref aI, .int hi])), (tB, .inl (cI, 240, .inl fB))] sz)) 0 0 (va_A [(h0, .inr (11, [.int th, .ref tB, .int tsz, .int tat, .int wr, .int dp, .ref rC, .ref rV, .ref rD, .ref rK, .ref rT, .ref rS, .ref rU, .int lw, .int tx, .ref rL, .ref rX, .ref qR, .ref qB, .ref qP, .int qnb, .int qnp, .ref aR, .ref aB, .ref aP, .int nb, .int np, .ref aN, .ref rf, .int ho, .int br, .ref aK, .int ac, .long dw, .ref aE, .int sr, .int sf, .ref aA, .ref aH, .ref aI, .int hi])), (tB, .inl (cI, 240, .inl fB))] sz) := by
  refine Met.ofW (cc := cX11_atEnd) (maxL := 1) (ret := (some .int)) (by decide) rfl ?_
  intro p e s m args below meth c s₁ B hml hv
  have y_ac : zHid (0 ≤ ac.toInt ∧ ac.toInt ≤ 40) := n_ac
  have y_hi : zHid (0 ≤ hi.toInt ∧ hi.toInt ≤ 1) := n_hi
  have y_ho : zHid ((-1) ≤ ho.toInt ∧ ho.toInt ≤ 3) := n_ho
  have y_lw : zHid (0 ≤ lw.toInt ∧ lw.toInt ≤ 4) := n_lw
  have y_nb : zHid (0 ≤ nb.toInt ∧ nb.toInt ≤ 6) := n_nb
  have y_np : zHid (0 ≤ np.toInt ∧ np.toInt ≤ 5) := n_np
  have y_qnb : zHid (0 ≤ qnb.toInt ∧ qnb.toInt ≤ 6) := n_qnb
  have y_qnp : zHid (0 ≤ qnp.toInt ∧ qnp.toInt ≤ 5) := n_qnp
  clear n_ac n_hi n_ho n_lw n_nb n_np n_qnb n_qnp
  obtain ⟨hargs, hsz, hP, hK, hT⟩ := hv
  have hx := B.exec
  have hb := B.bytes
  have hr := B.returns
  have hts : ∀ w ∈ wA, w.before args s = true := fun w h => atoms_spec (ws := .code yX11_atEnd cX11_atEnd 1 (some .int) :: wA) B.pre w (List.mem_cons_of_mem _ h)
  have hown : s.vm.findClass RX11 = some m.cls := findClass_of_methodNamed B.named
  have hlocks := B.notSynchronized
  subst hsz
  have hD := hT.self (sz := s.heap.size)
  generalize hAe : va_A [(h0, .inr (11, [.int th, .ref tB, .int tsz, .int tat, .int wr, .int dp, .ref rC, .ref rV, .ref rD, .ref rK, .ref rT, .ref rS, .ref rU, .int lw, .int tx, .ref rL, .ref rX, .ref qR, .ref qB, .ref qP, .int qnb, .int qnp, .ref aR, .ref aB, .ref aP, .int nb, .int np, .ref aN, .ref rf, .int ho, .int br, .ref aK, .int ac, .long dw, .ref aE, .int sr, .int sf, .ref aA, .ref aH, .ref aI, .int hi])), (tB, .inl (cI, 240, .inl fB))] s.heap.size = A at hD ⊢
  have hA : ∀ q : Nat, s.heap.size ≤ q → A q := fun q h => by rw [← hAe]; exact Or.inr h
  have hl := lv_entry ([.ref h0]) (n := 1) (Nat.le_of_ble_eq_true rfl)
  rw [show entryFrame m args 1 = entryFrame m ([.ref h0] : List Value).toArray 1 by rw [hargs], lg_entry_eq]
  generalize (lg_sl ([.ref h0]) ++ List.replicate (1 - (lg_sl ([.ref h0])).length) Slot.unset).toArray = ls at hl ⊢
  have hl : lv_has ls 1 [(0, .ref h0)] := hl
  refine zstart (fun H hH => ?_)
  rw [← hH] at hP
  have hS : va_S A s.heap H [] := by rw [hH]; exact va_S.rf
  generalize ([] : List Loc) = locs at hS ⊢
  refine zgen (fun R Q hR hQ => ?_)
  have zm1 : (-1 : Int32).toInt = -1 := by decide
  refine lv_aload_n hx hb dX11_atEnd_0 rfl (lv_at hl 0 rfl) ?_
  refine va_get (D := (dC, dI)) (ci := 11) (v := .int wr) (C := RX11) (T := TX11) (N := 41) hx hb hts iX11 hown hK hP 0 rfl rfl 4 (by decide) (hts _ qw1131) (fun _ h9 => h9) rfl dX11_atEnd_1 ?_
  refine lv_iconst (v := (-1)) hx hb dX11_atEnd_4 (by decide) ?_
  refine lv_icmp_ne (tgt := 20) hx hb dX11_atEnd_5 (by decide) (fun c5 => ?_) (fun c5 => ?_)
  · have c5 : ¬ wr.toInt = (-1) := z6 rfl (by decide) c5
    refine lv_aload_n hx hb dX11_atEnd_20 rfl (lv_at hl 0 rfl) ?_
    refine va_get (D := (dC, dI)) (ci := 11) (v := .int wr) (C := RX11) (T := TX11) (N := 41) hx hb hts iX11 hown hK hP 0 rfl rfl 4 (by decide) (hts _ qw1131) (fun _ h9 => h9) rfl dX11_atEnd_21 ?_
    rw [hQ]
    exact W.iret (v := wr) hx hb hr (fun t ht hW => ⟨⟨wr, (tat, wr), rfl, ⟨by (try dsimp only); omega, by (try dsimp only); omega, by (try dsimp only); omega, by (try dsimp only); omega, by (try dsimp only); omega, by (try dsimp only); omega, rfl, by (try dsimp only); omega, by (try dsimp only); omega, by (try dsimp only); exact fun x hx => zfin0 hx (by omega)⟩, ⟨by rw [ht]; exact hP, hD⟩⟩, hS.F ht⟩) hS.2.2 dX11_atEnd_24
  · have c5 : wr.toInt = (-1) := z5 rfl (by decide) c5
    refine lv_aload_n hx hb dX11_atEnd_8 rfl (lv_at hl 0 rfl) ?_
    obtain ⟨hPc, hDc, hFc⟩ := zc3 (wc := [(h0, .inr (11, [.int th, .ref tB, .int tsz, .int tat, .int wr, .int dp, .ref rC, .ref rV, .ref rD, .ref rK, .ref rT, .ref rS, .ref rU, .int lw, .int tx, .ref rL, .ref rX, .ref qR, .ref qB, .ref qP, .int qnb, .int qnp, .ref aR, .ref aB, .ref aP, .int nb, .int np, .ref aN, .ref rf, .int ho, .int br, .ref aK, .int ac, .long dw, .ref aE, .int sr, .int sf, .ref aA, .ref aH, .ref aI, .int hi])), (tB, .inl (cI, 240, .inl fB))]) hP hD hS hA [0, 1] (by decide +kernel) rfl
    refine va_calli (va_runV (As := []) (rest := []) ⟨hx, hb, hml, hown, hts⟩ (g_X11_look_t l dC dI cI cJ h0 th tB tsz tat wr dp rC rV rD rK rT rS rU lw tx rL rX qR qB qP qnb qnp aR aB aP nb np aN rf ho br aK ac dw aE sr sf aA aH aI hi fB H.size y_ac y_hi y_ho y_lw y_nb y_np y_qnb y_qnp (by omega) n_tsz n_wr) (cwV 0 hts (zgV qw1273 qw1275 qw32 qw108 qw1276) rfl rfl rfl hd_X11_look ⟨by rw [hR]; exact Nat.le_of_ble_eq_true rfl, by rw [hR]; exact Nat.le_of_ble_eq_true rfl⟩) (zPV hPc hK hDc (va_recv (q := (RX11, TX11, 41)) hK hP (ci := 11) (q0 := 0) rfl rfl)) rfl rfl hl.1 rfl (lv_room (Nat.le_of_ble_eq_true rfl)) dX11_atEnd_9 ⟨Nat.zero_le _, Nat.zero_le _⟩) hS (fun q _ h => hFc q h) hFc (fun v9 u9 t H locs ht hvm hw hB hz1 hk1 hS9 => ?_)
    obtain ⟨u9_0, rfl⟩ : ∃ z, z = u9 := ⟨_, rfl⟩
    obtain ⟨hP9, hD9⟩ := zj2 (wX := [(h0, .inr (11, [.int th, .ref tB, .int tsz, .int u9_0, .int wr, .int dp, .ref rC, .ref rV, .ref rD, .ref rK, .ref rT, .ref rS, .ref rU, .int lw, .int tx, .ref rL, .ref rX, .ref qR, .ref qB, .ref qP, .int qnb, .int qnp, .ref aR, .ref aB, .ref aP, .int nb, .int np, .ref aN, .ref rf, .int ho, .int br, .ref aK, .int ac, .long dw, .ref aE, .int sr, .int sf, .ref aA, .ref aH, .ref aI, .int hi])), (tB, .inl (cI, 240, .inl fB))]) hP hD hk1 hFc ht hB [0, 1] [(true, 0), (true, 1)] rfl (by decide +kernel) (by decide +kernel) rfl
    clear hP hD hS hPc hDc hFc hB hk1 hz1 hvm
    have hP := hP9
    have hD := hD9
    have hS := hS9
    clear hP9 hD9 hS9
    obtain ⟨f9_0, f9_1, f9_2, f9_3, f9_4, f9_5⟩ : (0 ≤ u9_0.toInt) ∧ (u9_0.toInt ≤ 240) ∧ (¬ v9.toInt = -1 → u9_0.toInt < tsz.toInt) ∧ (tat.toInt ≤ u9_0.toInt) ∧ (u9_0.toInt ≤ tsz.toInt ∨ u9_0.toInt = tat.toInt) ∧ (zLk fB tsz tat v9 u9_0) := hw
    have F9 := f9_5
    refine lv_iconst (v := (-1)) hx hb dX11_atEnd_12 (by decide) ?_
    refine lv_icmp_eq (tgt := 20) hx hb dX11_atEnd_13 (by decide) (fun c13 => ?_) (fun c13 => ?_)
    · have c13 : v9.toInt = (-1) := z5 rfl (by decide) c13
      refine lv_aload_n hx hb dX11_atEnd_20 rfl (lv_at hl 0 rfl) ?_
      refine va_get (D := (dC, dI)) (ci := 11) (v := .int wr) (C := RX11) (T := TX11) (N := 41) hx hb hts iX11 hown hK hP 0 rfl rfl 4 (by decide) (hts _ qw1131) (fun _ h9 => h9) rfl dX11_atEnd_21 ?_
      rw [hQ]
      exact W.iret (v := wr) hx hb hr (fun t ht hW => ⟨⟨wr, (u9_0, wr), rfl, ⟨by (try dsimp only); omega, by (try dsimp only); omega, by (try dsimp only); omega, by (try dsimp only); omega, by (try dsimp only); omega, by (try dsimp only); omega, rfl, by (try dsimp only); omega, by (try dsimp only); omega, by (try dsimp only); exact fun x hx => zfin1 hx (by omega) F9 (by omega) (by omega) (by omega) hty⟩, ⟨by rw [ht]; exact hP, hD⟩⟩, hS.F ht⟩) hS.2.2 dX11_atEnd_24
    · have c13 : ¬ v9.toInt = (-1) := z6 rfl (by decide) c13
      refine lv_aload_n hx hb dX11_atEnd_16 rfl (lv_at hl 0 rfl) ?_
      obtain ⟨hPc, hDc, hFc⟩ := zc3 (wc := [(h0, .inr (11, [.int th, .ref tB, .int tsz, .int u9_0, .int wr, .int dp, .ref rC, .ref rV, .ref rD, .ref rK, .ref rT, .ref rS, .ref rU, .int lw, .int tx, .ref rL, .ref rX, .ref qR, .ref qB, .ref qP, .int qnb, .int qnp, .ref aR, .ref aB, .ref aP, .int nb, .int np, .ref aN, .ref rf, .int ho, .int br, .ref aK, .int ac, .long dw, .ref aE, .int sr, .int sf, .ref aA, .ref aH, .ref aI, .int hi]))]) hP hD hS hA [0] (by decide +kernel) rfl
      refine va_callv (va_runV (As := []) (rest := []) ⟨hx, hb, hml, hown, hts⟩ (g_X11_bad l dC dI cI cJ h0 th tB tsz u9_0 wr dp rC rV rD rK rT rS rU lw tx rL rX qR qB qP qnb qnp aR aB aP nb np aN rf ho br aK ac dw aE sr sf aA aH aI hi H.size y_ac y_hi y_ho y_lw y_nb y_np y_qnb y_qnp (by omega) n_tsz n_wr) (cwV 0 hts (zgV qw1301 qw1303 qw36 qw108 qw1304) rfl rfl rfl hd_X11_bad ⟨by rw [hR]; exact Nat.le_of_ble_eq_true rfl, by rw [hR]; exact Nat.le_of_ble_eq_true rfl⟩) (zPV hPc hK hDc (va_recv (q := (RX11, TX11, 41)) hK hP (ci := 11) (q0 := 0) rfl rfl)) rfl rfl hl.1 rfl (lv_room (Nat.le_of_ble_eq_true rfl)) dX11_atEnd_17 ⟨Nat.zero_le _, Nat.zero_le _⟩) hS (fun q _ h => hFc q h) hFc (fun u17 t H locs ht hvm hw hB hz1 hk1 hS9 => ?_)
      obtain ⟨u17_0, rfl⟩ : ∃ z, z = u17 := ⟨_, rfl⟩
      obtain ⟨hP9, hD9⟩ := zj2 (wX := [(h0, .inr (11, [.int th, .ref tB, .int tsz, .int u9_0, .int u17_0, .int dp, .ref rC, .ref rV, .ref rD, .ref rK, .ref rT, .ref rS, .ref rU, .int lw, .int tx, .ref rL, .ref rX, .ref qR, .ref qB, .ref qP, .int qnb, .int qnp, .ref aR, .ref aB, .ref aP, .int nb, .int np, .ref aN, .ref rf, .int ho, .int br, .ref aK, .int ac, .long dw, .ref aE, .int sr, .int sf, .ref aA, .ref aH, .ref aI, .int hi])), (tB, .inl (cI, 240, .inl fB))]) hP hD hk1 hFc ht hB [0] [(true, 0), (false, 1)] rfl (by decide +kernel) (by decide +kernel) rfl
      clear hP hD hS hPc hDc hFc hB hk1 hz1 hvm
      have hP := hP9
      have hD := hD9
      have hS := hS9
      clear hP9 hD9 hS9
      obtain ⟨f17_0, f17_1, f17_2, f17_3⟩ : (0 ≤ u17_0.toInt) ∧ (u17_0.toInt ≤ 260) ∧ (wr.toInt = -1 → u17_0.toInt = u9_0.toInt) ∧ (¬ wr.toInt = -1 → u17_0.toInt = wr.toInt) := hw
      refine lv_aload_n hx hb dX11_atEnd_20 rfl (lv_at hl 0 rfl) ?_
      refine va_get (D := (dC, dI)) (ci := 11) (v := .int u17_0) (C := RX11) (T := TX11) (N := 41) hx hb hts iX11 hown hK hP 0 rfl rfl 4 (by decide) (hts _ qw1131) (fun _ h9 => h9) rfl dX11_atEnd_21 ?_
      rw [hQ]
      exact W.iret (v := u17_0) hx hb hr (fun t ht hW => ⟨⟨u17_0, (u9_0, u17_0), rfl, ⟨by (try dsimp only); omega, by (try dsimp only); omega, by (try dsimp only); omega, by (try dsimp only); omega, by (try dsimp only); omega, by (try dsimp only); omega, rfl, by (try dsimp only); omega, by (try dsimp only); omega, by (try dsimp only); exact fun x hx => zfin2 hx (by omega) F9 (by omega) (by omega)⟩, ⟨by rw [ht]; exact hP, hD⟩⟩, hS.F ht⟩) hS.2.2 dX11_atEnd_24
set_option maxHeartbeats 4000000 in
set_option maxRecDepth 100000 in
theorem g_X11_open (l : Launch) (dC : Nat → ClassId) (dI : Nat → Nat → Nat) (cI cJ : ClassId) (h0 : Nat) (p0 : Int32) (th : Int32) (tB : Nat) (tsz : Int32) (tat : Int32) (wr : Int32) (dp : Int32) (rC : Nat) (rV : Nat) (rD : Nat) (rK : Nat) (rT : Nat) (rS : Nat) (rU : Nat) (lw : Int32) (tx : Int32) (rL : Nat) (rX : Nat) (qR : Nat) (qB : Nat) (qP : Nat) (qnb : Int32) (qnp : Int32) (aR : Nat) (aB : Nat) (aP : Nat) (nb : Int32) (np : Int32) (aN : Nat) (rf : Nat) (ho : Int32) (br : Int32) (aK : Nat) (ac : Int32) (dw : Int64) (aE : Nat) (sr : Int32) (sf : Int32) (aA : Nat) (aH : Nat) (aI : Nat) (hi : Int32) (fD : Nat → Int32) (fK : Nat → Int32) (sz : Nat) (n_ac : 0 ≤ ac.toInt ∧ ac.toInt ≤ 40) (n_hi : 0 ≤ hi.toInt ∧ hi.toInt ≤ 1) (n_ho : (-1) ≤ ho.toInt ∧ ho.toInt ≤ 3) (n_lw : 0 ≤ lw.toInt ∧ lw.toInt ≤ 4) (n_nb : 0 ≤ nb.toInt ∧ nb.toInt ≤ 6) (n_np : 0 ≤ np.toInt ∧ np.toInt ≤ 5) (n_p0 : 0 ≤ p0.toInt ∧ p0.toInt ≤ 4) (n_qnb : 0 ≤ qnb.toInt ∧ qnb.toInt ≤ 6) (n_qnp : 0 ≤ qnp.toInt ∧ qnp.toInt ≤ 5) (n_tat : 0 ≤ tat.toInt ∧ tat.toInt ≤ 260) (n_tsz : 0 ≤ tsz.toInt ∧ tsz.toInt ≤ 240) (n_wr : (-1) ≤ wr.toInt ∧ wr.toInt ≤ 260)    : Met l yX11_open (.code yX11_open cX11_open 2 none :: wA) ({ frames := 0, cells := 0, slots := 0, locals := 0 }) (zP (dC, dI) [(cI, .int), (cJ, .long)] [.ref h0, .int p0] sz [(h0, .inr (11, [.int th, .ref tB, .int tsz, .int tat, .int wr, .int dp, .ref rC, .ref rV, .ref rD, .ref rK, .ref rT, .ref rS, .ref rU, .int lw, .int tx, .ref rL, .ref rX, .ref qR, .ref qB, .ref qP, .int qnb, .int qnp, .ref aR, .ref aB, .ref aP, .int nb, .int np, .ref aN, .ref rf, .int ho, .int br, .ref aK, .int ac, .long dw, .ref aE, .int sr, .int sf, .ref aA, .ref aH, .ref aI, .int hi])), (rD, .inl (cI, 5, .inl fD)), (rK, .inl (cI, 5, .inl fK))]) (va_Qv (fun (u : (Nat → Int32) × (Nat → Int32)) => (u.1 = upd fD p0.toNatClampNeg 0) ∧ (u.2 = upd fK p0.toNatClampNeg 0)) (fun (u : (Nat → Int32) × (Nat → Int32)) (t : State) => va_P (dC, dI) vwCl [(h0, .inr (11, [.int th, .ref tB, .int tsz, .int 0, .int (-1), .int 0, .ref rC, .ref rV, .ref rD, .ref rK, .ref rT, .ref rS, .ref rU, .int lw, .int p0, .ref rL, .ref rX, .ref qR, .ref qB, .ref qP, .int qnb, .int qnp, .ref aR, .ref aB, .ref aP, .int nb, .int np, .ref aN, .ref rf, .int ho, .int br, .ref aK, .int ac, .long dw, .ref aE, .int sr, .int sf, .ref aA, .ref aH, .ref aI, .int hi])), (rD, .inl (cI, 5, .inl u.1)), (rK, .inl (cI, 5, .inl u.2))] t.heap ∧ va_D (va_A [(h0, .inr (11, [.int th, .ref tB, .int tsz, .int tat, .int wr, .int dp, .ref rC, .ref rV, .ref rD, .ref rK, .ref rT, .ref rS, .ref rU, .int lw, .int tx, .ref rL, .ref rX, .ref qR, .ref qB, .ref qP, .int qnb, .int qnp, .ref aR, .ref aB, .ref aP, .int nb, .int np, .ref aN, .ref rf, .int ho, .int br, .ref aK, .int ac, .long dw, .ref aE, .int sr, .int sf, .ref aA, .ref aH, .ref aI, .int hi])), (rD, .inl (cI, 5, .inl fD)), (rK, .inl (cI, 5, .inl fK))] sz) [(h0, .inr (11, [.int th, .ref tB, .int tsz, .int 0, .int (-1), .int 0, .ref rC, .ref rV, .ref rD, .ref rK, .ref rT, .ref rS, .ref rU, .int lw, .int p0, .ref rL, .ref rX, .ref qR, .ref qB, .ref qP, .int qnb, .int qnp, .ref aR, .ref aB, .ref aP, .int nb, .int np, .ref aN, .ref rf, .int ho, .int br, .ref aK, .int ac, .long dw, .ref aE, .int sr, .int sf, .ref aA, .ref aH, .ref aI, .int hi])), (rD, .inl (cI, 5, .inl u.1)), (rK, .inl (cI, 5, .inl u.2))]) (va_A [(h0, .inr (11, [.int th, .ref tB, .int tsz, .int tat, .int wr, .int dp, .ref rC, .ref rV, .ref rD, .ref rK, .ref rT, .ref rS, .ref rU, .int lw, .int tx, .ref rL, .ref rX, .ref qR, .ref qB, .ref qP, .int qnb, .int qnp, .ref aR, .ref aB, .ref aP, .int nb, .int np, .ref aN, .ref rf, .int ho, .int br, .ref aK, .int ac, .long dw, .ref aE, .int sr, .int sf, .ref aA, .ref aH, .ref aI, .int hi])), (rD, .inl (cI, 5, .inl fD)), (rK, .inl (cI, 5, .inl fK))] sz)) 0 0 (va_A [(h0, .inr (11, [.int th, .ref tB, .int tsz, .int tat, .int wr, .int dp, .ref rC, .ref rV, .ref rD, .ref rK, .ref rT, .ref rS, .ref rU, .int lw, .int tx, .ref rL, .ref rX, .ref qR, .ref qB, .ref qP, .int qnb, .int qnp, .ref aR, .ref aB, .ref aP, .int nb, .int np, .ref aN, .ref rf, .int ho, .int br, .ref aK, .int ac, .long dw, .ref aE, .int sr, .int sf, .ref aA, .ref aH, .ref aI, .int hi])), (rD, .inl (cI, 5, .inl fD)), (rK, .inl (cI, 5, .inl fK))] sz) := by
  refine Met.ofW (cc := cX11_open) (maxL := 2) (ret := none) (by decide) rfl ?_
  intro p e s m args below meth c s₁ B hml hv
  have y_ac : zHid (0 ≤ ac.toInt ∧ ac.toInt ≤ 40) := n_ac
  have y_hi : zHid (0 ≤ hi.toInt ∧ hi.toInt ≤ 1) := n_hi
  have y_ho : zHid ((-1) ≤ ho.toInt ∧ ho.toInt ≤ 3) := n_ho
  have y_lw : zHid (0 ≤ lw.toInt ∧ lw.toInt ≤ 4) := n_lw
  have y_nb : zHid (0 ≤ nb.toInt ∧ nb.toInt ≤ 6) := n_nb
  have y_np : zHid (0 ≤ np.toInt ∧ np.toInt ≤ 5) := n_np
  have y_qnb : zHid (0 ≤ qnb.toInt ∧ qnb.toInt ≤ 6) := n_qnb
  have y_qnp : zHid (0 ≤ qnp.toInt ∧ qnp.toInt ≤ 5) := n_qnp
  have y_tat : zHid (0 ≤ tat.toInt ∧ tat.toInt ≤ 260) := n_tat
  have y_tsz : zHid (0 ≤ tsz.toInt ∧ tsz.toInt ≤ 240) := n_tsz
  have y_wr : zHid ((-1) ≤ wr.toInt ∧ wr.toInt ≤ 260) := n_wr
  clear n_ac n_hi n_ho n_lw n_nb n_np n_qnb n_qnp n_tat n_tsz n_wr
  obtain ⟨hargs, hsz, hP, hK, hT⟩ := hv
  have hx := B.exec
  have hb := B.bytes
  have hr := B.returns
  have hts : ∀ w ∈ wA, w.before args s = true := fun w h => atoms_spec (ws := .code yX11_open cX11_open 2 none :: wA) B.pre w (List.mem_cons_of_mem _ h)
  have hown : s.vm.findClass RX11 = some m.cls := findClass_of_methodNamed B.named
  have hlocks := B.notSynchronized
  subst hsz
  have hD := hT.self (sz := s.heap.size)
  generalize hAe : va_A [(h0, .inr (11, [.int th, .ref tB, .int tsz, .int tat, .int wr, .int dp, .ref rC, .ref rV, .ref rD, .ref rK, .ref rT, .ref rS, .ref rU, .int lw, .int tx, .ref rL, .ref rX, .ref qR, .ref qB, .ref qP, .int qnb, .int qnp, .ref aR, .ref aB, .ref aP, .int nb, .int np, .ref aN, .ref rf, .int ho, .int br, .ref aK, .int ac, .long dw, .ref aE, .int sr, .int sf, .ref aA, .ref aH, .ref aI, .int hi])), (rD, .inl (cI, 5, .inl fD)), (rK, .inl (cI, 5, .inl fK))] s.heap.size = A at hD ⊢
  have hA : ∀ q : Nat, s.heap.size ≤ q → A q := fun q h => by rw [← hAe]; exact Or.inr h
  have hl := lv_entry ([.ref h0, .int p0]) (n := 2) (Nat.le_of_ble_eq_true rfl)
  rw [show entryFrame m args 2 = entryFrame m ([.ref h0, .int p0] : List Value).toArray 2 by rw [hargs], lg_entry_eq]
  generalize (lg_sl ([.ref h0, .int p0]) ++ List.replicate (2 - (lg_sl ([.ref h0, .int p0])).length) Slot.unset).toArray = ls at hl ⊢
  have hl : lv_has ls 2 [(0, .ref h0), (1, .int p0)] := hl
  refine zstart (fun H hH => ?_)
  rw [← hH] at hP
  have hS : va_S A s.heap H [] := by rw [hH]; exact va_S.rf
  generalize ([] : List Loc) = locs at hS ⊢
  refine zgen (fun R Q hR hQ => ?_)
  refine lv_aload_n hx hb dX11_open_0 rfl (lv_at hl 0 rfl) ?_
  refine lv_iload_n hx hb dX11_open_1 rfl (lv_at hl 1 rfl) ?_
  refine va_put (D := (dC, dI)) (ci := 11) (v := .int p0) (ty := .int) (C := RX11) (T := TX11) (N := 41) hx hb hts iX11 tyX11 tyX11_ok nmX11 hown hK hP hD hS 0 rfl rfl 14 (by decide) (hts _ qw1141) (fun _ h9 => h9) rfl (by decide +kernel) rfl rfl (Nat.le_of_ble_eq_true rfl) dX11_open_2 (fun H locs hP9 hD9 hS9 => ?_)
  clear hP hD hS
  obtain ⟨hP, hD⟩ := zst (wX := [(h0, .inr (11, [.int th, .ref tB, .int tsz, .int tat, .int wr, .int dp, .ref rC, .ref rV, .ref rD, .ref rK, .ref rT, .ref rS, .ref rU, .int lw, .int p0, .ref rL, .ref rX, .ref qR, .ref qB, .ref qP, .int qnb, .int qnp, .ref aR, .ref aB, .ref aP, .int nb, .int np, .ref aN, .ref rf, .int ho, .int br, .ref aK, .int ac, .long dw, .ref aE, .int sr, .int sf, .ref aA, .ref aH, .ref aI, .int hi])), (rD, .inl (cI, 5, .inl fD)), (rK, .inl (cI, 5, .inl fK))]) hP9 hD9 rfl
  have hS := hS9
  clear hP9 hD9 hS9
  refine lv_aload_n hx hb dX11_open_5 rfl (lv_at hl 0 rfl) ?_
  refine lv_iconst (v := 0) hx hb dX11_open_6 (by decide) ?_
  refine va_put (D := (dC, dI)) (ci := 11) (v := .int 0) (ty := .int) (C := RX11) (T := TX11) (N := 41) hx hb hts iX11 tyX11 tyX11_ok nmX11 hown hK hP hD hS 0 rfl rfl 3 (by decide) (hts _ qw1130) (fun _ h9 => h9) rfl (by decide +kernel) rfl rfl (Nat.le_of_ble_eq_true rfl) dX11_open_7 (fun H locs hP9 hD9 hS9 => ?_)
  clear hP hD hS
  obtain ⟨hP, hD⟩ := zst (wX := [(h0, .inr (11, [.int th, .ref tB, .int tsz, .int 0, .int wr, .int dp, .ref rC, .ref rV, .ref rD, .ref rK, .ref rT, .ref rS, .ref rU, .int lw, .int p0, .ref rL, .ref rX, .ref qR, .ref qB, .ref qP, .int qnb, .int qnp, .ref aR, .ref aB, .ref aP, .int nb, .int np, .ref aN, .ref rf, .int ho, .int br, .ref aK, .int ac, .long dw, .ref aE, .int sr, .int sf, .ref aA, .ref aH, .ref aI, .int hi])), (rD, .inl (cI, 5, .inl fD)), (rK, .inl (cI, 5, .inl fK))]) hP9 hD9 rfl
  have hS := hS9
  clear hP9 hD9 hS9
  refine lv_aload_n hx hb dX11_open_10 rfl (lv_at hl 0 rfl) ?_
  refine lv_iconst (v := (-1)) hx hb dX11_open_11 (by decide) ?_
  refine va_put (D := (dC, dI)) (ci := 11) (v := .int (-1)) (ty := .int) (C := RX11) (T := TX11) (N := 41) hx hb hts iX11 tyX11 tyX11_ok nmX11 hown hK hP hD hS 0 rfl rfl 4 (by decide) (hts _ qw1131) (fun _ h9 => h9) rfl (by decide +kernel) rfl rfl (Nat.le_of_ble_eq_true rfl) dX11_open_12 (fun H locs hP9 hD9 hS9 => ?_)
  clear hP hD hS
  obtain ⟨hP, hD⟩ := zst (wX := [(h0, .inr (11, [.int th, .ref tB, .int tsz, .int 0, .int (-1), .int dp, .ref rC, .ref rV, .ref rD, .ref rK, .ref rT, .ref rS, .ref rU, .int lw, .int p0, .ref rL, .ref rX, .ref qR, .ref qB, .ref qP, .int qnb, .int qnp, .ref aR, .ref aB, .ref aP, .int nb, .int np, .ref aN, .ref rf, .int ho, .int br, .ref aK, .int ac, .long dw, .ref aE, .int sr, .int sf, .ref aA, .ref aH, .ref aI, .int hi])), (rD, .inl (cI, 5, .inl fD)), (rK, .inl (cI, 5, .inl fK))]) hP9 hD9 rfl
  have hS := hS9
  clear hP9 hD9 hS9
  refine lv_aload_n hx hb dX11_open_15 rfl (lv_at hl 0 rfl) ?_
  refine lv_iconst (v := 0) hx hb dX11_open_16 (by decide) ?_
  refine va_put (D := (dC, dI)) (ci := 11) (v := .int 0) (ty := .int) (C := RX11) (T := TX11) (N := 41) hx hb hts iX11 tyX11 tyX11_ok nmX11 hown hK hP hD hS 0 rfl rfl 5 (by decide) (hts _ qw1132) (fun _ h9 => h9) rfl (by decide +kernel) rfl rfl (Nat.le_of_ble_eq_true rfl) dX11_open_17 (fun H locs hP9 hD9 hS9 => ?_)
  clear hP hD hS
  obtain ⟨hP, hD⟩ := zst (wX := [(h0, .inr (11, [.int th, .ref tB, .int tsz, .int 0, .int (-1), .int 0, .ref rC, .ref rV, .ref rD, .ref rK, .ref rT, .ref rS, .ref rU, .int lw, .int p0, .ref rL, .ref rX, .ref qR, .ref qB, .ref qP, .int qnb, .int qnp, .ref aR, .ref aB, .ref aP, .int nb, .int np, .ref aN, .ref rf, .int ho, .int br, .ref aK, .int ac, .long dw, .ref aE, .int sr, .int sf, .ref aA, .ref aH, .ref aI, .int hi])), (rD, .inl (cI, 5, .inl fD)), (rK, .inl (cI, 5, .inl fK))]) hP9 hD9 rfl
  have hS := hS9
  clear hP9 hD9 hS9
  refine lv_aload_n hx hb dX11_open_20 rfl (lv_at hl 0 rfl) ?_
  refine va_get (D := (dC, dI)) (ci := 11) (v := .ref rD) (C := RX11) (T := TX11) (N := 41) hx hb hts iX11 hown hK hP 0 rfl rfl 8 (by decide) (hts _ qw1135) (fun _ h9 => h9) rfl dX11_open_21 ?_
  refine lv_iload_n hx hb dX11_open_24 rfl (lv_at hl 1 rfl) ?_
  refine lv_iconst (v := 0) hx hb dX11_open_25 (by decide) ?_
  refine va_iast hx hb hK hP hD hS 1 0 rfl rfl (vp_in_iff.mpr ⟨by omega, by omega⟩) dX11_open_26 (fun H locs hP9 hD9 hS9 => ?_)
  clear hP hD hS
  obtain ⟨v26_f, e26⟩ : ∃ g : Nat → Int32, g = upd fD (p0).toNatClampNeg 0 := ⟨_, rfl⟩
  rw [← e26] at hP9 hD9
  obtain ⟨hP, hD⟩ := zst (wX := [(h0, .inr (11, [.int th, .ref tB, .int tsz, .int 0, .int (-1), .int 0, .ref rC, .ref rV, .ref rD, .ref rK, .ref rT, .ref rS, .ref rU, .int lw, .int p0, .ref rL, .ref rX, .ref qR, .ref qB, .ref qP, .int qnb, .int qnp, .ref aR, .ref aB, .ref aP, .int nb, .int np, .ref aN, .ref rf, .int ho, .int br, .ref aK, .int ac, .long dw, .ref aE, .int sr, .int sf, .ref aA, .ref aH, .ref aI, .int hi])), (rD, .inl (cI, 5, .inl v26_f)), (rK, .inl (cI, 5, .inl fK))]) hP9 hD9 rfl
  have hS := hS9
  clear hP9 hD9 hS9
  refine lv_aload_n hx hb dX11_open_27 rfl (lv_at hl 0 rfl) ?_
  refine va_get (D := (dC, dI)) (ci := 11) (v := .ref rK) (C := RX11) (T := TX11) (N := 41) hx hb hts iX11 hown hK hP 0 rfl rfl 9 (by decide) (hts _ qw1136) (fun _ h9 => h9) rfl dX11_open_28 ?_
  refine lv_iload_n hx hb dX11_open_31 rfl (lv_at hl 1 rfl) ?_
  refine lv_iconst (v := 0) hx hb dX11_open_32 (by decide) ?_
  refine va_iast hx hb hK hP hD hS 2 0 rfl rfl (vp_in_iff.mpr ⟨by omega, by omega⟩) dX11_open_33 (fun H locs hP9 hD9 hS9 => ?_)
  clear hP hD hS
  obtain ⟨v33_f, e33⟩ : ∃ g : Nat → Int32, g = upd fK (p0).toNatClampNeg 0 := ⟨_, rfl⟩
  rw [← e33] at hP9 hD9
  obtain ⟨hP, hD⟩ := zst (wX := [(h0, .inr (11, [.int th, .ref tB, .int tsz, .int 0, .int (-1), .int 0, .ref rC, .ref rV, .ref rD, .ref rK, .ref rT, .ref rS, .ref rU, .int lw, .int p0, .ref rL, .ref rX, .ref qR, .ref qB, .ref qP, .int qnb, .int qnp, .ref aR, .ref aB, .ref aP, .int nb, .int np, .ref aN, .ref rf, .int ho, .int br, .ref aK, .int ac, .long dw, .ref aE, .int sr, .int sf, .ref aA, .ref aH, .ref aI, .int hi])), (rD, .inl (cI, 5, .inl v26_f)), (rK, .inl (cI, 5, .inl v33_f))]) hP9 hD9 rfl
  have hS := hS9
  clear hP9 hD9 hS9
  rw [hQ]
  exact W.vret hx hb hr (fun t ht hW => ⟨⟨(v26_f, v33_f), rfl, ⟨e26, e33⟩, ⟨by rw [ht]; exact hP, hD⟩⟩, hS.F ht⟩) hS.2.2 dX11_open_34
