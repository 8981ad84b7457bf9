set_option maxHeartbeats 4000000 in
set_option maxRecDepth 100000 in
theorem g_X11_letter (l : Launch) (dC : Nat → ClassId) (dI : Nat → Nat → Nat) (cI cJ : ClassId) (h0 : Nat) (p0 : Int32) (th : Int32) (tB : Nat) (tsz : Int32) (tat : Int32) (wr : Int32) (dp : Int32) (rC : Nat) (rV : Nat) (rD : Nat) (rK : Nat) (rT : Nat) (rS : Nat) (rU : Nat) (lw : Int32) (tx : Int32) (rL : Nat) (rX : Nat) (qR : Nat) (qB : Nat) (qP : Nat) (qnb : Int32) (qnp : Int32) (aR : Nat) (aB : Nat) (aP : Nat) (nb : Int32) (np : Int32) (aN : Nat) (rf : Nat) (ho : Int32) (br : Int32) (aK : Nat) (ac : Int32) (dw : Int64) (aE : Nat) (sr : Int32) (sf : Int32) (aA : Nat) (aH : Nat) (aI : Nat) (hi : Int32) (fBr : Nat → Int32) (fN : Nat → Int32) (frf : Nat → Int32) (fKp : Nat → Int32) (sz : Nat) (n_ac : 0 ≤ ac.toInt ∧ ac.toInt ≤ 40) (n_hi : 0 ≤ hi.toInt ∧ hi.toInt ≤ 1) (n_ho : (-1) ≤ ho.toInt ∧ ho.toInt ≤ 3) (n_lw : 0 ≤ lw.toInt ∧ lw.toInt ≤ 4) (n_nb : 0 ≤ nb.toInt ∧ nb.toInt ≤ 6) (n_np : 0 ≤ np.toInt ∧ np.toInt ≤ 5) (n_qnb : 0 ≤ qnb.toInt ∧ qnb.toInt ≤ 6) (n_qnp : 0 ≤ qnp.toInt ∧ qnp.toInt ≤ 5) (n_tat : 0 ≤ tat.toInt ∧ tat.toInt ≤ 260) (n_tsz : 0 ≤ tsz.toInt ∧ tsz.toInt ≤ 240) (n_wr : (-1) ≤ wr.toInt ∧ wr.toInt ≤ 260)  (ci_fBr_zBr_nb : zBr nb fBr) (ci_fKp_zKp_np__F_h0_32_ : zKp np ac fKp) (ci_fN_zNw_np : zNw np fN)  : Met l yX11_letter (.code yX11_letter cX11_letter 2 (some .int) :: wA) ({ frames := 3, cells := 0, slots := 0, locals := 66 }) (zP (dC, dI) [(cI, .int), (cJ, .long)] [.ref h0, .int p0] sz [(h0, .inr (11, [.int th, .ref tB, .int tsz, .int tat, .int wr, .int dp, .ref rC, .ref rV, .ref rD, .ref rK, .ref rT, .ref rS, .ref rU, .int lw, .int tx, .ref rL, .ref rX, .ref qR, .ref qB, .ref qP, .int qnb, .int qnp, .ref aR, .ref aB, .ref aP, .int nb, .int np, .ref aN, .ref rf, .int ho, .int br, .ref aK, .int ac, .long dw, .ref aE, .int sr, .int sf, .ref aA, .ref aH, .ref aI, .int hi])), (aB, .inl (cI, 24, .inl fBr)), (aN, .inl (cI, 97, .inl fN)), (rf, .inl (cI, 5, .inl frf)), (aK, .inl (cI, 3880, .inl fKp))]) (va_Qi (fun (r : Int32) (u : Int32 × (Nat → Int32) × (Nat → Int32) × (Nat → Int32)) => ((-1) ≤ r.toInt) ∧ (r.toInt ≤ 1) ∧ (0 ≤ u.1.toInt) ∧ (u.1.toInt ≤ 40) ∧ (∀ (kc : zK3) (kT : zT) (q_fR : Nat → Int32) (q_fPa : Nat → Int32), zCn q_fR fBr q_fPa nb.toInt np.toInt kc → zKo nb.toInt np.toInt kc kT → zTr nb.toInt np.toInt kT fN fKp ac frf → r = sA (sW_tld nb.toInt kT.1 kT.1.2.2.1.1 p0 2) (if 5 ≤ (kc.2.1 (4 * p0.toInt.toNat)).toInt then 1 else 0) ∧ zTr nb.toInt np.toInt (sDo (sW_tld nb.toInt kT.1 kT.1.2.2.1.1 p0 2) kT (sN_ltr kT.1 p0)) u.2.1 u.2.2.2 u.1 u.2.2.1) ∧ (zKp np u.1 u.2.2.2) ∧ (zNw np u.2.1)) (fun (u : Int32 × (Nat → Int32) × (Nat → Int32) × (Nat → Int32)) (t : State) => va_P (dC, dI) vwCl [(h0, .inr (11, [.int th, .ref tB, .int tsz, .int tat, .int wr, .int dp, .ref rC, .ref rV, .ref rD, .ref rK, .ref rT, .ref rS, .ref rU, .int lw, .int tx, .ref rL, .ref rX, .ref qR, .ref qB, .ref qP, .int qnb, .int qnp, .ref aR, .ref aB, .ref aP, .int nb, .int np, .ref aN, .ref rf, .int ho, .int br, .ref aK, .int u.1, .long dw, .ref aE, .int sr, .int sf, .ref aA, .ref aH, .ref aI, .int hi])), (aB, .inl (cI, 24, .inl fBr)), (aN, .inl (cI, 97, .inl u.2.1)), (rf, .inl (cI, 5, .inl u.2.2.1)), (aK, .inl (cI, 3880, .inl u.2.2.2))] t.heap ∧ va_D (va_A [(h0, .inr (11, [.int th, .ref tB, .int tsz, .int tat, .int wr, .int dp, .ref rC, .ref rV, .ref rD, .ref rK, .ref rT, .ref rS, .ref rU, .int lw, .int tx, .ref rL, .ref rX, .ref qR, .ref qB, .ref qP, .int qnb, .int qnp, .ref aR, .ref aB, .ref aP, .int nb, .int np, .ref aN, .ref rf, .int ho, .int br, .ref aK, .int ac, .long dw, .ref aE, .int sr, .int sf, .ref aA, .ref aH, .ref aI, .int hi])), (aB, .inl (cI, 24, .inl fBr)), (aN, .inl (cI, 97, .inl fN)), (rf, .inl (cI, 5, .inl frf)), (aK, .inl (cI, 3880, .inl fKp))] sz) [(h0, .inr (11, [.int th, .ref tB, .int tsz, .int tat, .int wr, .int dp, .ref rC, .ref rV, .ref rD, .ref rK, .ref rT, .ref rS, .ref rU, .int lw, .int tx, .ref rL, .ref rX, .ref qR, .ref qB, .ref qP, .int qnb, .int qnp, .ref aR, .ref aB, .ref aP, .int nb, .int np, .ref aN, .ref rf, .int ho, .int br, .ref aK, .int u.1, .long dw, .ref aE, .int sr, .int sf, .ref aA, .ref aH, .ref aI, .int hi])), (aB, .inl (cI, 24, .inl fBr)), (aN, .inl (cI, 97, .inl u.2.1)), (rf, .inl (cI, 5, .inl u.2.2.1)), (aK, .inl (cI, 3880, .inl u.2.2.2))]) (va_A [(h0, .inr (11, [.int th, .ref tB, .int tsz, .int tat, .int wr, .int dp, .ref rC, .ref rV, .ref rD, .ref rK, .ref rT, .ref rS, .ref rU, .int lw, .int tx, .ref rL, .ref rX, .ref qR, .ref qB, .ref qP, .int qnb, .int qnp, .ref aR, .ref aB, .ref aP, .int nb, .int np, .ref aN, .ref rf, .int ho, .int br, .ref aK, .int ac, .long dw, .ref aE, .int sr, .int sf, .ref aA, .ref aH, .ref aI, .int hi])), (aB, .inl (cI, 24, .inl fBr)), (aN, .inl (cI, 97, .inl fN)), (rf, .inl (cI, 5, .inl frf)), (aK, .inl (cI, 3880, .inl fKp))] sz)) 0 0 (va_A [(h0, .inr (11, [.int th, .ref tB, .int tsz, .int tat, .int wr, .int dp, .ref rC, .ref rV, .ref rD, .ref rK, .ref rT, .ref rS, .ref rU, .int lw, .int tx, .ref rL, .ref rX, .ref qR, .ref qB, .ref qP, .int qnb, .int qnp, .ref aR, .ref aB, .ref aP, .int nb, .int np, .ref aN, .ref rf, .int ho, .int br, .ref aK, .int ac, .long dw, .ref aE, .int sr, .int sf, .ref aA, .ref aH, .ref aI, .int hi])), (aB, .inl (cI, 24, .inl fBr)), (aN, .inl (cI, 97, .inl fN)), (rf, .inl (cI, 5, .inl frf)), (aK, .inl (cI, 3880, .inl fKp))] sz) := by
  refine Met.ofW (cc := cX11_letter) (maxL := 2) (ret := (some .int)) (by decide) rfl ?_
  intro p e s m args below meth c s₁ B hml hv
  have y_ac : zHid (0 ≤ ac.toInt ∧ ac.toInt ≤ 40) := n_ac
  have y_hi : zHid (0 ≤ hi.toInt ∧ hi.toInt ≤ 1) := n_hi
  have y_ho : zHid ((-1) ≤ ho.toInt ∧ ho.toInt ≤ 3) := n_ho
  have y_lw : zHid (0 ≤ lw.toInt ∧ lw.toInt ≤ 4) := n_lw
  have y_qnb : zHid (0 ≤ qnb.toInt ∧ qnb.toInt ≤ 6) := n_qnb
  have y_qnp : zHid (0 ≤ qnp.toInt ∧ qnp.toInt ≤ 5) := n_qnp
  have y_tat : zHid (0 ≤ tat.toInt ∧ tat.toInt ≤ 260) := n_tat
  have y_tsz : zHid (0 ≤ tsz.toInt ∧ tsz.toInt ≤ 240) := n_tsz
  have y_wr : zHid ((-1) ≤ wr.toInt ∧ wr.toInt ≤ 260) := n_wr
  clear n_ac n_hi n_ho n_lw n_qnb n_qnp n_tat n_tsz n_wr
  obtain ⟨hargs, hsz, hP, hK, hT⟩ := hv
  have hx := B.exec
  have hb := B.bytes
  have hr := B.returns
  have hts : ∀ w ∈ wA, w.before args s = true := fun w h => atoms_spec (ws := .code yX11_letter cX11_letter 2 (some .int) :: wA) B.pre w (List.mem_cons_of_mem _ h)
  have hown : s.vm.findClass RX11 = some m.cls := findClass_of_methodNamed B.named
  have hlocks := B.notSynchronized
  subst hsz
  have hD := hT.self (sz := s.heap.size)
  generalize hAe : va_A [(h0, .inr (11, [.int th, .ref tB, .int tsz, .int tat, .int wr, .int dp, .ref rC, .ref rV, .ref rD, .ref rK, .ref rT, .ref rS, .ref rU, .int lw, .int tx, .ref rL, .ref rX, .ref qR, .ref qB, .ref qP, .int qnb, .int qnp, .ref aR, .ref aB, .ref aP, .int nb, .int np, .ref aN, .ref rf, .int ho, .int br, .ref aK, .int ac, .long dw, .ref aE, .int sr, .int sf, .ref aA, .ref aH, .ref aI, .int hi])), (aB, .inl (cI, 24, .inl fBr)), (aN, .inl (cI, 97, .inl fN)), (rf, .inl (cI, 5, .inl frf)), (aK, .inl (cI, 3880, .inl fKp))] s.heap.size = A at hD ⊢
  have hA : ∀ q : Nat, s.heap.size ≤ q → A q := fun q h => by rw [← hAe]; exact Or.inr h
  have hl := lv_entry ([.ref h0, .int p0]) (n := 2) (Nat.le_of_ble_eq_true rfl)
  rw [show entryFrame m args 2 = entryFrame m ([.ref h0, .int p0] : List Value).toArray 2 by rw [hargs], lg_entry_eq]
  generalize (lg_sl ([.ref h0, .int p0]) ++ List.replicate (2 - (lg_sl ([.ref h0, .int p0])).length) Slot.unset).toArray = ls at hl ⊢
  have hl : lv_has ls 2 [(0, .ref h0), (1, .int p0)] := hl
  refine zstart (fun H hH => ?_)
  rw [← hH] at hP
  have hS : va_S A s.heap H [] := by rw [hH]; exact va_S.rf
  generalize ([] : List Loc) = locs at hS ⊢
  refine zgen (fun R Q hR hQ => ?_)
  refine lv_aload_n hx hb dX11_letter_0 rfl (lv_at hl 0 rfl) ?_
  refine lv_bipush (v := 11) hx hb dX11_letter_1 (by decide) ?_
  refine lv_iload_n hx hb dX11_letter_3 rfl (lv_at hl 1 rfl) ?_
  refine lv_iconst (v := 2) hx hb dX11_letter_4 (by decide) ?_
  obtain ⟨hPc, hDc, hFc⟩ := zc3 (wc := [(h0, .inr (11, [.int th, .ref tB, .int tsz, .int tat, .int wr, .int dp, .ref rC, .ref rV, .ref rD, .ref rK, .ref rT, .ref rS, .ref rU, .int lw, .int tx, .ref rL, .ref rX, .ref qR, .ref qB, .ref qP, .int qnb, .int qnp, .ref aR, .ref aB, .ref aP, .int nb, .int np, .ref aN, .ref rf, .int ho, .int br, .ref aK, .int ac, .long dw, .ref aE, .int sr, .int sf, .ref aA, .ref aH, .ref aI, .int hi])), (aN, .inl (cI, 97, .inl fN)), (rf, .inl (cI, 5, .inl frf)), (aK, .inl (cI, 3880, .inl fKp))]) hP hD hS hA [0, 2, 3, 4] (by decide +kernel) rfl
  refine va_calli (va_runV (As := [.int 11, .int p0, .int 2]) (rest := []) ⟨hx, hb, hml, hown, hts⟩ (g_X11_isTold_l l dC dI cI cJ h0 p0 th tB tsz tat wr dp rC rV rD rK rT rS rU lw tx rL rX qR qB qP qnb qnp aR aB aP nb np aN rf ho br aK ac dw aE sr sf aA aH aI hi fN frf fKp H.size y_ac y_hi y_ho y_lw n_nb n_np y_qnb y_qnp y_tat y_tsz y_wr ci_fKp_zKp_np__F_h0_32_ ci_fN_zNw_np) (cwV 3 hts (zgV qw1505 qw1507 qw69 qw108 qw1508) rfl rfl rfl hd_X11_isTold ⟨by rw [hR]; exact Nat.le_of_ble_eq_true rfl, by rw [hR]; exact Nat.le_of_ble_eq_true rfl⟩) (zPV hPc hK hDc (va_recv (q := (RX11, TX11, 41)) hK hP (ci := 11) (q0 := 0) rfl rfl)) rfl rfl hl.1 rfl (lv_room (Nat.le_of_ble_eq_true rfl)) dX11_letter_5 ⟨Nat.zero_le _, Nat.zero_le _⟩) hS (fun q _ h => hFc q h) hFc (fun v5 u5 t H locs ht hvm hw hB hz1 hk1 hS9 => ?_)
  obtain ⟨u5_0, u5_1, u5_2, u5_3⟩ := u5
  obtain ⟨hP9, hD9⟩ := zj2 (wX := [(h0, .inr (11, [.int th, .ref tB, .int tsz, .int tat, .int wr, .int dp, .ref rC, .ref rV, .ref rD, .ref rK, .ref rT, .ref rS, .ref rU, .int lw, .int tx, .ref rL, .ref rX, .ref qR, .ref qB, .ref qP, .int qnb, .int qnp, .ref aR, .ref aB, .ref aP, .int nb, .int np, .ref aN, .ref rf, .int ho, .int br, .ref aK, .int u5_0, .long dw, .ref aE, .int sr, .int sf, .ref aA, .ref aH, .ref aI, .int hi])), (aB, .inl (cI, 24, .inl fBr)), (aN, .inl (cI, 97, .inl u5_1)), (rf, .inl (cI, 5, .inl u5_2)), (aK, .inl (cI, 3880, .inl u5_3))]) hP hD hk1 hFc ht hB [0, 2, 3, 4] [(true, 0), (false, 1), (true, 1), (true, 2), (true, 3)] rfl (by decide +kernel) (by decide +kernel) rfl
  clear hP hD hS hPc hDc hFc hB hk1 hz1 hvm
  have hP := hP9
  have hD := hD9
  have hS := hS9
  clear hP9 hD9 hS9
  obtain ⟨f5_0, f5_1, f5_2, f5_3, f5_4, f5_5, f5_6, f5_7⟩ : (0 ≤ v5.toInt) ∧ (v5.toInt ≤ 1) ∧ (0 ≤ u5_0.toInt) ∧ (u5_0.toInt ≤ 40) ∧ (¬ v5.toInt = 0 → (0 ≤ p0.toInt ∧ p0.toInt < nb.toInt)) ∧ (∀ (kc : zK3) (kT : zT) (q_fR : Nat → Int32) (q_fBr : Nat → Int32) (q_fPa : Nat → Int32), zCn q_fR q_fBr q_fPa nb.toInt np.toInt kc → zKo nb.toInt np.toInt kc kT → zTr nb.toInt np.toInt kT fN fKp ac frf → ((v5.toInt = 0 ∧ ¬ sW_tld nb.toInt kT.1 kT.1.2.2.1.1 p0 2 = -1) ∨ (v5.toInt = 1 ∧ sW_tld nb.toInt kT.1 kT.1.2.2.1.1 p0 2 = -1)) ∧ zTr nb.toInt np.toInt (sDo (sW_tld nb.toInt kT.1 kT.1.2.2.1.1 p0 2) kT (sN_ltr kT.1 p0)) u5_1 u5_3 u5_0 u5_2) ∧ (zKp np u5_0 u5_3) ∧ (zNw np u5_1) := hw
  have F5 := f5_5
  refine lv_if_ne (tgt := 15) hx hb dX11_letter_8 (by decide) (fun c8 => ?_) (fun c8 => ?_)
  · have c8 : ¬ v5.toInt = 0 := z6 rfl (by decide) c8
    refine lv_aload_n hx hb dX11_letter_15 rfl (lv_at hl 0 rfl) ?_
    refine lv_iload_n hx hb dX11_letter_16 rfl (lv_at hl 1 rfl) ?_
    refine lv_iconst (v := 0) hx hb dX11_letter_17 (by decide) ?_
    obtain ⟨hPc, hDc⟩ := zc2 (wc := [(h0, .inr (11, [.int th, .ref tB, .int tsz, .int tat, .int wr, .int dp, .ref rC, .ref rV, .ref rD, .ref rK, .ref rT, .ref rS, .ref rU, .int lw, .int tx, .ref rL, .ref rX, .ref qR, .ref qB, .ref qP, .int qnb, .int qnp, .ref aR, .ref aB, .ref aP, .int nb, .int np, .ref aN, .ref rf, .int ho, .int br, .ref aK, .int u5_0, .long dw, .ref aE, .int sr, .int sf, .ref aA, .ref aH, .ref aI, .int hi])), (aB, .inl (cI, 24, .inl fBr))]) hP hD [0, 1] (by decide +kernel) rfl
    have hFc := zfr hS hA
    refine va_calli (va_runV (As := [.int p0, .int 0]) (rest := []) ⟨hx, hb, hml, hown, hts⟩ (g_X11_of l dC dI cI cJ h0 p0 0 th tB tsz tat wr dp rC rV rD rK rT rS rU lw tx rL rX qR qB qP qnb qnp aR aB aP nb np aN rf ho br aK u5_0 dw aE sr sf aA aH aI hi fBr H.size ⟨f5_2, f5_3⟩ y_hi y_ho y_lw n_nb n_np (by omega) (by decide) y_qnb y_qnp y_tat y_tsz y_wr) (cwV 2 hts (zgV qw1386 qw1388 qw54 qw108 qw1389) rfl rfl rfl hd_X11_of ⟨by rw [hR]; exact Nat.le_of_ble_eq_true rfl, by rw [hR]; exact Nat.le_of_ble_eq_true rfl⟩) (zPV hPc hK hDc (va_recv (q := (RX11, TX11, 41)) hK hP (ci := 11) (q0 := 0) rfl rfl)) rfl rfl hl.1 rfl (lv_room (Nat.le_of_ble_eq_true rfl)) dX11_letter_18 ⟨Nat.zero_le _, Nat.zero_le _⟩) hS (fun q _ h => hFc q h) hFc (fun v18 u18 t H locs ht hvm hw hB hz1 hk1 hS9 => ?_)
    replace hP := zkeep hP hk1
    replace hS := hS9
    clear hPc hDc hFc hk1 hz1 hvm hS9
    have zn18_0 : (0 : Int32).toInt = 0 := by decide
    have f18_0 : (v18 = fBr (4 * p0.toInt.toNat + (0 : Int32).toInt.toNat)) := hw
    have F18 := f18_0
    refine lv_iconst (v := 5) hx hb dX11_letter_21 (by decide) ?_
    refine lv_icmp_lt (tgt := 29) hx hb dX11_letter_22 (by decide) (fun c22 => ?_) (fun c22 => ?_)
    · have c22 : v18.toInt < 5 := z1 rfl (by decide) c22
      refine lv_iconst (v := 0) hx hb dX11_letter_29 (by decide) ?_
      have zr0 : (0 : Int32).toInt = 0 := by decide
      rw [hQ]
      exact W.iret (v := 0) hx hb hr (fun t ht hW => ⟨⟨0, (u5_0, u5_1, u5_2, u5_3), rfl, ⟨by (try dsimp only); omega, by (try dsimp only); omega, by (try dsimp only); omega, by (try dsimp only); omega, by (try dsimp only); exact fun kc kT q_fR q_fPa hc hb h => by have z := F5 kc kT _ _ _ hc hb h; rcases z.1 with y | y; (exfalso; have y1 := y.1; omega); have y18 : v18 = kc.2.1 (4 * p0.toInt.toNat) := (F18.trans (congrArg fBr (show 4 * p0.toInt.toNat + (0 : Int32).toInt.toNat = 4 * p0.toInt.toNat by have : (0 : Int32).toInt = 0 := (by decide); omega))).trans (hc.2.1 _ (by omega)); have zy18 := congrArg Int32.toInt y18; exact ⟨(show _ = _ from (if_neg (by omega)).symm).trans (if_pos y.2).symm, z.2⟩, f5_6, f5_7⟩, ⟨by rw [ht]; exact hP, hD⟩⟩, hS.F ht⟩) hS.2.2 dX11_letter_30
    · have c22 : 5 ≤ v18.toInt := z2 rfl (by decide) c22
      refine lv_iconst (v := 1) hx hb dX11_letter_25 (by decide) ?_
      refine lv_goto (tgt := 30) hx hb dX11_letter_26 (by decide) ?_
      have zr0 : (1 : Int32).toInt = 1 := by decide
      rw [hQ]
      exact W.iret (v := 1) hx hb hr (fun t ht hW => ⟨⟨1, (u5_0, u5_1, u5_2, u5_3), rfl, ⟨by (try dsimp only); omega, by (try dsimp only); omega, by (try dsimp only); omega, by (try dsimp only); omega, by (try dsimp only); exact fun kc kT q_fR q_fPa hc hb h => by have z := F5 kc kT _ _ _ hc hb h; rcases z.1 with y | y; (exfalso; have y1 := y.1; omega); have y18 : v18 = kc.2.1 (4 * p0.toInt.toNat) := (F18.trans (congrArg fBr (show 4 * p0.toInt.toNat + (0 : Int32).toInt.toNat = 4 * p0.toInt.toNat by have : (0 : Int32).toInt = 0 := (by decide); omega))).trans (hc.2.1 _ (by omega)); have zy18 := congrArg Int32.toInt y18; exact ⟨(show _ = _ from (if_pos (by omega)).symm).trans (if_pos y.2).symm, z.2⟩, f5_6, f5_7⟩, ⟨by rw [ht]; exact hP, hD⟩⟩, hS.F ht⟩) hS.2.2 dX11_letter_30
  · have c8 : v5.toInt = 0 := z5 rfl (by decide) c8
    refine lv_iconst (v := (-1)) hx hb dX11_letter_11 (by decide) ?_
    refine lv_goto (tgt := 30) hx hb dX11_letter_12 (by decide) ?_
    have zr0 : ((-1) : Int32).toInt = (-1) := by decide
    rw [hQ]
    exact W.iret (v := ((-1))) hx hb hr (fun t ht hW => ⟨⟨(-1), (u5_0, u5_1, u5_2, u5_3), rfl, ⟨by (try dsimp only); omega, by (try dsimp only); omega, by (try dsimp only); omega, by (try dsimp only); omega, by (try dsimp only); exact fun kc kT q_fR q_fPa hc hb h => by have z := F5 kc kT _ _ _ hc hb h; rcases z.1 with y | y; rotate_left; (exfalso; have y1 := y.1; omega); exact ⟨(if_neg y.2).symm, z.2⟩, f5_6, f5_7⟩, ⟨by rw [ht]; exact hP, hD⟩⟩, hS.F ht⟩) hS.2.2 dX11_letter_30
set_option maxHeartbeats 4000000 in
set_option maxRecDepth 100000 in
theorem g_X11_shoe (l : Launch) (dC : Nat → ClassId) (dI : Nat → Nat → Nat) (cI cJ : ClassId) (h0 : Nat) (p0 : Int32) (th : Int32) (tB : Nat) (tsz : Int32) (tat : Int32) (wr : Int32) (dp : Int32) (rC : Nat) (rV : Nat) (rD : Nat) (rK : Nat) (rT : Nat) (rS : Nat) (rU : Nat) (lw : Int32) (tx : Int32) (rL : Nat) (rX : Nat) (qR : Nat) (qB : Nat) (qP : Nat) (qnb : Int32) (qnp : Int32) (aR : Nat) (aB : Nat) (aP : Nat) (nb : Int32) (np : Int32) (aN : Nat) (rf : Nat) (ho : Int32) (br : Int32) (aK : Nat) (ac : Int32) (dw : Int64) (aE : Nat) (sr : Int32) (sf : Int32) (aA : Nat) (aH : Nat) (aI : Nat) (hi : Int32) (fBr : Nat → Int32) (fN : Nat → Int32) (frf : Nat → Int32) (fKp : Nat → Int32) (sz : Nat) (n_ac : 0 ≤ ac.toInt ∧ ac.toInt ≤ 40) (n_hi : 0 ≤ hi.toInt ∧ hi.toInt ≤ 1) (n_ho : (-1) ≤ ho.toInt ∧ ho.toInt ≤ 3) (n_lw : 0 ≤ lw.toInt ∧ lw.toInt ≤ 4) (n_nb : 0 ≤ nb.toInt ∧ nb.toInt ≤ 6) (n_np : 0 ≤ np.toInt ∧ np.toInt ≤ 5) (n_qnb : 0 ≤ qnb.toInt ∧ qnb.toInt ≤ 6) (n_qnp : 0 ≤ qnp.toInt ∧ qnp.toInt ≤ 5) (n_tat : 0 ≤ tat.toInt ∧ tat.toInt ≤ 260) (n_tsz : 0 ≤ tsz.toInt ∧ tsz.toInt ≤ 240) (n_wr : (-1) ≤ wr.toInt ∧ wr.toInt ≤ 260)  (ci_fBr_zBr_nb : zBr nb fBr) (ci_fKp_zKp_np__F_h0_32_ : zKp np ac fKp) (ci_fN_zNw_np : zNw np fN)  : Met l yX11_shoe (.code yX11_shoe cX11_shoe 2 (some .int) :: wA) ({ frames := 3, cells := 0, slots := 0, locals := 66 }) (zP (dC, dI) [(cI, .int), (cJ, .long)] [.ref h0, .int p0] sz [(h0, .inr (11, [.int th, .ref tB, .int tsz, .int tat, .int wr, .int dp, .ref rC, .ref rV, .ref rD, .ref rK, .ref rT, .ref rS, .ref rU, .int lw, .int tx, .ref rL, .ref rX, .ref qR, .ref qB, .ref qP, .int qnb, .int qnp, .ref aR, .ref aB, .ref aP, .int nb, .int np, .ref aN, .ref rf, .int ho, .int br, .ref aK, .int ac, .long dw, .ref aE, .int sr, .int sf, .ref aA, .ref aH, .ref aI, .int hi])), (aB, .inl (cI, 24, .inl fBr)), (aN, .inl (cI, 97, .inl fN)), (rf, .inl (cI, 5, .inl frf)), (aK, .inl (cI, 3880, .inl fKp))]) (va_Qi (fun (r : Int32) (u : Int32 × (Nat → Int32) × (Nat → Int32) × (Nat → Int32)) => (0 ≤ u.1.toInt) ∧ (u.1.toInt ≤ 40) ∧ (∀ (kc : zK3) (kT : zT) (q_fR : Nat → Int32) (q_fPa : Nat → Int32), zCn q_fR fBr q_fPa nb.toInt np.toInt kc → zKo nb.toInt np.toInt kc kT → zTr nb.toInt np.toInt kT fN fKp ac frf → r = sA (sW_tld nb.toInt kT.1 kT.1.2.2.1.2.1 p0 1) (kc.2.1 (4 * p0.toInt.toNat) - kc.2.1 (4 * p0.toInt.toNat) / 2 * 2) ∧ zTr nb.toInt np.toInt (sDo (sW_tld nb.toInt kT.1 kT.1.2.2.1.2.1 p0 1) kT (sN_sho kT.1 p0)) u.2.1 u.2.2.2 u.1 u.2.2.1) ∧ (zKp np u.1 u.2.2.2) ∧ (zNw np u.2.1)) (fun (u : Int32 × (Nat → Int32) × (Nat → Int32) × (Nat → Int32)) (t : State) => va_P (dC, dI) vwCl [(h0, .inr (11, [.int th, .ref tB, .int tsz, .int tat, .int wr, .int dp, .ref rC, .ref rV, .ref rD, .ref rK, .ref rT, .ref rS, .ref rU, .int lw, .int tx, .ref rL, .ref rX, .ref qR, .ref qB, .ref qP, .int qnb, .int qnp, .ref aR, .ref aB, .ref aP, .int nb, .int np, .ref aN, .ref rf, .int ho, .int br, .ref aK, .int u.1, .long dw, .ref aE, .int sr, .int sf, .ref aA, .ref aH, .ref aI, .int hi])), (aB, .inl (cI, 24, .inl fBr)), (aN, .inl (cI, 97, .inl u.2.1)), (rf, .inl (cI, 5, .inl u.2.2.1)), (aK, .inl (cI, 3880, .inl u.2.2.2))] t.heap ∧ va_D (va_A [(h0, .inr (11, [.int th, .ref tB, .int tsz, .int tat, .int wr, .int dp, .ref rC, .ref rV, .ref rD, .ref rK, .ref rT, .ref rS, .ref rU, .int lw, .int tx, .ref rL, .ref rX, .ref qR, .ref qB, .ref qP, .int qnb, .int qnp, .ref aR, .ref aB, .ref aP, .int nb, .int np, .ref aN, .ref rf, .int ho, .int br, .ref aK, .int ac, .long dw, .ref aE, .int sr, .int sf, .ref aA, .ref aH, .ref aI, .int hi])), (aB, .inl (cI, 24, .inl fBr)), (aN, .inl (cI, 97, .inl fN)), (rf, .inl (cI, 5, .inl frf)), (aK, .inl (cI, 3880, .inl fKp))] sz) [(h0, .inr (11, [.int th, .ref tB, .int tsz, .int tat, .int wr, .int dp, .ref rC, .ref rV, .ref rD, .ref rK, .ref rT, .ref rS, .ref rU, .int lw, .int tx, .ref rL, .ref rX, .ref qR, .ref qB, .ref qP, .int qnb, .int qnp, .ref aR, .ref aB, .ref aP, .int nb, .int np, .ref aN, .ref rf, .int ho, .int br, .ref aK, .int u.1, .long dw, .ref aE, .int sr, .int sf, .ref aA, .ref aH, .ref aI, .int hi])), (aB, .inl (cI, 24, .inl fBr)), (aN, .inl (cI, 97, .inl u.2.1)), (rf, .inl (cI, 5, .inl u.2.2.1)), (aK, .inl (cI, 3880, .inl u.2.2.2))]) (va_A [(h0, .inr (11, [.int th, .ref tB, .int tsz, .int tat, .int wr, .int dp, .ref rC, .ref rV, .ref rD, .ref rK, .ref rT, .ref rS, .ref rU, .int lw, .int tx, .ref rL, .ref rX, .ref qR, .ref qB, .ref qP, .int qnb, .int qnp, .ref aR, .ref aB, .ref aP, .int nb, .int np, .ref aN, .ref rf, .int ho, .int br, .ref aK, .int ac, .long dw, .ref aE, .int sr, .int sf, .ref aA, .ref aH, .ref aI, .int hi])), (aB, .inl (cI, 24, .inl fBr)), (aN, .inl (cI, 97, .inl fN)), (rf, .inl (cI, 5, .inl frf)), (aK, .inl (cI, 3880, .inl fKp))] sz)) 0 0 (va_A [(h0, .inr (11, [.int th, .ref tB, .int tsz, .int tat, .int wr, .int dp, .ref rC, .ref rV, .ref rD, .ref rK, .ref rT, .ref rS, .ref rU, .int lw, .int tx, .ref rL, .ref rX, .ref qR, .ref qB, .ref qP, .int qnb, .int qnp, .ref aR, .ref aB, .ref aP, .int nb, .int np, .ref aN, .ref rf, .int ho, .int br, .ref aK, .int ac, .long dw, .ref aE, .int sr, .int sf, .ref aA, .ref aH, .ref aI, .int hi])), (aB, .inl (cI, 24, .inl fBr)), (aN, .inl (cI, 97, .inl fN)), (rf, .inl (cI, 5, .inl frf)), (aK, .inl (cI, 3880, .inl fKp))] sz) := by
  refine Met.ofW (cc := cX11_shoe) (maxL := 2) (ret := (some .int)) (by decide) rfl ?_
  intro p e s m args below meth c s₁ B hml hv
  have y_ac : zHid (0 ≤ ac.toInt ∧ ac.toInt ≤ 40) := n_ac
  have y_hi : zHid (0 ≤ hi.toInt ∧ hi.toInt ≤ 1) := n_hi
  have y_ho : zHid ((-1) ≤ ho.toInt ∧ ho.toInt ≤ 3) := n_ho
  have y_lw : zHid (0 ≤ lw.toInt ∧ lw.toInt ≤ 4) := n_lw
  have y_qnb : zHid (0 ≤ qnb.toInt ∧ qnb.toInt ≤ 6) := n_qnb
  have y_qnp : zHid (0 ≤ qnp.toInt ∧ qnp.toInt ≤ 5) := n_qnp
  have y_tat : zHid (0 ≤ tat.toInt ∧ tat.toInt ≤ 260) := n_tat
  have y_tsz : zHid (0 ≤ tsz.toInt ∧ tsz.toInt ≤ 240) := n_tsz
  have y_wr : zHid ((-1) ≤ wr.toInt ∧ wr.toInt ≤ 260) := n_wr
  clear n_ac n_hi n_ho n_lw n_qnb n_qnp n_tat n_tsz n_wr
  obtain ⟨hargs, hsz, hP, hK, hT⟩ := hv
  have hx := B.exec
  have hb := B.bytes
  have hr := B.returns
  have hts : ∀ w ∈ wA, w.before args s = true := fun w h => atoms_spec (ws := .code yX11_shoe cX11_shoe 2 (some .int) :: wA) B.pre w (List.mem_cons_of_mem _ h)
  have hown : s.vm.findClass RX11 = some m.cls := findClass_of_methodNamed B.named
  have hlocks := B.notSynchronized
  subst hsz
  have hD := hT.self (sz := s.heap.size)
  generalize hAe : va_A [(h0, .inr (11, [.int th, .ref tB, .int tsz, .int tat, .int wr, .int dp, .ref rC, .ref rV, .ref rD, .ref rK, .ref rT, .ref rS, .ref rU, .int lw, .int tx, .ref rL, .ref rX, .ref qR, .ref qB, .ref qP, .int qnb, .int qnp, .ref aR, .ref aB, .ref aP, .int nb, .int np, .ref aN, .ref rf, .int ho, .int br, .ref aK, .int ac, .long dw, .ref aE, .int sr, .int sf, .ref aA, .ref aH, .ref aI, .int hi])), (aB, .inl (cI, 24, .inl fBr)), (aN, .inl (cI, 97, .inl fN)), (rf, .inl (cI, 5, .inl frf)), (aK, .inl (cI, 3880, .inl fKp))] s.heap.size = A at hD ⊢
  have hA : ∀ q : Nat, s.heap.size ≤ q → A q := fun q h => by rw [← hAe]; exact Or.inr h
  have hl := lv_entry ([.ref h0, .int p0]) (n := 2) (Nat.le_of_ble_eq_true rfl)
  rw [show entryFrame m args 2 = entryFrame m ([.ref h0, .int p0] : List Value).toArray 2 by rw [hargs], lg_entry_eq]
  generalize (lg_sl ([.ref h0, .int p0]) ++ List.replicate (2 - (lg_sl ([.ref h0, .int p0])).length) Slot.unset).toArray = ls at hl ⊢
  have hl : lv_has ls 2 [(0, .ref h0), (1, .int p0)] := hl
  refine zstart (fun H hH => ?_)
  rw [← hH] at hP
  have hS : va_S A s.heap H [] := by rw [hH]; exact va_S.rf
  generalize ([] : List Loc) = locs at hS ⊢
  refine zgen (fun R Q hR hQ => ?_)
  refine lv_aload_n hx hb dX11_shoe_0 rfl (lv_at hl 0 rfl) ?_
  refine lv_bipush (v := 12) hx hb dX11_shoe_1 (by decide) ?_
  refine lv_iload_n hx hb dX11_shoe_3 rfl (lv_at hl 1 rfl) ?_
  refine lv_iconst (v := 1) hx hb dX11_shoe_4 (by decide) ?_
  obtain ⟨hPc, hDc, hFc⟩ := zc3 (wc := [(h0, .inr (11, [.int th, .ref tB, .int tsz, .int tat, .int wr, .int dp, .ref rC, .ref rV, .ref rD, .ref rK, .ref rT, .ref rS, .ref rU, .int lw, .int tx, .ref rL, .ref rX, .ref qR, .ref qB, .ref qP, .int qnb, .int qnp, .ref aR, .ref aB, .ref aP, .int nb, .int np, .ref aN, .ref rf, .int ho, .int br, .ref aK, .int ac, .long dw, .ref aE, .int sr, .int sf, .ref aA, .ref aH, .ref aI, .int hi])), (aN, .inl (cI, 97, .inl fN)), (rf, .inl (cI, 5, .inl frf)), (aK, .inl (cI, 3880, .inl fKp))]) hP hD hS hA [0, 2, 3, 4] (by decide +kernel) rfl
  refine va_calli (va_runV (As := [.int 12, .int p0, .int 1]) (rest := []) ⟨hx, hb, hml, hown, hts⟩ (g_X11_isTold_s l dC dI cI cJ h0 p0 th tB tsz tat wr dp rC rV rD rK rT rS rU lw tx rL rX qR qB qP qnb qnp aR aB aP nb np aN rf ho br aK ac dw aE sr sf aA aH aI hi fN frf fKp H.size y_ac y_hi y_ho y_lw n_nb n_np y_qnb y_qnp y_tat y_tsz y_wr ci_fKp_zKp_np__F_h0_32_ ci_fN_zNw_np) (cwV 3 hts (zgV qw1505 qw1507 qw69 qw108 qw1508) rfl rfl rfl hd_X11_isTold ⟨by rw [hR]; exact Nat.le_of_ble_eq_true rfl, by rw [hR]; exact Nat.le_of_ble_eq_true rfl⟩) (zPV hPc hK hDc (va_recv (q := (RX11, TX11, 41)) hK hP (ci := 11) (q0 := 0) rfl rfl)) rfl rfl hl.1 rfl (lv_room (Nat.le_of_ble_eq_true rfl)) dX11_shoe_5 ⟨Nat.zero_le _, Nat.zero_le _⟩) hS (fun q _ h => hFc q h) hFc (fun v5 u5 t H locs ht hvm hw hB hz1 hk1 hS9 => ?_)
  obtain ⟨u5_0, u5_1, u5_2, u5_3⟩ := u5
  obtain ⟨hP9, hD9⟩ := zj2 (wX := [(h0, .inr (11, [.int th, .ref tB, .int tsz, .int tat, .int wr, .int dp, .ref rC, .ref rV, .ref rD, .ref rK, .ref rT, .ref rS, .ref rU, .int lw, .int tx, .ref rL, .ref rX, .ref qR, .ref qB, .ref qP, .int qnb, .int qnp, .ref aR, .ref aB, .ref aP, .int nb, .int np, .ref aN, .ref rf, .int ho, .int br, .ref aK, .int u5_0, .long dw, .ref aE, .int sr, .int sf, .ref aA, .ref aH, .ref aI, .int hi])), (aB, .inl (cI, 24, .inl fBr)), (aN, .inl (cI, 97, .inl u5_1)), (rf, .inl (cI, 5, .inl u5_2)), (aK, .inl (cI, 3880, .inl u5_3))]) hP hD hk1 hFc ht hB [0, 2, 3, 4] [(true, 0), (false, 1), (true, 1), (true, 2), (true, 3)] rfl (by decide +kernel) (by decide +kernel) rfl
  clear hP hD hS hPc hDc hFc hB hk1 hz1 hvm
  have hP := hP9
  have hD := hD9
  have hS := hS9
  clear hP9 hD9 hS9
  obtain ⟨f5_0, f5_1, f5_2, f5_3, f5_4, f5_5, f5_6, f5_7⟩ : (0 ≤ v5.toInt) ∧ (v5.toInt ≤ 1) ∧ (0 ≤ u5_0.toInt) ∧ (u5_0.toInt ≤ 40) ∧ (¬ v5.toInt = 0 → (0 ≤ p0.toInt ∧ p0.toInt < nb.toInt)) ∧ (∀ (kc : zK3) (kT : zT) (q_fR : Nat → Int32) (q_fBr : Nat → Int32) (q_fPa : Nat → Int32), zCn q_fR q_fBr q_fPa nb.toInt np.toInt kc → zKo nb.toInt np.toInt kc kT → zTr nb.toInt np.toInt kT fN fKp ac frf → ((v5.toInt = 0 ∧ ¬ sW_tld nb.toInt kT.1 kT.1.2.2.1.2.1 p0 1 = -1) ∨ (v5.toInt = 1 ∧ sW_tld nb.toInt kT.1 kT.1.2.2.1.2.1 p0 1 = -1)) ∧ zTr nb.toInt np.toInt (sDo (sW_tld nb.toInt kT.1 kT.1.2.2.1.2.1 p0 1) kT (sN_sho kT.1 p0)) u5_1 u5_3 u5_0 u5_2) ∧ (zKp np u5_0 u5_3) ∧ (zNw np u5_1) := hw
  have F5 := f5_5
  refine lv_if_eq (tgt := 22) hx hb dX11_shoe_8 (by decide) (fun c8 => ?_) (fun c8 => ?_)
  · have c8 : v5.toInt = 0 := z5 rfl (by decide) c8
    refine lv_iconst (v := (-1)) hx hb dX11_shoe_22 (by decide) ?_
    have zr0 : ((-1) : Int32).toInt = (-1) := by decide
    rw [hQ]
    exact W.iret (v := ((-1))) hx hb hr (fun t ht hW => ⟨⟨(-1), (u5_0, u5_1, u5_2, u5_3), rfl, ⟨by (try dsimp only); omega, by (try dsimp only); omega, by (try dsimp only); exact fun kc kT q_fR q_fPa hc hb h => by have z := F5 kc kT _ _ _ hc hb h; rcases z.1 with y | y; rotate_left; (exfalso; have y1 := y.1; omega); exact ⟨(if_neg y.2).symm, z.2⟩, f5_6, f5_7⟩, ⟨by rw [ht]; exact hP, hD⟩⟩, hS.F ht⟩) hS.2.2 dX11_shoe_23
  · have c8 : ¬ v5.toInt = 0 := z6 rfl (by decide) c8
    refine lv_aload_n hx hb dX11_shoe_11 rfl (lv_at hl 0 rfl) ?_
    refine lv_iload_n hx hb dX11_shoe_12 rfl (lv_at hl 1 rfl) ?_
    refine lv_iconst (v := 0) hx hb dX11_shoe_13 (by decide) ?_
    obtain ⟨hPc, hDc⟩ := zc2 (wc := [(h0, .inr (11, [.int th, .ref tB, .int tsz, .int tat, .int wr, .int dp, .ref rC, .ref rV, .ref rD, .ref rK, .ref rT, .ref rS, .ref rU, .int lw, .int tx, .ref rL, .ref rX, .ref qR, .ref qB, .ref qP, .int qnb, .int qnp, .ref aR, .ref aB, .ref aP, .int nb, .int np, .ref aN, .ref rf, .int ho, .int br, .ref aK, .int u5_0, .long dw, .ref aE, .int sr, .int sf, .ref aA, .ref aH, .ref aI, .int hi])), (aB, .inl (cI, 24, .inl fBr))]) hP hD [0, 1] (by decide +kernel) rfl
    have hFc := zfr hS hA
    refine va_calli (va_runV (As := [.int p0, .int 0]) (rest := []) ⟨hx, hb, hml, hown, hts⟩ (g_X11_of l dC dI cI cJ h0 p0 0 th tB tsz tat wr dp rC rV rD rK rT rS rU lw tx rL rX qR qB qP qnb qnp aR aB aP nb np aN rf ho br aK u5_0 dw aE sr sf aA aH aI hi fBr H.size ⟨f5_2, f5_3⟩ y_hi y_ho y_lw n_nb n_np (by omega) (by decide) y_qnb y_qnp y_tat y_tsz y_wr) (cwV 2 hts (zgV qw1386 qw1388 qw54 qw108 qw1389) rfl rfl rfl hd_X11_of ⟨by rw [hR]; exact Nat.le_of_ble_eq_true rfl, by rw [hR]; exact Nat.le_of_ble_eq_true rfl⟩) (zPV hPc hK hDc (va_recv (q := (RX11, TX11, 41)) hK hP (ci := 11) (q0 := 0) rfl rfl)) rfl rfl hl.1 rfl (lv_room (Nat.le_of_ble_eq_true rfl)) dX11_shoe_14 ⟨Nat.zero_le _, Nat.zero_le _⟩) hS (fun q _ h => hFc q h) hFc (fun v14 u14 t H locs ht hvm hw hB hz1 hk1 hS9 => ?_)
    replace hP := zkeep hP hk1
    replace hS := hS9
    clear hPc hDc hFc hk1 hz1 hvm hS9
    have zn14_0 : (0 : Int32).toInt = 0 := by decide
    have f14_0 : (v14 = fBr (4 * p0.toInt.toNat + (0 : Int32).toInt.toNat)) := hw
    have F14 := f14_0
    refine lv_iconst (v := 2) hx hb dX11_shoe_17 (by decide) ?_
    refine lv_irem hx hb dX11_shoe_18 (by decide) ?_
    refine lv_topi (fun v18 e18 => ?_)
    refine lv_goto (tgt := 23) hx hb dX11_shoe_19 (by decide) ?_
    rw [hQ]
    exact W.iret (v := v18) hx hb hr (fun t ht hW => ⟨⟨v18, (u5_0, u5_1, u5_2, u5_3), rfl, ⟨by (try dsimp only); omega, by (try dsimp only); omega, by (try dsimp only); exact fun kc kT q_fR q_fPa hc hb h => by have z := F5 kc kT _ _ _ hc hb h; rcases z.1 with y | y; (exfalso; have y1 := y.1; omega); have y14 : v14 = kc.2.1 (4 * p0.toInt.toNat) := (F14.trans (congrArg fBr (show 4 * p0.toInt.toNat + (0 : Int32).toInt.toNat = 4 * p0.toInt.toNat by have : (0 : Int32).toInt = 0 := (by decide); omega))).trans (hc.2.1 _ (by omega)); have zy14 := congrArg Int32.toInt y14; exact ⟨(show _ = _ from by rw [← y14]; exact e18).trans (if_pos y.2).symm, z.2⟩, f5_6, f5_7⟩, ⟨by rw [ht]; exact hP, hD⟩⟩, hS.F ht⟩) hS.2.2 dX11_shoe_23
set_option maxHeartbeats 4000000 in
set_option maxRecDepth 100000 in
theorem g_X11_wed (l : Launch) (dC : Nat → ClassId) (dI : Nat → Nat → Nat) (cI cJ : ClassId) (h0 : Nat) (p0 : Int32) (th : Int32) (tB : Nat) (tsz : Int32) (tat : Int32) (wr : Int32) (dp : Int32) (rC : Nat) (rV : Nat) (rD : Nat) (rK : Nat) (rT : Nat) (rS : Nat) (rU : Nat) (lw : Int32) (tx : Int32) (rL : Nat) (rX : Nat) (qR : Nat) (qB : Nat) (qP : Nat) (qnb : Int32) (qnp : Int32) (aR : Nat) (aB : Nat) (aP : Nat) (nb : Int32) (np : Int32) (aN : Nat) (rf : Nat) (ho : Int32) (br : Int32) (aK : Nat) (ac : Int32) (dw : Int64) (aE : Nat) (sr : Int32) (sf : Int32) (aA : Nat) (aH : Nat) (aI : Nat) (hi : Int32) (fBr : Nat → Int32) (fN : Nat → Int32) (frf : Nat → Int32) (fKp : Nat → Int32) (sz : Nat) (n_ac : 0 ≤ ac.toInt ∧ ac.toInt ≤ 40) (n_hi : 0 ≤ hi.toInt ∧ hi.toInt ≤ 1) (n_ho : (-1) ≤ ho.toInt ∧ ho.toInt ≤ 3) (n_lw : 0 ≤ lw.toInt ∧ lw.toInt ≤ 4) (n_nb : 0 ≤ nb.toInt ∧ nb.toInt ≤ 6) (n_np : 0 ≤ np.toInt ∧ np.toInt ≤ 5) (n_qnb : 0 ≤ qnb.toInt ∧ qnb.toInt ≤ 6) (n_qnp : 0 ≤ qnp.toInt ∧ qnp.toInt ≤ 5) (n_tat : 0 ≤ tat.toInt ∧ tat.toInt ≤ 260) (n_tsz : 0 ≤ tsz.toInt ∧ tsz.toInt ≤ 240) (n_wr : (-1) ≤ wr.toInt ∧ wr.toInt ≤ 260)  (ci_fBr_zBr_nb : zBr nb fBr) (ci_fKp_zKp_np__F_h0_32_ : zKp np ac fKp) (ci_fN_zNw_np : zNw np fN)  : Met l yX11_wed (.code yX11_wed cX11_wed 2 (some .int) :: wA) ({ frames := 2, cells := 0, slots := 0, locals := 43 }) (zP (dC, dI) [(cI, .int), (cJ, .long)] [.ref h0, .int p0] sz [(h0, .inr (11, [.int th, .ref tB, .int tsz, .int tat, .int wr, .int dp, .ref rC, .ref rV, .ref rD, .ref rK, .ref rT, .ref rS, .ref rU, .int lw, .int tx, .ref rL, .ref rX, .ref qR, .ref qB, .ref qP, .int qnb, .int qnp, .ref aR, .ref aB, .ref aP, .int nb, .int np, .ref aN, .ref rf, .int ho, .int br, .ref aK, .int ac, .long dw, .ref aE, .int sr, .int sf, .ref aA, .ref aH, .ref aI, .int hi])), (aB, .inl (cI, 24, .inl fBr)), (aN, .inl (cI, 97, .inl fN)), (rf, .inl (cI, 5, .inl frf)), (aK, .inl (cI, 3880, .inl fKp))]) (va_Qi (fun (r : Int32) (u : Int32 × (Nat → Int32) × (Nat → Int32) × (Nat → Int32)) => (0 ≤ u.1.toInt) ∧ (u.1.toInt ≤ 40) ∧ (∀ (kc : zK3) (kT : zT) (q_fR : Nat → Int32) (q_fPa : Nat → Int32), zCn q_fR fBr q_fPa nb.toInt np.toInt kc → zKo nb.toInt np.toInt kc kT → zTr nb.toInt np.toInt kT fN fKp ac frf → r = sA (sW_wed nb.toInt kT.1 p0) (sMin 999 (kT.1.2.2.2.1.1 + kc.2.1 (4 * p0.toInt.toNat + 1) / 10)) ∧ zTr nb.toInt np.toInt (sDo (sW_wed nb.toInt kT.1 p0) kT (sN_wed kc kT.1 p0)) u.2.1 u.2.2.2 u.1 u.2.2.1) ∧ (zKp np u.1 u.2.2.2) ∧ (zNw np u.2.1)) (fun (u : Int32 × (Nat → Int32) × (Nat → Int32) × (Nat → Int32)) (t : State) => va_P (dC, dI) vwCl [(h0, .inr (11, [.int th, .ref tB, .int tsz, .int tat, .int wr, .int dp, .ref rC, .ref rV, .ref rD, .ref rK, .ref rT, .ref rS, .ref rU, .int lw, .int tx, .ref rL, .ref rX, .ref qR, .ref qB, .ref qP, .int qnb, .int qnp, .ref aR, .ref aB, .ref aP, .int nb, .int np, .ref aN, .ref rf, .int ho, .int br, .ref aK, .int u.1, .long dw, .ref aE, .int sr, .int sf, .ref aA, .ref aH, .ref aI, .int hi])), (aB, .inl (cI, 24, .inl fBr)), (aN, .inl (cI, 97, .inl u.2.1)), (rf, .inl (cI, 5, .inl u.2.2.1)), (aK, .inl (cI, 3880, .inl u.2.2.2))] t.heap ∧ va_D (va_A [(h0, .inr (11, [.int th, .ref tB, .int tsz, .int tat, .int wr, .int dp, .ref rC, .ref rV, .ref rD, .ref rK, .ref rT, .ref rS, .ref rU, .int lw, .int tx, .ref rL, .ref rX, .ref qR, .ref qB, .ref qP, .int qnb, .int qnp, .ref aR, .ref aB, .ref aP, .int nb, .int np, .ref aN, .ref rf, .int ho, .int br, .ref aK, .int ac, .long dw, .ref aE, .int sr, .int sf, .ref aA, .ref aH, .ref aI, .int hi])), (aB, .inl (cI, 24, .inl fBr)), (aN, .inl (cI, 97, .inl fN)), (rf, .inl (cI, 5, .inl frf)), (aK, .inl (cI, 3880, .inl fKp))] sz) [(h0, .inr (11, [.int th, .ref tB, .int tsz, .int tat, .int wr, .int dp, .ref rC, .ref rV, .ref rD, .ref rK, .ref rT, .ref rS, .ref rU, .int lw, .int tx, .ref rL, .ref rX, .ref qR, .ref qB, .ref qP, .int qnb, .int qnp, .ref aR, .ref aB, .ref aP, .int nb, .int np, .ref aN, .ref rf, .int ho, .int br, .ref aK, .int u.1, .long dw, .ref aE, .int sr, .int sf, .ref aA, .ref aH, .ref aI, .int hi])), (aB, .inl (cI, 24, .inl fBr)), (aN, .inl (cI, 97, .inl u.2.1)), (rf, .inl (cI, 5, .inl u.2.2.1)), (aK, .inl (cI, 3880, .inl u.2.2.2))]) (va_A [(h0, .inr (11, [.int th, .ref tB, .int tsz, .int tat, .int wr, .int dp, .ref rC, .ref rV, .ref rD, .ref rK, .ref rT, .ref rS, .ref rU, .int lw, .int tx, .ref rL, .ref rX, .ref qR, .ref qB, .ref qP, .int qnb, .int qnp, .ref aR, .ref aB, .ref aP, .int nb, .int np, .ref aN, .ref rf, .int ho, .int br, .ref aK, .int ac, .long dw, .ref aE, .int sr, .int sf, .ref aA, .ref aH, .ref aI, .int hi])), (aB, .inl (cI, 24, .inl fBr)), (aN, .inl (cI, 97, .inl fN)), (rf, .inl (cI, 5, .inl frf)), (aK, .inl (cI, 3880, .inl fKp))] sz)) 0 0 (va_A [(h0, .inr (11, [.int th, .ref tB, .int tsz, .int tat, .int wr, .int dp, .ref rC, .ref rV, .ref rD, .ref rK, .ref rT, .ref rS, .ref rU, .int lw, .int tx, .ref rL, .ref rX, .ref qR, .ref qB, .ref qP, .int qnb, .int qnp, .ref aR, .ref aB, .ref aP, .int nb, .int np, .ref aN, .ref rf, .int ho, .int br, .ref aK, .int ac, .long dw, .ref aE, .int sr, .int sf, .ref aA, .ref aH, .ref aI, .int hi])), (aB, .inl (cI, 24, .inl fBr)), (aN, .inl (cI, 97, .inl fN)), (rf, .inl (cI, 5, .inl frf)), (aK, .inl (cI, 3880, .inl fKp))] sz) := by
  refine Met.ofW (cc := cX11_wed) (maxL := 2) (ret := (some .int)) (by decide) rfl ?_
  intro p e s m args below meth c s₁ B hml hv
  have y_hi : zHid (0 ≤ hi.toInt ∧ hi.toInt ≤ 1) := n_hi
  have y_ho : zHid ((-1) ≤ ho.toInt ∧ ho.toInt ≤ 3) := n_ho
  have y_lw : zHid (0 ≤ lw.toInt ∧ lw.toInt ≤ 4) := n_lw
  have y_qnb : zHid (0 ≤ qnb.toInt ∧ qnb.toInt ≤ 6) := n_qnb
  have y_qnp : zHid (0 ≤ qnp.toInt ∧ qnp.toInt ≤ 5) := n_qnp
  have y_tat : zHid (0 ≤ tat.toInt ∧ tat.toInt ≤ 260) := n_tat
  have y_tsz : zHid (0 ≤ tsz.toInt ∧ tsz.toInt ≤ 240) := n_tsz
  have y_wr : zHid ((-1) ≤ wr.toInt ∧ wr.toInt ≤ 260) := n_wr
  clear n_hi n_ho n_lw n_qnb n_qnp n_tat n_tsz n_wr
  obtain ⟨hargs, hsz, hP, hK, hT⟩ := hv
  have hx := B.exec
  have hb := B.bytes
  have hr := B.returns
  have hts : ∀ w ∈ wA, w.before args s = true := fun w h => atoms_spec (ws := .code yX11_wed cX11_wed 2 (some .int) :: wA) B.pre w (List.mem_cons_of_mem _ h)
  have hown : s.vm.findClass RX11 = some m.cls := findClass_of_methodNamed B.named
  have hlocks := B.notSynchronized
  subst hsz
  have hD := hT.self (sz := s.heap.size)
  generalize hAe : va_A [(h0, .inr (11, [.int th, .ref tB, .int tsz, .int tat, .int wr, .int dp, .ref rC, .ref rV, .ref rD, .ref rK, .ref rT, .ref rS, .ref rU, .int lw, .int tx, .ref rL, .ref rX, .ref qR, .ref qB, .ref qP, .int qnb, .int qnp, .ref aR, .ref aB, .ref aP, .int nb, .int np, .ref aN, .ref rf, .int ho, .int br, .ref aK, .int ac, .long dw, .ref aE, .int sr, .int sf, .ref aA, .ref aH, .ref aI, .int hi])), (aB, .inl (cI, 24, .inl fBr)), (aN, .inl (cI, 97, .inl fN)), (rf, .inl (cI, 5, .inl frf)), (aK, .inl (cI, 3880, .inl fKp))] s.heap.size = A at hD ⊢
  have hA : ∀ q : Nat, s.heap.size ≤ q → A q := fun q h => by rw [← hAe]; exact Or.inr h
  have hl := lv_entry ([.ref h0, .int p0]) (n := 2) (Nat.le_of_ble_eq_true rfl)
  rw [show entryFrame m args 2 = entryFrame m ([.ref h0, .int p0] : List Value).toArray 2 by rw [hargs], lg_entry_eq]
  generalize (lg_sl ([.ref h0, .int p0]) ++ List.replicate (2 - (lg_sl ([.ref h0, .int p0])).length) Slot.unset).toArray = ls at hl ⊢
  have hl : lv_has ls 2 [(0, .ref h0), (1, .int p0)] := hl
  refine zstart (fun H hH => ?_)
  rw [← hH] at hP
  have hS : va_S A s.heap H [] := by rw [hH]; exact va_S.rf
  generalize ([] : List Loc) = locs at hS ⊢
  refine zgen (fun R Q hR hQ => ?_)
  refine lv_aload_n hx hb dX11_wed_0 rfl (lv_at hl 0 rfl) ?_
  refine lv_aload_n hx hb dX11_wed_1 rfl (lv_at hl 0 rfl) ?_
  refine lv_iload_n hx hb dX11_wed_2 rfl (lv_at hl 1 rfl) ?_
  obtain ⟨hPc, hDc⟩ := zc2 (wc := [(h0, .inr (11, [.int th, .ref tB, .int tsz, .int tat, .int wr, .int dp, .ref rC, .ref rV, .ref rD, .ref rK, .ref rT, .ref rS, .ref rU, .int lw, .int tx, .ref rL, .ref rX, .ref qR, .ref qB, .ref qP, .int qnb, .int qnp, .ref aR, .ref aB, .ref aP, .int nb, .int np, .ref aN, .ref rf, .int ho, .int br, .ref aK, .int ac, .long dw, .ref aE, .int sr, .int sf, .ref aA, .ref aH, .ref aI, .int hi]))]) hP hD [0] (by decide +kernel) rfl
  have hFc := zfr hS hA
  refine va_calli (va_runV (As := [.int p0]) (rest := [.ref h0]) ⟨hx, hb, hml, hown, hts⟩ (g_X11_isBride l dC dI cI cJ h0 p0 th tB tsz tat wr dp rC rV rD rK rT rS rU lw tx rL rX qR qB qP qnb qnp aR aB aP nb np aN rf ho br aK ac dw aE sr sf aA aH aI hi H.size n_ac y_hi y_ho y_lw n_nb n_np y_qnb y_qnp y_tat y_tsz y_wr) (cwV 1 hts (zgV qw1402 qw1404 qw56 qw108 qw1405) rfl rfl rfl hd_X11_isBride ⟨by rw [hR]; exact Nat.le_of_ble_eq_true rfl, by rw [hR]; exact Nat.le_of_ble_eq_true rfl⟩) (zPV hPc hK hDc (va_recv (q := (RX11, TX11, 41)) hK hP (ci := 11) (q0 := 0) rfl rfl)) rfl rfl hl.1 rfl (lv_room (Nat.le_of_ble_eq_true rfl)) dX11_wed_3 ⟨Nat.zero_le _, Nat.zero_le _⟩) hS (fun q _ h => hFc q h) hFc (fun v3 u3 t H locs ht hvm hw hB hz1 hk1 hS9 => ?_)
  replace hP := zkeep hP hk1
  replace hS := hS9
  clear hPc hDc hFc hk1 hz1 hvm hS9
  obtain ⟨f3_0, f3_1, f3_2, f3_3⟩ : (0 ≤ v3.toInt) ∧ (v3.toInt ≤ 1) ∧ (¬ v3.toInt = 0 → (0 ≤ p0.toInt ∧ p0.toInt < nb.toInt)) ∧ (v3.toInt = 0 → ¬ (0 ≤ p0.toInt ∧ p0.toInt < nb.toInt)) := hw
  refine lv_if_ne (tgt := 13) hx hb dX11_wed_6 (by decide) (fun c6 => ?_) (fun c6 => ?_)
  · have c6 : ¬ v3.toInt = 0 := z6 rfl (by decide) c6
    refine lv_aload_n hx hb dX11_wed_13 rfl (lv_at hl 0 rfl) ?_
    refine va_get (D := (dC, dI)) (ci := 11) (v := .ref aN) (C := RX11) (T := TX11) (N := 41) hx hb hts iX11 hown hK hP 0 rfl rfl 27 (by decide) (hts _ qw1154) (fun _ h9 => h9) rfl dX11_wed_14 ?_
    refine lv_bipush (v := 13) hx hb dX11_wed_17 (by decide) ?_
    refine va_iald hx hb hK hP 2 0 rfl rfl (by unfold vp_in; decide) dX11_wed_19 ?_
    refine lv_topi (fun v19 e19 => ?_)
    have i19 : v19.toInt = (fN 13).toInt ∧ 0 ≤ v19.toInt ∧ v19.toInt ≤ 6 := zNw_13 ci_fN_zNw_np e19
    refine lv_if_le (tgt := 27) hx hb dX11_wed_20 (by decide) (fun c20 => ?_) (fun c20 => ?_)
    · have c20 : v19.toInt ≤ 0 := z3 rfl (by decide) c20
      refine lv_iconst (v := (-1)) hx hb dX11_wed_27 (by decide) ?_
      obtain ⟨hPc, hDc, hFc⟩ := zc3 (wc := [(h0, .inr (11, [.int th, .ref tB, .int tsz, .int tat, .int wr, .int dp, .ref rC, .ref rV, .ref rD, .ref rK, .ref rT, .ref rS, .ref rU, .int lw, .int tx, .ref rL, .ref rX, .ref qR, .ref qB, .ref qP, .int qnb, .int qnp, .ref aR, .ref aB, .ref aP, .int nb, .int np, .ref aN, .ref rf, .int ho, .int br, .ref aK, .int ac, .long dw, .ref aE, .int sr, .int sf, .ref aA, .ref aH, .ref aI, .int hi])), (rf, .inl (cI, 5, .inl frf))]) hP hD hS hA [0, 3] (by decide +kernel) rfl
      refine va_calli (va_runV (As := [.int (-1)]) (rest := []) ⟨hx, hb, hml, hown, hts⟩ (g_X11_isRefused l dC dI cI cJ h0 ((-1)) th tB tsz tat wr dp rC rV rD rK rT rS rU lw tx rL rX qR qB qP qnb qnp aR aB aP nb np aN rf ho br aK ac dw aE sr sf aA aH aI hi frf H.size n_ac y_hi y_ho y_lw n_nb n_np (by decide) y_qnb y_qnp y_tat y_tsz y_wr) (cwV 1 hts (zgV qw1481 qw1483 qw66 qw108 qw1484) rfl rfl rfl hd_X11_isRefused ⟨by rw [hR]; exact Nat.le_of_ble_eq_true rfl, by rw [hR]; exact Nat.le_of_ble_eq_true rfl⟩) (zPV hPc hK hDc (va_recv (q := (RX11, TX11, 41)) hK hP (ci := 11) (q0 := 0) rfl rfl)) rfl rfl hl.1 rfl (lv_room (Nat.le_of_ble_eq_true rfl)) dX11_wed_28 ⟨Nat.zero_le _, Nat.zero_le _⟩) hS (fun q _ h => hFc q h) hFc (fun v28 u28 t H locs ht hvm hw hB hz1 hk1 hS9 => ?_)
      obtain ⟨u28_0, rfl⟩ : ∃ z, z = u28 := ⟨_, rfl⟩
      obtain ⟨hP9, hD9⟩ := zj2 (wX := [(h0, .inr (11, [.int th, .ref tB, .int tsz, .int tat, .int wr, .int dp, .ref rC, .ref rV, .ref rD, .ref rK, .ref rT, .ref rS, .ref rU, .int lw, .int tx, .ref rL, .ref rX, .ref qR, .ref qB, .ref qP, .int qnb, .int qnp, .ref aR, .ref aB, .ref aP, .int nb, .int np, .ref aN, .ref rf, .int ho, .int br, .ref aK, .int ac, .long dw, .ref aE, .int sr, .int sf, .ref aA, .ref aH, .ref aI, .int hi])), (aB, .inl (cI, 24, .inl fBr)), (aN, .inl (cI, 97, .inl fN)), (rf, .inl (cI, 5, .inl u28_0)), (aK, .inl (cI, 3880, .inl fKp))]) hP hD hk1 hFc ht hB [0, 3] [(true, 0), (false, 1), (false, 2), (true, 1), (false, 4)] rfl (by decide +kernel) (by decide +kernel) rfl
      clear hP hD hS hPc hDc hFc hB hk1 hz1 hvm
      have hP := hP9
      have hD := hD9
      have hS := hS9
      clear hP9 hD9 hS9
      have zn28_m1 : (-1 : Int32).toInt = -1 := by decide
      obtain ⟨f28_0, f28_1, f28_2, f28_3⟩ : (0 ≤ v28.toInt) ∧ (v28.toInt ≤ 1) ∧ (v28.toInt = 0 → (-1 : Int32).toInt = -1) ∧ ((v28.toInt = 0 ∧ (-1 : Int32).toInt = -1 ∧ u28_0 = frf) ∨ (v28.toInt = 1 ∧ ¬ (-1 : Int32).toInt = -1 ∧ zRf frf u28_0 (-1 : Int32).toInt)) := hw
      have F28 := f28_3
      refine lv_if_eq (tgt := 36) hx hb dX11_wed_31 (by decide) (fun c31 => ?_) (fun c31 => ?_)
      · have c31 : v28.toInt = 0 := z5 rfl (by decide) c31
        refine lv_aload_n hx hb dX11_wed_36 rfl (lv_at hl 0 rfl) ?_
        obtain ⟨hPc, hDc, hFc⟩ := zc3 (wc := [(h0, .inr (11, [.int th, .ref tB, .int tsz, .int tat, .int wr, .int dp, .ref rC, .ref rV, .ref rD, .ref rK, .ref rT, .ref rS, .ref rU, .int lw, .int tx, .ref rL, .ref rX, .ref qR, .ref qB, .ref qP, .int qnb, .int qnp, .ref aR, .ref aB, .ref aP, .int nb, .int np, .ref aN, .ref rf, .int ho, .int br, .ref aK, .int ac, .long dw, .ref aE, .int sr, .int sf, .ref aA, .ref aH, .ref aI, .int hi])), (aN, .inl (cI, 97, .inl fN)), (aK, .inl (cI, 3880, .inl fKp))]) hP hD hS hA [0, 2, 4] (by decide +kernel) rfl
        refine va_callv (va_runV (As := []) (rest := []) ⟨hx, hb, hml, hown, hts⟩ (g_X11_keep l dC dI cI cJ h0 th tB tsz tat wr dp rC rV rD rK rT rS rU lw tx rL rX qR qB qP qnb qnp aR aB aP nb np aN rf ho br aK ac dw aE sr sf aA aH aI hi fN fKp H.size n_ac y_hi y_ho y_lw n_nb n_np y_qnb y_qnp y_tat y_tsz y_wr ci_fKp_zKp_np__F_h0_32_ ci_fN_zNw_np) (cwV 0 hts (zgV qw1485 qw1487 qw67 qw108 qw1488) rfl rfl rfl hd_X11_keep ⟨by rw [hR]; exact Nat.le_of_ble_eq_true rfl, by rw [hR]; exact Nat.le_of_ble_eq_true rfl⟩) (zPV hPc hK hDc (va_recv (q := (RX11, TX11, 41)) hK hP (ci := 11) (q0 := 0) rfl rfl)) rfl rfl hl.1 rfl (lv_room (Nat.le_of_ble_eq_true rfl)) dX11_wed_37 ⟨Nat.zero_le _, Nat.zero_le _⟩) hS (fun q _ h => hFc q h) hFc (fun u37 t H locs ht hvm hw hB hz1 hk1 hS9 => ?_)
        obtain ⟨u37_0, u37_1⟩ := u37
        obtain ⟨hP9, hD9⟩ := zj2 (wX := [(h0, .inr (11, [.int th, .ref tB, .int tsz, .int tat, .int wr, .int dp, .ref rC, .ref rV, .ref rD, .ref rK, .ref rT, .ref rS, .ref rU, .int lw, .int tx, .ref rL, .ref rX, .ref qR, .ref qB, .ref qP, .int qnb, .int qnp, .ref aR, .ref aB, .ref aP, .int nb, .int np, .ref aN, .ref rf, .int ho, .int br, .ref aK, .int u37_0, .long dw, .ref aE, .int sr, .int sf, .ref aA, .ref aH, .ref aI, .int hi])), (aB, .inl (cI, 24, .inl fBr)), (aN, .inl (cI, 97, .inl fN)), (rf, .inl (cI, 5, .inl u28_0)), (aK, .inl (cI, 3880, .inl u37_1))]) hP hD hk1 hFc ht hB [0, 2, 4] [(true, 0), (false, 1), (true, 1), (false, 3), (true, 2)] rfl (by decide +kernel) (by decide +kernel) rfl
        clear hP hD hS hPc hDc hFc hB hk1 hz1 hvm
        have hP := hP9
        have hD := hD9
        have hS := hS9
        clear hP9 hD9 hS9
        obtain ⟨f37_0, f37_1, f37_2, f37_3⟩ : (1 ≤ u37_0.toInt) ∧ (u37_0.toInt ≤ 40) ∧ (zKe fKp u37_1 fN ac u37_0) ∧ (zKp np u37_0 u37_1) := hw
        have F37 := f37_2
        refine lv_aload_n hx hb dX11_wed_40 rfl (lv_at hl 0 rfl) ?_
        refine va_get (D := (dC, dI)) (ci := 11) (v := .ref aN) (C := RX11) (T := TX11) (N := 41) hx hb hts iX11 hown hK hP 0 rfl rfl 27 (by decide) (hts _ qw1154) (fun _ h9 => h9) rfl dX11_wed_41 ?_
        refine lv_bipush (v := 13) hx hb dX11_wed_44 (by decide) ?_
        refine lv_iload_n hx hb dX11_wed_46 rfl (lv_at hl 1 rfl) ?_
        refine lv_iconst (v := 1) hx hb dX11_wed_47 (by decide) ?_
        refine lv_iadd hx hb dX11_wed_48 ?_
        refine lv_topi (fun v48 e48 => ?_)
        have i48 : v48.toInt = p0.toInt + 1 := zadd e48 rfl (by decide) (by omega) (by omega)
        refine va_iast hx hb hK hP hD hS 2 0 rfl rfl (by unfold vp_in; decide) dX11_wed_49 (fun H locs hP9 hD9 hS9 => ?_)
        clear hP hD hS
        obtain ⟨v49_f, e49⟩ : ∃ g : Nat → Int32, g = upd fN (13 : Int32).toNatClampNeg v48 := ⟨_, rfl⟩
        rw [← e49] at hP9 hD9
        obtain ⟨hP, hD⟩ := zst (wX := [(h0, .inr (11, [.int th, .ref tB, .int tsz, .int tat, .int wr, .int dp, .ref rC, .ref rV, .ref rD, .ref rK, .ref rT, .ref rS, .ref rU, .int lw, .int tx, .ref rL, .ref rX, .ref qR, .ref qB, .ref qP, .int qnb, .int qnp, .ref aR, .ref aB, .ref aP, .int nb, .int np, .ref aN, .ref rf, .int ho, .int br, .ref aK, .int u37_0, .long dw, .ref aE, .int sr, .int sf, .ref aA, .ref aH, .ref aI, .int hi])), (aB, .inl (cI, 24, .inl fBr)), (aN, .inl (cI, 97, .inl v49_f)), (rf, .inl (cI, 5, .inl u28_0)), (aK, .inl (cI, 3880, .inl u37_1))]) hP9 hD9 rfl
        have hS := hS9
        clear hP9 hD9 hS9
        have cq49_zNw_np : zNw np v49_f := (zNw_wed ci_fN_zNw_np e49 (by decide) (by omega)).1
        refine lv_aload_n hx hb dX11_wed_50 rfl (lv_at hl 0 rfl) ?_
        refine va_get (D := (dC, dI)) (ci := 11) (v := .ref aN) (C := RX11) (T := TX11) (N := 41) hx hb hts iX11 hown hK hP 0 rfl rfl 27 (by decide) (hts _ qw1154) (fun _ h9 => h9) rfl dX11_wed_51 ?_
        refine lv_bipush (v := 14) hx hb dX11_wed_54 (by decide) ?_
        refine lv_sipush (v := 999) hx hb dX11_wed_56 (by decide) ?_
        refine lv_aload_n hx hb dX11_wed_59 rfl (lv_at hl 0 rfl) ?_
        refine va_get (D := (dC, dI)) (ci := 11) (v := .ref aN) (C := RX11) (T := TX11) (N := 41) hx hb hts iX11 hown hK hP 0 rfl rfl 27 (by decide) (hts _ qw1154) (fun _ h9 => h9) rfl dX11_wed_60 ?_
        refine lv_bipush (v := 14) hx hb dX11_wed_63 (by decide) ?_
        refine va_iald hx hb hK hP 2 0 rfl rfl (by unfold vp_in; decide) dX11_wed_65 ?_
        refine lv_topi (fun v65 e65 => ?_)
        refine lv_aload_n hx hb dX11_wed_66 rfl (lv_at hl 0 rfl) ?_
        refine lv_iload_n hx hb dX11_wed_67 rfl (lv_at hl 1 rfl) ?_
        refine lv_iconst (v := 1) hx hb dX11_wed_68 (by decide) ?_
        obtain ⟨hPc, hDc⟩ := zc2 (wc := [(h0, .inr (11, [.int th, .ref tB, .int tsz, .int tat, .int wr, .int dp, .ref rC, .ref rV, .ref rD, .ref rK, .ref rT, .ref rS, .ref rU, .int lw, .int tx, .ref rL, .ref rX, .ref qR, .ref qB, .ref qP, .int qnb, .int qnp, .ref aR, .ref aB, .ref aP, .int nb, .int np, .ref aN, .ref rf, .int ho, .int br, .ref aK, .int u37_0, .long dw, .ref aE, .int sr, .int sf, .ref aA, .ref aH, .ref aI, .int hi])), (aB, .inl (cI, 24, .inl fBr))]) hP hD [0, 1] (by decide +kernel) rfl
        have hFc := zfr hS hA
        refine va_calli (va_runV (As := [.int p0, .int 1]) (rest := [.int v65, .int 999, .int 14, .ref aN]) ⟨hx, hb, hml, hown, hts⟩ (g_X11_of l dC dI cI cJ h0 p0 1 th tB tsz tat wr dp rC rV rD rK rT rS rU lw tx rL rX qR qB qP qnb qnp aR aB aP nb np aN rf ho br aK u37_0 dw aE sr sf aA aH aI hi fBr H.size (by omega) y_hi y_ho y_lw n_nb n_np (by omega) (by decide) y_qnb y_qnp y_tat y_tsz y_wr) (cwV 2 hts (zgV qw1386 qw1388 qw54 qw108 qw1389) rfl rfl rfl hd_X11_of ⟨by rw [hR]; exact Nat.le_of_ble_eq_true rfl, by rw [hR]; exact Nat.le_of_ble_eq_true rfl⟩) (zPV hPc hK hDc (va_recv (q := (RX11, TX11, 41)) hK hP (ci := 11) (q0 := 0) rfl rfl)) rfl rfl hl.1 rfl (lv_room (Nat.le_of_ble_eq_true rfl)) dX11_wed_69 ⟨Nat.zero_le _, Nat.zero_le _⟩) hS (fun q _ h => hFc q h) hFc (fun v69 u69 t H locs ht hvm hw hB hz1 hk1 hS9 => ?_)
        replace hP := zkeep hP hk1
        replace hS := hS9
        clear hPc hDc hFc hk1 hz1 hvm hS9
        have zn69_1 : (1 : Int32).toInt = 1 := by decide
        have f69_0 : (v69 = fBr (4 * p0.toInt.toNat + (1 : Int32).toInt.toNat)) := hw
        have F69 := f69_0
        refine lv_bipush (v := 10) hx hb dX11_wed_72 (by decide) ?_
        refine lv_idiv hx hb dX11_wed_74 (by decide) ?_
        refine lv_topi (fun v74 e74 => ?_)
        refine lv_iadd hx hb dX11_wed_75 ?_
        refine lv_topi (fun v75 e75 => ?_)
        refine va_mmin hx hb (by rw [hml]; exact hl.1.symm) hown (hts _ qw1468) (hts _ qw569) (hts _ qw112) (hts _ qw570) (by rw [hR]; exact Nat.le_of_ble_eq_true rfl) (by rw [hR]; exact Nat.le_of_ble_eq_true rfl) (Nat.zero_le _) (Nat.zero_le _) dX11_wed_76 ?_
        refine lv_topi (fun v76 e76 => ?_)
        have zc76_0 : (999 : Int32).toInt = 999 := by decide
        have i76 := zmmin e76
        refine va_iast hx hb hK hP hD hS 2 0 rfl rfl (by unfold vp_in; decide) dX11_wed_79 (fun H locs hP9 hD9 hS9 => ?_)
        clear hP hD hS
        obtain ⟨v79_f, e79⟩ : ∃ g : Nat → Int32, g = upd v49_f (14 : Int32).toNatClampNeg v76 := ⟨_, rfl⟩
        rw [← e79] at hP9 hD9
        obtain ⟨hP, hD⟩ := zst (wX := [(h0, .inr (11, [.int th, .ref tB, .int tsz, .int tat, .int wr, .int dp, .ref rC, .ref rV, .ref rD, .ref rK, .ref rT, .ref rS, .ref rU, .int lw, .int tx, .ref rL, .ref rX, .ref qR, .ref qB, .ref qP, .int qnb, .int qnp, .ref aR, .ref aB, .ref aP, .int nb, .int np, .ref aN, .ref rf, .int ho, .int br, .ref aK, .int u37_0, .long dw, .ref aE, .int sr, .int sf, .ref aA, .ref aH, .ref aI, .int hi])), (aB, .inl (cI, 24, .inl fBr)), (aN, .inl (cI, 97, .inl v79_f)), (rf, .inl (cI, 5, .inl u28_0)), (aK, .inl (cI, 3880, .inl u37_1))]) hP9 hD9 rfl
        have hS := hS9
        clear hP9 hD9 hS9
        have cq79_zNw_np : zNw np v79_f := (zNw_low cq49_zNw_np e79 (by decide) (by decide)).1
        refine lv_aload_n hx hb dX11_wed_80 rfl (lv_at hl 0 rfl) ?_
        refine va_get (D := (dC, dI)) (ci := 11) (v := .ref aN) (C := RX11) (T := TX11) (N := 41) hx hb hts iX11 hown hK hP 0 rfl rfl 27 (by decide) (hts _ qw1154) (fun _ h9 => h9) rfl dX11_wed_81 ?_
        refine lv_bipush (v := 14) hx hb dX11_wed_84 (by decide) ?_
        refine va_iald hx hb hK hP 2 0 rfl rfl (by unfold vp_in; decide) dX11_wed_86 ?_
        refine lv_topi (fun v86 e86 => ?_)
        rw [hQ]
        exact W.iret (v := v86) hx hb hr (fun t ht hW => ⟨⟨v86, (u37_0, v79_f, u28_0, u37_1), rfl, ⟨by (try dsimp only); omega, by (try dsimp only); omega, by (try dsimp only); exact fun kc kT q_fR q_fPa hc hb h => by rcases F28 with z | z; rotate_left; (exfalso; have z1 := z.2.1; omega); have zq := ci_fN_zNw_np.1; have zw : kT.1.2.2.1.2.2.toInt = (fN 13).toInt - 1 := (by rw [zSr_wd h.1]; exact zsub rfl rfl (by decide) (by omega) (by omega)); have y69 : v69 = kc.2.1 (4 * p0.toInt.toNat + 1) := (F69.trans (congrArg fBr (show 4 * p0.toInt.toNat + (1 : Int32).toInt.toNat = 4 * p0.toInt.toNat + 1 by have : (1 : Int32).toInt = 1 := (by decide); omega))).trans (hc.2.1 _ (by omega)); have y76 : v76 = sMin 999 (v65 + kc.2.1 (4 * p0.toInt.toNat + 1) / 10) := (by unfold sMin; rw [e76, e75, e74, y69]); have zz := zSr_W (c := kc) h.1 e48 e49 e65 y76 e79 hb.2.1.2 hb.2.2.1.2; exact zActAr (by unfold sW_wed; exact (if_neg (by omega)).trans (if_neg (by omega))) h (zKr_k hb.2 h F37 (by omega)) (zz.1) z.2.2 (by rw [zIxN (n := 14) e86 (by decide), e79, show (14 : Int32).toNatClampNeg = 14 by decide, pk_us, y76, zz.2]), f37_3, cq79_zNw_np⟩, ⟨by rw [ht]; exact hP, hD⟩⟩, hS.F ht⟩) hS.2.2 dX11_wed_87
      · have c31 : ¬ v28.toInt = 0 := z6 rfl (by decide) c31
        refine lv_iconst (v := (-1)) hx hb dX11_wed_34 (by decide) ?_
        have zr0 : ((-1) : Int32).toInt = (-1) := by decide
        rw [hQ]
        exact W.iret (v := ((-1))) hx hb hr (fun t ht hW => ⟨⟨(-1), (ac, fN, u28_0, fKp), rfl, ⟨by (try dsimp only); omega, by (try dsimp only); omega, by (try dsimp only); exact fun kc kT q_fR q_fPa hc hb h => by exfalso; rcases F28 with z | z; (have z1 := z.1; omega); (have z1 := z.2.1; omega), ci_fKp_zKp_np__F_h0_32_, ci_fN_zNw_np⟩, ⟨by rw [ht]; exact hP, hD⟩⟩, hS.F ht⟩) hS.2.2 dX11_wed_35
    · have c20 : 0 < v19.toInt := z4 rfl (by decide) c20
      refine lv_iconst (v := 3) hx hb dX11_wed_23 (by decide) ?_
      refine lv_goto (tgt := 28) hx hb dX11_wed_24 (by decide) ?_
      obtain ⟨hPc, hDc, hFc⟩ := zc3 (wc := [(h0, .inr (11, [.int th, .ref tB, .int tsz, .int tat, .int wr, .int dp, .ref rC, .ref rV, .ref rD, .ref rK, .ref rT, .ref rS, .ref rU, .int lw, .int tx, .ref rL, .ref rX, .ref qR, .ref qB, .ref qP, .int qnb, .int qnp, .ref aR, .ref aB, .ref aP, .int nb, .int np, .ref aN, .ref rf, .int ho, .int br, .ref aK, .int ac, .long dw, .ref aE, .int sr, .int sf, .ref aA, .ref aH, .ref aI, .int hi])), (rf, .inl (cI, 5, .inl frf))]) hP hD hS hA [0, 3] (by decide +kernel) rfl
      refine va_calli (va_runV (As := [.int 3]) (rest := []) ⟨hx, hb, hml, hown, hts⟩ (g_X11_isRefused l dC dI cI cJ h0 3 th tB tsz tat wr dp rC rV rD rK rT rS rU lw tx rL rX qR qB qP qnb qnp aR aB aP nb np aN rf ho br aK ac dw aE sr sf aA aH aI hi frf H.size n_ac y_hi y_ho y_lw n_nb n_np (by decide) y_qnb y_qnp y_tat y_tsz y_wr) (cwV 1 hts (zgV qw1481 qw1483 qw66 qw108 qw1484) rfl rfl rfl hd_X11_isRefused ⟨by rw [hR]; exact Nat.le_of_ble_eq_true rfl, by rw [hR]; exact Nat.le_of_ble_eq_true rfl⟩) (zPV hPc hK hDc (va_recv (q := (RX11, TX11, 41)) hK hP (ci := 11) (q0 := 0) rfl rfl)) rfl rfl hl.1 rfl (lv_room (Nat.le_of_ble_eq_true rfl)) dX11_wed_28 ⟨Nat.zero_le _, Nat.zero_le _⟩) hS (fun q _ h => hFc q h) hFc (fun v28 u28 t H locs ht hvm hw hB hz1 hk1 hS9 => ?_)
      obtain ⟨u28_0, rfl⟩ : ∃ z, z = u28 := ⟨_, rfl⟩
      obtain ⟨hP9, hD9⟩ := zj2 (wX := [(h0, .inr (11, [.int th, .ref tB, .int tsz, .int tat, .int wr, .int dp, .ref rC, .ref rV, .ref rD, .ref rK, .ref rT, .ref rS, .ref rU, .int lw, .int tx, .ref rL, .ref rX, .ref qR, .ref qB, .ref qP, .int qnb, .int qnp, .ref aR, .ref aB, .ref aP, .int nb, .int np, .ref aN, .ref rf, .int ho, .int br, .ref aK, .int ac, .long dw, .ref aE, .int sr, .int sf, .ref aA, .ref aH, .ref aI, .int hi])), (aB, .inl (cI, 24, .inl fBr)), (aN, .inl (cI, 97, .inl fN)), (rf, .inl (cI, 5, .inl u28_0)), (aK, .inl (cI, 3880, .inl fKp))]) hP hD hk1 hFc ht hB [0, 3] [(true, 0), (false, 1), (false, 2), (true, 1), (false, 4)] rfl (by decide +kernel) (by decide +kernel) rfl
      clear hP hD hS hPc hDc hFc hB hk1 hz1 hvm
      have hP := hP9
      have hD := hD9
      have hS := hS9
      clear hP9 hD9 hS9
      have zn28_3 : (3 : Int32).toInt = 3 := by decide
      obtain ⟨f28_0, f28_1, f28_2, f28_3⟩ : (0 ≤ v28.toInt) ∧ (v28.toInt ≤ 1) ∧ (v28.toInt = 0 → (3 : Int32).toInt = -1) ∧ ((v28.toInt = 0 ∧ (3 : Int32).toInt = -1 ∧ u28_0 = frf) ∨ (v28.toInt = 1 ∧ ¬ (3 : Int32).toInt = -1 ∧ zRf frf u28_0 (3 : Int32).toInt)) := hw
      have F28 := f28_3
      refine lv_if_eq (tgt := 36) hx hb dX11_wed_31 (by decide) (fun c31 => by exfalso; have c31 : v28.toInt = 0 := z5 rfl (by decide) c31; omega) (fun c31 => ?_)
      have c31 : ¬ v28.toInt = 0 := z6 rfl (by decide) c31
      refine lv_iconst (v := (-1)) hx hb dX11_wed_34 (by decide) ?_
      have zr0 : ((-1) : Int32).toInt = (-1) := by decide
      rw [hQ]
      exact W.iret (v := ((-1))) hx hb hr (fun t ht hW => ⟨⟨(-1), (ac, fN, u28_0, fKp), rfl, ⟨by (try dsimp only); omega, by (try dsimp only); omega, by (try dsimp only); exact fun kc kT q_fR q_fPa hc hb h => by rcases F28 with z | z; (exfalso; have z1 := z.2.1; omega); have zq := ci_fN_zNw_np.1; have zw : kT.1.2.2.1.2.2.toInt = (fN 13).toInt - 1 := (by rw [zSr_wd h.1]; exact zsub rfl rfl (by decide) (by omega) (by omega)); exact zActRr (x := (3 : Int32).toInt) (by unfold sW_wed; exact ((if_neg (by omega)).trans (if_pos (by omega))).trans (by omega)) (by omega) h z.2.2, ci_fKp_zKp_np__F_h0_32_, ci_fN_zNw_np⟩, ⟨by rw [ht]; exact hP, hD⟩⟩, hS.F ht⟩) hS.2.2 dX11_wed_35
  · have c6 : v3.toInt = 0 := z5 rfl (by decide) c6
    refine lv_iconst (v := 0) hx hb dX11_wed_9 (by decide) ?_
    refine lv_goto (tgt := 28) hx hb dX11_wed_10 (by decide) ?_
    obtain ⟨hPc, hDc, hFc⟩ := zc3 (wc := [(h0, .inr (11, [.int th, .ref tB, .int tsz, .int tat, .int wr, .int dp, .ref rC, .ref rV, .ref rD, .ref rK, .ref rT, .ref rS, .ref rU, .int lw, .int tx, .ref rL, .ref rX, .ref qR, .ref qB, .ref qP, .int qnb, .int qnp, .ref aR, .ref aB, .ref aP, .int nb, .int np, .ref aN, .ref rf, .int ho, .int br, .ref aK, .int ac, .long dw, .ref aE, .int sr, .int sf, .ref aA, .ref aH, .ref aI, .int hi])), (rf, .inl (cI, 5, .inl frf))]) hP hD hS hA [0, 3] (by decide +kernel) rfl
    refine va_calli (va_runV (As := [.int 0]) (rest := []) ⟨hx, hb, hml, hown, hts⟩ (g_X11_isRefused l dC dI cI cJ h0 0 th tB tsz tat wr dp rC rV rD rK rT rS rU lw tx rL rX qR qB qP qnb qnp aR aB aP nb np aN rf ho br aK ac dw aE sr sf aA aH aI hi frf H.size n_ac y_hi y_ho y_lw n_nb n_np (by decide) y_qnb y_qnp y_tat y_tsz y_wr) (cwV 1 hts (zgV qw1481 qw1483 qw66 qw108 qw1484) rfl rfl rfl hd_X11_isRefused ⟨by rw [hR]; exact Nat.le_of_ble_eq_true rfl, by rw [hR]; exact Nat.le_of_ble_eq_true rfl⟩) (zPV hPc hK hDc (va_recv (q := (RX11, TX11, 41)) hK hP (ci := 11) (q0 := 0) rfl rfl)) rfl rfl hl.1 rfl (lv_room (Nat.le_of_ble_eq_true rfl)) dX11_wed_28 ⟨Nat.zero_le _, Nat.zero_le _⟩) hS (fun q _ h => hFc q h) hFc (fun v28 u28 t H locs ht hvm hw hB hz1 hk1 hS9 => ?_)
    obtain ⟨u28_0, rfl⟩ : ∃ z, z = u28 := ⟨_, rfl⟩
    obtain ⟨hP9, hD9⟩ := zj2 (wX := [(h0, .inr (11, [.int th, .ref tB, .int tsz, .int tat, .int wr, .int dp, .ref rC, .ref rV, .ref rD, .ref rK, .ref rT, .ref rS, .ref rU, .int lw, .int tx, .ref rL, .ref rX, .ref qR, .ref qB, .ref qP, .int qnb, .int qnp, .ref aR, .ref aB, .ref aP, .int nb, .int np, .ref aN, .ref rf, .int ho, .int br, .ref aK, .int ac, .long dw, .ref aE, .int sr, .int sf, .ref aA, .ref aH, .ref aI, .int hi])), (aB, .inl (cI, 24, .inl fBr)), (aN, .inl (cI, 97, .inl fN)), (rf, .inl (cI, 5, .inl u28_0)), (aK, .inl (cI, 3880, .inl fKp))]) hP hD hk1 hFc ht hB [0, 3] [(true, 0), (false, 1), (false, 2), (true, 1), (false, 4)] rfl (by decide +kernel) (by decide +kernel) rfl
    clear hP hD hS hPc hDc hFc hB hk1 hz1 hvm
    have hP := hP9
    have hD := hD9
    have hS := hS9
    clear hP9 hD9 hS9
    have zn28_0 : (0 : Int32).toInt = 0 := by decide
    obtain ⟨f28_0, f28_1, f28_2, f28_3⟩ : (0 ≤ v28.toInt) ∧ (v28.toInt ≤ 1) ∧ (v28.toInt = 0 → (0 : Int32).toInt = -1) ∧ ((v28.toInt = 0 ∧ (0 : Int32).toInt = -1 ∧ u28_0 = frf) ∨ (v28.toInt = 1 ∧ ¬ (0 : Int32).toInt = -1 ∧ zRf frf u28_0 (0 : Int32).toInt)) := hw
    have F28 := f28_3
    refine lv_if_eq (tgt := 36) hx hb dX11_wed_31 (by decide) (fun c31 => by exfalso; have c31 : v28.toInt = 0 := z5 rfl (by decide) c31; omega) (fun c31 => ?_)
    have c31 : ¬ v28.toInt = 0 := z6 rfl (by decide) c31
    refine lv_iconst (v := (-1)) hx hb dX11_wed_34 (by decide) ?_
    have zr0 : ((-1) : Int32).toInt = (-1) := by decide
    rw [hQ]
    exact W.iret (v := ((-1))) hx hb hr (fun t ht hW => ⟨⟨(-1), (ac, fN, u28_0, fKp), rfl, ⟨by (try dsimp only); omega, by (try dsimp only); omega, by (try dsimp only); exact fun kc kT q_fR q_fPa hc hb h => by rcases F28 with z | z; (exfalso; have z1 := z.2.1; omega); exact zActRr (x := (0 : Int32).toInt) (by unfold sW_wed; exact (if_pos (by omega)).trans (by omega)) (by omega) h z.2.2, ci_fKp_zKp_np__F_h0_32_, ci_fN_zNw_np⟩, ⟨by rw [ht]; exact hP, hD⟩⟩, hS.F ht⟩) hS.2.2 dX11_wed_35
set_option maxHeartbeats 4000000 in
set_option maxRecDepth 100000 in
theorem g_X11_annul (l : Launch) (dC : Nat → ClassId) (dI : Nat → Nat → Nat) (cI cJ : ClassId) (h0 : Nat) (th : Int32) (tB : Nat) (tsz : Int32) (tat : Int32) (wr : Int32) (dp : Int32) (rC : Nat) (rV : Nat) (rD : Nat) (rK : Nat) (rT : Nat) (rS : Nat) (rU : Nat) (lw : Int32) (tx : Int32) (rL : Nat) (rX : Nat) (qR : Nat) (qB : Nat) (qP : Nat) (qnb : Int32) (qnp : Int32) (aR : Nat) (aB : Nat) (aP : Nat) (nb : Int32) (np : Int32) (aN : Nat) (rf : Nat) (ho : Int32) (br : Int32) (aK : Nat) (ac : Int32) (dw : Int64) (aE : Nat) (sr : Int32) (sf : Int32) (aA : Nat) (aH : Nat) (aI : Nat) (hi : Int32) (fBr : Nat → Int32) (fN : Nat → Int32) (frf : Nat → Int32) (fKp : Nat → Int32) (sz : Nat) (n_ac : 0 ≤ ac.toInt ∧ ac.toInt ≤ 40) (n_hi : 0 ≤ hi.toInt ∧ hi.toInt ≤ 1) (n_ho : (-1) ≤ ho.toInt ∧ ho.toInt ≤ 3) (n_lw : 0 ≤ lw.toInt ∧ lw.toInt ≤ 4) (n_nb : 0 ≤ nb.toInt ∧ nb.toInt ≤ 6) (n_np : 0 ≤ np.toInt ∧ np.toInt ≤ 5) (n_qnb : 0 ≤ qnb.toInt ∧ qnb.toInt ≤ 6) (n_qnp : 0 ≤ qnp.toInt ∧ qnp.toInt ≤ 5) (n_tat : 0 ≤ tat.toInt ∧ tat.toInt ≤ 260) (n_tsz : 0 ≤ tsz.toInt ∧ tsz.toInt ≤ 240) (n_wr : (-1) ≤ wr.toInt ∧ wr.toInt ≤ 260)  (ci_fBr_zBr_nb : zBr nb fBr) (ci_fKp_zKp_np__F_h0_32_ : zKp np ac fKp) (ci_fN_zNw_np : zNw np fN)  : Met l yX11_annul (.code yX11_annul cX11_annul 2 (some .int) :: wA) ({ frames := 3, cells := 0, slots := 0, locals := 68 }) (zP (dC, dI) [(cI, .int), (cJ, .long)] [.ref h0] sz [(h0, .inr (11, [.int th, .ref tB, .int tsz, .int tat, .int wr, .int dp, .ref rC, .ref rV, .ref rD, .ref rK, .ref rT, .ref rS, .ref rU, .int lw, .int tx, .ref rL, .ref rX, .ref qR, .ref qB, .ref qP, .int qnb, .int qnp, .ref aR, .ref aB, .ref aP, .int nb, .int np, .ref aN, .ref rf, .int ho, .int br, .ref aK, .int ac, .long dw, .ref aE, .int sr, .int sf, .ref aA, .ref aH, .ref aI, .int hi])), (aB, .inl (cI, 24, .inl fBr)), (aN, .inl (cI, 97, .inl fN)), (rf, .inl (cI, 5, .inl frf)), (aK, .inl (cI, 3880, .inl fKp))]) (va_Qi (fun (r : Int32) (u : Int32 × (Nat → Int32) × (Nat → Int32) × (Nat → Int32)) => ((-1) ≤ r.toInt) ∧ (r.toInt ≤ 5) ∧ (0 ≤ u.1.toInt) ∧ (u.1.toInt ≤ 40) ∧ (∀ (kc : zK3) (kT : zT) (q_fR : Nat → Int32) (q_fPa : Nat → Int32), zCn q_fR fBr q_fPa nb.toInt np.toInt kc → zKo nb.toInt np.toInt kc kT → zTr nb.toInt np.toInt kT fN fKp ac frf → r = sA (sW_ann nb.toInt kc kT.1) (kT.1.2.2.1.2.2) ∧ zTr nb.toInt np.toInt (sDo (sW_ann nb.toInt kc kT.1) kT (sN_ann kT.1)) u.2.1 u.2.2.2 u.1 u.2.2.1) ∧ (zKp np u.1 u.2.2.2) ∧ (zNw np u.2.1)) (fun (u : Int32 × (Nat → Int32) × (Nat → Int32) × (Nat → Int32)) (t : State) => va_P (dC, dI) vwCl [(h0, .inr (11, [.int th, .ref tB, .int tsz, .int tat, .int wr, .int dp, .ref rC, .ref rV, .ref rD, .ref rK, .ref rT, .ref rS, .ref rU, .int lw, .int tx, .ref rL, .ref rX, .ref qR, .ref qB, .ref qP, .int qnb, .int qnp, .ref aR, .ref aB, .ref aP, .int nb, .int np, .ref aN, .ref rf, .int ho, .int br, .ref aK, .int u.1, .long dw, .ref aE, .int sr, .int sf, .ref aA, .ref aH, .ref aI, .int hi])), (aB, .inl (cI, 24, .inl fBr)), (aN, .inl (cI, 97, .inl u.2.1)), (rf, .inl (cI, 5, .inl u.2.2.1)), (aK, .inl (cI, 3880, .inl u.2.2.2))] t.heap ∧ va_D (va_A [(h0, .inr (11, [.int th, .ref tB, .int tsz, .int tat, .int wr, .int dp, .ref rC, .ref rV, .ref rD, .ref rK, .ref rT, .ref rS, .ref rU, .int lw, .int tx, .ref rL, .ref rX, .ref qR, .ref qB, .ref qP, .int qnb, .int qnp, .ref aR, .ref aB, .ref aP, .int nb, .int np, .ref aN, .ref rf, .int ho, .int br, .ref aK, .int ac, .long dw, .ref aE, .int sr, .int sf, .ref aA, .ref aH, .ref aI, .int hi])), (aB, .inl (cI, 24, .inl fBr)), (aN, .inl (cI, 97, .inl fN)), (rf, .inl (cI, 5, .inl frf)), (aK, .inl (cI, 3880, .inl fKp))] sz) [(h0, .inr (11, [.int th, .ref tB, .int tsz, .int tat, .int wr, .int dp, .ref rC, .ref rV, .ref rD, .ref rK, .ref rT, .ref rS, .ref rU, .int lw, .int tx, .ref rL, .ref rX, .ref qR, .ref qB, .ref qP, .int qnb, .int qnp, .ref aR, .ref aB, .ref aP, .int nb, .int np, .ref aN, .ref rf, .int ho, .int br, .ref aK, .int u.1, .long dw, .ref aE, .int sr, .int sf, .ref aA, .ref aH, .ref aI, .int hi])), (aB, .inl (cI, 24, .inl fBr)), (aN, .inl (cI, 97, .inl u.2.1)), (rf, .inl (cI, 5, .inl u.2.2.1)), (aK, .inl (cI, 3880, .inl u.2.2.2))]) (va_A [(h0, .inr (11, [.int th, .ref tB, .int tsz, .int tat, .int wr, .int dp, .ref rC, .ref rV, .ref rD, .ref rK, .ref rT, .ref rS, .ref rU, .int lw, .int tx, .ref rL, .ref rX, .ref qR, .ref qB, .ref qP, .int qnb, .int qnp, .ref aR, .ref aB, .ref aP, .int nb, .int np, .ref aN, .ref rf, .int ho, .int br, .ref aK, .int ac, .long dw, .ref aE, .int sr, .int sf, .ref aA, .ref aH, .ref aI, .int hi])), (aB, .inl (cI, 24, .inl fBr)), (aN, .inl (cI, 97, .inl fN)), (rf, .inl (cI, 5, .inl frf)), (aK, .inl (cI, 3880, .inl fKp))] sz)) 0 0 (va_A [(h0, .inr (11, [.int th, .ref tB, .int tsz, .int tat, .int wr, .int dp, .ref rC, .ref rV, .ref rD, .ref rK, .ref rT, .ref rS, .ref rU, .int lw, .int tx, .ref rL, .ref rX, .ref qR, .ref qB, .ref qP, .int qnb, .int qnp, .ref aR, .ref aB, .ref aP, .int nb, .int np, .ref aN, .ref rf, .int ho, .int br, .ref aK, .int ac, .long dw, .ref aE, .int sr, .int sf, .ref aA, .ref aH, .ref aI, .int hi])), (aB, .inl (cI, 24, .inl fBr)), (aN, .inl (cI, 97, .inl fN)), (rf, .inl (cI, 5, .inl frf)), (aK, .inl (cI, 3880, .inl fKp))] sz) := by
  refine Met.ofW (cc := cX11_annul) (maxL := 2) (ret := (some .int)) (by decide) rfl ?_
  intro p e s m args below meth c s₁ B hml hv
  have y_hi : zHid (0 ≤ hi.toInt ∧ hi.toInt ≤ 1) := n_hi
  have y_ho : zHid ((-1) ≤ ho.toInt ∧ ho.toInt ≤ 3) := n_ho
  have y_lw : zHid (0 ≤ lw.toInt ∧ lw.toInt ≤ 4) := n_lw
  have y_qnb : zHid (0 ≤ qnb.toInt ∧ qnb.toInt ≤ 6) := n_qnb
  have y_qnp : zHid (0 ≤ qnp.toInt ∧ qnp.toInt ≤ 5) := n_qnp
  have y_tat : zHid (0 ≤ tat.toInt ∧ tat.toInt ≤ 260) := n_tat
  have y_tsz : zHid (0 ≤ tsz.toInt ∧ tsz.toInt ≤ 240) := n_tsz
  have y_wr : zHid ((-1) ≤ wr.toInt ∧ wr.toInt ≤ 260) := n_wr
  clear n_hi n_ho n_lw n_qnb n_qnp n_tat n_tsz n_wr
  obtain ⟨hargs, hsz, hP, hK, hT⟩ := hv
  have hx := B.exec
  have hb := B.bytes
  have hr := B.returns
  have hts : ∀ w ∈ wA, w.before args s = true := fun w h => atoms_spec (ws := .code yX11_annul cX11_annul 2 (some .int) :: wA) B.pre w (List.mem_cons_of_mem _ h)
  have hown : s.vm.findClass RX11 = some m.cls := findClass_of_methodNamed B.named
  have hlocks := B.notSynchronized
  subst hsz
  have hD := hT.self (sz := s.heap.size)
  generalize hAe : va_A [(h0, .inr (11, [.int th, .ref tB, .int tsz, .int tat, .int wr, .int dp, .ref rC, .ref rV, .ref rD, .ref rK, .ref rT, .ref rS, .ref rU, .int lw, .int tx, .ref rL, .ref rX, .ref qR, .ref qB, .ref qP, .int qnb, .int qnp, .ref aR, .ref aB, .ref aP, .int nb, .int np, .ref aN, .ref rf, .int ho, .int br, .ref aK, .int ac, .long dw, .ref aE, .int sr, .int sf, .ref aA, .ref aH, .ref aI, .int hi])), (aB, .inl (cI, 24, .inl fBr)), (aN, .inl (cI, 97, .inl fN)), (rf, .inl (cI, 5, .inl frf)), (aK, .inl (cI, 3880, .inl fKp))] s.heap.size = A at hD ⊢
  have hA : ∀ q : Nat, s.heap.size ≤ q → A q := fun q h => by rw [← hAe]; exact Or.inr h
  have hl := lv_entry ([.ref h0]) (n := 2) (Nat.le_of_ble_eq_true rfl)
  rw [show entryFrame m args 2 = entryFrame m ([.ref h0] : List Value).toArray 2 by rw [hargs], lg_entry_eq]
  generalize (lg_sl ([.ref h0]) ++ List.replicate (2 - (lg_sl ([.ref h0])).length) Slot.unset).toArray = ls at hl ⊢
  have hl : lv_has ls 2 [(0, .ref h0)] := hl
  refine zstart (fun H hH => ?_)
  rw [← hH] at hP
  have hS : va_S A s.heap H [] := by rw [hH]; exact va_S.rf
  generalize ([] : List Loc) = locs at hS ⊢
  refine zgen (fun R Q hR hQ => ?_)
  refine lv_aload_n hx hb dX11_annul_0 rfl (lv_at hl 0 rfl) ?_
  refine va_get (D := (dC, dI)) (ci := 11) (v := .int nb) (C := RX11) (T := TX11) (N := 41) hx hb hts iX11 hown hK hP 0 rfl rfl 25 (by decide) (hts _ qw1152) (fun _ h9 => h9) rfl dX11_annul_1 ?_
  refine lv_if_ne (tgt := 11) hx hb dX11_annul_4 (by decide) (fun c4 => ?_) (fun c4 => ?_)
  · have c4 : ¬ nb.toInt = 0 := z6 rfl (by decide) c4
    refine lv_aload_n hx hb dX11_annul_11 rfl (lv_at hl 0 rfl) ?_
    refine va_get (D := (dC, dI)) (ci := 11) (v := .ref aN) (C := RX11) (T := TX11) (N := 41) hx hb hts iX11 hown hK hP 0 rfl rfl 27 (by decide) (hts _ qw1154) (fun _ h9 => h9) rfl dX11_annul_12 ?_
    refine lv_bipush (v := 13) hx hb dX11_annul_15 (by decide) ?_
    refine va_iald hx hb hK hP 2 0 rfl rfl (by unfold vp_in; decide) dX11_annul_17 ?_
    refine lv_topi (fun v17 e17 => ?_)
    have i17 : v17.toInt = (fN 13).toInt ∧ 0 ≤ v17.toInt ∧ v17.toInt ≤ 6 := zNw_13 ci_fN_zNw_np e17
    refine lv_iconst (v := 1) hx hb dX11_annul_18 (by decide) ?_
    refine lv_isub hx hb dX11_annul_19 ?_
    refine lv_topi (fun v19 e19 => ?_)
    have i19 : v19.toInt = v17.toInt - 1 := zsub e19 rfl (by decide) (by omega) (by omega)
    refine lv_istore_n (lv' := [(1, .int v19), (0, .ref h0)]) hx hb dX11_annul_20 rfl hl (by decide) rfl (fun ls hl => ?_)
    refine lv_aload_n hx hb dX11_annul_21 rfl (lv_at hl 1 rfl) ?_
    refine lv_aload_n hx hb dX11_annul_22 rfl (lv_at hl 1 rfl) ?_
    refine va_get (D := (dC, dI)) (ci := 11) (v := .int nb) (C := RX11) (T := TX11) (N := 41) hx hb hts iX11 hown hK hP 0 rfl rfl 25 (by decide) (hts _ qw1152) (fun _ h9 => h9) rfl dX11_annul_23 ?_
    refine lv_if_ne (tgt := 33) hx hb dX11_annul_26 (by decide) (fun c26 => ?_) (fun c26 => by exfalso; have c26 : nb.toInt = 0 := z5 rfl (by decide) c26; omega)
    have c26 : ¬ nb.toInt = 0 := z6 rfl (by decide) c26
    refine lv_iload_n hx hb dX11_annul_33 rfl (lv_at hl 0 rfl) ?_
    refine lv_iconst (v := (-1)) hx hb dX11_annul_34 (by decide) ?_
    refine lv_icmp_ne (tgt := 42) hx hb dX11_annul_35 (by decide) (fun c35 => ?_) (fun c35 => ?_)
    · have c35 : ¬ v19.toInt = (-1) := z6 rfl (by decide) c35
      refine lv_aload_n hx hb dX11_annul_42 rfl (lv_at hl 1 rfl) ?_
      refine lv_iload_n hx hb dX11_annul_43 rfl (lv_at hl 0 rfl) ?_
      obtain ⟨hPc, hDc⟩ := zc2 (wc := [(h0, .inr (11, [.int th, .ref tB, .int tsz, .int tat, .int wr, .int dp, .ref rC, .ref rV, .ref rD, .ref rK, .ref rT, .ref rS, .ref rU, .int lw, .int tx, .ref rL, .ref rX, .ref qR, .ref qB, .ref qP, .int qnb, .int qnp, .ref aR, .ref aB, .ref aP, .int nb, .int np, .ref aN, .ref rf, .int ho, .int br, .ref aK, .int ac, .long dw, .ref aE, .int sr, .int sf, .ref aA, .ref aH, .ref aI, .int hi])), (aN, .inl (cI, 97, .inl fN))]) hP hD [0, 2] (by decide +kernel) rfl
      have hFc := zfr hS hA
      refine va_calli (va_runV (As := [.int v19]) (rest := [.ref h0]) ⟨hx, hb, hml, hown, hts⟩ (g_X11_lookedOf l dC dI cI cJ h0 v19 th tB tsz tat wr dp rC rV rD rK rT rS rU lw tx rL rX qR qB qP qnb qnp aR aB aP nb np aN rf ho br aK ac dw aE sr sf aA aH aI hi fN H.size n_ac y_hi y_ho y_lw n_nb n_np y_qnb y_qnp y_tat y_tsz y_wr ci_fN_zNw_np) (cwV 1 hts (zgV qw1521 qw1523 qw70 qw108 qw1524) rfl rfl rfl hd_X11_lookedOf ⟨by rw [hR]; exact Nat.le_of_ble_eq_true rfl, by rw [hR]; exact Nat.le_of_ble_eq_true rfl⟩) (zPV hPc hK hDc (va_recv (q := (RX11, TX11, 41)) hK hP (ci := 11) (q0 := 0) rfl rfl)) rfl rfl hl.1 rfl (lv_room (Nat.le_of_ble_eq_true rfl)) dX11_annul_44 ⟨Nat.zero_le _, Nat.zero_le _⟩) hS (fun q _ h => hFc q h) hFc (fun v44 u44 t H locs ht hvm hw hB hz1 hk1 hS9 => ?_)
      replace hP := zkeep hP hk1
      replace hS := hS9
      clear hPc hDc hFc hk1 hz1 hvm hS9
      have f44_0 : (v44 = zLkd (fun i => fN (17 + i)) v19 (fN 16).toInt.toNat) := hw
      have F44 := f44_0
      refine lv_aload_n hx hb dX11_annul_47 rfl (lv_at hl 1 rfl) ?_
      refine lv_iload_n hx hb dX11_annul_48 rfl (lv_at hl 0 rfl) ?_
      refine lv_iconst (v := 0) hx hb dX11_annul_49 (by decide) ?_
      obtain ⟨hPc, hDc⟩ := zc2 (wc := [(h0, .inr (11, [.int th, .ref tB, .int tsz, .int tat, .int wr, .int dp, .ref rC, .ref rV, .ref rD, .ref rK, .ref rT, .ref rS, .ref rU, .int lw, .int tx, .ref rL, .ref rX, .ref qR, .ref qB, .ref qP, .int qnb, .int qnp, .ref aR, .ref aB, .ref aP, .int nb, .int np, .ref aN, .ref rf, .int ho, .int br, .ref aK, .int ac, .long dw, .ref aE, .int sr, .int sf, .ref aA, .ref aH, .ref aI, .int hi])), (aB, .inl (cI, 24, .inl fBr))]) hP hD [0, 1] (by decide +kernel) rfl
      have hFc := zfr hS hA
      refine va_calli (va_runV (As := [.int v19, .int 0]) (rest := [.int v44, .ref h0]) ⟨hx, hb, hml, hown, hts⟩ (g_X11_of l dC dI cI cJ h0 v19 0 th tB tsz tat wr dp rC rV rD rK rT rS rU lw tx rL rX qR qB qP qnb qnp aR aB aP nb np aN rf ho br aK ac dw aE sr sf aA aH aI hi fBr H.size n_ac y_hi y_ho y_lw n_nb n_np (by omega) (by decide) y_qnb y_qnp y_tat y_tsz y_wr) (cwV 2 hts (zgV qw1386 qw1388 qw54 qw108 qw1389) rfl rfl rfl hd_X11_of ⟨by rw [hR]; exact Nat.le_of_ble_eq_true rfl, by rw [hR]; exact Nat.le_of_ble_eq_true rfl⟩) (zPV hPc hK hDc (va_recv (q := (RX11, TX11, 41)) hK hP (ci := 11) (q0 := 0) rfl rfl)) rfl rfl hl.1 rfl (lv_room (Nat.le_of_ble_eq_true rfl)) dX11_annul_50 ⟨Nat.zero_le _, Nat.zero_le _⟩) hS (fun q _ h => hFc q h) hFc (fun v50 u50 t H locs ht hvm hw hB hz1 hk1 hS9 => ?_)
      replace hP := zkeep hP hk1
      replace hS := hS9
      clear hPc hDc hFc hk1 hz1 hvm hS9
      have zn50_0 : (0 : Int32).toInt = 0 := by decide
      have f50_0 : (v50 = fBr (4 * v19.toInt.toNat + (0 : Int32).toInt.toNat)) := hw
      have F50 := f50_0
      refine lv_isub hx hb dX11_annul_53 ?_
      refine lv_topi (fun v53 e53 => ?_)
      refine lv_iconst (v := 3) hx hb dX11_annul_54 (by decide) ?_
      refine lv_icmp_ge (tgt := 62) hx hb dX11_annul_55 (by decide) (fun c55 => ?_) (fun c55 => ?_)
      · have c55 : 3 ≤ v53.toInt := z3 (by decide) rfl c55
        refine lv_iconst (v := (-1)) hx hb dX11_annul_62 (by decide) ?_
        obtain ⟨hPc, hDc, hFc⟩ := zc3 (wc := [(h0, .inr (11, [.int th, .ref tB, .int tsz, .int tat, .int wr, .int dp, .ref rC, .ref rV, .ref rD, .ref rK, .ref rT, .ref rS, .ref rU, .int lw, .int tx, .ref rL, .ref rX, .ref qR, .ref qB, .ref qP, .int qnb, .int qnp, .ref aR, .ref aB, .ref aP, .int nb, .int np, .ref aN, .ref rf, .int ho, .int br, .ref aK, .int ac, .long dw, .ref aE, .int sr, .int sf, .ref aA, .ref aH, .ref aI, .int hi])), (rf, .inl (cI, 5, .inl frf))]) hP hD hS hA [0, 3] (by decide +kernel) rfl
        refine va_calli (va_runV (As := [.int (-1)]) (rest := []) ⟨hx, hb, hml, hown, hts⟩ (g_X11_isRefused l dC dI cI cJ h0 ((-1)) th tB tsz tat wr dp rC rV rD rK rT rS rU lw tx rL rX qR qB qP qnb qnp aR aB aP nb np aN rf ho br aK ac dw aE sr sf aA aH aI hi frf H.size n_ac y_hi y_ho y_lw n_nb n_np (by decide) y_qnb y_qnp y_tat y_tsz y_wr) (cwV 1 hts (zgV qw1481 qw1483 qw66 qw108 qw1484) rfl rfl rfl hd_X11_isRefused ⟨by rw [hR]; exact Nat.le_of_ble_eq_true rfl, by rw [hR]; exact Nat.le_of_ble_eq_true rfl⟩) (zPV hPc hK hDc (va_recv (q := (RX11, TX11, 41)) hK hP (ci := 11) (q0 := 0) rfl rfl)) rfl rfl hl.1 rfl (lv_room (Nat.le_of_ble_eq_true rfl)) dX11_annul_63 ⟨Nat.zero_le _, Nat.zero_le _⟩) hS (fun q _ h => hFc q h) hFc (fun v63 u63 t H locs ht hvm hw hB hz1 hk1 hS9 => ?_)
        obtain ⟨u63_0, rfl⟩ : ∃ z, z = u63 := ⟨_, rfl⟩
        obtain ⟨hP9, hD9⟩ := zj2 (wX := [(h0, .inr (11, [.int th, .ref tB, .int tsz, .int tat, .int wr, .int dp, .ref rC, .ref rV, .ref rD, .ref rK, .ref rT, .ref rS, .ref rU, .int lw, .int tx, .ref rL, .ref rX, .ref qR, .ref qB, .ref qP, .int qnb, .int qnp, .ref aR, .ref aB, .ref aP, .int nb, .int np, .ref aN, .ref rf, .int ho, .int br, .ref aK, .int ac, .long dw, .ref aE, .int sr, .int sf, .ref aA, .ref aH, .ref aI, .int hi])), (aB, .inl (cI, 24, .inl fBr)), (aN, .inl (cI, 97, .inl fN)), (rf, .inl (cI, 5, .inl u63_0)), (aK, .inl (cI, 3880, .inl fKp))]) hP hD hk1 hFc ht hB [0, 3] [(true, 0), (false, 1), (false, 2), (true, 1), (false, 4)] rfl (by decide +kernel) (by decide +kernel) rfl
        clear hP hD hS hPc hDc hFc hB hk1 hz1 hvm
        have hP := hP9
        have hD := hD9
        have hS := hS9
        clear hP9 hD9 hS9
        have zn63_m1 : (-1 : Int32).toInt = -1 := by decide
        obtain ⟨f63_0, f63_1, f63_2, f63_3⟩ : (0 ≤ v63.toInt) ∧ (v63.toInt ≤ 1) ∧ (v63.toInt = 0 → (-1 : Int32).toInt = -1) ∧ ((v63.toInt = 0 ∧ (-1 : Int32).toInt = -1 ∧ u63_0 = frf) ∨ (v63.toInt = 1 ∧ ¬ (-1 : Int32).toInt = -1 ∧ zRf frf u63_0 (-1 : Int32).toInt)) := hw
        have F63 := f63_3
        refine lv_if_eq (tgt := 71) hx hb dX11_annul_66 (by decide) (fun c66 => ?_) (fun c66 => ?_)
        · have c66 : v63.toInt = 0 := z5 rfl (by decide) c66
          refine lv_aload_n hx hb dX11_annul_71 rfl (lv_at hl 1 rfl) ?_
          obtain ⟨hPc, hDc, hFc⟩ := zc3 (wc := [(h0, .inr (11, [.int th, .ref tB, .int tsz, .int tat, .int wr, .int dp, .ref rC, .ref rV, .ref rD, .ref rK, .ref rT, .ref rS, .ref rU, .int lw, .int tx, .ref rL, .ref rX, .ref qR, .ref qB, .ref qP, .int qnb, .int qnp, .ref aR, .ref aB, .ref aP, .int nb, .int np, .ref aN, .ref rf, .int ho, .int br, .ref aK, .int ac, .long dw, .ref aE, .int sr, .int sf, .ref aA, .ref aH, .ref aI, .int hi])), (aN, .inl (cI, 97, .inl fN)), (aK, .inl (cI, 3880, .inl fKp))]) hP hD hS hA [0, 2, 4] (by decide +kernel) rfl
          refine va_callv (va_runV (As := []) (rest := []) ⟨hx, hb, hml, hown, hts⟩ (g_X11_keep l dC dI cI cJ h0 th tB tsz tat wr dp rC rV rD rK rT rS rU lw tx rL rX qR qB qP qnb qnp aR aB aP nb np aN rf ho br aK ac dw aE sr sf aA aH aI hi fN fKp H.size n_ac y_hi y_ho y_lw n_nb n_np y_qnb y_qnp y_tat y_tsz y_wr ci_fKp_zKp_np__F_h0_32_ ci_fN_zNw_np) (cwV 0 hts (zgV qw1485 qw1487 qw67 qw108 qw1488) rfl rfl rfl hd_X11_keep ⟨by rw [hR]; exact Nat.le_of_ble_eq_true rfl, by rw [hR]; exact Nat.le_of_ble_eq_true rfl⟩) (zPV hPc hK hDc (va_recv (q := (RX11, TX11, 41)) hK hP (ci := 11) (q0 := 0) rfl rfl)) rfl rfl hl.1 rfl (lv_room (Nat.le_of_ble_eq_true rfl)) dX11_annul_72 ⟨Nat.zero_le _, Nat.zero_le _⟩) hS (fun q _ h => hFc q h) hFc (fun u72 t H locs ht hvm hw hB hz1 hk1 hS9 => ?_)
          obtain ⟨u72_0, u72_1⟩ := u72
          obtain ⟨hP9, hD9⟩ := zj2 (wX := [(h0, .inr (11, [.int th, .ref tB, .int tsz, .int tat, .int wr, .int dp, .ref rC, .ref rV, .ref rD, .ref rK, .ref rT, .ref rS, .ref rU, .int lw, .int tx, .ref rL, .ref rX, .ref qR, .ref qB, .ref qP, .int qnb, .int qnp, .ref aR, .ref aB, .ref aP, .int nb, .int np, .ref aN, .ref rf, .int ho, .int br, .ref aK, .int u72_0, .long dw, .ref aE, .int sr, .int sf, .ref aA, .ref aH, .ref aI, .int hi])), (aB, .inl (cI, 24, .inl fBr)), (aN, .inl (cI, 97, .inl fN)), (rf, .inl (cI, 5, .inl u63_0)), (aK, .inl (cI, 3880, .inl u72_1))]) hP hD hk1 hFc ht hB [0, 2, 4] [(true, 0), (false, 1), (true, 1), (false, 3), (true, 2)] rfl (by decide +kernel) (by decide +kernel) rfl
          clear hP hD hS hPc hDc hFc hB hk1 hz1 hvm
          have hP := hP9
          have hD := hD9
          have hS := hS9
          clear hP9 hD9 hS9
          obtain ⟨f72_0, f72_1, f72_2, f72_3⟩ : (1 ≤ u72_0.toInt) ∧ (u72_0.toInt ≤ 40) ∧ (zKe fKp u72_1 fN ac u72_0) ∧ (zKp np u72_0 u72_1) := hw
          have F72 := f72_2
          refine lv_aload_n hx hb dX11_annul_75 rfl (lv_at hl 1 rfl) ?_
          refine va_get (D := (dC, dI)) (ci := 11) (v := .ref aN) (C := RX11) (T := TX11) (N := 41) hx hb hts iX11 hown hK hP 0 rfl rfl 27 (by decide) (hts _ qw1154) (fun _ h9 => h9) rfl dX11_annul_76 ?_
          refine lv_bipush (v := 13) hx hb dX11_annul_79 (by decide) ?_
          refine lv_iconst (v := 0) hx hb dX11_annul_81 (by decide) ?_
          refine va_iast hx hb hK hP hD hS 2 0 rfl rfl (by unfold vp_in; decide) dX11_annul_82 (fun H locs hP9 hD9 hS9 => ?_)
          clear hP hD hS
          obtain ⟨v82_f, e82⟩ : ∃ g : Nat → Int32, g = upd fN (13 : Int32).toNatClampNeg 0 := ⟨_, rfl⟩
          rw [← e82] at hP9 hD9
          obtain ⟨hP, hD⟩ := zst (wX := [(h0, .inr (11, [.int th, .ref tB, .int tsz, .int tat, .int wr, .int dp, .ref rC, .ref rV, .ref rD, .ref rK, .ref rT, .ref rS, .ref rU, .int lw, .int tx, .ref rL, .ref rX, .ref qR, .ref qB, .ref qP, .int qnb, .int qnp, .ref aR, .ref aB, .ref aP, .int nb, .int np, .ref aN, .ref rf, .int ho, .int br, .ref aK, .int u72_0, .long dw, .ref aE, .int sr, .int sf, .ref aA, .ref aH, .ref aI, .int hi])), (aB, .inl (cI, 24, .inl fBr)), (aN, .inl (cI, 97, .inl v82_f)), (rf, .inl (cI, 5, .inl u63_0)), (aK, .inl (cI, 3880, .inl u72_1))]) hP9 hD9 rfl
          have hS := hS9
          clear hP9 hD9 hS9
          have cq82_zNw_np : zNw np v82_f := (zNw_wed ci_fN_zNw_np e82 (by decide) (by decide)).1
          refine lv_iload_n hx hb dX11_annul_83 rfl (lv_at hl 0 rfl) ?_
          rw [hQ]
          exact W.iret (v := v19) hx hb hr (fun t ht hW => ⟨⟨v19, (u72_0, v82_f, u63_0, u72_1), rfl, ⟨by (try dsimp only); omega, by (try dsimp only); omega, by (try dsimp only); omega, by (try dsimp only); omega, by (try dsimp only); exact fun kc kT q_fR q_fPa hc hb h => by rcases F63 with z | z; rotate_left; (exfalso; have z1 := z.2.1; omega); have zq := ci_fN_zNw_np.1; have zw : kT.1.2.2.1.2.2.toInt = (fN 13).toInt - 1 := (by rw [zSr_wd h.1]; exact zsub rfl rfl (by decide) (by omega) (by omega)); have y19 : kT.1.2.2.1.2.2 = v19 := (by rw [zSr_wd h.1, e19, zIxN (n := 13) e17 (by decide)]); have z19 := congrArg Int32.toInt y19; have zb := hb.2.2.2.1.2.2.1; have y50 : v50 = kc.2.1 (4 * v19.toInt.toNat) := (F50.trans (congrArg fBr (show 4 * v19.toInt.toNat + (0 : Int32).toInt.toNat = 4 * v19.toInt.toNat by have : (0 : Int32).toInt = 0 := (by decide); omega))).trans (hc.2.1 _ (by omega)); have y53 : zLkd kT.1.2.2.2.2 kT.1.2.2.1.2.2 kT.1.2.2.2.1.2.2.toInt.toNat - kc.2.1 (4 * kT.1.2.2.1.2.2.toInt.toNat) = v53 := (by rw [y19, zSr_pn h.1, ← zLkd_c (P := fun i => fN (17 + i)) (zSr_P h.1), ← F44, ← y50, e53]); have z53 := congrArg Int32.toInt y53; exact zActAr (by unfold sW_ann; exact (if_neg (by omega)).trans ((if_neg (by omega)).trans (if_neg (by omega)))) h (zKr_k hb.2 h F72 (by omega)) (zSr_N h.1 e82 hb.2.1.2 hb.2.2.1.2) z.2.2 (y19.symm), f72_3, cq82_zNw_np⟩, ⟨by rw [ht]; exact hP, hD⟩⟩, hS.F ht⟩) hS.2.2 dX11_annul_84
        · have c66 : ¬ v63.toInt = 0 := z6 rfl (by decide) c66
          refine lv_iconst (v := (-1)) hx hb dX11_annul_69 (by decide) ?_
          have zr0 : ((-1) : Int32).toInt = (-1) := by decide
          rw [hQ]
          exact W.iret (v := ((-1))) hx hb hr (fun t ht hW => ⟨⟨(-1), (ac, fN, u63_0, fKp), rfl, ⟨by (try dsimp only); omega, by (try dsimp only); omega, by (try dsimp only); omega, by (try dsimp only); omega, by (try dsimp only); exact fun kc kT q_fR q_fPa hc hb h => by exfalso; rcases F63 with z | z; (have z1 := z.1; omega); (have z1 := z.2.1; omega), ci_fKp_zKp_np__F_h0_32_, ci_fN_zNw_np⟩, ⟨by rw [ht]; exact hP, hD⟩⟩, hS.F ht⟩) hS.2.2 dX11_annul_70
      · have c55 : v53.toInt < 3 := z4 (by decide) rfl c55
        refine lv_iconst (v := 4) hx hb dX11_annul_58 (by decide) ?_
        refine lv_goto (tgt := 63) hx hb dX11_annul_59 (by decide) ?_
        obtain ⟨hPc, hDc, hFc⟩ := zc3 (wc := [(h0, .inr (11, [.int th, .ref tB, .int tsz, .int tat, .int wr, .int dp, .ref rC, .ref rV, .ref rD, .ref rK, .ref rT, .ref rS, .ref rU, .int lw, .int tx, .ref rL, .ref rX, .ref qR, .ref qB, .ref qP, .int qnb, .int qnp, .ref aR, .ref aB, .ref aP, .int nb, .int np, .ref aN, .ref rf, .int ho, .int br, .ref aK, .int ac, .long dw, .ref aE, .int sr, .int sf, .ref aA, .ref aH, .ref aI, .int hi])), (rf, .inl (cI, 5, .inl frf))]) hP hD hS hA [0, 3] (by decide +kernel) rfl
        refine va_calli (va_runV (As := [.int 4]) (rest := []) ⟨hx, hb, hml, hown, hts⟩ (g_X11_isRefused l dC dI cI cJ h0 4 th tB tsz tat wr dp rC rV rD rK rT rS rU lw tx rL rX qR qB qP qnb qnp aR aB aP nb np aN rf ho br aK ac dw aE sr sf aA aH aI hi frf H.size n_ac y_hi y_ho y_lw n_nb n_np (by decide) y_qnb y_qnp y_tat y_tsz y_wr) (cwV 1 hts (zgV qw1481 qw1483 qw66 qw108 qw1484) rfl rfl rfl hd_X11_isRefused ⟨by rw [hR]; exact Nat.le_of_ble_eq_true rfl, by rw [hR]; exact Nat.le_of_ble_eq_true rfl⟩) (zPV hPc hK hDc (va_recv (q := (RX11, TX11, 41)) hK hP (ci := 11) (q0 := 0) rfl rfl)) rfl rfl hl.1 rfl (lv_room (Nat.le_of_ble_eq_true rfl)) dX11_annul_63 ⟨Nat.zero_le _, Nat.zero_le _⟩) hS (fun q _ h => hFc q h) hFc (fun v63 u63 t H locs ht hvm hw hB hz1 hk1 hS9 => ?_)
        obtain ⟨u63_0, rfl⟩ : ∃ z, z = u63 := ⟨_, rfl⟩
        obtain ⟨hP9, hD9⟩ := zj2 (wX := [(h0, .inr (11, [.int th, .ref tB, .int tsz, .int tat, .int wr, .int dp, .ref rC, .ref rV, .ref rD, .ref rK, .ref rT, .ref rS, .ref rU, .int lw, .int tx, .ref rL, .ref rX, .ref qR, .ref qB, .ref qP, .int qnb, .int qnp, .ref aR, .ref aB, .ref aP, .int nb, .int np, .ref aN, .ref rf, .int ho, .int br, .ref aK, .int ac, .long dw, .ref aE, .int sr, .int sf, .ref aA, .ref aH, .ref aI, .int hi])), (aB, .inl (cI, 24, .inl fBr)), (aN, .inl (cI, 97, .inl fN)), (rf, .inl (cI, 5, .inl u63_0)), (aK, .inl (cI, 3880, .inl fKp))]) hP hD hk1 hFc ht hB [0, 3] [(true, 0), (false, 1), (false, 2), (true, 1), (false, 4)] rfl (by decide +kernel) (by decide +kernel) rfl
        clear hP hD hS hPc hDc hFc hB hk1 hz1 hvm
        have hP := hP9
        have hD := hD9
        have hS := hS9
        clear hP9 hD9 hS9
        have zn63_4 : (4 : Int32).toInt = 4 := by decide
        obtain ⟨f63_0, f63_1, f63_2, f63_3⟩ : (0 ≤ v63.toInt) ∧ (v63.toInt ≤ 1) ∧ (v63.toInt = 0 → (4 : Int32).toInt = -1) ∧ ((v63.toInt = 0 ∧ (4 : Int32).toInt = -1 ∧ u63_0 = frf) ∨ (v63.toInt = 1 ∧ ¬ (4 : Int32).toInt = -1 ∧ zRf frf u63_0 (4 : Int32).toInt)) := hw
        have F63 := f63_3
        refine lv_if_eq (tgt := 71) hx hb dX11_annul_66 (by decide) (fun c66 => by exfalso; have c66 : v63.toInt = 0 := z5 rfl (by decide) c66; omega) (fun c66 => ?_)
        have c66 : ¬ v63.toInt = 0 := z6 rfl (by decide) c66
        refine lv_iconst (v := (-1)) hx hb dX11_annul_69 (by decide) ?_
        have zr0 : ((-1) : Int32).toInt = (-1) := by decide
        rw [hQ]
        exact W.iret (v := ((-1))) hx hb hr (fun t ht hW => ⟨⟨(-1), (ac, fN, u63_0, fKp), rfl, ⟨by (try dsimp only); omega, by (try dsimp only); omega, by (try dsimp only); omega, by (try dsimp only); omega, by (try dsimp only); exact fun kc kT q_fR q_fPa hc hb h => by rcases F63 with z | z; (exfalso; have z1 := z.2.1; omega); have zq := ci_fN_zNw_np.1; have zw : kT.1.2.2.1.2.2.toInt = (fN 13).toInt - 1 := (by rw [zSr_wd h.1]; exact zsub rfl rfl (by decide) (by omega) (by omega)); have y19 : kT.1.2.2.1.2.2 = v19 := (by rw [zSr_wd h.1, e19, zIxN (n := 13) e17 (by decide)]); have z19 := congrArg Int32.toInt y19; have zb := hb.2.2.2.1.2.2.1; have y50 : v50 = kc.2.1 (4 * v19.toInt.toNat) := (F50.trans (congrArg fBr (show 4 * v19.toInt.toNat + (0 : Int32).toInt.toNat = 4 * v19.toInt.toNat by have : (0 : Int32).toInt = 0 := (by decide); omega))).trans (hc.2.1 _ (by omega)); have y53 : zLkd kT.1.2.2.2.2 kT.1.2.2.1.2.2 kT.1.2.2.2.1.2.2.toInt.toNat - kc.2.1 (4 * kT.1.2.2.1.2.2.toInt.toNat) = v53 := (by rw [y19, zSr_pn h.1, ← zLkd_c (P := fun i => fN (17 + i)) (zSr_P h.1), ← F44, ← y50, e53]); have z53 := congrArg Int32.toInt y53; exact zActRr (x := (4 : Int32).toInt) (by unfold sW_ann; exact ((if_neg (by omega)).trans ((if_neg (by omega)).trans (if_pos (by omega)))).trans (by omega)) (by omega) h z.2.2, ci_fKp_zKp_np__F_h0_32_, ci_fN_zNw_np⟩, ⟨by rw [ht]; exact hP, hD⟩⟩, hS.F ht⟩) hS.2.2 dX11_annul_70
    · have c35 : v19.toInt = (-1) := z5 rfl (by decide) c35
      refine lv_iconst (v := 3) hx hb dX11_annul_38 (by decide) ?_
      refine lv_goto (tgt := 63) hx hb dX11_annul_39 (by decide) ?_
      obtain ⟨hPc, hDc, hFc⟩ := zc3 (wc := [(h0, .inr (11, [.int th, .ref tB, .int tsz, .int tat, .int wr, .int dp, .ref rC, .ref rV, .ref rD, .ref rK, .ref rT, .ref rS, .ref rU, .int lw, .int tx, .ref rL, .ref rX, .ref qR, .ref qB, .ref qP, .int qnb, .int qnp, .ref aR, .ref aB, .ref aP, .int nb, .int np, .ref aN, .ref rf, .int ho, .int br, .ref aK, .int ac, .long dw, .ref aE, .int sr, .int sf, .ref aA, .ref aH, .ref aI, .int hi])), (rf, .inl (cI, 5, .inl frf))]) hP hD hS hA [0, 3] (by decide +kernel) rfl
      refine va_calli (va_runV (As := [.int 3]) (rest := []) ⟨hx, hb, hml, hown, hts⟩ (g_X11_isRefused l dC dI cI cJ h0 3 th tB tsz tat wr dp rC rV rD rK rT rS rU lw tx rL rX qR qB qP qnb qnp aR aB aP nb np aN rf ho br aK ac dw aE sr sf aA aH aI hi frf H.size n_ac y_hi y_ho y_lw n_nb n_np (by decide) y_qnb y_qnp y_tat y_tsz y_wr) (cwV 1 hts (zgV qw1481 qw1483 qw66 qw108 qw1484) rfl rfl rfl hd_X11_isRefused ⟨by rw [hR]; exact Nat.le_of_ble_eq_true rfl, by rw [hR]; exact Nat.le_of_ble_eq_true rfl⟩) (zPV hPc hK hDc (va_recv (q := (RX11, TX11, 41)) hK hP (ci := 11) (q0 := 0) rfl rfl)) rfl rfl hl.1 rfl (lv_room (Nat.le_of_ble_eq_true rfl)) dX11_annul_63 ⟨Nat.zero_le _, Nat.zero_le _⟩) hS (fun q _ h => hFc q h) hFc (fun v63 u63 t H locs ht hvm hw hB hz1 hk1 hS9 => ?_)
      obtain ⟨u63_0, rfl⟩ : ∃ z, z = u63 := ⟨_, rfl⟩
      obtain ⟨hP9, hD9⟩ := zj2 (wX := [(h0, .inr (11, [.int th, .ref tB, .int tsz, .int tat, .int wr, .int dp, .ref rC, .ref rV, .ref rD, .ref rK, .ref rT, .ref rS, .ref rU, .int lw, .int tx, .ref rL, .ref rX, .ref qR, .ref qB, .ref qP, .int qnb, .int qnp, .ref aR, .ref aB, .ref aP, .int nb, .int np, .ref aN, .ref rf, .int ho, .int br, .ref aK, .int ac, .long dw, .ref aE, .int sr, .int sf, .ref aA, .ref aH, .ref aI, .int hi])), (aB, .inl (cI, 24, .inl fBr)), (aN, .inl (cI, 97, .inl fN)), (rf, .inl (cI, 5, .inl u63_0)), (aK, .inl (cI, 3880, .inl fKp))]) hP hD hk1 hFc ht hB [0, 3] [(true, 0), (false, 1), (false, 2), (true, 1), (false, 4)] rfl (by decide +kernel) (by decide +kernel) rfl
      clear hP hD hS hPc hDc hFc hB hk1 hz1 hvm
      have hP := hP9
      have hD := hD9
      have hS := hS9
      clear hP9 hD9 hS9
      have zn63_3 : (3 : Int32).toInt = 3 := by decide
      obtain ⟨f63_0, f63_1, f63_2, f63_3⟩ : (0 ≤ v63.toInt) ∧ (v63.toInt ≤ 1) ∧ (v63.toInt = 0 → (3 : Int32).toInt = -1) ∧ ((v63.toInt = 0 ∧ (3 : Int32).toInt = -1 ∧ u63_0 = frf) ∨ (v63.toInt = 1 ∧ ¬ (3 : Int32).toInt = -1 ∧ zRf frf u63_0 (3 : Int32).toInt)) := hw
      have F63 := f63_3
      refine lv_if_eq (tgt := 71) hx hb dX11_annul_66 (by decide) (fun c66 => by exfalso; have c66 : v63.toInt = 0 := z5 rfl (by decide) c66; omega) (fun c66 => ?_)
      have c66 : ¬ v63.toInt = 0 := z6 rfl (by decide) c66
      refine lv_iconst (v := (-1)) hx hb dX11_annul_69 (by decide) ?_
      have zr0 : ((-1) : Int32).toInt = (-1) := by decide
      rw [hQ]
      exact W.iret (v := ((-1))) hx hb hr (fun t ht hW => ⟨⟨(-1), (ac, fN, u63_0, fKp), rfl, ⟨by (try dsimp only); omega, by (try dsimp only); omega, by (try dsimp only); omega, by (try dsimp only); omega, by (try dsimp only); exact fun kc kT q_fR q_fPa hc hb h => by rcases F63 with z | z; (exfalso; have z1 := z.2.1; omega); have zq := ci_fN_zNw_np.1; have zw : kT.1.2.2.1.2.2.toInt = (fN 13).toInt - 1 := (by rw [zSr_wd h.1]; exact zsub rfl rfl (by decide) (by omega) (by omega)); have y19 : kT.1.2.2.1.2.2 = v19 := (by rw [zSr_wd h.1, e19, zIxN (n := 13) e17 (by decide)]); have z19 := congrArg Int32.toInt y19; exact zActRr (x := (3 : Int32).toInt) (by unfold sW_ann; exact ((if_neg (by omega)).trans (if_pos (by omega))).trans (by omega)) (by omega) h z.2.2, ci_fKp_zKp_np__F_h0_32_, ci_fN_zNw_np⟩, ⟨by rw [ht]; exact hP, hD⟩⟩, hS.F ht⟩) hS.2.2 dX11_annul_70
  · have c4 : nb.toInt = 0 := z5 rfl (by decide) c4
    refine lv_iconst (v := (-1)) hx hb dX11_annul_7 (by decide) ?_
    refine lv_goto (tgt := 20) hx hb dX11_annul_8 (by decide) ?_
    refine lv_istore_n (lv' := [(1, .int (-1)), (0, .ref h0)]) hx hb dX11_annul_20 rfl hl (by decide) rfl (fun ls hl => ?_)
    refine lv_aload_n hx hb dX11_annul_21 rfl (lv_at hl 1 rfl) ?_
    refine lv_aload_n hx hb dX11_annul_22 rfl (lv_at hl 1 rfl) ?_
    refine va_get (D := (dC, dI)) (ci := 11) (v := .int nb) (C := RX11) (T := TX11) (N := 41) hx hb hts iX11 hown hK hP 0 rfl rfl 25 (by decide) (hts _ qw1152) (fun _ h9 => h9) rfl dX11_annul_23 ?_
    refine lv_if_ne (tgt := 33) hx hb dX11_annul_26 (by decide) (fun c26 => by exfalso; have c26 : ¬ nb.toInt = 0 := z6 rfl (by decide) c26; omega) (fun c26 => ?_)
    have c26 : nb.toInt = 0 := z5 rfl (by decide) c26
    refine lv_iconst (v := 0) hx hb dX11_annul_29 (by decide) ?_
    refine lv_goto (tgt := 63) hx hb dX11_annul_30 (by decide) ?_
    obtain ⟨hPc, hDc, hFc⟩ := zc3 (wc := [(h0, .inr (11, [.int th, .ref tB, .int tsz, .int tat, .int wr, .int dp, .ref rC, .ref rV, .ref rD, .ref rK, .ref rT, .ref rS, .ref rU, .int lw, .int tx, .ref rL, .ref rX, .ref qR, .ref qB, .ref qP, .int qnb, .int qnp, .ref aR, .ref aB, .ref aP, .int nb, .int np, .ref aN, .ref rf, .int ho, .int br, .ref aK, .int ac, .long dw, .ref aE, .int sr, .int sf, .ref aA, .ref aH, .ref aI, .int hi])), (rf, .inl (cI, 5, .inl frf))]) hP hD hS hA [0, 3] (by decide +kernel) rfl
    refine va_calli (va_runV (As := [.int 0]) (rest := []) ⟨hx, hb, hml, hown, hts⟩ (g_X11_isRefused l dC dI cI cJ h0 0 th tB tsz tat wr dp rC rV rD rK rT rS rU lw tx rL rX qR qB qP qnb qnp aR aB aP nb np aN rf ho br aK ac dw aE sr sf aA aH aI hi frf H.size n_ac y_hi y_ho y_lw n_nb n_np (by decide) y_qnb y_qnp y_tat y_tsz y_wr) (cwV 1 hts (zgV qw1481 qw1483 qw66 qw108 qw1484) rfl rfl rfl hd_X11_isRefused ⟨by rw [hR]; exact Nat.le_of_ble_eq_true rfl, by rw [hR]; exact Nat.le_of_ble_eq_true rfl⟩) (zPV hPc hK hDc (va_recv (q := (RX11, TX11, 41)) hK hP (ci := 11) (q0 := 0) rfl rfl)) rfl rfl hl.1 rfl (lv_room (Nat.le_of_ble_eq_true rfl)) dX11_annul_63 ⟨Nat.zero_le _, Nat.zero_le _⟩) hS (fun q _ h => hFc q h) hFc (fun v63 u63 t H locs ht hvm hw hB hz1 hk1 hS9 => ?_)
    obtain ⟨u63_0, rfl⟩ : ∃ z, z = u63 := ⟨_, rfl⟩
    obtain ⟨hP9, hD9⟩ := zj2 (wX := [(h0, .inr (11, [.int th, .ref tB, .int tsz, .int tat, .int wr, .int dp, .ref rC, .ref rV, .ref rD, .ref rK, .ref rT, .ref rS, .ref rU, .int lw, .int tx, .ref rL, .ref rX, .ref qR, .ref qB, .ref qP, .int qnb, .int qnp, .ref aR, .ref aB, .ref aP, .int nb, .int np, .ref aN, .ref rf, .int ho, .int br, .ref aK, .int ac, .long dw, .ref aE, .int sr, .int sf, .ref aA, .ref aH, .ref aI, .int hi])), (aB, .inl (cI, 24, .inl fBr)), (aN, .inl (cI, 97, .inl fN)), (rf, .inl (cI, 5, .inl u63_0)), (aK, .inl (cI, 3880, .inl fKp))]) hP hD hk1 hFc ht hB [0, 3] [(true, 0), (false, 1), (false, 2), (true, 1), (false, 4)] rfl (by decide +kernel) (by decide +kernel) rfl
    clear hP hD hS hPc hDc hFc hB hk1 hz1 hvm
    have hP := hP9
    have hD := hD9
    have hS := hS9
    clear hP9 hD9 hS9
    have zn63_0 : (0 : Int32).toInt = 0 := by decide
    obtain ⟨f63_0, f63_1, f63_2, f63_3⟩ : (0 ≤ v63.toInt) ∧ (v63.toInt ≤ 1) ∧ (v63.toInt = 0 → (0 : Int32).toInt = -1) ∧ ((v63.toInt = 0 ∧ (0 : Int32).toInt = -1 ∧ u63_0 = frf) ∨ (v63.toInt = 1 ∧ ¬ (0 : Int32).toInt = -1 ∧ zRf frf u63_0 (0 : Int32).toInt)) := hw
    have F63 := f63_3
    refine lv_if_eq (tgt := 71) hx hb dX11_annul_66 (by decide) (fun c66 => by exfalso; have c66 : v63.toInt = 0 := z5 rfl (by decide) c66; omega) (fun c66 => ?_)
    have c66 : ¬ v63.toInt = 0 := z6 rfl (by decide) c66
    refine lv_iconst (v := (-1)) hx hb dX11_annul_69 (by decide) ?_
    have zr0 : ((-1) : Int32).toInt = (-1) := by decide
    rw [hQ]
    exact W.iret (v := ((-1))) hx hb hr (fun t ht hW => ⟨⟨(-1), (ac, fN, u63_0, fKp), rfl, ⟨by (try dsimp only); omega, by (try dsimp only); omega, by (try dsimp only); omega, by (try dsimp only); omega, by (try dsimp only); exact fun kc kT q_fR q_fPa hc hb h => by rcases F63 with z | z; (exfalso; have z1 := z.2.1; omega); exact zActRr (x := (0 : Int32).toInt) (by unfold sW_ann; exact (if_pos (by omega)).trans (by omega)) (by omega) h z.2.2, ci_fKp_zKp_np__F_h0_32_, ci_fN_zNw_np⟩, ⟨by rw [ht]; exact hP, hD⟩⟩, hS.F ht⟩) hS.2.2 dX11_annul_70
set_option maxHeartbeats 4000000 in
set_option maxRecDepth 100000 in
theorem g_X11_draw_5 (l : Launch) (dC : Nat → ClassId) (dI : Nat → Nat → Nat) (cI cJ : ClassId) (h0 : Nat) (p0 : Int32) (th : Int32) (tB : Nat) (tsz : Int32) (tat : Int32) (wr : Int32) (dp : Int32) (rC : Nat) (rV : Nat) (rD : Nat) (rK : Nat) (rT : Nat) (rS : Nat) (rU : Nat) (lw : Int32) (tx : Int32) (rL : Nat) (rX : Nat) (qR : Nat) (qB : Nat) (qP : Nat) (qnb : Int32) (qnp : Int32) (aR : Nat) (aB : Nat) (aP : Nat) (nb : Int32) (np : Int32) (aN : Nat) (rf : Nat) (ho : Int32) (br : Int32) (aK : Nat) (ac : Int32) (dw : Int64) (aE : Nat) (sr : Int32) (sf : Int32) (aA : Nat) (aH : Nat) (aI : Nat) (hi : Int32) (sz : Nat) (n_ac : 0 ≤ ac.toInt ∧ ac.toInt ≤ 40) (n_hi : 0 ≤ hi.toInt ∧ hi.toInt ≤ 1) (n_ho : (-1) ≤ ho.toInt ∧ ho.toInt ≤ 3) (n_lw : 0 ≤ lw.toInt ∧ lw.toInt ≤ 4) (n_nb : 0 ≤ nb.toInt ∧ nb.toInt ≤ 6) (n_np : 0 ≤ np.toInt ∧ np.toInt ≤ 5) (n_p0 : 1 ≤ p0.toInt ∧ p0.toInt ≤ 5) (n_qnb : 0 ≤ qnb.toInt ∧ qnb.toInt ≤ 6) (n_qnp : 0 ≤ qnp.toInt ∧ qnp.toInt ≤ 5) (n_tat : 0 ≤ tat.toInt ∧ tat.toInt ≤ 260) (n_tsz : 0 ≤ tsz.toInt ∧ tsz.toInt ≤ 240) (n_wr : (-1) ≤ wr.toInt ∧ wr.toInt ≤ 260)    : Met l yX11_draw (.code yX11_draw cX11_draw 2 (some .int) :: wA) ({ frames := 0, cells := 0, slots := 0, locals := 0 }) (zP (dC, dI) [(cI, .int), (cJ, .long)] [.ref h0, .int p0] sz [(h0, .inr (11, [.int th, .ref tB, .int tsz, .int tat, .int wr, .int dp, .ref rC, .ref rV, .ref rD, .ref rK, .ref rT, .ref rS, .ref rU, .int lw, .int tx, .ref rL, .ref rX, .ref qR, .ref qB, .ref qP, .int qnb, .int qnp, .ref aR, .ref aB, .ref aP, .int nb, .int np, .ref aN, .ref rf, .int ho, .int br, .ref aK, .int ac, .long dw, .ref aE, .int sr, .int sf, .ref aA, .ref aH, .ref aI, .int hi]))]) (va_Qi (fun (r : Int32) (u : Int64) => (0 ≤ r.toInt) ∧ (r.toInt ≤ 4) ∧ (r.toInt < p0.toInt) ∧ (r = sDr (sNx dw) p0) ∧ (u = sNx dw)) (fun (u : Int64) (t : State) => va_P (dC, dI) vwCl [(h0, .inr (11, [.int th, .ref tB, .int tsz, .int tat, .int wr, .int dp, .ref rC, .ref rV, .ref rD, .ref rK, .ref rT, .ref rS, .ref rU, .int lw, .int tx, .ref rL, .ref rX, .ref qR, .ref qB, .ref qP, .int qnb, .int qnp, .ref aR, .ref aB, .ref aP, .int nb, .int np, .ref aN, .ref rf, .int ho, .int br, .ref aK, .int ac, .long u, .ref aE, .int sr, .int sf, .ref aA, .ref aH, .ref aI, .int hi]))] t.heap ∧ va_D (va_A [(h0, .inr (11, [.int th, .ref tB, .int tsz, .int tat, .int wr, .int dp, .ref rC, .ref rV, .ref rD, .ref rK, .ref rT, .ref rS, .ref rU, .int lw, .int tx, .ref rL, .ref rX, .ref qR, .ref qB, .ref qP, .int qnb, .int qnp, .ref aR, .ref aB, .ref aP, .int nb, .int np, .ref aN, .ref rf, .int ho, .int br, .ref aK, .int ac, .long dw, .ref aE, .int sr, .int sf, .ref aA, .ref aH, .ref aI, .int hi]))] sz) [(h0, .inr (11, [.int th, .ref tB, .int tsz, .int tat, .int wr, .int dp, .ref rC, .ref rV, .ref rD, .ref rK, .ref rT, .ref rS, .ref rU, .int lw, .int tx, .ref rL, .ref rX, .ref qR, .ref qB, .ref qP, .int qnb, .int qnp, .ref aR, .ref aB, .ref aP, .int nb, .int np, .ref aN, .ref rf, .int ho, .int br, .ref aK, .int ac, .long u, .ref aE, .int sr, .int sf, .ref aA, .ref aH, .ref aI, .int hi]))]) (va_A [(h0, .inr (11, [.int th, .ref tB, .int tsz, .int tat, .int wr, .int dp, .ref rC, .ref rV, .ref rD, .ref rK, .ref rT, .ref rS, .ref rU, .int lw, .int tx, .ref rL, .ref rX, .ref qR, .ref qB, .ref qP, .int qnb, .int qnp, .ref aR, .ref aB, .ref aP, .int nb, .int np, .ref aN, .ref rf, .int ho, .int br, .ref aK, .int ac, .long dw, .ref aE, .int sr, .int sf, .ref aA, .ref aH, .ref aI, .int hi]))] sz)) 0 0 (va_A [(h0, .inr (11, [.int th, .ref tB, .int tsz, .int tat, .int wr, .int dp, .ref rC, .ref rV, .ref rD, .ref rK, .ref rT, .ref rS, .ref rU, .int lw, .int tx, .ref rL, .ref rX, .ref qR, .ref qB, .ref qP, .int qnb, .int qnp, .ref aR, .ref aB, .ref aP, .int nb, .int np, .ref aN, .ref rf, .int ho, .int br, .ref aK, .int ac, .long dw, .ref aE, .int sr, .int sf, .ref aA, .ref aH, .ref aI, .int hi]))] sz) := by
  refine Met.ofW (cc := cX11_draw) (maxL := 2) (ret := (some .int)) (by decide) rfl ?_
  intro p e s m args below meth c s₁ B hml hv
  have y_ac : zHid (0 ≤ ac.toInt ∧ ac.toInt ≤ 40) := n_ac
  have y_hi : zHid (0 ≤ hi.toInt ∧ hi.toInt ≤ 1) := n_hi
  have y_ho : zHid ((-1) ≤ ho.toInt ∧ ho.toInt ≤ 3) := n_ho
  have y_lw : zHid (0 ≤ lw.toInt ∧ lw.toInt ≤ 4) := n_lw
  have y_nb : zHid (0 ≤ nb.toInt ∧ nb.toInt ≤ 6) := n_nb
  have y_np : zHid (0 ≤ np.toInt ∧ np.toInt ≤ 5) := n_np
  have y_qnb : zHid (0 ≤ qnb.toInt ∧ qnb.toInt ≤ 6) := n_qnb
  have y_qnp : zHid (0 ≤ qnp.toInt ∧ qnp.toInt ≤ 5) := n_qnp
  have y_tat : zHid (0 ≤ tat.toInt ∧ tat.toInt ≤ 260) := n_tat
  have y_tsz : zHid (0 ≤ tsz.toInt ∧ tsz.toInt ≤ 240) := n_tsz
  have y_wr : zHid ((-1) ≤ wr.toInt ∧ wr.toInt ≤ 260) := n_wr
  clear n_ac n_hi n_ho n_lw n_nb n_np n_qnb n_qnp n_tat n_tsz n_wr
  obtain ⟨hargs, hsz, hP, hK, hT⟩ := hv
  have hx := B.exec
  have hb := B.bytes
  have hr := B.returns
  have hts : ∀ w ∈ wA, w.before args s = true := fun w h => atoms_spec (ws := .code yX11_draw cX11_draw 2 (some .int) :: wA) B.pre w (List.mem_cons_of_mem _ h)
  have hown : s.vm.findClass RX11 = some m.cls := findClass_of_methodNamed B.named
  have hlocks := B.notSynchronized
  subst hsz
  have hD := hT.self (sz := s.heap.size)
  generalize hAe : va_A [(h0, .inr (11, [.int th, .ref tB, .int tsz, .int tat, .int wr, .int dp, .ref rC, .ref rV, .ref rD, .ref rK, .ref rT, .ref rS, .ref rU, .int lw, .int tx, .ref rL, .ref rX, .ref qR, .ref qB, .ref qP, .int qnb, .int qnp, .ref aR, .ref aB, .ref aP, .int nb, .int np, .ref aN, .ref rf, .int ho, .int br, .ref aK, .int ac, .long dw, .ref aE, .int sr, .int sf, .ref aA, .ref aH, .ref aI, .int hi]))] s.heap.size = A at hD ⊢
  have hA : ∀ q : Nat, s.heap.size ≤ q → A q := fun q h => by rw [← hAe]; exact Or.inr h
  have hl := lv_entry ([.ref h0, .int p0]) (n := 2) (Nat.le_of_ble_eq_true rfl)
  rw [show entryFrame m args 2 = entryFrame m ([.ref h0, .int p0] : List Value).toArray 2 by rw [hargs], lg_entry_eq]
  generalize (lg_sl ([.ref h0, .int p0]) ++ List.replicate (2 - (lg_sl ([.ref h0, .int p0])).length) Slot.unset).toArray = ls at hl ⊢
  have hl : lv_has ls 2 [(0, .ref h0), (1, .int p0)] := hl
  refine zstart (fun H hH => ?_)
  rw [← hH] at hP
  have hS : va_S A s.heap H [] := by rw [hH]; exact va_S.rf
  generalize ([] : List Loc) = locs at hS ⊢
  refine zgen (fun R Q hR hQ => ?_)
  refine lv_aload_n hx hb dX11_draw_0 rfl (lv_at hl 0 rfl) ?_
  refine lv_aload_n hx hb dX11_draw_1 rfl (lv_at hl 0 rfl) ?_
  refine va_get (D := (dC, dI)) (ci := 11) (v := .long dw) (C := RX11) (T := TX11) (N := 41) hx hb hts iX11 hown hK hP 0 rfl rfl 33 (by decide) (hts _ qw1160) (fun _ h9 => h9) rfl dX11_draw_2 ?_
  refine lv_ldc2 (v := 6364136223846793005) hx hb hown (hts _ qw1557) dX11_draw_5 ?_
  refine lv_lmul hx hb dX11_draw_8 ?_
  refine lv_topl (fun v8 e8 => ?_)
  refine lv_ldc2 (v := 1442695040888963407) hx hb hown (hts _ qw1558) dX11_draw_9 ?_
  refine lv_ladd hx hb dX11_draw_12 ?_
  refine lv_topl (fun v12 e12 => ?_)
  refine va_put (D := (dC, dI)) (ci := 11) (v := .long v12) (ty := .long) (C := RX11) (T := TX11) (N := 41) hx hb hts iX11 tyX11 tyX11_ok nmX11 hown hK hP hD hS 0 rfl rfl 33 (by decide) (hts _ qw1160) (fun _ h9 => h9) rfl (by decide +kernel) rfl rfl (Nat.le_of_ble_eq_true rfl) dX11_draw_13 (fun H locs hP9 hD9 hS9 => ?_)
  clear hP hD hS
  obtain ⟨hP, hD⟩ := zst (wX := [(h0, .inr (11, [.int th, .ref tB, .int tsz, .int tat, .int wr, .int dp, .ref rC, .ref rV, .ref rD, .ref rK, .ref rT, .ref rS, .ref rU, .int lw, .int tx, .ref rL, .ref rX, .ref qR, .ref qB, .ref qP, .int qnb, .int qnp, .ref aR, .ref aB, .ref aP, .int nb, .int np, .ref aN, .ref rf, .int ho, .int br, .ref aK, .int ac, .long v12, .ref aE, .int sr, .int sf, .ref aA, .ref aH, .ref aI, .int hi]))]) hP9 hD9 rfl
  have hS := hS9
  clear hP9 hD9 hS9
  refine lv_aload_n hx hb dX11_draw_16 rfl (lv_at hl 0 rfl) ?_
  refine va_get (D := (dC, dI)) (ci := 11) (v := .long v12) (C := RX11) (T := TX11) (N := 41) hx hb hts iX11 hown hK hP 0 rfl rfl 33 (by decide) (hts _ qw1160) (fun _ h9 => h9) rfl dX11_draw_17 ?_
  refine lv_bipush (v := 33) hx hb dX11_draw_20 (by decide) ?_
  refine lv_lushr hx hb dX11_draw_22 rfl ?_
  refine lv_topl (fun v22 e22 => ?_)
  refine lv_iload_n hx hb dX11_draw_23 rfl (lv_at hl 1 rfl) ?_
  refine lv_i2l hx hb dX11_draw_24 rfl ?_
  refine lv_topl (fun v24 e24 => ?_)
  refine lv_lrem hx hb dX11_draw_25 (zlne e24 (by omega)) ?_
  refine lv_topl (fun v25 e25 => ?_)
  refine lv_l2i hx hb dX11_draw_26 rfl ?_
  refine lv_topi (fun v26 e26 => ?_)
  have i26 : 0 ≤ v26.toInt ∧ v26.toInt < p0.toInt := zbel e22 e24 e25 e26 (by omega)
  rw [hQ]
  exact W.iret (v := v26) hx hb hr (fun t ht hW => ⟨⟨v26, v12, rfl, ⟨by (try dsimp only); omega, by (try dsimp only); omega, by (try dsimp only); omega, by (try dsimp only); unfold sDr; rw [show sNx dw = v12 by unfold sNx; rw [e12, e8], e26, e25, e24, e22], by (try dsimp only); exact show v12 = sNx dw by unfold sNx; rw [e12, e8]⟩, ⟨by rw [ht]; exact hP, hD⟩⟩, hS.F ht⟩) hS.2.2 dX11_draw_27
set_option maxHeartbeats 4000000 in
set_option maxRecDepth 100000 in
theorem g_X11_draw_6 (l : Launch) (dC : Nat → ClassId) (dI : Nat → Nat → Nat) (cI cJ : ClassId) (h0 : Nat) (p0 : Int32) (th : Int32) (tB : Nat) (tsz : Int32) (tat : Int32) (wr : Int32) (dp : Int32) (rC : Nat) (rV : Nat) (rD : Nat) (rK : Nat) (rT : Nat) (rS : Nat) (rU : Nat) (lw : Int32) (tx : Int32) (rL : Nat) (rX : Nat) (qR : Nat) (qB : Nat) (qP : Nat) (qnb : Int32) (qnp : Int32) (aR : Nat) (aB : Nat) (aP : Nat) (nb : Int32) (np : Int32) (aN : Nat) (rf : Nat) (ho : Int32) (br : Int32) (aK : Nat) (ac : Int32) (dw : Int64) (aE : Nat) (sr : Int32) (sf : Int32) (aA : Nat) (aH : Nat) (aI : Nat) (hi : Int32) (sz : Nat) (n_ac : 0 ≤ ac.toInt ∧ ac.toInt ≤ 40) (n_hi : 0 ≤ hi.toInt ∧ hi.toInt ≤ 1) (n_ho : (-1) ≤ ho.toInt ∧ ho.toInt ≤ 3) (n_lw : 0 ≤ lw.toInt ∧ lw.toInt ≤ 4) (n_nb : 0 ≤ nb.toInt ∧ nb.toInt ≤ 6) (n_np : 0 ≤ np.toInt ∧ np.toInt ≤ 5) (n_p0 : 1 ≤ p0.toInt ∧ p0.toInt ≤ 6) (n_qnb : 0 ≤ qnb.toInt ∧ qnb.toInt ≤ 6) (n_qnp : 0 ≤ qnp.toInt ∧ qnp.toInt ≤ 5) (n_tat : 0 ≤ tat.toInt ∧ tat.toInt ≤ 260) (n_tsz : 0 ≤ tsz.toInt ∧ tsz.toInt ≤ 240) (n_wr : (-1) ≤ wr.toInt ∧ wr.toInt ≤ 260)    : Met l yX11_draw (.code yX11_draw cX11_draw 2 (some .int) :: wA) ({ frames := 0, cells := 0, slots := 0, locals := 0 }) (zP (dC, dI) [(cI, .int), (cJ, .long)] [.ref h0, .int p0] sz [(h0, .inr (11, [.int th, .ref tB, .int tsz, .int tat, .int wr, .int dp, .ref rC, .ref rV, .ref rD, .ref rK, .ref rT, .ref rS, .ref rU, .int lw, .int tx, .ref rL, .ref rX, .ref qR, .ref qB, .ref qP, .int qnb, .int qnp, .ref aR, .ref aB, .ref aP, .int nb, .int np, .ref aN, .ref rf, .int ho, .int br, .ref aK, .int ac, .long dw, .ref aE, .int sr, .int sf, .ref aA, .ref aH, .ref aI, .int hi]))]) (va_Qi (fun (r : Int32) (u : Int64) => (0 ≤ r.toInt) ∧ (r.toInt ≤ 5) ∧ (r.toInt < p0.toInt) ∧ (r = sDr (sNx dw) p0) ∧ (u = sNx dw)) (fun (u : Int64) (t : State) => va_P (dC, dI) vwCl [(h0, .inr (11, [.int th, .ref tB, .int tsz, .int tat, .int wr, .int dp, .ref rC, .ref rV, .ref rD, .ref rK, .ref rT, .ref rS, .ref rU, .int lw, .int tx, .ref rL, .ref rX, .ref qR, .ref qB, .ref qP, .int qnb, .int qnp, .ref aR, .ref aB, .ref aP, .int nb, .int np, .ref aN, .ref rf, .int ho, .int br, .ref aK, .int ac, .long u, .ref aE, .int sr, .int sf, .ref aA, .ref aH, .ref aI, .int hi]))] t.heap ∧ va_D (va_A [(h0, .inr (11, [.int th, .ref tB, .int tsz, .int tat, .int wr, .int dp, .ref rC, .ref rV, .ref rD, .ref rK, .ref rT, .ref rS, .ref rU, .int lw, .int tx, .ref rL, .ref rX, .ref qR, .ref qB, .ref qP, .int qnb, .int qnp, .ref aR, .ref aB, .ref aP, .int nb, .int np, .ref aN, .ref rf, .int ho, .int br, .ref aK, .int ac, .long dw, .ref aE, .int sr, .int sf, .ref aA, .ref aH, .ref aI, .int hi]))] sz) [(h0, .inr (11, [.int th, .ref tB, .int tsz, .int tat, .int wr, .int dp, .ref rC, .ref rV, .ref rD, .ref rK, .ref rT, .ref rS, .ref rU, .int lw, .int tx, .ref rL, .ref rX, .ref qR, .ref qB, .ref qP, .int qnb, .int qnp, .ref aR, .ref aB, .ref aP, .int nb, .int np, .ref aN, .ref rf, .int ho, .int br, .ref aK, .int ac, .long u, .ref aE, .int sr, .int sf, .ref aA, .ref aH, .ref aI, .int hi]))]) (va_A [(h0, .inr (11, [.int th, .ref tB, .int tsz, .int tat, .int wr, .int dp, .ref rC, .ref rV, .ref rD, .ref rK, .ref rT, .ref rS, .ref rU, .int lw, .int tx, .ref rL, .ref rX, .ref qR, .ref qB, .ref qP, .int qnb, .int qnp, .ref aR, .ref aB, .ref aP, .int nb, .int np, .ref aN, .ref rf, .int ho, .int br, .ref aK, .int ac, .long dw, .ref aE, .int sr, .int sf, .ref aA, .ref aH, .ref aI, .int hi]))] sz)) 0 0 (va_A [(h0, .inr (11, [.int th, .ref tB, .int tsz, .int tat, .int wr, .int dp, .ref rC, .ref rV, .ref rD, .ref rK, .ref rT, .ref rS, .ref rU, .int lw, .int tx, .ref rL, .ref rX, .ref qR, .ref qB, .ref qP, .int qnb, .int qnp, .ref aR, .ref aB, .ref aP, .int nb, .int np, .ref aN, .ref rf, .int ho, .int br, .ref aK, .int ac, .long dw, .ref aE, .int sr, .int sf, .ref aA, .ref aH, .ref aI, .int hi]))] sz) := by
  refine Met.ofW (cc := cX11_draw) (maxL := 2) (ret := (some .int)) (by decide) rfl ?_
  intro p e s m args below meth c s₁ B hml hv
  have y_ac : zHid (0 ≤ ac.toInt ∧ ac.toInt ≤ 40) := n_ac
  have y_hi : zHid (0 ≤ hi.toInt ∧ hi.toInt ≤ 1) := n_hi
  have y_ho : zHid ((-1) ≤ ho.toInt ∧ ho.toInt ≤ 3) := n_ho
  have y_lw : zHid (0 ≤ lw.toInt ∧ lw.toInt ≤ 4) := n_lw
  have y_nb : zHid (0 ≤ nb.toInt ∧ nb.toInt ≤ 6) := n_nb
  have y_np : zHid (0 ≤ np.toInt ∧ np.toInt ≤ 5) := n_np
  have y_qnb : zHid (0 ≤ qnb.toInt ∧ qnb.toInt ≤ 6) := n_qnb
  have y_qnp : zHid (0 ≤ qnp.toInt ∧ qnp.toInt ≤ 5) := n_qnp
  have y_tat : zHid (0 ≤ tat.toInt ∧ tat.toInt ≤ 260) := n_tat
  have y_tsz : zHid (0 ≤ tsz.toInt ∧ tsz.toInt ≤ 240) := n_tsz
  have y_wr : zHid ((-1) ≤ wr.toInt ∧ wr.toInt ≤ 260) := n_wr
  clear n_ac n_hi n_ho n_lw n_nb n_np n_qnb n_qnp n_tat n_tsz n_wr
  obtain ⟨hargs, hsz, hP, hK, hT⟩ := hv
  have hx := B.exec
  have hb := B.bytes
  have hr := B.returns
  have hts : ∀ w ∈ wA, w.before args s = true := fun w h => atoms_spec (ws := .code yX11_draw cX11_draw 2 (some .int) :: wA) B.pre w (List.mem_cons_of_mem _ h)
  have hown : s.vm.findClass RX11 = some m.cls := findClass_of_methodNamed B.named
  have hlocks := B.notSynchronized
  subst hsz
  have hD := hT.self (sz := s.heap.size)
  generalize hAe : va_A [(h0, .inr (11, [.int th, .ref tB, .int tsz, .int tat, .int wr, .int dp, .ref rC, .ref rV, .ref rD, .ref rK, .ref rT, .ref rS, .ref rU, .int lw, .int tx, .ref rL, .ref rX, .ref qR, .ref qB, .ref qP, .int qnb, .int qnp, .ref aR, .ref aB, .ref aP, .int nb, .int np, .ref aN, .ref rf, .int ho, .int br, .ref aK, .int ac, .long dw, .ref aE, .int sr, .int sf, .ref aA, .ref aH, .ref aI, .int hi]))] s.heap.size = A at hD ⊢
  have hA : ∀ q : Nat, s.heap.size ≤ q → A q := fun q h => by rw [← hAe]; exact Or.inr h
  have hl := lv_entry ([.ref h0, .int p0]) (n := 2) (Nat.le_of_ble_eq_true rfl)
  rw [show entryFrame m args 2 = entryFrame m ([.ref h0, .int p0] : List Value).toArray 2 by rw [hargs], lg_entry_eq]
  generalize (lg_sl ([.ref h0, .int p0]) ++ List.replicate (2 - (lg_sl ([.ref h0, .int p0])).length) Slot.unset).toArray = ls at hl ⊢
  have hl : lv_has ls 2 [(0, .ref h0), (1, .int p0)] := hl
  refine zstart (fun H hH => ?_)
  rw [← hH] at hP
  have hS : va_S A s.heap H [] := by rw [hH]; exact va_S.rf
  generalize ([] : List Loc) = locs at hS ⊢
  refine zgen (fun R Q hR hQ => ?_)
  refine lv_aload_n hx hb dX11_draw_0 rfl (lv_at hl 0 rfl) ?_
  refine lv_aload_n hx hb dX11_draw_1 rfl (lv_at hl 0 rfl) ?_
  refine va_get (D := (dC, dI)) (ci := 11) (v := .long dw) (C := RX11) (T := TX11) (N := 41) hx hb hts iX11 hown hK hP 0 rfl rfl 33 (by decide) (hts _ qw1160) (fun _ h9 => h9) rfl dX11_draw_2 ?_
  refine lv_ldc2 (v := 6364136223846793005) hx hb hown (hts _ qw1557) dX11_draw_5 ?_
  refine lv_lmul hx hb dX11_draw_8 ?_
  refine lv_topl (fun v8 e8 => ?_)
  refine lv_ldc2 (v := 1442695040888963407) hx hb hown (hts _ qw1558) dX11_draw_9 ?_
  refine lv_ladd hx hb dX11_draw_12 ?_
  refine lv_topl (fun v12 e12 => ?_)
  refine va_put (D := (dC, dI)) (ci := 11) (v := .long v12) (ty := .long) (C := RX11) (T := TX11) (N := 41) hx hb hts iX11 tyX11 tyX11_ok nmX11 hown hK hP hD hS 0 rfl rfl 33 (by decide) (hts _ qw1160) (fun _ h9 => h9) rfl (by decide +kernel) rfl rfl (Nat.le_of_ble_eq_true rfl) dX11_draw_13 (fun H locs hP9 hD9 hS9 => ?_)
  clear hP hD hS
  obtain ⟨hP, hD⟩ := zst (wX := [(h0, .inr (11, [.int th, .ref tB, .int tsz, .int tat, .int wr, .int dp, .ref rC, .ref rV, .ref rD, .ref rK, .ref rT, .ref rS, .ref rU, .int lw, .int tx, .ref rL, .ref rX, .ref qR, .ref qB, .ref qP, .int qnb, .int qnp, .ref aR, .ref aB, .ref aP, .int nb, .int np, .ref aN, .ref rf, .int ho, .int br, .ref aK, .int ac, .long v12, .ref aE, .int sr, .int sf, .ref aA, .ref aH, .ref aI, .int hi]))]) hP9 hD9 rfl
  have hS := hS9
  clear hP9 hD9 hS9
  refine lv_aload_n hx hb dX11_draw_16 rfl (lv_at hl 0 rfl) ?_
  refine va_get (D := (dC, dI)) (ci := 11) (v := .long v12) (C := RX11) (T := TX11) (N := 41) hx hb hts iX11 hown hK hP 0 rfl rfl 33 (by decide) (hts _ qw1160) (fun _ h9 => h9) rfl dX11_draw_17 ?_
  refine lv_bipush (v := 33) hx hb dX11_draw_20 (by decide) ?_
  refine lv_lushr hx hb dX11_draw_22 rfl ?_
  refine lv_topl (fun v22 e22 => ?_)
  refine lv_iload_n hx hb dX11_draw_23 rfl (lv_at hl 1 rfl) ?_
  refine lv_i2l hx hb dX11_draw_24 rfl ?_
  refine lv_topl (fun v24 e24 => ?_)
  refine lv_lrem hx hb dX11_draw_25 (zlne e24 (by omega)) ?_
  refine lv_topl (fun v25 e25 => ?_)
  refine lv_l2i hx hb dX11_draw_26 rfl ?_
  refine lv_topi (fun v26 e26 => ?_)
  have i26 : 0 ≤ v26.toInt ∧ v26.toInt < p0.toInt := zbel e22 e24 e25 e26 (by omega)
  rw [hQ]
  exact W.iret (v := v26) hx hb hr (fun t ht hW => ⟨⟨v26, v12, rfl, ⟨by (try dsimp only); omega, by (try dsimp only); omega, by (try dsimp only); omega, by (try dsimp only); unfold sDr; rw [show sNx dw = v12 by unfold sNx; rw [e12, e8], e26, e25, e24, e22], by (try dsimp only); exact show v12 = sNx dw by unfold sNx; rw [e12, e8]⟩, ⟨by rw [ht]; exact hP, hD⟩⟩, hS.F ht⟩) hS.2.2 dX11_draw_27
set_option maxHeartbeats 4000000 in
set_option maxRecDepth 100000 in
theorem g_X11_draw_10 (l : Launch) (dC : Nat → ClassId) (dI : Nat → Nat → Nat) (cI cJ : ClassId) (h0 : Nat) (p0 : Int32) (th : Int32) (tB : Nat) (tsz : Int32) (tat : Int32) (wr : Int32) (dp : Int32) (rC : Nat) (rV : Nat) (rD : Nat) (rK : Nat) (rT : Nat) (rS : Nat) (rU : Nat) (lw : Int32) (tx : Int32) (rL : Nat) (rX : Nat) (qR : Nat) (qB : Nat) (qP : Nat) (qnb : Int32) (qnp : Int32) (aR : Nat) (aB : Nat) (aP : Nat) (nb : Int32) (np : Int32) (aN : Nat) (rf : Nat) (ho : Int32) (br : Int32) (aK : Nat) (ac : Int32) (dw : Int64) (aE : Nat) (sr : Int32) (sf : Int32) (aA : Nat) (aH : Nat) (aI : Nat) (hi : Int32) (sz : Nat) (n_ac : 0 ≤ ac.toInt ∧ ac.toInt ≤ 40) (n_hi : 0 ≤ hi.toInt ∧ hi.toInt ≤ 1) (n_ho : (-1) ≤ ho.toInt ∧ ho.toInt ≤ 3) (n_lw : 0 ≤ lw.toInt ∧ lw.toInt ≤ 4) (n_nb : 0 ≤ nb.toInt ∧ nb.toInt ≤ 6) (n_np : 0 ≤ np.toInt ∧ np.toInt ≤ 5) (n_p0 : 1 ≤ p0.toInt ∧ p0.toInt ≤ 10) (n_qnb : 0 ≤ qnb.toInt ∧ qnb.toInt ≤ 6) (n_qnp : 0 ≤ qnp.toInt ∧ qnp.toInt ≤ 5) (n_tat : 0 ≤ tat.toInt ∧ tat.toInt ≤ 260) (n_tsz : 0 ≤ tsz.toInt ∧ tsz.toInt ≤ 240) (n_wr : (-1) ≤ wr.toInt ∧ wr.toInt ≤ 260)    : Met l yX11_draw (.code yX11_draw cX11_draw 2 (some .int) :: wA) ({ frames := 0, cells := 0, slots := 0, locals := 0 }) (zP (dC, dI) [(cI, .int), (cJ, .long)] [.ref h0, .int p0] sz [(h0, .inr (11, [.int th, .ref tB, .int tsz, .int tat, .int wr, .int dp, .ref rC, .ref rV, .ref rD, .ref rK, .ref rT, .ref rS, .ref rU, .int lw, .int tx, .ref rL, .ref rX, .ref qR, .ref qB, .ref qP, .int qnb, .int qnp, .ref aR, .ref aB, .ref aP, .int nb, .int np, .ref aN, .ref rf, .int ho, .int br, .ref aK, .int ac, .long dw, .ref aE, .int sr, .int sf, .ref aA, .ref aH, .ref aI, .int hi]))]) (va_Qi (fun (r : Int32) (u : Int64) => (0 ≤ r.toInt) ∧ (r.toInt ≤ 9) ∧ (r.toInt < p0.toInt) ∧ (r = sDr (sNx dw) p0) ∧ (u = sNx dw)) (fun (u : Int64) (t : State) => va_P (dC, dI) vwCl [(h0, .inr (11, [.int th, .ref tB, .int tsz, .int tat, .int wr, .int dp, .ref rC, .ref rV, .ref rD, .ref rK, .ref rT, .ref rS, .ref rU, .int lw, .int tx, .ref rL, .ref rX, .ref qR, .ref qB, .ref qP, .int qnb, .int qnp, .ref aR, .ref aB, .ref aP, .int nb, .int np, .ref aN, .ref rf, .int ho, .int br, .ref aK, .int ac, .long u, .ref aE, .int sr, .int sf, .ref aA, .ref aH, .ref aI, .int hi]))] t.heap ∧ va_D (va_A [(h0, .inr (11, [.int th, .ref tB, .int tsz, .int tat, .int wr, .int dp, .ref rC, .ref rV, .ref rD, .ref rK, .ref rT, .ref rS, .ref rU, .int lw, .int tx, .ref rL, .ref rX, .ref qR, .ref qB, .ref qP, .int qnb, .int qnp, .ref aR, .ref aB, .ref aP, .int nb, .int np, .ref aN, .ref rf, .int ho, .int br, .ref aK, .int ac, .long dw, .ref aE, .int sr, .int sf, .ref aA, .ref aH, .ref aI, .int hi]))] sz) [(h0, .inr (11, [.int th, .ref tB, .int tsz, .int tat, .int wr, .int dp, .ref rC, .ref rV, .ref rD, .ref rK, .ref rT, .ref rS, .ref rU, .int lw, .int tx, .ref rL, .ref rX, .ref qR, .ref qB, .ref qP, .int qnb, .int qnp, .ref aR, .ref aB, .ref aP, .int nb, .int np, .ref aN, .ref rf, .int ho, .int br, .ref aK, .int ac, .long u, .ref aE, .int sr, .int sf, .ref aA, .ref aH, .ref aI, .int hi]))]) (va_A [(h0, .inr (11, [.int th, .ref tB, .int tsz, .int tat, .int wr, .int dp, .ref rC, .ref rV, .ref rD, .ref rK, .ref rT, .ref rS, .ref rU, .int lw, .int tx, .ref rL, .ref rX, .ref qR, .ref qB, .ref qP, .int qnb, .int qnp, .ref aR, .ref aB, .ref aP, .int nb, .int np, .ref aN, .ref rf, .int ho, .int br, .ref aK, .int ac, .long dw, .ref aE, .int sr, .int sf, .ref aA, .ref aH, .ref aI, .int hi]))] sz)) 0 0 (va_A [(h0, .inr (11, [.int th, .ref tB, .int tsz, .int tat, .int wr, .int dp, .ref rC, .ref rV, .ref rD, .ref rK, .ref rT, .ref rS, .ref rU, .int lw, .int tx, .ref rL, .ref rX, .ref qR, .ref qB, .ref qP, .int qnb, .int qnp, .ref aR, .ref aB, .ref aP, .int nb, .int np, .ref aN, .ref rf, .int ho, .int br, .ref aK, .int ac, .long dw, .ref aE, .int sr, .int sf, .ref aA, .ref aH, .ref aI, .int hi]))] sz) := by
  refine Met.ofW (cc := cX11_draw) (maxL := 2) (ret := (some .int)) (by decide) rfl ?_
  intro p e s m args below meth c s₁ B hml hv
  have y_ac : zHid (0 ≤ ac.toInt ∧ ac.toInt ≤ 40) := n_ac
  have y_hi : zHid (0 ≤ hi.toInt ∧ hi.toInt ≤ 1) := n_hi
  have y_ho : zHid ((-1) ≤ ho.toInt ∧ ho.toInt ≤ 3) := n_ho
  have y_lw : zHid (0 ≤ lw.toInt ∧ lw.toInt ≤ 4) := n_lw
  have y_nb : zHid (0 ≤ nb.toInt ∧ nb.toInt ≤ 6) := n_nb
  have y_np : zHid (0 ≤ np.toInt ∧ np.toInt ≤ 5) := n_np
  have y_qnb : zHid (0 ≤ qnb.toInt ∧ qnb.toInt ≤ 6) := n_qnb
  have y_qnp : zHid (0 ≤ qnp.toInt ∧ qnp.toInt ≤ 5) := n_qnp
  have y_tat : zHid (0 ≤ tat.toInt ∧ tat.toInt ≤ 260) := n_tat
  have y_tsz : zHid (0 ≤ tsz.toInt ∧ tsz.toInt ≤ 240) := n_tsz
  have y_wr : zHid ((-1) ≤ wr.toInt ∧ wr.toInt ≤ 260) := n_wr
  clear n_ac n_hi n_ho n_lw n_nb n_np n_qnb n_qnp n_tat n_tsz n_wr
  obtain ⟨hargs, hsz, hP, hK, hT⟩ := hv
  have hx := B.exec
  have hb := B.bytes
  have hr := B.returns
  have hts : ∀ w ∈ wA, w.before args s = true := fun w h => atoms_spec (ws := .code yX11_draw cX11_draw 2 (some .int) :: wA) B.pre w (List.mem_cons_of_mem _ h)
  have hown : s.vm.findClass RX11 = some m.cls := findClass_of_methodNamed B.named
  have hlocks := B.notSynchronized
  subst hsz
  have hD := hT.self (sz := s.heap.size)
  generalize hAe : va_A [(h0, .inr (11, [.int th, .ref tB, .int tsz, .int tat, .int wr, .int dp, .ref rC, .ref rV, .ref rD, .ref rK, .ref rT, .ref rS, .ref rU, .int lw, .int tx, .ref rL, .ref rX, .ref qR, .ref qB, .ref qP, .int qnb, .int qnp, .ref aR, .ref aB, .ref aP, .int nb, .int np, .ref aN, .ref rf, .int ho, .int br, .ref aK, .int ac, .long dw, .ref aE, .int sr, .int sf, .ref aA, .ref aH, .ref aI, .int hi]))] s.heap.size = A at hD ⊢
  have hA : ∀ q : Nat, s.heap.size ≤ q → A q := fun q h => by rw [← hAe]; exact Or.inr h
  have hl := lv_entry ([.ref h0, .int p0]) (n := 2) (Nat.le_of_ble_eq_true rfl)
  rw [show entryFrame m args 2 = entryFrame m ([.ref h0, .int p0] : List Value).toArray 2 by rw [hargs], lg_entry_eq]
  generalize (lg_sl ([.ref h0, .int p0]) ++ List.replicate (2 - (lg_sl ([.ref h0, .int p0])).length) Slot.unset).toArray = ls at hl ⊢
  have hl : lv_has ls 2 [(0, .ref h0), (1, .int p0)] := hl
  refine zstart (fun H hH => ?_)
  rw [← hH] at hP
  have hS : va_S A s.heap H [] := by rw [hH]; exact va_S.rf
  generalize ([] : List Loc) = locs at hS ⊢
  refine zgen (fun R Q hR hQ => ?_)
  refine lv_aload_n hx hb dX11_draw_0 rfl (lv_at hl 0 rfl) ?_
  refine lv_aload_n hx hb dX11_draw_1 rfl (lv_at hl 0 rfl) ?_
  refine va_get (D := (dC, dI)) (ci := 11) (v := .long dw) (C := RX11) (T := TX11) (N := 41) hx hb hts iX11 hown hK hP 0 rfl rfl 33 (by decide) (hts _ qw1160) (fun _ h9 => h9) rfl dX11_draw_2 ?_
  refine lv_ldc2 (v := 6364136223846793005) hx hb hown (hts _ qw1557) dX11_draw_5 ?_
  refine lv_lmul hx hb dX11_draw_8 ?_
  refine lv_topl (fun v8 e8 => ?_)
  refine lv_ldc2 (v := 1442695040888963407) hx hb hown (hts _ qw1558) dX11_draw_9 ?_
  refine lv_ladd hx hb dX11_draw_12 ?_
  refine lv_topl (fun v12 e12 => ?_)
  refine va_put (D := (dC, dI)) (ci := 11) (v := .long v12) (ty := .long) (C := RX11) (T := TX11) (N := 41) hx hb hts iX11 tyX11 tyX11_ok nmX11 hown hK hP hD hS 0 rfl rfl 33 (by decide) (hts _ qw1160) (fun _ h9 => h9) rfl (by decide +kernel) rfl rfl (Nat.le_of_ble_eq_true rfl) dX11_draw_13 (fun H locs hP9 hD9 hS9 => ?_)
  clear hP hD hS
  obtain ⟨hP, hD⟩ := zst (wX := [(h0, .inr (11, [.int th, .ref tB, .int tsz, .int tat, .int wr, .int dp, .ref rC, .ref rV, .ref rD, .ref rK, .ref rT, .ref rS, .ref rU, .int lw, .int tx, .ref rL, .ref rX, .ref qR, .ref qB, .ref qP, .int qnb, .int qnp, .ref aR, .ref aB, .ref aP, .int nb, .int np, .ref aN, .ref rf, .int ho, .int br, .ref aK, .int ac, .long v12, .ref aE, .int sr, .int sf, .ref aA, .ref aH, .ref aI, .int hi]))]) hP9 hD9 rfl
  have hS := hS9
  clear hP9 hD9 hS9
  refine lv_aload_n hx hb dX11_draw_16 rfl (lv_at hl 0 rfl) ?_
  refine va_get (D := (dC, dI)) (ci := 11) (v := .long v12) (C := RX11) (T := TX11) (N := 41) hx hb hts iX11 hown hK hP 0 rfl rfl 33 (by decide) (hts _ qw1160) (fun _ h9 => h9) rfl dX11_draw_17 ?_
  refine lv_bipush (v := 33) hx hb dX11_draw_20 (by decide) ?_
  refine lv_lushr hx hb dX11_draw_22 rfl ?_
  refine lv_topl (fun v22 e22 => ?_)
  refine lv_iload_n hx hb dX11_draw_23 rfl (lv_at hl 1 rfl) ?_
  refine lv_i2l hx hb dX11_draw_24 rfl ?_
  refine lv_topl (fun v24 e24 => ?_)
  refine lv_lrem hx hb dX11_draw_25 (zlne e24 (by omega)) ?_
  refine lv_topl (fun v25 e25 => ?_)
  refine lv_l2i hx hb dX11_draw_26 rfl ?_
  refine lv_topi (fun v26 e26 => ?_)
  have i26 : 0 ≤ v26.toInt ∧ v26.toInt < p0.toInt := zbel e22 e24 e25 e26 (by omega)
  rw [hQ]
  exact W.iret (v := v26) hx hb hr (fun t ht hW => ⟨⟨v26, v12, rfl, ⟨by (try dsimp only); omega, by (try dsimp only); omega, by (try dsimp only); omega, by (try dsimp only); unfold sDr; rw [show sNx dw = v12 by unfold sNx; rw [e12, e8], e26, e25, e24, e22], by (try dsimp only); exact show v12 = sNx dw by unfold sNx; rw [e12, e8]⟩, ⟨by rw [ht]; exact hP, hD⟩⟩, hS.F ht⟩) hS.2.2 dX11_draw_27
set_option maxHeartbeats 4000000 in
set_option maxRecDepth 100000 in
theorem g_X11_drawMonth (l : Launch) (dC : Nat → ClassId) (dI : Nat → Nat → Nat) (cI cJ : ClassId) (h0 : Nat) (th : Int32) (tB : Nat) (tsz : Int32) (tat : Int32) (wr : Int32) (dp : Int32) (rC : Nat) (rV : Nat) (rD : Nat) (rK : Nat) (rT : Nat) (rS : Nat) (rU : Nat) (lw : Int32) (tx : Int32) (rL : Nat) (rX : Nat) (qR : Nat) (qB : Nat) (qP : Nat) (qnb : Int32) (qnp : Int32) (aR : Nat) (aB : Nat) (aP : Nat) (nb : Int32) (np : Int32) (aN : Nat) (rf : Nat) (ho : Int32) (br : Int32) (aK : Nat) (ac : Int32) (dw : Int64) (aE : Nat) (sr : Int32) (sf : Int32) (aA : Nat) (aH : Nat) (aI : Nat) (hi : Int32) (fC : Nat → Int32) (fV : Nat → Int32) (fK : Nat → Int32) (fT : Nat → Int32) (fS : Nat → Int32) (fU : Nat → Int32) (fL : Nat → Int32) (fX : Nat → Int32) (fBr : Nat → Int32) (fPa : Nat → Int32) (fN : Nat → Int32) (sz : Nat) (n_ac : 0 ≤ ac.toInt ∧ ac.toInt ≤ 40) (n_hi : 0 ≤ hi.toInt ∧ hi.toInt ≤ 1) (n_ho : (-1) ≤ ho.toInt ∧ ho.toInt ≤ 3) (n_lw : 0 ≤ lw.toInt ∧ lw.toInt ≤ 4) (n_nb : 1 ≤ nb.toInt ∧ nb.toInt ≤ 6) (n_np : 1 ≤ np.toInt ∧ np.toInt ≤ 5) (n_qnb : 0 ≤ qnb.toInt ∧ qnb.toInt ≤ 6) (n_qnp : 0 ≤ qnp.toInt ∧ qnp.toInt ≤ 5) (n_tat : 0 ≤ tat.toInt ∧ tat.toInt ≤ 260) (n_tsz : 0 ≤ tsz.toInt ∧ tsz.toInt ≤ 240) (n_wr : (-1) ≤ wr.toInt ∧ wr.toInt ≤ 260) (hls : zLs ho fC fV fK fT fS fU) (ci_fBr_zBr_nb : zBr nb fBr) (ci_fN_zNw_np : zNw np fN) (ci_fPa_zBr_np : zBr np fPa)  : Met l yX11_drawMonth (.code yX11_drawMonth cX11_drawMonth 4 none :: wA) ({ frames := 8, cells := 0, slots := 0, locals := 195 }) (zP (dC, dI) [(cI, .int), (cJ, .long)] [.ref h0] sz [(h0, .inr (11, [.int th, .ref tB, .int tsz, .int tat, .int wr, .int dp, .ref rC, .ref rV, .ref rD, .ref rK, .ref rT, .ref rS, .ref rU, .int lw, .int tx, .ref rL, .ref rX, .ref qR, .ref qB, .ref qP, .int qnb, .int qnp, .ref aR, .ref aB, .ref aP, .int nb, .int np, .ref aN, .ref rf, .int ho, .int br, .ref aK, .int ac, .long dw, .ref aE, .int sr, .int sf, .ref aA, .ref aH, .ref aI, .int hi])), (rC, .inl (cI, 2600, .inl fC)), (rV, .inl (cI, 2600, .inl fV)), (rK, .inl (cI, 5, .inl fK)), (rT, .inl (cI, 700, .inl fT)), (rS, .inl (cI, 700, .inl fS)), (rU, .inl (cI, 700, .inl fU)), (rL, .inl (cI, 6, .inl fL)), (rX, .inl (cI, 80, .inl fX)), (aB, .inl (cI, 24, .inl fBr)), (aP, .inl (cI, 20, .inl fPa)), (aN, .inl (cI, 97, .inl fN))]) (va_Qv (fun (u : Int64 × (Nat → Int32) × (Nat → Int32) × (Nat → Int32)) => (∀ (kc : zK3) (kT : zT) (q_fR : Nat → Int32) (kl : Option ((Int → Int) × Int)), zCn q_fR fBr fPa nb.toInt np.toInt kc → zKo nb.toInt np.toInt kc kT → zSr nb.toInt np.toInt kT.1 fN → zLwR ho fC fV fK fT fS fU kl → zSr nb.toInt np.toInt (sDq nb br (sDp nb np kc kl kT.1 dw) (sNx (sNx dw))) u.2.2.2 ∧ u.1 = sDx br (sNx (sNx dw))) ∧ (zNw np u.2.2.2)) (fun (u : Int64 × (Nat → Int32) × (Nat → Int32) × (Nat → Int32)) (t : State) => va_P (dC, dI) vwCl [(h0, .inr (11, [.int th, .ref tB, .int tsz, .int tat, .int wr, .int dp, .ref rC, .ref rV, .ref rD, .ref rK, .ref rT, .ref rS, .ref rU, .int lw, .int tx, .ref rL, .ref rX, .ref qR, .ref qB, .ref qP, .int qnb, .int qnp, .ref aR, .ref aB, .ref aP, .int nb, .int np, .ref aN, .ref rf, .int ho, .int br, .ref aK, .int ac, .long u.1, .ref aE, .int sr, .int sf, .ref aA, .ref aH, .ref aI, .int hi])), (rC, .inl (cI, 2600, .inl fC)), (rV, .inl (cI, 2600, .inl fV)), (rK, .inl (cI, 5, .inl fK)), (rT, .inl (cI, 700, .inl fT)), (rS, .inl (cI, 700, .inl fS)), (rU, .inl (cI, 700, .inl fU)), (rL, .inl (cI, 6, .inl u.2.1)), (rX, .inl (cI, 80, .inl u.2.2.1)), (aB, .inl (cI, 24, .inl fBr)), (aP, .inl (cI, 20, .inl fPa)), (aN, .inl (cI, 97, .inl u.2.2.2))] t.heap ∧ va_D (va_A [(h0, .inr (11, [.int th, .ref tB, .int tsz, .int tat, .int wr, .int dp, .ref rC, .ref rV, .ref rD, .ref rK, .ref rT, .ref rS, .ref rU, .int lw, .int tx, .ref rL, .ref rX, .ref qR, .ref qB, .ref qP, .int qnb, .int qnp, .ref aR, .ref aB, .ref aP, .int nb, .int np, .ref aN, .ref rf, .int ho, .int br, .ref aK, .int ac, .long dw, .ref aE, .int sr, .int sf, .ref aA, .ref aH, .ref aI, .int hi])), (rC, .inl (cI, 2600, .inl fC)), (rV, .inl (cI, 2600, .inl fV)), (rK, .inl (cI, 5, .inl fK)), (rT, .inl (cI, 700, .inl fT)), (rS, .inl (cI, 700, .inl fS)), (rU, .inl (cI, 700, .inl fU)), (rL, .inl (cI, 6, .inl fL)), (rX, .inl (cI, 80, .inl fX)), (aB, .inl (cI, 24, .inl fBr)), (aP, .inl (cI, 20, .inl fPa)), (aN, .inl (cI, 97, .inl fN))] sz) [(h0, .inr (11, [.int th, .ref tB, .int tsz, .int tat, .int wr, .int dp, .ref rC, .ref rV, .ref rD, .ref rK, .ref rT, .ref rS, .ref rU, .int lw, .int tx, .ref rL, .ref rX, .ref qR, .ref qB, .ref qP, .int qnb, .int qnp, .ref aR, .ref aB, .ref aP, .int nb, .int np, .ref aN, .ref rf, .int ho, .int br, .ref aK, .int ac, .long u.1, .ref aE, .int sr, .int sf, .ref aA, .ref aH, .ref aI, .int hi])), (rC, .inl (cI, 2600, .inl fC)), (rV, .inl (cI, 2600, .inl fV)), (rK, .inl (cI, 5, .inl fK)), (rT, .inl (cI, 700, .inl fT)), (rS, .inl (cI, 700, .inl fS)), (rU, .inl (cI, 700, .inl fU)), (rL, .inl (cI, 6, .inl u.2.1)), (rX, .inl (cI, 80, .inl u.2.2.1)), (aB, .inl (cI, 24, .inl fBr)), (aP, .inl (cI, 20, .inl fPa)), (aN, .inl (cI, 97, .inl u.2.2.2))]) (va_A [(h0, .inr (11, [.int th, .ref tB, .int tsz, .int tat, .int wr, .int dp, .ref rC, .ref rV, .ref rD, .ref rK, .ref rT, .ref rS, .ref rU, .int lw, .int tx, .ref rL, .ref rX, .ref qR, .ref qB, .ref qP, .int qnb, .int qnp, .ref aR, .ref aB, .ref aP, .int nb, .int np, .ref aN, .ref rf, .int ho, .int br, .ref aK, .int ac, .long dw, .ref aE, .int sr, .int sf, .ref aA, .ref aH, .ref aI, .int hi])), (rC, .inl (cI, 2600, .inl fC)), (rV, .inl (cI, 2600, .inl fV)), (rK, .inl (cI, 5, .inl fK)), (rT, .inl (cI, 700, .inl fT)), (rS, .inl (cI, 700, .inl fS)), (rU, .inl (cI, 700, .inl fU)), (rL, .inl (cI, 6, .inl fL)), (rX, .inl (cI, 80, .inl fX)), (aB, .inl (cI, 24, .inl fBr)), (aP, .inl (cI, 20, .inl fPa)), (aN, .inl (cI, 97, .inl fN))] sz)) 0 0 (va_A [(h0, .inr (11, [.int th, .ref tB, .int tsz, .int tat, .int wr, .int dp, .ref rC, .ref rV, .ref rD, .ref rK, .ref rT, .ref rS, .ref rU, .int lw, .int tx, .ref rL, .ref rX, .ref qR, .ref qB, .ref qP, .int qnb, .int qnp, .ref aR, .ref aB, .ref aP, .int nb, .int np, .ref aN, .ref rf, .int ho, .int br, .ref aK, .int ac, .long dw, .ref aE, .int sr, .int sf, .ref aA, .ref aH, .ref aI, .int hi])), (rC, .inl (cI, 2600, .inl fC)), (rV, .inl (cI, 2600, .inl fV)), (rK, .inl (cI, 5, .inl fK)), (rT, .inl (cI, 700, .inl fT)), (rS, .inl (cI, 700, .inl fS)), (rU, .inl (cI, 700, .inl fU)), (rL, .inl (cI, 6, .inl fL)), (rX, .inl (cI, 80, .inl fX)), (aB, .inl (cI, 24, .inl fBr)), (aP, .inl (cI, 20, .inl fPa)), (aN, .inl (cI, 97, .inl fN))] sz) := by
  refine Met.ofW (cc := cX11_drawMonth) (maxL := 4) (ret := none) (by decide) rfl ?_
  intro p e s m args below meth c s₁ B hml hv
  have y_ac : zHid (0 ≤ ac.toInt ∧ ac.toInt ≤ 40) := n_ac
  have y_hi : zHid (0 ≤ hi.toInt ∧ hi.toInt ≤ 1) := n_hi
  have y_ho : zHid ((-1) ≤ ho.toInt ∧ ho.toInt ≤ 3) := n_ho
  have y_lw : zHid (0 ≤ lw.toInt ∧ lw.toInt ≤ 4) := n_lw
  have y_qnb : zHid (0 ≤ qnb.toInt ∧ qnb.toInt ≤ 6) := n_qnb
  have y_qnp : zHid (0 ≤ qnp.toInt ∧ qnp.toInt ≤ 5) := n_qnp
  have y_tat : zHid (0 ≤ tat.toInt ∧ tat.toInt ≤ 260) := n_tat
  have y_tsz : zHid (0 ≤ tsz.toInt ∧ tsz.toInt ≤ 240) := n_tsz
  have y_wr : zHid ((-1) ≤ wr.toInt ∧ wr.toInt ≤ 260) := n_wr
  clear n_ac n_hi n_ho n_lw n_qnb n_qnp n_tat n_tsz n_wr
  obtain ⟨hargs, hsz, hP, hK, hT⟩ := hv
  have hx := B.exec
  have hb := B.bytes
  have hr := B.returns
  have hts : ∀ w ∈ wA, w.before args s = true := fun w h => atoms_spec (ws := .code yX11_drawMonth cX11_drawMonth 4 none :: wA) B.pre w (List.mem_cons_of_mem _ h)
  have hown : s.vm.findClass RX11 = some m.cls := findClass_of_methodNamed B.named
  have hlocks := B.notSynchronized
  subst hsz
  have hD := hT.self (sz := s.heap.size)
  generalize hAe : va_A [(h0, .inr (11, [.int th, .ref tB, .int tsz, .int tat, .int wr, .int dp, .ref rC, .ref rV, .ref rD, .ref rK, .ref rT, .ref rS, .ref rU, .int lw, .int tx, .ref rL, .ref rX, .ref qR, .ref qB, .ref qP, .int qnb, .int qnp, .ref aR, .ref aB, .ref aP, .int nb, .int np, .ref aN, .ref rf, .int ho, .int br, .ref aK, .int ac, .long dw, .ref aE, .int sr, .int sf, .ref aA, .ref aH, .ref aI, .int hi])), (rC, .inl (cI, 2600, .inl fC)), (rV, .inl (cI, 2600, .inl fV)), (rK, .inl (cI, 5, .inl fK)), (rT, .inl (cI, 700, .inl fT)), (rS, .inl (cI, 700, .inl fS)), (rU, .inl (cI, 700, .inl fU)), (rL, .inl (cI, 6, .inl fL)), (rX, .inl (cI, 80, .inl fX)), (aB, .inl (cI, 24, .inl fBr)), (aP, .inl (cI, 20, .inl fPa)), (aN, .inl (cI, 97, .inl fN))] s.heap.size = A at hD ⊢
  have hA : ∀ q : Nat, s.heap.size ≤ q → A q := fun q h => by rw [← hAe]; exact Or.inr h
  have hl := lv_entry ([.ref h0]) (n := 4) (Nat.le_of_ble_eq_true rfl)
  rw [show entryFrame m args 4 = entryFrame m ([.ref h0] : List Value).toArray 4 by rw [hargs], lg_entry_eq]
  generalize (lg_sl ([.ref h0]) ++ List.replicate (4 - (lg_sl ([.ref h0])).length) Slot.unset).toArray = ls at hl ⊢
  have hl : lv_has ls 4 [(0, .ref h0)] := hl
  refine zstart (fun H hH => ?_)
  rw [← hH] at hP
  have hS : va_S A s.heap H [] := by rw [hH]; exact va_S.rf
  generalize ([] : List Loc) = locs at hS ⊢
  refine zgen (fun R Q hR hQ => ?_)
  refine lv_aload_n hx hb dX11_drawMonth_0 rfl (lv_at hl 0 rfl) ?_
  refine lv_aload_n hx hb dX11_drawMonth_1 rfl (lv_at hl 0 rfl) ?_
  refine va_get (D := (dC, dI)) (ci := 11) (v := .int np) (C := RX11) (T := TX11) (N := 41) hx hb hts iX11 hown hK hP 0 rfl rfl 26 (by decide) (hts _ qw1153) (fun _ h9 => h9) rfl dX11_drawMonth_2 ?_
  obtain ⟨hPc, hDc, hFc⟩ := zc3 (wc := [(h0, .inr (11, [.int th, .ref tB, .int tsz, .int tat, .int wr, .int dp, .ref rC, .ref rV, .ref rD, .ref rK, .ref rT, .ref rS, .ref rU, .int lw, .int tx, .ref rL, .ref rX, .ref qR, .ref qB, .ref qP, .int qnb, .int qnp, .ref aR, .ref aB, .ref aP, .int nb, .int np, .ref aN, .ref rf, .int ho, .int br, .ref aK, .int ac, .long dw, .ref aE, .int sr, .int sf, .ref aA, .ref aH, .ref aI, .int hi]))]) hP hD hS hA [0] (by decide +kernel) rfl
  refine va_calli (va_runV (As := [.int np]) (rest := []) ⟨hx, hb, hml, hown, hts⟩ (g_X11_draw_5 l dC dI cI cJ h0 np th tB tsz tat wr dp rC rV rD rK rT rS rU lw tx rL rX qR qB qP qnb qnp aR aB aP nb np aN rf ho br aK ac dw aE sr sf aA aH aI hi H.size y_ac y_hi y_ho y_lw (by omega) (by omega) n_np y_qnb y_qnp y_tat y_tsz y_wr) (cwV 1 hts (zgV qw1553 qw1555 qw75 qw108 qw1556) rfl rfl rfl hd_X11_draw ⟨by rw [hR]; exact Nat.le_of_ble_eq_true rfl, by rw [hR]; exact Nat.le_of_ble_eq_true rfl⟩) (zPV hPc hK hDc (va_recv (q := (RX11, TX11, 41)) hK hP (ci := 11) (q0 := 0) rfl rfl)) rfl rfl hl.1 rfl (lv_room (Nat.le_of_ble_eq_true rfl)) dX11_drawMonth_5 ⟨Nat.zero_le _, Nat.zero_le _⟩) hS (fun q _ h => hFc q h) hFc (fun v5 u5 t H locs ht hvm hw hB hz1 hk1 hS9 => ?_)
  obtain ⟨u5_0, rfl⟩ : ∃ z, z = u5 := ⟨_, rfl⟩
  obtain ⟨hP9, hD9⟩ := zj2 (wX := [(h0, .inr (11, [.int th, .ref tB, .int tsz, .int tat, .int wr, .int dp, .ref rC, .ref rV, .ref rD, .ref rK, .ref rT, .ref rS, .ref rU, .int lw, .int tx, .ref rL, .ref rX, .ref qR, .ref qB, .ref qP, .int qnb, .int qnp, .ref aR, .ref aB, .ref aP, .int nb, .int np, .ref aN, .ref rf, .int ho, .int br, .ref aK, .int ac, .long u5_0, .ref aE, .int sr, .int sf, .ref aA, .ref aH, .ref aI, .int hi])), (rC, .inl (cI, 2600, .inl fC)), (rV, .inl (cI, 2600, .inl fV)), (rK, .inl (cI, 5, .inl fK)), (rT, .inl (cI, 700, .inl fT)), (rS, .inl (cI, 700, .inl fS)), (rU, .inl (cI, 700, .inl fU)), (rL, .inl (cI, 6, .inl fL)), (rX, .inl (cI, 80, .inl fX)), (aB, .inl (cI, 24, .inl fBr)), (aP, .inl (cI, 20, .inl fPa)), (aN, .inl (cI, 97, .inl fN))]) hP hD hk1 hFc ht hB [0] [(true, 0), (false, 1), (false, 2), (false, 3), (false, 4), (false, 5), (false, 6), (false, 7), (false, 8), (false, 9), (false, 10), (false, 11)] rfl (by decide +kernel) (by decide +kernel) rfl
  clear hP hD hS hPc hDc hFc hB hk1 hz1 hvm
  have hP := hP9
  have hD := hD9
  have hS := hS9
  clear hP9 hD9 hS9
  obtain ⟨f5_0, f5_1, f5_2, f5_3, f5_4⟩ : (0 ≤ v5.toInt) ∧ (v5.toInt ≤ 4) ∧ (v5.toInt < np.toInt) ∧ (v5 = sDr (sNx dw) np) ∧ (u5_0 = sNx dw) := hw
  have F5 := f5_3
  have F5_1 := f5_4
  refine lv_istore_n (lv' := [(1, .int v5), (0, .ref h0)]) hx hb dX11_drawMonth_8 rfl hl (by decide) rfl (fun ls hl => ?_)
  refine lv_aload_n hx hb dX11_drawMonth_9 rfl (lv_at hl 1 rfl) ?_
  refine lv_aload_n hx hb dX11_drawMonth_10 rfl (lv_at hl 1 rfl) ?_
  refine va_get (D := (dC, dI)) (ci := 11) (v := .int nb) (C := RX11) (T := TX11) (N := 41) hx hb hts iX11 hown hK hP 0 rfl rfl 25 (by decide) (hts _ qw1152) (fun _ h9 => h9) rfl dX11_drawMonth_11 ?_
  obtain ⟨hPc, hDc, hFc⟩ := zc3 (wc := [(h0, .inr (11, [.int th, .ref tB, .int tsz, .int tat, .int wr, .int dp, .ref rC, .ref rV, .ref rD, .ref rK, .ref rT, .ref rS, .ref rU, .int lw, .int tx, .ref rL, .ref rX, .ref qR, .ref qB, .ref qP, .int qnb, .int qnp, .ref aR, .ref aB, .ref aP, .int nb, .int np, .ref aN, .ref rf, .int ho, .int br, .ref aK, .int ac, .long u5_0, .ref aE, .int sr, .int sf, .ref aA, .ref aH, .ref aI, .int hi]))]) hP hD hS hA [0] (by decide +kernel) rfl
  refine va_calli (va_runV (As := [.int nb]) (rest := []) ⟨hx, hb, hml, hown, hts⟩ (g_X11_draw_6 l dC dI cI cJ h0 nb th tB tsz tat wr dp rC rV rD rK rT rS rU lw tx rL rX qR qB qP qnb qnp aR aB aP nb np aN rf ho br aK ac u5_0 aE sr sf aA aH aI hi H.size y_ac y_hi y_ho y_lw (by omega) (by omega) n_nb y_qnb y_qnp y_tat y_tsz y_wr) (cwV 1 hts (zgV qw1553 qw1555 qw75 qw108 qw1556) rfl rfl rfl hd_X11_draw ⟨by rw [hR]; exact Nat.le_of_ble_eq_true rfl, by rw [hR]; exact Nat.le_of_ble_eq_true rfl⟩) (zPV hPc hK hDc (va_recv (q := (RX11, TX11, 41)) hK hP (ci := 11) (q0 := 0) rfl rfl)) rfl rfl hl.1 rfl (lv_room (Nat.le_of_ble_eq_true rfl)) dX11_drawMonth_14 ⟨Nat.zero_le _, Nat.zero_le _⟩) hS (fun q _ h => hFc q h) hFc (fun v14 u14 t H locs ht hvm hw hB hz1 hk1 hS9 => ?_)
  obtain ⟨u14_0, rfl⟩ : ∃ z, z = u14 := ⟨_, rfl⟩
  obtain ⟨hP9, hD9⟩ := zj2 (wX := [(h0, .inr (11, [.int th, .ref tB, .int tsz, .int tat, .int wr, .int dp, .ref rC, .ref rV, .ref rD, .ref rK, .ref rT, .ref rS, .ref rU, .int lw, .int tx, .ref rL, .ref rX, .ref qR, .ref qB, .ref qP, .int qnb, .int qnp, .ref aR, .ref aB, .ref aP, .int nb, .int np, .ref aN, .ref rf, .int ho, .int br, .ref aK, .int ac, .long u14_0, .ref aE, .int sr, .int sf, .ref aA, .ref aH, .ref aI, .int hi])), (rC, .inl (cI, 2600, .inl fC)), (rV, .inl (cI, 2600, .inl fV)), (rK, .inl (cI, 5, .inl fK)), (rT, .inl (cI, 700, .inl fT)), (rS, .inl (cI, 700, .inl fS)), (rU, .inl (cI, 700, .inl fU)), (rL, .inl (cI, 6, .inl fL)), (rX, .inl (cI, 80, .inl fX)), (aB, .inl (cI, 24, .inl fBr)), (aP, .inl (cI, 20, .inl fPa)), (aN, .inl (cI, 97, .inl fN))]) hP hD hk1 hFc ht hB [0] [(true, 0), (false, 1), (false, 2), (false, 3), (false, 4), (false, 5), (false, 6), (false, 7), (false, 8), (false, 9), (false, 10), (false, 11)] rfl (by decide +kernel) (by decide +kernel) rfl
  clear hP hD hS hPc hDc hFc hB hk1 hz1 hvm
  have hP := hP9
  have hD := hD9
  have hS := hS9
  clear hP9 hD9 hS9
  obtain ⟨f14_0, f14_1, f14_2, f14_3, f14_4⟩ : (0 ≤ v14.toInt) ∧ (v14.toInt ≤ 5) ∧ (v14.toInt < nb.toInt) ∧ (v14 = sDr (sNx u5_0) nb) ∧ (u14_0 = sNx u5_0) := hw
  have F14 := f14_3
  have F14_1 := f14_4
  refine lv_istore_n (lv' := [(2, .int v14), (1, .int v5), (0, .ref h0)]) hx hb dX11_drawMonth_17 rfl hl (by decide) rfl (fun ls hl => ?_)
  refine lv_aload_n hx hb dX11_drawMonth_18 rfl (lv_at hl 2 rfl) ?_
  refine va_get (D := (dC, dI)) (ci := 11) (v := .ref aN) (C := RX11) (T := TX11) (N := 41) hx hb hts iX11 hown hK hP 0 rfl rfl 27 (by decide) (hts _ qw1154) (fun _ h9 => h9) rfl dX11_drawMonth_19 ?_
  refine lv_bipush (v := 14) hx hb dX11_drawMonth_22 (by decide) ?_
  refine va_iald hx hb hK hP 11 0 rfl rfl (by unfold vp_in; decide) dX11_drawMonth_24 ?_
  refine lv_topi (fun v24 e24 => ?_)
  refine lv_aload_n hx hb dX11_drawMonth_25 rfl (lv_at hl 2 rfl) ?_
  refine lv_iload_n hx hb dX11_drawMonth_26 rfl (lv_at hl 1 rfl) ?_
  refine lv_iconst (v := 1) hx hb dX11_drawMonth_27 (by decide) ?_
  obtain ⟨hPc, hDc⟩ := zc2 (wc := [(h0, .inr (11, [.int th, .ref tB, .int tsz, .int tat, .int wr, .int dp, .ref rC, .ref rV, .ref rD, .ref rK, .ref rT, .ref rS, .ref rU, .int lw, .int tx, .ref rL, .ref rX, .ref qR, .ref qB, .ref qP, .int qnb, .int qnp, .ref aR, .ref aB, .ref aP, .int nb, .int np, .ref aN, .ref rf, .int ho, .int br, .ref aK, .int ac, .long u14_0, .ref aE, .int sr, .int sf, .ref aA, .ref aH, .ref aI, .int hi])), (aP, .inl (cI, 20, .inl fPa))]) hP hD [0, 10] (by decide +kernel) rfl
  have hFc := zfr hS hA
  refine va_calli (va_runV (As := [.int v5, .int 1]) (rest := [.int v24]) ⟨hx, hb, hml, hown, hts⟩ (g_X11_by l dC dI cI cJ h0 v5 1 th tB tsz tat wr dp rC rV rD rK rT rS rU lw tx rL rX qR qB qP qnb qnp aR aB aP nb np aN rf ho br aK ac u14_0 aE sr sf aA aH aI hi fPa H.size y_ac y_hi y_ho y_lw (by omega) (by omega) ⟨f5_0, f5_1⟩ (by decide) y_qnb y_qnp y_tat y_tsz y_wr) (cwV 2 hts (zgV qw1390 qw1392 qw55 qw108 qw1393) rfl rfl rfl hd_X11_by ⟨by rw [hR]; exact Nat.le_of_ble_eq_true rfl, by rw [hR]; exact Nat.le_of_ble_eq_true rfl⟩) (zPV hPc hK hDc (va_recv (q := (RX11, TX11, 41)) hK hP (ci := 11) (q0 := 0) rfl rfl)) rfl rfl hl.1 rfl (lv_room (Nat.le_of_ble_eq_true rfl)) dX11_drawMonth_28 ⟨Nat.zero_le _, Nat.zero_le _⟩) hS (fun q _ h => hFc q h) hFc (fun v28 u28 t H locs ht hvm hw hB hz1 hk1 hS9 => ?_)
  replace hP := zkeep hP hk1
  replace hS := hS9
  clear hPc hDc hFc hk1 hz1 hvm hS9
  have zn28_1 : (1 : Int32).toInt = 1 := by decide
  have f28_0 : (v28 = fPa (4 * v5.toInt.toNat + (1 : Int32).toInt.toNat)) := hw
  have F28 := f28_0
  refine lv_icmp_lt (tgt := 53) hx hb dX11_drawMonth_31 (by decide) (fun c31 => ?_) (fun c31 => ?_)
  · have c31 : v24.toInt < v28.toInt := z1 rfl rfl c31
    refine lv_aload_n hx hb dX11_drawMonth_53 rfl (lv_at hl 2 rfl) ?_
    refine lv_bipush (v := 10) hx hb dX11_drawMonth_54 (by decide) ?_
    obtain ⟨hPc, hDc, hFc⟩ := zc3 (wc := [(h0, .inr (11, [.int th, .ref tB, .int tsz, .int tat, .int wr, .int dp, .ref rC, .ref rV, .ref rD, .ref rK, .ref rT, .ref rS, .ref rU, .int lw, .int tx, .ref rL, .ref rX, .ref qR, .ref qB, .ref qP, .int qnb, .int qnp, .ref aR, .ref aB, .ref aP, .int nb, .int np, .ref aN, .ref rf, .int ho, .int br, .ref aK, .int ac, .long u14_0, .ref aE, .int sr, .int sf, .ref aA, .ref aH, .ref aI, .int hi]))]) hP hD hS hA [0] (by decide +kernel) rfl
    refine va_calli (va_runV (As := [.int 10]) (rest := []) ⟨hx, hb, hml, hown, hts⟩ (g_X11_draw_10 l dC dI cI cJ h0 10 th tB tsz tat wr dp rC rV rD rK rT rS rU lw tx rL rX qR qB qP qnb qnp aR aB aP nb np aN rf ho br aK ac u14_0 aE sr sf aA aH aI hi H.size y_ac y_hi y_ho y_lw (by omega) (by omega) (by decide) y_qnb y_qnp y_tat y_tsz y_wr) (cwV 1 hts (zgV qw1553 qw1555 qw75 qw108 qw1556) rfl rfl rfl hd_X11_draw ⟨by rw [hR]; exact Nat.le_of_ble_eq_true rfl, by rw [hR]; exact Nat.le_of_ble_eq_true rfl⟩) (zPV hPc hK hDc (va_recv (q := (RX11, TX11, 41)) hK hP (ci := 11) (q0 := 0) rfl rfl)) rfl rfl hl.1 rfl (lv_room (Nat.le_of_ble_eq_true rfl)) dX11_drawMonth_56 ⟨Nat.zero_le _, Nat.zero_le _⟩) hS (fun q _ h => hFc q h) hFc (fun v56 u56 t H locs ht hvm hw hB hz1 hk1 hS9 => ?_)
    obtain ⟨u56_0, rfl⟩ : ∃ z, z = u56 := ⟨_, rfl⟩
    obtain ⟨hP9, hD9⟩ := zj2 (wX := [(h0, .inr (11, [.int th, .ref tB, .int tsz, .int tat, .int wr, .int dp, .ref rC, .ref rV, .ref rD, .ref rK, .ref rT, .ref rS, .ref rU, .int lw, .int tx, .ref rL, .ref rX, .ref qR, .ref qB, .ref qP, .int qnb, .int qnp, .ref aR, .ref aB, .ref aP, .int nb, .int np, .ref aN, .ref rf, .int ho, .int br, .ref aK, .int ac, .long u56_0, .ref aE, .int sr, .int sf, .ref aA, .ref aH, .ref aI, .int hi])), (rC, .inl (cI, 2600, .inl fC)), (rV, .inl (cI, 2600, .inl fV)), (rK, .inl (cI, 5, .inl fK)), (rT, .inl (cI, 700, .inl fT)), (rS, .inl (cI, 700, .inl fS)), (rU, .inl (cI, 700, .inl fU)), (rL, .inl (cI, 6, .inl fL)), (rX, .inl (cI, 80, .inl fX)), (aB, .inl (cI, 24, .inl fBr)), (aP, .inl (cI, 20, .inl fPa)), (aN, .inl (cI, 97, .inl fN))]) hP hD hk1 hFc ht hB [0] [(true, 0), (false, 1), (false, 2), (false, 3), (false, 4), (false, 5), (false, 6), (false, 7), (false, 8), (false, 9), (false, 10), (false, 11)] rfl (by decide +kernel) (by decide +kernel) rfl
    clear hP hD hS hPc hDc hFc hB hk1 hz1 hvm
    have hP := hP9
    have hD := hD9
    have hS := hS9
    clear hP9 hD9 hS9
    have zn56_10 : (10 : Int32).toInt = 10 := by decide
    obtain ⟨f56_0, f56_1, f56_2, f56_3, f56_4⟩ : (0 ≤ v56.toInt) ∧ (v56.toInt ≤ 9) ∧ (v56.toInt < (10 : Int32).toInt) ∧ (v56 = sDr (sNx u14_0) 10) ∧ (u56_0 = sNx u14_0) := hw
    have F56 := f56_3
    have F56_1 := f56_4
    refine lv_aload_n hx hb dX11_drawMonth_59 rfl (lv_at hl 2 rfl) ?_
    refine va_get (D := (dC, dI)) (ci := 11) (v := .int br) (C := RX11) (T := TX11) (N := 41) hx hb hts iX11 hown hK hP 0 rfl rfl 30 (by decide) (hts _ qw1157) (fun _ h9 => h9) rfl dX11_drawMonth_60 ?_
    refine lv_icmp_ge (tgt := 98) hx hb dX11_drawMonth_63 (by decide) (fun c63 => ?_) (fun c63 => ?_)
    · have c63 : br.toInt ≤ v56.toInt := z3 rfl rfl c63
      rw [hQ]
      exact W.vret hx hb hr (fun t ht hW => ⟨⟨(u56_0, fL, fX, fN), rfl, ⟨by (try dsimp only); exact fun kc kT q_fR kl hc hb h hL => by rw [F5_1] at F14 F14_1; have zp := congrArg Int32.toInt (zSr_pu h); have zn := congrArg Int32.toInt (zSr_pn h); have y24 : v24 = fN 14 := zIxN (n := 14) e24 (by decide); have z24 := congrArg Int32.toInt y24; have y28 : v28 = kc.2.2 (4 * v5.toInt.toNat + 1) := (F28.trans (congrArg fPa (show 4 * v5.toInt.toNat + (1 : Int32).toInt.toNat = 4 * v5.toInt.toNat + 1 by have : (1 : Int32).toInt = 1 := (by decide); omega))).trans (hc.2.2 _ (by omega)); have z28 := congrArg Int32.toInt y28; have d1 : zSr nb.toInt np.toInt (sDp nb np kc kl kT.1 dw) fN := (by unfold sDp; rw [← F5, ← F14, ← y28, if_pos (by omega)]; exact h); rw [F14_1] at F56 F56_1; unfold sDq sDx; rw [← F56, if_pos (by omega), if_pos (by omega)]; exact ⟨d1, F56_1⟩, ci_fN_zNw_np⟩, ⟨by rw [ht]; exact hP, hD⟩⟩, hS.F ht⟩) hS.2.2 dX11_drawMonth_98
    · have c63 : v56.toInt < br.toInt := z4 rfl rfl c63
      refine lv_aload_n hx hb dX11_drawMonth_66 rfl (lv_at hl 2 rfl) ?_
      refine lv_aload_n hx hb dX11_drawMonth_67 rfl (lv_at hl 2 rfl) ?_
      refine va_get (D := (dC, dI)) (ci := 11) (v := .int nb) (C := RX11) (T := TX11) (N := 41) hx hb hts iX11 hown hK hP 0 rfl rfl 25 (by decide) (hts _ qw1152) (fun _ h9 => h9) rfl dX11_drawMonth_68 ?_
      obtain ⟨hPc, hDc, hFc⟩ := zc3 (wc := [(h0, .inr (11, [.int th, .ref tB, .int tsz, .int tat, .int wr, .int dp, .ref rC, .ref rV, .ref rD, .ref rK, .ref rT, .ref rS, .ref rU, .int lw, .int tx, .ref rL, .ref rX, .ref qR, .ref qB, .ref qP, .int qnb, .int qnp, .ref aR, .ref aB, .ref aP, .int nb, .int np, .ref aN, .ref rf, .int ho, .int br, .ref aK, .int ac, .long u56_0, .ref aE, .int sr, .int sf, .ref aA, .ref aH, .ref aI, .int hi]))]) hP hD hS hA [0] (by decide +kernel) rfl
      refine va_calli (va_runV (As := [.int nb]) (rest := []) ⟨hx, hb, hml, hown, hts⟩ (g_X11_draw_6 l dC dI cI cJ h0 nb th tB tsz tat wr dp rC rV rD rK rT rS rU lw tx rL rX qR qB qP qnb qnp aR aB aP nb np aN rf ho br aK ac u56_0 aE sr sf aA aH aI hi H.size y_ac y_hi y_ho y_lw (by omega) (by omega) n_nb y_qnb y_qnp y_tat y_tsz y_wr) (cwV 1 hts (zgV qw1553 qw1555 qw75 qw108 qw1556) rfl rfl rfl hd_X11_draw ⟨by rw [hR]; exact Nat.le_of_ble_eq_true rfl, by rw [hR]; exact Nat.le_of_ble_eq_true rfl⟩) (zPV hPc hK hDc (va_recv (q := (RX11, TX11, 41)) hK hP (ci := 11) (q0 := 0) rfl rfl)) rfl rfl hl.1 rfl (lv_room (Nat.le_of_ble_eq_true rfl)) dX11_drawMonth_71 ⟨Nat.zero_le _, Nat.zero_le _⟩) hS (fun q _ h => hFc q h) hFc (fun v71 u71 t H locs ht hvm hw hB hz1 hk1 hS9 => ?_)
      obtain ⟨u71_0, rfl⟩ : ∃ z, z = u71 := ⟨_, rfl⟩
      obtain ⟨hP9, hD9⟩ := zj2 (wX := [(h0, .inr (11, [.int th, .ref tB, .int tsz, .int tat, .int wr, .int dp, .ref rC, .ref rV, .ref rD, .ref rK, .ref rT, .ref rS, .ref rU, .int lw, .int tx, .ref rL, .ref rX, .ref qR, .ref qB, .ref qP, .int qnb, .int qnp, .ref aR, .ref aB, .ref aP, .int nb, .int np, .ref aN, .ref rf, .int ho, .int br, .ref aK, .int ac, .long u71_0, .ref aE, .int sr, .int sf, .ref aA, .ref aH, .ref aI, .int hi])), (rC, .inl (cI, 2600, .inl fC)), (rV, .inl (cI, 2600, .inl fV)), (rK, .inl (cI, 5, .inl fK)), (rT, .inl (cI, 700, .inl fT)), (rS, .inl (cI, 700, .inl fS)), (rU, .inl (cI, 700, .inl fU)), (rL, .inl (cI, 6, .inl fL)), (rX, .inl (cI, 80, .inl fX)), (aB, .inl (cI, 24, .inl fBr)), (aP, .inl (cI, 20, .inl fPa)), (aN, .inl (cI, 97, .inl fN))]) hP hD hk1 hFc ht hB [0] [(true, 0), (false, 1), (false, 2), (false, 3), (false, 4), (false, 5), (false, 6), (false, 7), (false, 8), (false, 9), (false, 10), (false, 11)] rfl (by decide +kernel) (by decide +kernel) rfl
      clear hP hD hS hPc hDc hFc hB hk1 hz1 hvm
      have hP := hP9
      have hD := hD9
      have hS := hS9
      clear hP9 hD9 hS9
      obtain ⟨f71_0, f71_1, f71_2, f71_3, f71_4⟩ : (0 ≤ v71.toInt) ∧ (v71.toInt ≤ 5) ∧ (v71.toInt < nb.toInt) ∧ (v71 = sDr (sNx u56_0) nb) ∧ (u71_0 = sNx u56_0) := hw
      have F71 := f71_3
      have F71_1 := f71_4
      refine lv_istore_n (lv' := [(3, .int v71), (2, .int v14), (1, .int v5), (0, .ref h0)]) hx hb dX11_drawMonth_74 rfl hl (by decide) rfl (fun ls hl => ?_)
      refine lv_aload_n hx hb dX11_drawMonth_75 rfl (lv_at hl 3 rfl) ?_
      refine va_get (D := (dC, dI)) (ci := 11) (v := .ref aN) (C := RX11) (T := TX11) (N := 41) hx hb hts iX11 hown hK hP 0 rfl rfl 27 (by decide) (hts _ qw1154) (fun _ h9 => h9) rfl dX11_drawMonth_76 ?_
      refine lv_iconst (v := 0) hx hb dX11_drawMonth_79 (by decide) ?_
      refine lv_iload_n hx hb dX11_drawMonth_80 rfl (lv_at hl 0 rfl) ?_
      refine lv_iadd hx hb dX11_drawMonth_81 ?_
      refine lv_topi (fun v81 e81 => ?_)
      have i81 : v81.toInt = 0 + v71.toInt := zadd e81 (by decide) rfl (by omega) (by omega)
      refine lv_bipush (v := 9) hx hb dX11_drawMonth_82 (by decide) ?_
      refine lv_aload_n hx hb dX11_drawMonth_84 rfl (lv_at hl 3 rfl) ?_
      refine va_get (D := (dC, dI)) (ci := 11) (v := .ref aN) (C := RX11) (T := TX11) (N := 41) hx hb hts iX11 hown hK hP 0 rfl rfl 27 (by decide) (hts _ qw1154) (fun _ h9 => h9) rfl dX11_drawMonth_85 ?_
      refine lv_iconst (v := 0) hx hb dX11_drawMonth_88 (by decide) ?_
      refine lv_iload_n hx hb dX11_drawMonth_89 rfl (lv_at hl 0 rfl) ?_
      refine lv_iadd hx hb dX11_drawMonth_90 ?_
      refine lv_topi (fun v90 e90 => ?_)
      have i90 : v90.toInt = 0 + v71.toInt := zadd e90 (by decide) rfl (by omega) (by omega)
      refine va_iald hx hb hK hP 11 0 rfl rfl (vp_in_iff.mpr ⟨by omega, by omega⟩) dX11_drawMonth_91 ?_
      refine lv_topi (fun v91 e91 => ?_)
      refine lv_iconst (v := 1) hx hb dX11_drawMonth_92 (by decide) ?_
      refine lv_iadd hx hb dX11_drawMonth_93 ?_
      refine lv_topi (fun v93 e93 => ?_)
      refine va_mmin hx hb (by rw [hml]; exact hl.1.symm) hown (hts _ qw1468) (hts _ qw569) (hts _ qw112) (hts _ qw570) (by rw [hR]; exact Nat.le_of_ble_eq_true rfl) (by rw [hR]; exact Nat.le_of_ble_eq_true rfl) (Nat.zero_le _) (Nat.zero_le _) dX11_drawMonth_94 ?_
      refine lv_topi (fun v94 e94 => ?_)
      have zc94_0 : (9 : Int32).toInt = 9 := by decide
      have i94 := zmmin e94
      refine va_iast hx hb hK hP hD hS 11 0 rfl rfl (vp_in_iff.mpr ⟨by omega, by omega⟩) dX11_drawMonth_97 (fun H locs hP9 hD9 hS9 => ?_)
      clear hP hD hS
      obtain ⟨v97_f, e97⟩ : ∃ g : Nat → Int32, g = upd fN (v81).toNatClampNeg v94 := ⟨_, rfl⟩
      rw [← e97] at hP9 hD9
      obtain ⟨hP, hD⟩ := zst (wX := [(h0, .inr (11, [.int th, .ref tB, .int tsz, .int tat, .int wr, .int dp, .ref rC, .ref rV, .ref rD, .ref rK, .ref rT, .ref rS, .ref rU, .int lw, .int tx, .ref rL, .ref rX, .ref qR, .ref qB, .ref qP, .int qnb, .int qnp, .ref aR, .ref aB, .ref aP, .int nb, .int np, .ref aN, .ref rf, .int ho, .int br, .ref aK, .int ac, .long u71_0, .ref aE, .int sr, .int sf, .ref aA, .ref aH, .ref aI, .int hi])), (rC, .inl (cI, 2600, .inl fC)), (rV, .inl (cI, 2600, .inl fV)), (rK, .inl (cI, 5, .inl fK)), (rT, .inl (cI, 700, .inl fT)), (rS, .inl (cI, 700, .inl fS)), (rU, .inl (cI, 700, .inl fU)), (rL, .inl (cI, 6, .inl fL)), (rX, .inl (cI, 80, .inl fX)), (aB, .inl (cI, 24, .inl fBr)), (aP, .inl (cI, 20, .inl fPa)), (aN, .inl (cI, 97, .inl v97_f))]) hP9 hD9 rfl
      have hS := hS9
      clear hP9 hD9 hS9
      have cq97_zNw_np : zNw np v97_f := (zNw_low ci_fN_zNw_np e97 (by omega) (by omega)).1
      rw [hQ]
      exact W.vret hx hb hr (fun t ht hW => ⟨⟨(u71_0, fL, fX, v97_f), rfl, ⟨by (try dsimp only); exact fun kc kT q_fR kl hc hb h hL => by rw [F5_1] at F14 F14_1; have zp := congrArg Int32.toInt (zSr_pu h); have zn := congrArg Int32.toInt (zSr_pn h); have y24 : v24 = fN 14 := zIxN (n := 14) e24 (by decide); have z24 := congrArg Int32.toInt y24; have y28 : v28 = kc.2.2 (4 * v5.toInt.toNat + 1) := (F28.trans (congrArg fPa (show 4 * v5.toInt.toNat + (1 : Int32).toInt.toNat = 4 * v5.toInt.toNat + 1 by have : (1 : Int32).toInt = 1 := (by decide); omega))).trans (hc.2.2 _ (by omega)); have z28 := congrArg Int32.toInt y28; have d1 : zSr nb.toInt np.toInt (sDp nb np kc kl kT.1 dw) fN := (by unfold sDp; rw [← F5, ← F14, ← y28, if_pos (by omega)]; exact h); rw [F14_1] at F56 F56_1; rw [F56_1] at F71 F71_1; have y91 : v91 = (sDp nb np kc kl kT.1 dw).1 v71.toInt.toNat := (zIxN (n := v71.toInt.toNat) e91 (by omega)).trans (d1.1 _ (by omega)); have y94 : v94 = sMin 9 ((sDp nb np kc kl kT.1 dw).1 v71.toInt.toNat + 1) := (by unfold sMin; rw [e94, e93, y91]); unfold sDq sDx; rw [← F56, if_neg (by omega), if_neg (by omega), ← F71, ← y94]; exact ⟨zSr_Y d1 e97 (by omega) (by omega), F71_1⟩, cq97_zNw_np⟩, ⟨by rw [ht]; exact hP, hD⟩⟩, hS.F ht⟩) hS.2.2 dX11_drawMonth_98
  · have c31 : v28.toInt ≤ v24.toInt := z2 rfl rfl c31
    refine lv_aload_n hx hb dX11_drawMonth_34 rfl (lv_at hl 2 rfl) ?_
    refine va_get (D := (dC, dI)) (ci := 11) (v := .ref aN) (C := RX11) (T := TX11) (N := 41) hx hb hts iX11 hown hK hP 0 rfl rfl 27 (by decide) (hts _ qw1154) (fun _ h9 => h9) rfl dX11_drawMonth_35 ?_
    refine lv_bipush (v := 16) hx hb dX11_drawMonth_38 (by decide) ?_
    refine va_iald hx hb hK hP 11 0 rfl rfl (by unfold vp_in; decide) dX11_drawMonth_40 ?_
    refine lv_topi (fun v40 e40 => ?_)
    have i40 : v40.toInt = (fN 16).toInt ∧ 0 ≤ v40.toInt ∧ v40.toInt ≤ 20 := zNw_16 ci_fN_zNw_np e40
    refine lv_bipush (v := 20) hx hb dX11_drawMonth_41 (by decide) ?_
    refine lv_icmp_ge (tgt := 53) hx hb dX11_drawMonth_43 (by decide) (fun c43 => ?_) (fun c43 => ?_)
    · have c43 : 20 ≤ v40.toInt := z3 (by decide) rfl c43
      refine lv_aload_n hx hb dX11_drawMonth_53 rfl (lv_at hl 2 rfl) ?_
      refine lv_bipush (v := 10) hx hb dX11_drawMonth_54 (by decide) ?_
      obtain ⟨hPc, hDc, hFc⟩ := zc3 (wc := [(h0, .inr (11, [.int th, .ref tB, .int tsz, .int tat, .int wr, .int dp, .ref rC, .ref rV, .ref rD, .ref rK, .ref rT, .ref rS, .ref rU, .int lw, .int tx, .ref rL, .ref rX, .ref qR, .ref qB, .ref qP, .int qnb, .int qnp, .ref aR, .ref aB, .ref aP, .int nb, .int np, .ref aN, .ref rf, .int ho, .int br, .ref aK, .int ac, .long u14_0, .ref aE, .int sr, .int sf, .ref aA, .ref aH, .ref aI, .int hi]))]) hP hD hS hA [0] (by decide +kernel) rfl
      refine va_calli (va_runV (As := [.int 10]) (rest := []) ⟨hx, hb, hml, hown, hts⟩ (g_X11_draw_10 l dC dI cI cJ h0 10 th tB tsz tat wr dp rC rV rD rK rT rS rU lw tx rL rX qR qB qP qnb qnp aR aB aP nb np aN rf ho br aK ac u14_0 aE sr sf aA aH aI hi H.size y_ac y_hi y_ho y_lw (by omega) (by omega) (by decide) y_qnb y_qnp y_tat y_tsz y_wr) (cwV 1 hts (zgV qw1553 qw1555 qw75 qw108 qw1556) rfl rfl rfl hd_X11_draw ⟨by rw [hR]; exact Nat.le_of_ble_eq_true rfl, by rw [hR]; exact Nat.le_of_ble_eq_true rfl⟩) (zPV hPc hK hDc (va_recv (q := (RX11, TX11, 41)) hK hP (ci := 11) (q0 := 0) rfl rfl)) rfl rfl hl.1 rfl (lv_room (Nat.le_of_ble_eq_true rfl)) dX11_drawMonth_56 ⟨Nat.zero_le _, Nat.zero_le _⟩) hS (fun q _ h => hFc q h) hFc (fun v56 u56 t H locs ht hvm hw hB hz1 hk1 hS9 => ?_)
      obtain ⟨u56_0, rfl⟩ : ∃ z, z = u56 := ⟨_, rfl⟩
      obtain ⟨hP9, hD9⟩ := zj2 (wX := [(h0, .inr (11, [.int th, .ref tB, .int tsz, .int tat, .int wr, .int dp, .ref rC, .ref rV, .ref rD, .ref rK, .ref rT, .ref rS, .ref rU, .int lw, .int tx, .ref rL, .ref rX, .ref qR, .ref qB, .ref qP, .int qnb, .int qnp, .ref aR, .ref aB, .ref aP, .int nb, .int np, .ref aN, .ref rf, .int ho, .int br, .ref aK, .int ac, .long u56_0, .ref aE, .int sr, .int sf, .ref aA, .ref aH, .ref aI, .int hi])), (rC, .inl (cI, 2600, .inl fC)), (rV, .inl (cI, 2600, .inl fV)), (rK, .inl (cI, 5, .inl fK)), (rT, .inl (cI, 700, .inl fT)), (rS, .inl (cI, 700, .inl fS)), (rU, .inl (cI, 700, .inl fU)), (rL, .inl (cI, 6, .inl fL)), (rX, .inl (cI, 80, .inl fX)), (aB, .inl (cI, 24, .inl fBr)), (aP, .inl (cI, 20, .inl fPa)), (aN, .inl (cI, 97, .inl fN))]) hP hD hk1 hFc ht hB [0] [(true, 0), (false, 1), (false, 2), (false, 3), (false, 4), (false, 5), (false, 6), (false, 7), (false, 8), (false, 9), (false, 10), (false, 11)] rfl (by decide +kernel) (by decide +kernel) rfl
      clear hP hD hS hPc hDc hFc hB hk1 hz1 hvm
      have hP := hP9
      have hD := hD9
      have hS := hS9
      clear hP9 hD9 hS9
      have zn56_10 : (10 : Int32).toInt = 10 := by decide
      obtain ⟨f56_0, f56_1, f56_2, f56_3, f56_4⟩ : (0 ≤ v56.toInt) ∧ (v56.toInt ≤ 9) ∧ (v56.toInt < (10 : Int32).toInt) ∧ (v56 = sDr (sNx u14_0) 10) ∧ (u56_0 = sNx u14_0) := hw
      have F56 := f56_3
      have F56_1 := f56_4
      refine lv_aload_n hx hb dX11_drawMonth_59 rfl (lv_at hl 2 rfl) ?_
      refine va_get (D := (dC, dI)) (ci := 11) (v := .int br) (C := RX11) (T := TX11) (N := 41) hx hb hts iX11 hown hK hP 0 rfl rfl 30 (by decide) (hts _ qw1157) (fun _ h9 => h9) rfl dX11_drawMonth_60 ?_
      refine lv_icmp_ge (tgt := 98) hx hb dX11_drawMonth_63 (by decide) (fun c63 => ?_) (fun c63 => ?_)
      · have c63 : br.toInt ≤ v56.toInt := z3 rfl rfl c63
        rw [hQ]
        exact W.vret hx hb hr (fun t ht hW => ⟨⟨(u56_0, fL, fX, fN), rfl, ⟨by (try dsimp only); exact fun kc kT q_fR kl hc hb h hL => by rw [F5_1] at F14 F14_1; have zp := congrArg Int32.toInt (zSr_pu h); have zn := congrArg Int32.toInt (zSr_pn h); have y24 : v24 = fN 14 := zIxN (n := 14) e24 (by decide); have z24 := congrArg Int32.toInt y24; have y28 : v28 = kc.2.2 (4 * v5.toInt.toNat + 1) := (F28.trans (congrArg fPa (show 4 * v5.toInt.toNat + (1 : Int32).toInt.toNat = 4 * v5.toInt.toNat + 1 by have : (1 : Int32).toInt = 1 := (by decide); omega))).trans (hc.2.2 _ (by omega)); have z28 := congrArg Int32.toInt y28; have z40 := congrArg Int32.toInt (zIxN (n := 16) e40 (by decide)); have d1 : zSr nb.toInt np.toInt (sDp nb np kc kl kT.1 dw) fN := (by unfold sDp; rw [← F5, ← F14, ← y28, if_pos (by omega)]; exact h); rw [F14_1] at F56 F56_1; unfold sDq sDx; rw [← F56, if_pos (by omega), if_pos (by omega)]; exact ⟨d1, F56_1⟩, ci_fN_zNw_np⟩, ⟨by rw [ht]; exact hP, hD⟩⟩, hS.F ht⟩) hS.2.2 dX11_drawMonth_98
      · have c63 : v56.toInt < br.toInt := z4 rfl rfl c63
        refine lv_aload_n hx hb dX11_drawMonth_66 rfl (lv_at hl 2 rfl) ?_
        refine lv_aload_n hx hb dX11_drawMonth_67 rfl (lv_at hl 2 rfl) ?_
        refine va_get (D := (dC, dI)) (ci := 11) (v := .int nb) (C := RX11) (T := TX11) (N := 41) hx hb hts iX11 hown hK hP 0 rfl rfl 25 (by decide) (hts _ qw1152) (fun _ h9 => h9) rfl dX11_drawMonth_68 ?_
        obtain ⟨hPc, hDc, hFc⟩ := zc3 (wc := [(h0, .inr (11, [.int th, .ref tB, .int tsz, .int tat, .int wr, .int dp, .ref rC, .ref rV, .ref rD, .ref rK, .ref rT, .ref rS, .ref rU, .int lw, .int tx, .ref rL, .ref rX, .ref qR, .ref qB, .ref qP, .int qnb, .int qnp, .ref aR, .ref aB, .ref aP, .int nb, .int np, .ref aN, .ref rf, .int ho, .int br, .ref aK, .int ac, .long u56_0, .ref aE, .int sr, .int sf, .ref aA, .ref aH, .ref aI, .int hi]))]) hP hD hS hA [0] (by decide +kernel) rfl
        refine va_calli (va_runV (As := [.int nb]) (rest := []) ⟨hx, hb, hml, hown, hts⟩ (g_X11_draw_6 l dC dI cI cJ h0 nb th tB tsz tat wr dp rC rV rD rK rT rS rU lw tx rL rX qR qB qP qnb qnp aR aB aP nb np aN rf ho br aK ac u56_0 aE sr sf aA aH aI hi H.size y_ac y_hi y_ho y_lw (by omega) (by omega) n_nb y_qnb y_qnp y_tat y_tsz y_wr) (cwV 1 hts (zgV qw1553 qw1555 qw75 qw108 qw1556) rfl rfl rfl hd_X11_draw ⟨by rw [hR]; exact Nat.le_of_ble_eq_true rfl, by rw [hR]; exact Nat.le_of_ble_eq_true rfl⟩) (zPV hPc hK hDc (va_recv (q := (RX11, TX11, 41)) hK hP (ci := 11) (q0 := 0) rfl rfl)) rfl rfl hl.1 rfl (lv_room (Nat.le_of_ble_eq_true rfl)) dX11_drawMonth_71 ⟨Nat.zero_le _, Nat.zero_le _⟩) hS (fun q _ h => hFc q h) hFc (fun v71 u71 t H locs ht hvm hw hB hz1 hk1 hS9 => ?_)
        obtain ⟨u71_0, rfl⟩ : ∃ z, z = u71 := ⟨_, rfl⟩
        obtain ⟨hP9, hD9⟩ := zj2 (wX := [(h0, .inr (11, [.int th, .ref tB, .int tsz, .int tat, .int wr, .int dp, .ref rC, .ref rV, .ref rD, .ref rK, .ref rT, .ref rS, .ref rU, .int lw, .int tx, .ref rL, .ref rX, .ref qR, .ref qB, .ref qP, .int qnb, .int qnp, .ref aR, .ref aB, .ref aP, .int nb, .int np, .ref aN, .ref rf, .int ho, .int br, .ref aK, .int ac, .long u71_0, .ref aE, .int sr, .int sf, .ref aA, .ref aH, .ref aI, .int hi])), (rC, .inl (cI, 2600, .inl fC)), (rV, .inl (cI, 2600, .inl fV)), (rK, .inl (cI, 5, .inl fK)), (rT, .inl (cI, 700, .inl fT)), (rS, .inl (cI, 700, .inl fS)), (rU, .inl (cI, 700, .inl fU)), (rL, .inl (cI, 6, .inl fL)), (rX, .inl (cI, 80, .inl fX)), (aB, .inl (cI, 24, .inl fBr)), (aP, .inl (cI, 20, .inl fPa)), (aN, .inl (cI, 97, .inl fN))]) hP hD hk1 hFc ht hB [0] [(true, 0), (false, 1), (false, 2), (false, 3), (false, 4), (false, 5), (false, 6), (false, 7), (false, 8), (false, 9), (false, 10), (false, 11)] rfl (by decide +kernel) (by decide +kernel) rfl
        clear hP hD hS hPc hDc hFc hB hk1 hz1 hvm
        have hP := hP9
        have hD := hD9
        have hS := hS9
        clear hP9 hD9 hS9
        obtain ⟨f71_0, f71_1, f71_2, f71_3, f71_4⟩ : (0 ≤ v71.toInt) ∧ (v71.toInt ≤ 5) ∧ (v71.toInt < nb.toInt) ∧ (v71 = sDr (sNx u56_0) nb) ∧ (u71_0 = sNx u56_0) := hw
        have F71 := f71_3
        have F71_1 := f71_4
        refine lv_istore_n (lv' := [(3, .int v71), (2, .int v14), (1, .int v5), (0, .ref h0)]) hx hb dX11_drawMonth_74 rfl hl (by decide) rfl (fun ls hl => ?_)
        refine lv_aload_n hx hb dX11_drawMonth_75 rfl (lv_at hl 3 rfl) ?_
        refine va_get (D := (dC, dI)) (ci := 11) (v := .ref aN) (C := RX11) (T := TX11) (N := 41) hx hb hts iX11 hown hK hP 0 rfl rfl 27 (by decide) (hts _ qw1154) (fun _ h9 => h9) rfl dX11_drawMonth_76 ?_
        refine lv_iconst (v := 0) hx hb dX11_drawMonth_79 (by decide) ?_
        refine lv_iload_n hx hb dX11_drawMonth_80 rfl (lv_at hl 0 rfl) ?_
        refine lv_iadd hx hb dX11_drawMonth_81 ?_
        refine lv_topi (fun v81 e81 => ?_)
        have i81 : v81.toInt = 0 + v71.toInt := zadd e81 (by decide) rfl (by omega) (by omega)
        refine lv_bipush (v := 9) hx hb dX11_drawMonth_82 (by decide) ?_
        refine lv_aload_n hx hb dX11_drawMonth_84 rfl (lv_at hl 3 rfl) ?_
        refine va_get (D := (dC, dI)) (ci := 11) (v := .ref aN) (C := RX11) (T := TX11) (N := 41) hx hb hts iX11 hown hK hP 0 rfl rfl 27 (by decide) (hts _ qw1154) (fun _ h9 => h9) rfl dX11_drawMonth_85 ?_
        refine lv_iconst (v := 0) hx hb dX11_drawMonth_88 (by decide) ?_
        refine lv_iload_n hx hb dX11_drawMonth_89 rfl (lv_at hl 0 rfl) ?_
        refine lv_iadd hx hb dX11_drawMonth_90 ?_
        refine lv_topi (fun v90 e90 => ?_)
        have i90 : v90.toInt = 0 + v71.toInt := zadd e90 (by decide) rfl (by omega) (by omega)
        refine va_iald hx hb hK hP 11 0 rfl rfl (vp_in_iff.mpr ⟨by omega, by omega⟩) dX11_drawMonth_91 ?_
        refine lv_topi (fun v91 e91 => ?_)
        refine lv_iconst (v := 1) hx hb dX11_drawMonth_92 (by decide) ?_
        refine lv_iadd hx hb dX11_drawMonth_93 ?_
        refine lv_topi (fun v93 e93 => ?_)
        refine va_mmin hx hb (by rw [hml]; exact hl.1.symm) hown (hts _ qw1468) (hts _ qw569) (hts _ qw112) (hts _ qw570) (by rw [hR]; exact Nat.le_of_ble_eq_true rfl) (by rw [hR]; exact Nat.le_of_ble_eq_true rfl) (Nat.zero_le _) (Nat.zero_le _) dX11_drawMonth_94 ?_
        refine lv_topi (fun v94 e94 => ?_)
        have zc94_0 : (9 : Int32).toInt = 9 := by decide
        have i94 := zmmin e94
        refine va_iast hx hb hK hP hD hS 11 0 rfl rfl (vp_in_iff.mpr ⟨by omega, by omega⟩) dX11_drawMonth_97 (fun H locs hP9 hD9 hS9 => ?_)
        clear hP hD hS
        obtain ⟨v97_f, e97⟩ : ∃ g : Nat → Int32, g = upd fN (v81).toNatClampNeg v94 := ⟨_, rfl⟩
        rw [← e97] at hP9 hD9
        obtain ⟨hP, hD⟩ := zst (wX := [(h0, .inr (11, [.int th, .ref tB, .int tsz, .int tat, .int wr, .int dp, .ref rC, .ref rV, .ref rD, .ref rK, .ref rT, .ref rS, .ref rU, .int lw, .int tx, .ref rL, .ref rX, .ref qR, .ref qB, .ref qP, .int qnb, .int qnp, .ref aR, .ref aB, .ref aP, .int nb, .int np, .ref aN, .ref rf, .int ho, .int br, .ref aK, .int ac, .long u71_0, .ref aE, .int sr, .int sf, .ref aA, .ref aH, .ref aI, .int hi])), (rC, .inl (cI, 2600, .inl fC)), (rV, .inl (cI, 2600, .inl fV)), (rK, .inl (cI, 5, .inl fK)), (rT, .inl (cI, 700, .inl fT)), (rS, .inl (cI, 700, .inl fS)), (rU, .inl (cI, 700, .inl fU)), (rL, .inl (cI, 6, .inl fL)), (rX, .inl (cI, 80, .inl fX)), (aB, .inl (cI, 24, .inl fBr)), (aP, .inl (cI, 20, .inl fPa)), (aN, .inl (cI, 97, .inl v97_f))]) hP9 hD9 rfl
        have hS := hS9
        clear hP9 hD9 hS9
        have cq97_zNw_np : zNw np v97_f := (zNw_low ci_fN_zNw_np e97 (by omega) (by omega)).1
        rw [hQ]
        exact W.vret hx hb hr (fun t ht hW => ⟨⟨(u71_0, fL, fX, v97_f), rfl, ⟨by (try dsimp only); exact fun kc kT q_fR kl hc hb h hL => by rw [F5_1] at F14 F14_1; have zp := congrArg Int32.toInt (zSr_pu h); have zn := congrArg Int32.toInt (zSr_pn h); have y24 : v24 = fN 14 := zIxN (n := 14) e24 (by decide); have z24 := congrArg Int32.toInt y24; have y28 : v28 = kc.2.2 (4 * v5.toInt.toNat + 1) := (F28.trans (congrArg fPa (show 4 * v5.toInt.toNat + (1 : Int32).toInt.toNat = 4 * v5.toInt.toNat + 1 by have : (1 : Int32).toInt = 1 := (by decide); omega))).trans (hc.2.2 _ (by omega)); have z28 := congrArg Int32.toInt y28; have z40 := congrArg Int32.toInt (zIxN (n := 16) e40 (by decide)); have d1 : zSr nb.toInt np.toInt (sDp nb np kc kl kT.1 dw) fN := (by unfold sDp; rw [← F5, ← F14, ← y28, if_pos (by omega)]; exact h); rw [F14_1] at F56 F56_1; rw [F56_1] at F71 F71_1; have y91 : v91 = (sDp nb np kc kl kT.1 dw).1 v71.toInt.toNat := (zIxN (n := v71.toInt.toNat) e91 (by omega)).trans (d1.1 _ (by omega)); have y94 : v94 = sMin 9 ((sDp nb np kc kl kT.1 dw).1 v71.toInt.toNat + 1) := (by unfold sMin; rw [e94, e93, y91]); unfold sDq sDx; rw [← F56, if_neg (by omega), if_neg (by omega), ← F71, ← y94]; exact ⟨zSr_Y d1 e97 (by omega) (by omega), F71_1⟩, cq97_zNw_np⟩, ⟨by rw [ht]; exact hP, hD⟩⟩, hS.F ht⟩) hS.2.2 dX11_drawMonth_98
    · have c43 : v40.toInt < 20 := z4 (by decide) rfl c43
      refine lv_aload_n hx hb dX11_drawMonth_46 rfl (lv_at hl 2 rfl) ?_
      refine lv_iload_n hx hb dX11_drawMonth_47 rfl (lv_at hl 1 rfl) ?_
      refine lv_iload_n hx hb dX11_drawMonth_48 rfl (lv_at hl 0 rfl) ?_
      obtain ⟨hPc, hDc, hFc⟩ := zc3 (wc := [(h0, .inr (11, [.int th, .ref tB, .int tsz, .int tat, .int wr, .int dp, .ref rC, .ref rV, .ref rD, .ref rK, .ref rT, .ref rS, .ref rU, .int lw, .int tx, .ref rL, .ref rX, .ref qR, .ref qB, .ref qP, .int qnb, .int qnp, .ref aR, .ref aB, .ref aP, .int nb, .int np, .ref aN, .ref rf, .int ho, .int br, .ref aK, .int ac, .long u14_0, .ref aE, .int sr, .int sf, .ref aA, .ref aH, .ref aI, .int hi])), (rC, .inl (cI, 2600, .inl fC)), (rV, .inl (cI, 2600, .inl fV)), (rK, .inl (cI, 5, .inl fK)), (rT, .inl (cI, 700, .inl fT)), (rS, .inl (cI, 700, .inl fS)), (rU, .inl (cI, 700, .inl fU)), (rL, .inl (cI, 6, .inl fL)), (rX, .inl (cI, 80, .inl fX)), (aB, .inl (cI, 24, .inl fBr)), (aP, .inl (cI, 20, .inl fPa)), (aN, .inl (cI, 97, .inl fN))]) hP hD hS hA [0, 1, 2, 3, 4, 5, 6, 7, 8, 9, 10, 11] (by decide +kernel) rfl
      refine va_calli (va_runV (As := [.int v5, .int v14]) (rest := []) ⟨hx, hb, hml, hown, hts⟩ (g_X11_paintNow l dC dI cI cJ h0 v5 v14 th tB tsz tat wr dp rC rV rD rK rT rS rU lw tx rL rX qR qB qP qnb qnp aR aB aP nb np aN rf ho br aK ac u14_0 aE sr sf aA aH aI hi fC fV fK fT fS fU fL fX fBr fPa fN H.size y_ac y_hi y_ho y_lw (by omega) (by omega) ⟨f5_0, f5_1⟩ ⟨f14_0, f14_1⟩ y_qnb y_qnp y_tat y_tsz y_wr (hls) (by omega) (by omega) ci_fBr_zBr_nb ci_fN_zNw_np ci_fPa_zBr_np) (cwV 2 hts (zgV qw1489 qw1491 qw68 qw108 qw1492) rfl rfl rfl hd_X11_paintNow ⟨by rw [hR]; exact Nat.le_of_ble_eq_true rfl, by rw [hR]; exact Nat.le_of_ble_eq_true rfl⟩) (zPV hPc hK hDc (va_recv (q := (RX11, TX11, 41)) hK hP (ci := 11) (q0 := 0) rfl rfl)) rfl rfl hl.1 rfl (lv_room (Nat.le_of_ble_eq_true rfl)) dX11_drawMonth_49 ⟨Nat.zero_le _, Nat.zero_le _⟩) hS (fun q _ h => hFc q h) hFc (fun v49 u49 t H locs ht hvm hw hB hz1 hk1 hS9 => ?_)
      obtain ⟨u49_0, u49_1, u49_2⟩ := u49
      obtain ⟨hP9, hD9⟩ := zj2 (wX := [(h0, .inr (11, [.int th, .ref tB, .int tsz, .int tat, .int wr, .int dp, .ref rC, .ref rV, .ref rD, .ref rK, .ref rT, .ref rS, .ref rU, .int lw, .int tx, .ref rL, .ref rX, .ref qR, .ref qB, .ref qP, .int qnb, .int qnp, .ref aR, .ref aB, .ref aP, .int nb, .int np, .ref aN, .ref rf, .int ho, .int br, .ref aK, .int ac, .long u14_0, .ref aE, .int sr, .int sf, .ref aA, .ref aH, .ref aI, .int hi])), (rC, .inl (cI, 2600, .inl fC)), (rV, .inl (cI, 2600, .inl fV)), (rK, .inl (cI, 5, .inl fK)), (rT, .inl (cI, 700, .inl fT)), (rS, .inl (cI, 700, .inl fS)), (rU, .inl (cI, 700, .inl fU)), (rL, .inl (cI, 6, .inl u49_0)), (rX, .inl (cI, 80, .inl u49_1)), (aB, .inl (cI, 24, .inl fBr)), (aP, .inl (cI, 20, .inl fPa)), (aN, .inl (cI, 97, .inl u49_2))]) hP hD hk1 hFc ht hB [0, 1, 2, 3, 4, 5, 6, 7, 8, 9, 10, 11] [(true, 0), (true, 1), (true, 2), (true, 3), (true, 4), (true, 5), (true, 6), (true, 7), (true, 8), (true, 9), (true, 10), (true, 11)] rfl (by decide +kernel) (by decide +kernel) rfl
      clear hP hD hS hPc hDc hFc hB hk1 hz1 hvm
      have hP := hP9
      have hD := hD9
      have hS := hS9
      clear hP9 hD9 hS9
      obtain ⟨f49_0, f49_1, f49_2, f49_3⟩ : ((-1) ≤ v49.toInt) ∧ (v49.toInt ≤ 9) ∧ (∀ (kc : zK3) (kT : zT) (q_fR : Nat → Int32) (kl : Option ((Int → Int) × Int)), zCn q_fR fBr fPa nb.toInt np.toInt kc → zKo nb.toInt np.toInt kc kT → zSr nb.toInt np.toInt kT.1 fN → zLwR ho fC fV fK fT fS fU kl → (0 ≤ v5.toInt ∧ v5.toInt < np.toInt) → (0 ≤ v14.toInt ∧ v14.toInt < nb.toInt) → v49 = sV_pnt kc kT.1 kl v5 v14 ∧ zSr nb.toInt np.toInt (sN_pnt kc kT.1 kl v5 v14) u49_2) ∧ (zNw np u49_2) := hw
      have F49 := f49_2
      refine lv_pop hx hb dX11_drawMonth_52 rfl ?_
      refine lv_aload_n hx hb dX11_drawMonth_53 rfl (lv_at hl 2 rfl) ?_
      refine lv_bipush (v := 10) hx hb dX11_drawMonth_54 (by decide) ?_
      obtain ⟨hPc, hDc, hFc⟩ := zc3 (wc := [(h0, .inr (11, [.int th, .ref tB, .int tsz, .int tat, .int wr, .int dp, .ref rC, .ref rV, .ref rD, .ref rK, .ref rT, .ref rS, .ref rU, .int lw, .int tx, .ref rL, .ref rX, .ref qR, .ref qB, .ref qP, .int qnb, .int qnp, .ref aR, .ref aB, .ref aP, .int nb, .int np, .ref aN, .ref rf, .int ho, .int br, .ref aK, .int ac, .long u14_0, .ref aE, .int sr, .int sf, .ref aA, .ref aH, .ref aI, .int hi]))]) hP hD hS hA [0] (by decide +kernel) rfl
      refine va_calli (va_runV (As := [.int 10]) (rest := []) ⟨hx, hb, hml, hown, hts⟩ (g_X11_draw_10 l dC dI cI cJ h0 10 th tB tsz tat wr dp rC rV rD rK rT rS rU lw tx rL rX qR qB qP qnb qnp aR aB aP nb np aN rf ho br aK ac u14_0 aE sr sf aA aH aI hi H.size y_ac y_hi y_ho y_lw (by omega) (by omega) (by decide) y_qnb y_qnp y_tat y_tsz y_wr) (cwV 1 hts (zgV qw1553 qw1555 qw75 qw108 qw1556) rfl rfl rfl hd_X11_draw ⟨by rw [hR]; exact Nat.le_of_ble_eq_true rfl, by rw [hR]; exact Nat.le_of_ble_eq_true rfl⟩) (zPV hPc hK hDc (va_recv (q := (RX11, TX11, 41)) hK hP (ci := 11) (q0 := 0) rfl rfl)) rfl rfl hl.1 rfl (lv_room (Nat.le_of_ble_eq_true rfl)) dX11_drawMonth_56 ⟨Nat.zero_le _, Nat.zero_le _⟩) hS (fun q _ h => hFc q h) hFc (fun v56 u56 t H locs ht hvm hw hB hz1 hk1 hS9 => ?_)
      obtain ⟨u56_0, rfl⟩ : ∃ z, z = u56 := ⟨_, rfl⟩
      obtain ⟨hP9, hD9⟩ := zj2 (wX := [(h0, .inr (11, [.int th, .ref tB, .int tsz, .int tat, .int wr, .int dp, .ref rC, .ref rV, .ref rD, .ref rK, .ref rT, .ref rS, .ref rU, .int lw, .int tx, .ref rL, .ref rX, .ref qR, .ref qB, .ref qP, .int qnb, .int qnp, .ref aR, .ref aB, .ref aP, .int nb, .int np, .ref aN, .ref rf, .int ho, .int br, .ref aK, .int ac, .long u56_0, .ref aE, .int sr, .int sf, .ref aA, .ref aH, .ref aI, .int hi])), (rC, .inl (cI, 2600, .inl fC)), (rV, .inl (cI, 2600, .inl fV)), (rK, .inl (cI, 5, .inl fK)), (rT, .inl (cI, 700, .inl fT)), (rS, .inl (cI, 700, .inl fS)), (rU, .inl (cI, 700, .inl fU)), (rL, .inl (cI, 6, .inl u49_0)), (rX, .inl (cI, 80, .inl u49_1)), (aB, .inl (cI, 24, .inl fBr)), (aP, .inl (cI, 20, .inl fPa)), (aN, .inl (cI, 97, .inl u49_2))]) hP hD hk1 hFc ht hB [0] [(true, 0), (false, 1), (false, 2), (false, 3), (false, 4), (false, 5), (false, 6), (false, 7), (false, 8), (false, 9), (false, 10), (false, 11)] rfl (by decide +kernel) (by decide +kernel) rfl
      clear hP hD hS hPc hDc hFc hB hk1 hz1 hvm
      have hP := hP9
      have hD := hD9
      have hS := hS9
      clear hP9 hD9 hS9
      have zn56_10 : (10 : Int32).toInt = 10 := by decide
      obtain ⟨f56_0, f56_1, f56_2, f56_3, f56_4⟩ : (0 ≤ v56.toInt) ∧ (v56.toInt ≤ 9) ∧ (v56.toInt < (10 : Int32).toInt) ∧ (v56 = sDr (sNx u14_0) 10) ∧ (u56_0 = sNx u14_0) := hw
      have F56 := f56_3
      have F56_1 := f56_4
      refine lv_aload_n hx hb dX11_drawMonth_59 rfl (lv_at hl 2 rfl) ?_
      refine va_get (D := (dC, dI)) (ci := 11) (v := .int br) (C := RX11) (T := TX11) (N := 41) hx hb hts iX11 hown hK hP 0 rfl rfl 30 (by decide) (hts _ qw1157) (fun _ h9 => h9) rfl dX11_drawMonth_60 ?_
      refine lv_icmp_ge (tgt := 98) hx hb dX11_drawMonth_63 (by decide) (fun c63 => ?_) (fun c63 => ?_)
      · have c63 : br.toInt ≤ v56.toInt := z3 rfl rfl c63
        rw [hQ]
        exact W.vret hx hb hr (fun t ht hW => ⟨⟨(u56_0, u49_0, u49_1, u49_2), rfl, ⟨by (try dsimp only); exact fun kc kT q_fR kl hc hb h hL => by rw [F5_1] at F14 F14_1; have zp := congrArg Int32.toInt (zSr_pu h); have zn := congrArg Int32.toInt (zSr_pn h); have y24 : v24 = fN 14 := zIxN (n := 14) e24 (by decide); have z24 := congrArg Int32.toInt y24; have y28 : v28 = kc.2.2 (4 * v5.toInt.toNat + 1) := (F28.trans (congrArg fPa (show 4 * v5.toInt.toNat + (1 : Int32).toInt.toNat = 4 * v5.toInt.toNat + 1 by have : (1 : Int32).toInt = 1 := (by decide); omega))).trans (hc.2.2 _ (by omega)); have z28 := congrArg Int32.toInt y28; have z40 := congrArg Int32.toInt (zIxN (n := 16) e40 (by decide)); have g := F49 kc kT _ kl hc hb h hL (by omega) (by omega); have d1 : zSr nb.toInt np.toInt (sDp nb np kc kl kT.1 dw) u49_2 := (by unfold sDp; rw [← F5, ← F14, ← y28, if_neg (by omega)]; exact g.2); rw [F14_1] at F56 F56_1; unfold sDq sDx; rw [← F56, if_pos (by omega), if_pos (by omega)]; exact ⟨d1, F56_1⟩, f49_3⟩, ⟨by rw [ht]; exact hP, hD⟩⟩, hS.F ht⟩) hS.2.2 dX11_drawMonth_98
      · have c63 : v56.toInt < br.toInt := z4 rfl rfl c63
        refine lv_aload_n hx hb dX11_drawMonth_66 rfl (lv_at hl 2 rfl) ?_
        refine lv_aload_n hx hb dX11_drawMonth_67 rfl (lv_at hl 2 rfl) ?_
        refine va_get (D := (dC, dI)) (ci := 11) (v := .int nb) (C := RX11) (T := TX11) (N := 41) hx hb hts iX11 hown hK hP 0 rfl rfl 25 (by decide) (hts _ qw1152) (fun _ h9 => h9) rfl dX11_drawMonth_68 ?_
        obtain ⟨hPc, hDc, hFc⟩ := zc3 (wc := [(h0, .inr (11, [.int th, .ref tB, .int tsz, .int tat, .int wr, .int dp, .ref rC, .ref rV, .ref rD, .ref rK, .ref rT, .ref rS, .ref rU, .int lw, .int tx, .ref rL, .ref rX, .ref qR, .ref qB, .ref qP, .int qnb, .int qnp, .ref aR, .ref aB, .ref aP, .int nb, .int np, .ref aN, .ref rf, .int ho, .int br, .ref aK, .int ac, .long u56_0, .ref aE, .int sr, .int sf, .ref aA, .ref aH, .ref aI, .int hi]))]) hP hD hS hA [0] (by decide +kernel) rfl
        refine va_calli (va_runV (As := [.int nb]) (rest := []) ⟨hx, hb, hml, hown, hts⟩ (g_X11_draw_6 l dC dI cI cJ h0 nb th tB tsz tat wr dp rC rV rD rK rT rS rU lw tx rL rX qR qB qP qnb qnp aR aB aP nb np aN rf ho br aK ac u56_0 aE sr sf aA aH aI hi H.size y_ac y_hi y_ho y_lw (by omega) (by omega) n_nb y_qnb y_qnp y_tat y_tsz y_wr) (cwV 1 hts (zgV qw1553 qw1555 qw75 qw108 qw1556) rfl rfl rfl hd_X11_draw ⟨by rw [hR]; exact Nat.le_of_ble_eq_true rfl, by rw [hR]; exact Nat.le_of_ble_eq_true rfl⟩) (zPV hPc hK hDc (va_recv (q := (RX11, TX11, 41)) hK hP (ci := 11) (q0 := 0) rfl rfl)) rfl rfl hl.1 rfl (lv_room (Nat.le_of_ble_eq_true rfl)) dX11_drawMonth_71 ⟨Nat.zero_le _, Nat.zero_le _⟩) hS (fun q _ h => hFc q h) hFc (fun v71 u71 t H locs ht hvm hw hB hz1 hk1 hS9 => ?_)
        obtain ⟨u71_0, rfl⟩ : ∃ z, z = u71 := ⟨_, rfl⟩
        obtain ⟨hP9, hD9⟩ := zj2 (wX := [(h0, .inr (11, [.int th, .ref tB, .int tsz, .int tat, .int wr, .int dp, .ref rC, .ref rV, .ref rD, .ref rK, .ref rT, .ref rS, .ref rU, .int lw, .int tx, .ref rL, .ref rX, .ref qR, .ref qB, .ref qP, .int qnb, .int qnp, .ref aR, .ref aB, .ref aP, .int nb, .int np, .ref aN, .ref rf, .int ho, .int br, .ref aK, .int ac, .long u71_0, .ref aE, .int sr, .int sf, .ref aA, .ref aH, .ref aI, .int hi])), (rC, .inl (cI, 2600, .inl fC)), (rV, .inl (cI, 2600, .inl fV)), (rK, .inl (cI, 5, .inl fK)), (rT, .inl (cI, 700, .inl fT)), (rS, .inl (cI, 700, .inl fS)), (rU, .inl (cI, 700, .inl fU)), (rL, .inl (cI, 6, .inl u49_0)), (rX, .inl (cI, 80, .inl u49_1)), (aB, .inl (cI, 24, .inl fBr)), (aP, .inl (cI, 20, .inl fPa)), (aN, .inl (cI, 97, .inl u49_2))]) hP hD hk1 hFc ht hB [0] [(true, 0), (false, 1), (false, 2), (false, 3), (false, 4), (false, 5), (false, 6), (false, 7), (false, 8), (false, 9), (false, 10), (false, 11)] rfl (by decide +kernel) (by decide +kernel) rfl
        clear hP hD hS hPc hDc hFc hB hk1 hz1 hvm
        have hP := hP9
        have hD := hD9
        have hS := hS9
        clear hP9 hD9 hS9
        obtain ⟨f71_0, f71_1, f71_2, f71_3, f71_4⟩ : (0 ≤ v71.toInt) ∧ (v71.toInt ≤ 5) ∧ (v71.toInt < nb.toInt) ∧ (v71 = sDr (sNx u56_0) nb) ∧ (u71_0 = sNx u56_0) := hw
        have F71 := f71_3
        have F71_1 := f71_4
        refine lv_istore_n (lv' := [(3, .int v71), (2, .int v14), (1, .int v5), (0, .ref h0)]) hx hb dX11_drawMonth_74 rfl hl (by decide) rfl (fun ls hl => ?_)
        refine lv_aload_n hx hb dX11_drawMonth_75 rfl (lv_at hl 3 rfl) ?_
        refine va_get (D := (dC, dI)) (ci := 11) (v := .ref aN) (C := RX11) (T := TX11) (N := 41) hx hb hts iX11 hown hK hP 0 rfl rfl 27 (by decide) (hts _ qw1154) (fun _ h9 => h9) rfl dX11_drawMonth_76 ?_
        refine lv_iconst (v := 0) hx hb dX11_drawMonth_79 (by decide) ?_
        refine lv_iload_n hx hb dX11_drawMonth_80 rfl (lv_at hl 0 rfl) ?_
        refine lv_iadd hx hb dX11_drawMonth_81 ?_
        refine lv_topi (fun v81 e81 => ?_)
        have i81 : v81.toInt = 0 + v71.toInt := zadd e81 (by decide) rfl (by omega) (by omega)
        refine lv_bipush (v := 9) hx hb dX11_drawMonth_82 (by decide) ?_
        refine lv_aload_n hx hb dX11_drawMonth_84 rfl (lv_at hl 3 rfl) ?_
        refine va_get (D := (dC, dI)) (ci := 11) (v := .ref aN) (C := RX11) (T := TX11) (N := 41) hx hb hts iX11 hown hK hP 0 rfl rfl 27 (by decide) (hts _ qw1154) (fun _ h9 => h9) rfl dX11_drawMonth_85 ?_
        refine lv_iconst (v := 0) hx hb dX11_drawMonth_88 (by decide) ?_
        refine lv_iload_n hx hb dX11_drawMonth_89 rfl (lv_at hl 0 rfl) ?_
        refine lv_iadd hx hb dX11_drawMonth_90 ?_
        refine lv_topi (fun v90 e90 => ?_)
        have i90 : v90.toInt = 0 + v71.toInt := zadd e90 (by decide) rfl (by omega) (by omega)
        refine va_iald hx hb hK hP 11 0 rfl rfl (vp_in_iff.mpr ⟨by omega, by omega⟩) dX11_drawMonth_91 ?_
        refine lv_topi (fun v91 e91 => ?_)
        refine lv_iconst (v := 1) hx hb dX11_drawMonth_92 (by decide) ?_
        refine lv_iadd hx hb dX11_drawMonth_93 ?_
        refine lv_topi (fun v93 e93 => ?_)
        refine va_mmin hx hb (by rw [hml]; exact hl.1.symm) hown (hts _ qw1468) (hts _ qw569) (hts _ qw112) (hts _ qw570) (by rw [hR]; exact Nat.le_of_ble_eq_true rfl) (by rw [hR]; exact Nat.le_of_ble_eq_true rfl) (Nat.zero_le _) (Nat.zero_le _) dX11_drawMonth_94 ?_
        refine lv_topi (fun v94 e94 => ?_)
        have zc94_0 : (9 : Int32).toInt = 9 := by decide
        have i94 := zmmin e94
        refine va_iast hx hb hK hP hD hS 11 0 rfl rfl (vp_in_iff.mpr ⟨by omega, by omega⟩) dX11_drawMonth_97 (fun H locs hP9 hD9 hS9 => ?_)
        clear hP hD hS
        obtain ⟨v97_f, e97⟩ : ∃ g : Nat → Int32, g = upd u49_2 (v81).toNatClampNeg v94 := ⟨_, rfl⟩
        rw [← e97] at hP9 hD9
        obtain ⟨hP, hD⟩ := zst (wX := [(h0, .inr (11, [.int th, .ref tB, .int tsz, .int tat, .int wr, .int dp, .ref rC, .ref rV, .ref rD, .ref rK, .ref rT, .ref rS, .ref rU, .int lw, .int tx, .ref rL, .ref rX, .ref qR, .ref qB, .ref qP, .int qnb, .int qnp, .ref aR, .ref aB, .ref aP, .int nb, .int np, .ref aN, .ref rf, .int ho, .int br, .ref aK, .int ac, .long u71_0, .ref aE, .int sr, .int sf, .ref aA, .ref aH, .ref aI, .int hi])), (rC, .inl (cI, 2600, .inl fC)), (rV, .inl (cI, 2600, .inl fV)), (rK, .inl (cI, 5, .inl fK)), (rT, .inl (cI, 700, .inl fT)), (rS, .inl (cI, 700, .inl fS)), (rU, .inl (cI, 700, .inl fU)), (rL, .inl (cI, 6, .inl u49_0)), (rX, .inl (cI, 80, .inl u49_1)), (aB, .inl (cI, 24, .inl fBr)), (aP, .inl (cI, 20, .inl fPa)), (aN, .inl (cI, 97, .inl v97_f))]) hP9 hD9 rfl
        have hS := hS9
        clear hP9 hD9 hS9
        have cq97_zNw_np : zNw np v97_f := (zNw_low f49_3 e97 (by omega) (by omega)).1
        rw [hQ]
        exact W.vret hx hb hr (fun t ht hW => ⟨⟨(u71_0, u49_0, u49_1, v97_f), rfl, ⟨by (try dsimp only); exact fun kc kT q_fR kl hc hb h hL => by rw [F5_1] at F14 F14_1; have zp := congrArg Int32.toInt (zSr_pu h); have zn := congrArg Int32.toInt (zSr_pn h); have y24 : v24 = fN 14 := zIxN (n := 14) e24 (by decide); have z24 := congrArg Int32.toInt y24; have y28 : v28 = kc.2.2 (4 * v5.toInt.toNat + 1) := (F28.trans (congrArg fPa (show 4 * v5.toInt.toNat + (1 : Int32).toInt.toNat = 4 * v5.toInt.toNat + 1 by have : (1 : Int32).toInt = 1 := (by decide); omega))).trans (hc.2.2 _ (by omega)); have z28 := congrArg Int32.toInt y28; have z40 := congrArg Int32.toInt (zIxN (n := 16) e40 (by decide)); have g := F49 kc kT _ kl hc hb h hL (by omega) (by omega); have d1 : zSr nb.toInt np.toInt (sDp nb np kc kl kT.1 dw) u49_2 := (by unfold sDp; rw [← F5, ← F14, ← y28, if_neg (by omega)]; exact g.2); rw [F14_1] at F56 F56_1; rw [F56_1] at F71 F71_1; have y91 : v91 = (sDp nb np kc kl kT.1 dw).1 v71.toInt.toNat := (zIxN (n := v71.toInt.toNat) e91 (by omega)).trans (d1.1 _ (by omega)); have y94 : v94 = sMin 9 ((sDp nb np kc kl kT.1 dw).1 v71.toInt.toNat + 1) := (by unfold sMin; rw [e94, e93, y91]); unfold sDq sDx; rw [← F56, if_neg (by omega), if_neg (by omega), ← F71, ← y94]; exact ⟨zSr_Y d1 e97 (by omega) (by omega), F71_1⟩, cq97_zNw_np⟩, ⟨by rw [ht]; exact hP, hD⟩⟩, hS.F ht⟩) hS.2.2 dX11_drawMonth_98
