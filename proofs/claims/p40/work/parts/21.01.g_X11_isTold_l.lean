set_option maxHeartbeats 4000000 in
set_option maxRecDepth 100000 in
theorem g_X11_paint (l : Launch) (dC : Nat → ClassId) (dI : Nat → Nat → Nat) (cI cJ : ClassId) (h0 : Nat) (p0 : Int32) (p1 : Int32) (th : Int32) (tB : Nat) (tsz : Int32) (tat : Int32) (wr : Int32) (dp : Int32) (rC : Nat) (rV : Nat) (rD : Nat) (rK : Nat) (rT : Nat) (rS : Nat) (rU : Nat) (lw : Int32) (tx : Int32) (rL : Nat) (rX : Nat) (qR : Nat) (qB : Nat) (qP : Nat) (qnb : Int32) (qnp : Int32) (aR : Nat) (aB : Nat) (aP : Nat) (nb : Int32) (np : Int32) (aN : Nat) (rf : Nat) (ho : Int32) (br : Int32) (aK : Nat) (ac : Int32) (dw : Int64) (aE : Nat) (sr : Int32) (sf : Int32) (aA : Nat) (aH : Nat) (aI : Nat) (hi : Int32) (fC : Nat → Int32) (fV : Nat → Int32) (fK : Nat → Int32) (fT : Nat → Int32) (fS : Nat → Int32) (fU : Nat → Int32) (fL : Nat → Int32) (fX : Nat → Int32) (fBr : Nat → Int32) (fPa : Nat → Int32) (fN : Nat → Int32) (frf : Nat → Int32) (fKp : Nat → Int32) (sz : Nat) (n_ac : 0 ≤ ac.toInt ∧ ac.toInt ≤ 40) (n_hi : 0 ≤ hi.toInt ∧ hi.toInt ≤ 1) (n_ho : (-1) ≤ ho.toInt ∧ ho.toInt ≤ 3) (n_lw : 0 ≤ lw.toInt ∧ lw.toInt ≤ 4) (n_nb : 0 ≤ nb.toInt ∧ nb.toInt ≤ 6) (n_np : 0 ≤ np.toInt ∧ np.toInt ≤ 5) (n_qnb : 0 ≤ qnb.toInt ∧ qnb.toInt ≤ 6) (n_qnp : 0 ≤ qnp.toInt ∧ qnp.toInt ≤ 5) (n_tat : 0 ≤ tat.toInt ∧ tat.toInt ≤ 260) (n_tsz : 0 ≤ tsz.toInt ∧ tsz.toInt ≤ 240) (n_wr : (-1) ≤ wr.toInt ∧ wr.toInt ≤ 260) (hls : zLs ho fC fV fK fT fS fU) (ci_fBr_zBr_nb : zBr nb fBr) (ci_fKp_zKp_np__F_h0_32_ : zKp np ac fKp) (ci_fN_zNw_np : zNw np fN) (ci_fPa_zBr_np : zBr np fPa)  : Met l yX11_paint (.code yX11_paint cX11_paint 3 (some .int) :: wA) ({ frames := 8, cells := 0, slots := 0, locals := 195 }) (zP (dC, dI) [(cI, .int), (cJ, .long)] [.ref h0, .int p0, .int p1] sz [(h0, .inr (11, [.int th, .ref tB, .int tsz, .int tat, .int wr, .int dp, .ref rC, .ref rV, .ref rD, .ref rK, .ref rT, .ref rS, .ref rU, .int lw, .int tx, .ref rL, .ref rX, .ref qR, .ref qB, .ref qP, .int qnb, .int qnp, .ref aR, .ref aB, .ref aP, .int nb, .int np, .ref aN, .ref rf, .int ho, .int br, .ref aK, .int ac, .long dw, .ref aE, .int sr, .int sf, .ref aA, .ref aH, .ref aI, .int hi])), (rC, .inl (cI, 2600, .inl fC)), (rV, .inl (cI, 2600, .inl fV)), (rK, .inl (cI, 5, .inl fK)), (rT, .inl (cI, 700, .inl fT)), (rS, .inl (cI, 700, .inl fS)), (rU, .inl (cI, 700, .inl fU)), (rL, .inl (cI, 6, .inl fL)), (rX, .inl (cI, 80, .inl fX)), (aB, .inl (cI, 24, .inl fBr)), (aP, .inl (cI, 20, .inl fPa)), (aN, .inl (cI, 97, .inl fN)), (rf, .inl (cI, 5, .inl frf)), (aK, .inl (cI, 3880, .inl fKp))]) (va_Qi (fun (r : Int32) (u : Int32 × (Nat → Int32) × (Nat → Int32) × (Nat → Int32) × (Nat → Int32) × (Nat → Int32)) => ((-1) ≤ r.toInt) ∧ (r.toInt ≤ 9) ∧ (0 ≤ u.1.toInt) ∧ (u.1.toInt ≤ 40) ∧ (∀ (kc : zK3) (kT : zT) (q_fR : Nat → Int32) (kl : Option ((Int → Int) × Int)), zCn q_fR fBr fPa nb.toInt np.toInt kc → zKo nb.toInt np.toInt kc kT → zTr nb.toInt np.toInt kT fN fKp ac frf → zLwR ho fC fV fK fT fS fU kl → r = sA (sW_pnt nb.toInt np.toInt kc kT.1 p0 p1) (sV_pnt kc kT.1 kl p0 p1) ∧ zTr nb.toInt np.toInt (sDo (sW_pnt nb.toInt np.toInt kc kT.1 p0 p1) kT (sN_pnt kc kT.1 kl p0 p1)) u.2.2.2.1 u.2.2.2.2.2 u.1 u.2.2.2.2.1) ∧ (zKp np u.1 u.2.2.2.2.2) ∧ (zNw np u.2.2.2.1)) (fun (u : Int32 × (Nat → Int32) × (Nat → Int32) × (Nat → Int32) × (Nat → Int32) × (Nat → Int32)) (t : State) => va_P (dC, dI) vwCl [(h0, .inr (11, [.int th, .ref tB, .int tsz, .int tat, .int wr, .int dp, .ref rC, .ref rV, .ref rD, .ref rK, .ref rT, .ref rS, .ref rU, .int lw, .int tx, .ref rL, .ref rX, .ref qR, .ref qB, .ref qP, .int qnb, .int qnp, .ref aR, .ref aB, .ref aP, .int nb, .int np, .ref aN, .ref rf, .int ho, .int br, .ref aK, .int u.1, .long dw, .ref aE, .int sr, .int sf, .ref aA, .ref aH, .ref aI, .int hi])), (rC, .inl (cI, 2600, .inl fC)), (rV, .inl (cI, 2600, .inl fV)), (rK, .inl (cI, 5, .inl fK)), (rT, .inl (cI, 700, .inl fT)), (rS, .inl (cI, 700, .inl fS)), (rU, .inl (cI, 700, .inl fU)), (rL, .inl (cI, 6, .inl u.2.1)), (rX, .inl (cI, 80, .inl u.2.2.1)), (aB, .inl (cI, 24, .inl fBr)), (aP, .inl (cI, 20, .inl fPa)), (aN, .inl (cI, 97, .inl u.2.2.2.1)), (rf, .inl (cI, 5, .inl u.2.2.2.2.1)), (aK, .inl (cI, 3880, .inl u.2.2.2.2.2))] t.heap ∧ va_D (va_A [(h0, .inr (11, [.int th, .ref tB, .int tsz, .int tat, .int wr, .int dp, .ref rC, .ref rV, .ref rD, .ref rK, .ref rT, .ref rS, .ref rU, .int lw, .int tx, .ref rL, .ref rX, .ref qR, .ref qB, .ref qP, .int qnb, .int qnp, .ref aR, .ref aB, .ref aP, .int nb, .int np, .ref aN, .ref rf, .int ho, .int br, .ref aK, .int ac, .long dw, .ref aE, .int sr, .int sf, .ref aA, .ref aH, .ref aI, .int hi])), (rC, .inl (cI, 2600, .inl fC)), (rV, .inl (cI, 2600, .inl fV)), (rK, .inl (cI, 5, .inl fK)), (rT, .inl (cI, 700, .inl fT)), (rS, .inl (cI, 700, .inl fS)), (rU, .inl (cI, 700, .inl fU)), (rL, .inl (cI, 6, .inl fL)), (rX, .inl (cI, 80, .inl fX)), (aB, .inl (cI, 24, .inl fBr)), (aP, .inl (cI, 20, .inl fPa)), (aN, .inl (cI, 97, .inl fN)), (rf, .inl (cI, 5, .inl frf)), (aK, .inl (cI, 3880, .inl fKp))] sz) [(h0, .inr (11, [.int th, .ref tB, .int tsz, .int tat, .int wr, .int dp, .ref rC, .ref rV, .ref rD, .ref rK, .ref rT, .ref rS, .ref rU, .int lw, .int tx, .ref rL, .ref rX, .ref qR, .ref qB, .ref qP, .int qnb, .int qnp, .ref aR, .ref aB, .ref aP, .int nb, .int np, .ref aN, .ref rf, .int ho, .int br, .ref aK, .int u.1, .long dw, .ref aE, .int sr, .int sf, .ref aA, .ref aH, .ref aI, .int hi])), (rC, .inl (cI, 2600, .inl fC)), (rV, .inl (cI, 2600, .inl fV)), (rK, .inl (cI, 5, .inl fK)), (rT, .inl (cI, 700, .inl fT)), (rS, .inl (cI, 700, .inl fS)), (rU, .inl (cI, 700, .inl fU)), (rL, .inl (cI, 6, .inl u.2.1)), (rX, .inl (cI, 80, .inl u.2.2.1)), (aB, .inl (cI, 24, .inl fBr)), (aP, .inl (cI, 20, .inl fPa)), (aN, .inl (cI, 97, .inl u.2.2.2.1)), (rf, .inl (cI, 5, .inl u.2.2.2.2.1)), (aK, .inl (cI, 3880, .inl u.2.2.2.2.2))]) (va_A [(h0, .inr (11, [.int th, .ref tB, .int tsz, .int tat, .int wr, .int dp, .ref rC, .ref rV, .ref rD, .ref rK, .ref rT, .ref rS, .ref rU, .int lw, .int tx, .ref rL, .ref rX, .ref qR, .ref qB, .ref qP, .int qnb, .int qnp, .ref aR, .ref aB, .ref aP, .int nb, .int np, .ref aN, .ref rf, .int ho, .int br, .ref aK, .int ac, .long dw, .ref aE, .int sr, .int sf, .ref aA, .ref aH, .ref aI, .int hi])), (rC, .inl (cI, 2600, .inl fC)), (rV, .inl (cI, 2600, .inl fV)), (rK, .inl (cI, 5, .inl fK)), (rT, .inl (cI, 700, .inl fT)), (rS, .inl (cI, 700, .inl fS)), (rU, .inl (cI, 700, .inl fU)), (rL, .inl (cI, 6, .inl fL)), (rX, .inl (cI, 80, .inl fX)), (aB, .inl (cI, 24, .inl fBr)), (aP, .inl (cI, 20, .inl fPa)), (aN, .inl (cI, 97, .inl fN)), (rf, .inl (cI, 5, .inl frf)), (aK, .inl (cI, 3880, .inl fKp))] sz)) 0 0 (va_A [(h0, .inr (11, [.int th, .ref tB, .int tsz, .int tat, .int wr, .int dp, .ref rC, .ref rV, .ref rD, .ref rK, .ref rT, .ref rS, .ref rU, .int lw, .int tx, .ref rL, .ref rX, .ref qR, .ref qB, .ref qP, .int qnb, .int qnp, .ref aR, .ref aB, .ref aP, .int nb, .int np, .ref aN, .ref rf, .int ho, .int br, .ref aK, .int ac, .long dw, .ref aE, .int sr, .int sf, .ref aA, .ref aH, .ref aI, .int hi])), (rC, .inl (cI, 2600, .inl fC)), (rV, .inl (cI, 2600, .inl fV)), (rK, .inl (cI, 5, .inl fK)), (rT, .inl (cI, 700, .inl fT)), (rS, .inl (cI, 700, .inl fS)), (rU, .inl (cI, 700, .inl fU)), (rL, .inl (cI, 6, .inl fL)), (rX, .inl (cI, 80, .inl fX)), (aB, .inl (cI, 24, .inl fBr)), (aP, .inl (cI, 20, .inl fPa)), (aN, .inl (cI, 97, .inl fN)), (rf, .inl (cI, 5, .inl frf)), (aK, .inl (cI, 3880, .inl fKp))] sz) := by
  refine Met.ofW (cc := cX11_paint) (maxL := 3) (ret := (some .int)) (by decide) rfl ?_
  intro p e s m args below meth c s₁ B hml hv
  have y_hi : zHid (0 ≤ hi.toInt ∧ hi.toInt ≤ 1) := n_hi
  have y_ho : zHid ((-1) ≤ ho.toInt ∧ ho.toInt ≤ 3) := n_ho
  have y_lw : zHid (0 ≤ lw.toInt ∧ lw.toInt ≤ 4) := n_lw
  have y_qnb : zHid (0 ≤ qnb.toInt ∧ qnb.toInt ≤ 6) := n_qnb
  have y_qnp : zHid (0 ≤ qnp.toInt ∧ qnp.toInt ≤ 5) := n_qnp
  have y_tat : zHid (0 ≤ tat.toInt ∧ tat.toInt ≤ 260) := n_tat
  have y_tsz : zHid (0 ≤ tsz.toInt ∧ tsz.toInt ≤ 240) := n_tsz
  have y_wr : zHid ((-1) ≤ wr.toInt ∧ wr.toInt ≤ 260) := n_wr
  clear n_hi n_ho n_lw n_qnb n_qnp n_tat n_tsz n_wr
  obtain ⟨hargs, hsz, hP, hK, hT⟩ := hv
  have hx := B.exec
  have hb := B.bytes
  have hr := B.returns
  have hts : ∀ w ∈ wA, w.before args s = true := fun w h => atoms_spec (ws := .code yX11_paint cX11_paint 3 (some .int) :: wA) B.pre w (List.mem_cons_of_mem _ h)
  have hown : s.vm.findClass RX11 = some m.cls := findClass_of_methodNamed B.named
  have hlocks := B.notSynchronized
  subst hsz
  have hD := hT.self (sz := s.heap.size)
  generalize hAe : va_A [(h0, .inr (11, [.int th, .ref tB, .int tsz, .int tat, .int wr, .int dp, .ref rC, .ref rV, .ref rD, .ref rK, .ref rT, .ref rS, .ref rU, .int lw, .int tx, .ref rL, .ref rX, .ref qR, .ref qB, .ref qP, .int qnb, .int qnp, .ref aR, .ref aB, .ref aP, .int nb, .int np, .ref aN, .ref rf, .int ho, .int br, .ref aK, .int ac, .long dw, .ref aE, .int sr, .int sf, .ref aA, .ref aH, .ref aI, .int hi])), (rC, .inl (cI, 2600, .inl fC)), (rV, .inl (cI, 2600, .inl fV)), (rK, .inl (cI, 5, .inl fK)), (rT, .inl (cI, 700, .inl fT)), (rS, .inl (cI, 700, .inl fS)), (rU, .inl (cI, 700, .inl fU)), (rL, .inl (cI, 6, .inl fL)), (rX, .inl (cI, 80, .inl fX)), (aB, .inl (cI, 24, .inl fBr)), (aP, .inl (cI, 20, .inl fPa)), (aN, .inl (cI, 97, .inl fN)), (rf, .inl (cI, 5, .inl frf)), (aK, .inl (cI, 3880, .inl fKp))] s.heap.size = A at hD ⊢
  have hA : ∀ q : Nat, s.heap.size ≤ q → A q := fun q h => by rw [← hAe]; exact Or.inr h
  have hl := lv_entry ([.ref h0, .int p0, .int p1]) (n := 3) (Nat.le_of_ble_eq_true rfl)
  rw [show entryFrame m args 3 = entryFrame m ([.ref h0, .int p0, .int p1] : List Value).toArray 3 by rw [hargs], lg_entry_eq]
  generalize (lg_sl ([.ref h0, .int p0, .int p1]) ++ List.replicate (3 - (lg_sl ([.ref h0, .int p0, .int p1])).length) Slot.unset).toArray = ls at hl ⊢
  have hl : lv_has ls 3 [(0, .ref h0), (1, .int p0), (2, .int p1)] := hl
  refine zstart (fun H hH => ?_)
  rw [← hH] at hP
  have hS : va_S A s.heap H [] := by rw [hH]; exact va_S.rf
  generalize ([] : List Loc) = locs at hS ⊢
  refine zgen (fun R Q hR hQ => ?_)
  refine lv_aload_n hx hb dX11_paint_0 rfl (lv_at hl 0 rfl) ?_
  refine lv_aload_n hx hb dX11_paint_1 rfl (lv_at hl 0 rfl) ?_
  refine lv_iload_n hx hb dX11_paint_2 rfl (lv_at hl 1 rfl) ?_
  refine lv_iload_n hx hb dX11_paint_3 rfl (lv_at hl 2 rfl) ?_
  obtain ⟨hPc, hDc⟩ := zc2 (wc := [(h0, .inr (11, [.int th, .ref tB, .int tsz, .int tat, .int wr, .int dp, .ref rC, .ref rV, .ref rD, .ref rK, .ref rT, .ref rS, .ref rU, .int lw, .int tx, .ref rL, .ref rX, .ref qR, .ref qB, .ref qP, .int qnb, .int qnp, .ref aR, .ref aB, .ref aP, .int nb, .int np, .ref aN, .ref rf, .int ho, .int br, .ref aK, .int ac, .long dw, .ref aE, .int sr, .int sf, .ref aA, .ref aH, .ref aI, .int hi]))]) hP hD [0] (by decide +kernel) rfl
  have hFc := zfr hS hA
  refine va_calli (va_runV (As := [.int p0, .int p1]) (rest := [.ref h0]) ⟨hx, hb, hml, hown, hts⟩ (g_X11_areBoth l dC dI cI cJ h0 p0 p1 th tB tsz tat wr dp rC rV rD rK rT rS rU lw tx rL rX qR qB qP qnb qnp aR aB aP nb np aN rf ho br aK ac dw aE sr sf aA aH aI hi H.size n_ac y_hi y_ho y_lw n_nb n_np y_qnb y_qnp y_tat y_tsz y_wr) (cwV 2 hts (zgV qw1422 qw1424 qw58 qw108 qw1425) rfl rfl rfl hd_X11_areBoth ⟨by rw [hR]; exact Nat.le_of_ble_eq_true rfl, by rw [hR]; exact Nat.le_of_ble_eq_true rfl⟩) (zPV hPc hK hDc (va_recv (q := (RX11, TX11, 41)) hK hP (ci := 11) (q0 := 0) rfl rfl)) rfl rfl hl.1 rfl (lv_room (Nat.le_of_ble_eq_true rfl)) dX11_paint_4 ⟨Nat.zero_le _, Nat.zero_le _⟩) hS (fun q _ h => hFc q h) hFc (fun v4 u4 t H locs ht hvm hw hB hz1 hk1 hS9 => ?_)
  replace hP := zkeep hP hk1
  replace hS := hS9
  clear hPc hDc hFc hk1 hz1 hvm hS9
  obtain ⟨f4_0, f4_1, f4_2, f4_3⟩ : (0 ≤ v4.toInt) ∧ (v4.toInt ≤ 1) ∧ (¬ v4.toInt = 0 → (0 ≤ p0.toInt ∧ p0.toInt < np.toInt ∧ 0 ≤ p1.toInt ∧ p1.toInt < nb.toInt)) ∧ (v4.toInt = 0 → ¬ ((0 ≤ p0.toInt ∧ p0.toInt < np.toInt) ∧ 0 ≤ p1.toInt ∧ p1.toInt < nb.toInt)) := hw
  refine lv_if_ne (tgt := 14) hx hb dX11_paint_7 (by decide) (fun c7 => ?_) (fun c7 => ?_)
  · have c7 : ¬ v4.toInt = 0 := z6 rfl (by decide) c7
    refine lv_aload_n hx hb dX11_paint_14 rfl (lv_at hl 0 rfl) ?_
    refine va_get (D := (dC, dI)) (ci := 11) (v := .ref aN) (C := RX11) (T := TX11) (N := 41) hx hb hts iX11 hown hK hP 0 rfl rfl 27 (by decide) (hts _ qw1154) (fun _ h9 => h9) rfl dX11_paint_15 ?_
    refine lv_bipush (v := 14) hx hb dX11_paint_18 (by decide) ?_
    refine va_iald hx hb hK hP 11 0 rfl rfl (by unfold vp_in; decide) dX11_paint_20 ?_
    refine lv_topi (fun v20 e20 => ?_)
    refine lv_aload_n hx hb dX11_paint_21 rfl (lv_at hl 0 rfl) ?_
    refine lv_iload_n hx hb dX11_paint_22 rfl (lv_at hl 1 rfl) ?_
    refine lv_iconst (v := 1) hx hb dX11_paint_23 (by decide) ?_
    obtain ⟨hPc, hDc⟩ := zc2 (wc := [(h0, .inr (11, [.int th, .ref tB, .int tsz, .int tat, .int wr, .int dp, .ref rC, .ref rV, .ref rD, .ref rK, .ref rT, .ref rS, .ref rU, .int lw, .int tx, .ref rL, .ref rX, .ref qR, .ref qB, .ref qP, .int qnb, .int qnp, .ref aR, .ref aB, .ref aP, .int nb, .int np, .ref aN, .ref rf, .int ho, .int br, .ref aK, .int ac, .long dw, .ref aE, .int sr, .int sf, .ref aA, .ref aH, .ref aI, .int hi])), (aP, .inl (cI, 20, .inl fPa))]) hP hD [0, 10] (by decide +kernel) rfl
    have hFc := zfr hS hA
    refine va_calli (va_runV (As := [.int p0, .int 1]) (rest := [.int v20, .ref h0]) ⟨hx, hb, hml, hown, hts⟩ (g_X11_by l dC dI cI cJ h0 p0 1 th tB tsz tat wr dp rC rV rD rK rT rS rU lw tx rL rX qR qB qP qnb qnp aR aB aP nb np aN rf ho br aK ac dw aE sr sf aA aH aI hi fPa H.size n_ac y_hi y_ho y_lw n_nb n_np (by omega) (by decide) y_qnb y_qnp y_tat y_tsz y_wr) (cwV 2 hts (zgV qw1390 qw1392 qw55 qw108 qw1393) rfl rfl rfl hd_X11_by ⟨by rw [hR]; exact Nat.le_of_ble_eq_true rfl, by rw [hR]; exact Nat.le_of_ble_eq_true rfl⟩) (zPV hPc hK hDc (va_recv (q := (RX11, TX11, 41)) hK hP (ci := 11) (q0 := 0) rfl rfl)) rfl rfl hl.1 rfl (lv_room (Nat.le_of_ble_eq_true rfl)) dX11_paint_24 ⟨Nat.zero_le _, Nat.zero_le _⟩) hS (fun q _ h => hFc q h) hFc (fun v24 u24 t H locs ht hvm hw hB hz1 hk1 hS9 => ?_)
    replace hP := zkeep hP hk1
    replace hS := hS9
    clear hPc hDc hFc hk1 hz1 hvm hS9
    have zn24_1 : (1 : Int32).toInt = 1 := by decide
    have f24_0 : (v24 = fPa (4 * p0.toInt.toNat + (1 : Int32).toInt.toNat)) := hw
    have F24 := f24_0
    refine lv_icmp_ge (tgt := 34) hx hb dX11_paint_27 (by decide) (fun c27 => ?_) (fun c27 => ?_)
    · have c27 : v24.toInt ≤ v20.toInt := z3 rfl rfl c27
      refine lv_aload_n hx hb dX11_paint_34 rfl (lv_at hl 0 rfl) ?_
      refine va_get (D := (dC, dI)) (ci := 11) (v := .ref aN) (C := RX11) (T := TX11) (N := 41) hx hb hts iX11 hown hK hP 0 rfl rfl 27 (by decide) (hts _ qw1154) (fun _ h9 => h9) rfl dX11_paint_35 ?_
      refine lv_bipush (v := 16) hx hb dX11_paint_38 (by decide) ?_
      refine va_iald hx hb hK hP 11 0 rfl rfl (by unfold vp_in; decide) dX11_paint_40 ?_
      refine lv_topi (fun v40 e40 => ?_)
      have i40 : v40.toInt = (fN 16).toInt ∧ 0 ≤ v40.toInt ∧ v40.toInt ≤ 20 := zNw_16 ci_fN_zNw_np e40
      refine lv_bipush (v := 20) hx hb dX11_paint_41 (by decide) ?_
      refine lv_icmp_ne (tgt := 50) hx hb dX11_paint_43 (by decide) (fun c43 => ?_) (fun c43 => ?_)
      · have c43 : ¬ v40.toInt = 20 := z6 rfl (by decide) c43
        refine lv_iconst (v := (-1)) hx hb dX11_paint_50 (by decide) ?_
        obtain ⟨hPc, hDc, hFc⟩ := zc3 (wc := [(h0, .inr (11, [.int th, .ref tB, .int tsz, .int tat, .int wr, .int dp, .ref rC, .ref rV, .ref rD, .ref rK, .ref rT, .ref rS, .ref rU, .int lw, .int tx, .ref rL, .ref rX, .ref qR, .ref qB, .ref qP, .int qnb, .int qnp, .ref aR, .ref aB, .ref aP, .int nb, .int np, .ref aN, .ref rf, .int ho, .int br, .ref aK, .int ac, .long dw, .ref aE, .int sr, .int sf, .ref aA, .ref aH, .ref aI, .int hi])), (rf, .inl (cI, 5, .inl frf))]) hP hD hS hA [0, 12] (by decide +kernel) rfl
        refine va_calli (va_runV (As := [.int (-1)]) (rest := []) ⟨hx, hb, hml, hown, hts⟩ (g_X11_isRefused l dC dI cI cJ h0 ((-1)) th tB tsz tat wr dp rC rV rD rK rT rS rU lw tx rL rX qR qB qP qnb qnp aR aB aP nb np aN rf ho br aK ac dw aE sr sf aA aH aI hi frf H.size n_ac y_hi y_ho y_lw n_nb n_np (by decide) y_qnb y_qnp y_tat y_tsz y_wr) (cwV 1 hts (zgV qw1481 qw1483 qw66 qw108 qw1484) rfl rfl rfl hd_X11_isRefused ⟨by rw [hR]; exact Nat.le_of_ble_eq_true rfl, by rw [hR]; exact Nat.le_of_ble_eq_true rfl⟩) (zPV hPc hK hDc (va_recv (q := (RX11, TX11, 41)) hK hP (ci := 11) (q0 := 0) rfl rfl)) rfl rfl hl.1 rfl (lv_room (Nat.le_of_ble_eq_true rfl)) dX11_paint_51 ⟨Nat.zero_le _, Nat.zero_le _⟩) hS (fun q _ h => hFc q h) hFc (fun v51 u51 t H locs ht hvm hw hB hz1 hk1 hS9 => ?_)
        obtain ⟨u51_0, rfl⟩ : ∃ z, z = u51 := ⟨_, rfl⟩
        obtain ⟨hP9, hD9⟩ := zj2 (wX := [(h0, .inr (11, [.int th, .ref tB, .int tsz, .int tat, .int wr, .int dp, .ref rC, .ref rV, .ref rD, .ref rK, .ref rT, .ref rS, .ref rU, .int lw, .int tx, .ref rL, .ref rX, .ref qR, .ref qB, .ref qP, .int qnb, .int qnp, .ref aR, .ref aB, .ref aP, .int nb, .int np, .ref aN, .ref rf, .int ho, .int br, .ref aK, .int ac, .long dw, .ref aE, .int sr, .int sf, .ref aA, .ref aH, .ref aI, .int hi])), (rC, .inl (cI, 2600, .inl fC)), (rV, .inl (cI, 2600, .inl fV)), (rK, .inl (cI, 5, .inl fK)), (rT, .inl (cI, 700, .inl fT)), (rS, .inl (cI, 700, .inl fS)), (rU, .inl (cI, 700, .inl fU)), (rL, .inl (cI, 6, .inl fL)), (rX, .inl (cI, 80, .inl fX)), (aB, .inl (cI, 24, .inl fBr)), (aP, .inl (cI, 20, .inl fPa)), (aN, .inl (cI, 97, .inl fN)), (rf, .inl (cI, 5, .inl u51_0)), (aK, .inl (cI, 3880, .inl fKp))]) hP hD hk1 hFc ht hB [0, 12] [(true, 0), (false, 1), (false, 2), (false, 3), (false, 4), (false, 5), (false, 6), (false, 7), (false, 8), (false, 9), (false, 10), (false, 11), (true, 1), (false, 13)] rfl (by decide +kernel) (by decide +kernel) rfl
        clear hP hD hS hPc hDc hFc hB hk1 hz1 hvm
        have hP := hP9
        have hD := hD9
        have hS := hS9
        clear hP9 hD9 hS9
        have zn51_m1 : (-1 : Int32).toInt = -1 := by decide
        obtain ⟨f51_0, f51_1, f51_2, f51_3⟩ : (0 ≤ v51.toInt) ∧ (v51.toInt ≤ 1) ∧ (v51.toInt = 0 → (-1 : Int32).toInt = -1) ∧ ((v51.toInt = 0 ∧ (-1 : Int32).toInt = -1 ∧ u51_0 = frf) ∨ (v51.toInt = 1 ∧ ¬ (-1 : Int32).toInt = -1 ∧ zRf frf u51_0 (-1 : Int32).toInt)) := hw
        have F51 := f51_3
        refine lv_if_eq (tgt := 59) hx hb dX11_paint_54 (by decide) (fun c54 => ?_) (fun c54 => ?_)
        · have c54 : v51.toInt = 0 := z5 rfl (by decide) c54
          refine lv_aload_n hx hb dX11_paint_59 rfl (lv_at hl 0 rfl) ?_
          obtain ⟨hPc, hDc, hFc⟩ := zc3 (wc := [(h0, .inr (11, [.int th, .ref tB, .int tsz, .int tat, .int wr, .int dp, .ref rC, .ref rV, .ref rD, .ref rK, .ref rT, .ref rS, .ref rU, .int lw, .int tx, .ref rL, .ref rX, .ref qR, .ref qB, .ref qP, .int qnb, .int qnp, .ref aR, .ref aB, .ref aP, .int nb, .int np, .ref aN, .ref rf, .int ho, .int br, .ref aK, .int ac, .long dw, .ref aE, .int sr, .int sf, .ref aA, .ref aH, .ref aI, .int hi])), (aN, .inl (cI, 97, .inl fN)), (aK, .inl (cI, 3880, .inl fKp))]) hP hD hS hA [0, 11, 13] (by decide +kernel) rfl
          refine va_callv (va_runV (As := []) (rest := []) ⟨hx, hb, hml, hown, hts⟩ (g_X11_keep l dC dI cI cJ h0 th tB tsz tat wr dp rC rV rD rK rT rS rU lw tx rL rX qR qB qP qnb qnp aR aB aP nb np aN rf ho br aK ac dw aE sr sf aA aH aI hi fN fKp H.size n_ac y_hi y_ho y_lw n_nb n_np y_qnb y_qnp y_tat y_tsz y_wr ci_fKp_zKp_np__F_h0_32_ ci_fN_zNw_np) (cwV 0 hts (zgV qw1485 qw1487 qw67 qw108 qw1488) rfl rfl rfl hd_X11_keep ⟨by rw [hR]; exact Nat.le_of_ble_eq_true rfl, by rw [hR]; exact Nat.le_of_ble_eq_true rfl⟩) (zPV hPc hK hDc (va_recv (q := (RX11, TX11, 41)) hK hP (ci := 11) (q0 := 0) rfl rfl)) rfl rfl hl.1 rfl (lv_room (Nat.le_of_ble_eq_true rfl)) dX11_paint_60 ⟨Nat.zero_le _, Nat.zero_le _⟩) hS (fun q _ h => hFc q h) hFc (fun u60 t H locs ht hvm hw hB hz1 hk1 hS9 => ?_)
          obtain ⟨u60_0, u60_1⟩ := u60
          obtain ⟨hP9, hD9⟩ := zj2 (wX := [(h0, .inr (11, [.int th, .ref tB, .int tsz, .int tat, .int wr, .int dp, .ref rC, .ref rV, .ref rD, .ref rK, .ref rT, .ref rS, .ref rU, .int lw, .int tx, .ref rL, .ref rX, .ref qR, .ref qB, .ref qP, .int qnb, .int qnp, .ref aR, .ref aB, .ref aP, .int nb, .int np, .ref aN, .ref rf, .int ho, .int br, .ref aK, .int u60_0, .long dw, .ref aE, .int sr, .int sf, .ref aA, .ref aH, .ref aI, .int hi])), (rC, .inl (cI, 2600, .inl fC)), (rV, .inl (cI, 2600, .inl fV)), (rK, .inl (cI, 5, .inl fK)), (rT, .inl (cI, 700, .inl fT)), (rS, .inl (cI, 700, .inl fS)), (rU, .inl (cI, 700, .inl fU)), (rL, .inl (cI, 6, .inl fL)), (rX, .inl (cI, 80, .inl fX)), (aB, .inl (cI, 24, .inl fBr)), (aP, .inl (cI, 20, .inl fPa)), (aN, .inl (cI, 97, .inl fN)), (rf, .inl (cI, 5, .inl u51_0)), (aK, .inl (cI, 3880, .inl u60_1))]) hP hD hk1 hFc ht hB [0, 11, 13] [(true, 0), (false, 1), (false, 2), (false, 3), (false, 4), (false, 5), (false, 6), (false, 7), (false, 8), (false, 9), (false, 10), (true, 1), (false, 12), (true, 2)] rfl (by decide +kernel) (by decide +kernel) rfl
          clear hP hD hS hPc hDc hFc hB hk1 hz1 hvm
          have hP := hP9
          have hD := hD9
          have hS := hS9
          clear hP9 hD9 hS9
          obtain ⟨f60_0, f60_1, f60_2, f60_3⟩ : (1 ≤ u60_0.toInt) ∧ (u60_0.toInt ≤ 40) ∧ (zKe fKp u60_1 fN ac u60_0) ∧ (zKp np u60_0 u60_1) := hw
          have F60 := f60_2
          refine lv_aload_n hx hb dX11_paint_63 rfl (lv_at hl 0 rfl) ?_
          refine lv_iload_n hx hb dX11_paint_64 rfl (lv_at hl 1 rfl) ?_
          refine lv_iload_n hx hb dX11_paint_65 rfl (lv_at hl 2 rfl) ?_
          obtain ⟨hPc, hDc, hFc⟩ := zc3 (wc := [(h0, .inr (11, [.int th, .ref tB, .int tsz, .int tat, .int wr, .int dp, .ref rC, .ref rV, .ref rD, .ref rK, .ref rT, .ref rS, .ref rU, .int lw, .int tx, .ref rL, .ref rX, .ref qR, .ref qB, .ref qP, .int qnb, .int qnp, .ref aR, .ref aB, .ref aP, .int nb, .int np, .ref aN, .ref rf, .int ho, .int br, .ref aK, .int u60_0, .long dw, .ref aE, .int sr, .int sf, .ref aA, .ref aH, .ref aI, .int hi])), (rC, .inl (cI, 2600, .inl fC)), (rV, .inl (cI, 2600, .inl fV)), (rK, .inl (cI, 5, .inl fK)), (rT, .inl (cI, 700, .inl fT)), (rS, .inl (cI, 700, .inl fS)), (rU, .inl (cI, 700, .inl fU)), (rL, .inl (cI, 6, .inl fL)), (rX, .inl (cI, 80, .inl fX)), (aB, .inl (cI, 24, .inl fBr)), (aP, .inl (cI, 20, .inl fPa)), (aN, .inl (cI, 97, .inl fN))]) hP hD hS hA [0, 1, 2, 3, 4, 5, 6, 7, 8, 9, 10, 11] (by decide +kernel) rfl
          refine va_calli (va_runV (As := [.int p0, .int p1]) (rest := []) ⟨hx, hb, hml, hown, hts⟩ (g_X11_paintNow l dC dI cI cJ h0 p0 p1 th tB tsz tat wr dp rC rV rD rK rT rS rU lw tx rL rX qR qB qP qnb qnp aR aB aP nb np aN rf ho br aK u60_0 dw aE sr sf aA aH aI hi fC fV fK fT fS fU fL fX fBr fPa fN H.size (by omega) y_hi y_ho y_lw n_nb n_np (by omega) (by omega) y_qnb y_qnp y_tat y_tsz y_wr (hls) (by omega) (by omega) ci_fBr_zBr_nb ci_fN_zNw_np ci_fPa_zBr_np) (cwV 2 hts (zgV qw1489 qw1491 qw68 qw108 qw1492) rfl rfl rfl hd_X11_paintNow ⟨by rw [hR]; exact Nat.le_of_ble_eq_true rfl, by rw [hR]; exact Nat.le_of_ble_eq_true rfl⟩) (zPV hPc hK hDc (va_recv (q := (RX11, TX11, 41)) hK hP (ci := 11) (q0 := 0) rfl rfl)) rfl rfl hl.1 rfl (lv_room (Nat.le_of_ble_eq_true rfl)) dX11_paint_66 ⟨Nat.zero_le _, Nat.zero_le _⟩) hS (fun q _ h => hFc q h) hFc (fun v66 u66 t H locs ht hvm hw hB hz1 hk1 hS9 => ?_)
          obtain ⟨u66_0, u66_1, u66_2⟩ := u66
          obtain ⟨hP9, hD9⟩ := zj2 (wX := [(h0, .inr (11, [.int th, .ref tB, .int tsz, .int tat, .int wr, .int dp, .ref rC, .ref rV, .ref rD, .ref rK, .ref rT, .ref rS, .ref rU, .int lw, .int tx, .ref rL, .ref rX, .ref qR, .ref qB, .ref qP, .int qnb, .int qnp, .ref aR, .ref aB, .ref aP, .int nb, .int np, .ref aN, .ref rf, .int ho, .int br, .ref aK, .int u60_0, .long dw, .ref aE, .int sr, .int sf, .ref aA, .ref aH, .ref aI, .int hi])), (rC, .inl (cI, 2600, .inl fC)), (rV, .inl (cI, 2600, .inl fV)), (rK, .inl (cI, 5, .inl fK)), (rT, .inl (cI, 700, .inl fT)), (rS, .inl (cI, 700, .inl fS)), (rU, .inl (cI, 700, .inl fU)), (rL, .inl (cI, 6, .inl u66_0)), (rX, .inl (cI, 80, .inl u66_1)), (aB, .inl (cI, 24, .inl fBr)), (aP, .inl (cI, 20, .inl fPa)), (aN, .inl (cI, 97, .inl u66_2)), (rf, .inl (cI, 5, .inl u51_0)), (aK, .inl (cI, 3880, .inl u60_1))]) hP hD hk1 hFc ht hB [0, 1, 2, 3, 4, 5, 6, 7, 8, 9, 10, 11] [(true, 0), (true, 1), (true, 2), (true, 3), (true, 4), (true, 5), (true, 6), (true, 7), (true, 8), (true, 9), (true, 10), (true, 11), (false, 12), (false, 13)] rfl (by decide +kernel) (by decide +kernel) rfl
          clear hP hD hS hPc hDc hFc hB hk1 hz1 hvm
          have hP := hP9
          have hD := hD9
          have hS := hS9
          clear hP9 hD9 hS9
          obtain ⟨f66_0, f66_1, f66_2, f66_3⟩ : ((-1) ≤ v66.toInt) ∧ (v66.toInt ≤ 9) ∧ (∀ (kc : zK3) (kT : zT) (q_fR : Nat → Int32) (kl : Option ((Int → Int) × Int)), zCn q_fR fBr fPa nb.toInt np.toInt kc → zKo nb.toInt np.toInt kc kT → zSr nb.toInt np.toInt kT.1 fN → zLwR ho fC fV fK fT fS fU kl → (0 ≤ p0.toInt ∧ p0.toInt < np.toInt) → (0 ≤ p1.toInt ∧ p1.toInt < nb.toInt) → v66 = sV_pnt kc kT.1 kl p0 p1 ∧ zSr nb.toInt np.toInt (sN_pnt kc kT.1 kl p0 p1) u66_2) ∧ (zNw np u66_2) := hw
          have F66 := f66_2
          rw [hQ]
          exact W.iret (v := v66) hx hb hr (fun t ht hW => ⟨⟨v66, (u60_0, u66_0, u66_1, u66_2, u51_0, u60_1), rfl, ⟨by (try dsimp only); omega, by (try dsimp only); omega, by (try dsimp only); omega, by (try dsimp only); omega, by (try dsimp only); exact fun kc kT q_fR kl hc hb h hL => by rcases F51 with z | z; rotate_left; (exfalso; have z1 := z.2.1; omega); have y20 : v20 = kT.1.2.2.2.1.1 := (zIxN (n := 14) e20 (by decide)).trans (zSr_pu h.1).symm; have y24 : v24 = kc.2.2 (4 * p0.toInt.toNat + 1) := (F24.trans (congrArg fPa (show 4 * p0.toInt.toNat + (1 : Int32).toInt.toNat = 4 * p0.toInt.toNat + 1 by have : (1 : Int32).toInt = 1 := (by decide); omega))).trans (hc.2.2 _ (by omega)); have zy20 := congrArg Int32.toInt y20; have zy24 := congrArg Int32.toInt y24; have y40 : v40 = kT.1.2.2.2.1.2.2 := (zIxN (n := 16) e40 (by decide)).trans (zSr_pn h.1).symm; have zy40 := congrArg Int32.toInt y40; have zz := F66 kc kT _ kl hc hb h.1 hL (by omega) (by omega); exact zActAr (by unfold sW_pnt; exact (if_neg (by omega)).trans ((if_neg (by omega)).trans (if_neg (by omega)))) h (zKr_k hb.2 h F60 (by omega)) (zz.2) z.2.2 (zz.1), f60_3, f66_3⟩, ⟨by rw [ht]; exact hP, hD⟩⟩, hS.F ht⟩) hS.2.2 dX11_paint_69
        · have c54 : ¬ v51.toInt = 0 := z6 rfl (by decide) c54
          refine lv_iconst (v := (-1)) hx hb dX11_paint_57 (by decide) ?_
          have zr0 : ((-1) : Int32).toInt = (-1) := by decide
          rw [hQ]
          exact W.iret (v := ((-1))) hx hb hr (fun t ht hW => ⟨⟨(-1), (ac, fL, fX, fN, u51_0, fKp), rfl, ⟨by (try dsimp only); omega, by (try dsimp only); omega, by (try dsimp only); omega, by (try dsimp only); omega, by (try dsimp only); exact fun kc kT q_fR kl hc hb h hL => by exfalso; rcases F51 with z | z; (have z1 := z.1; omega); (have z1 := z.2.1; omega), ci_fKp_zKp_np__F_h0_32_, ci_fN_zNw_np⟩, ⟨by rw [ht]; exact hP, hD⟩⟩, hS.F ht⟩) hS.2.2 dX11_paint_58
      · have c43 : v40.toInt = 20 := z5 rfl (by decide) c43
        refine lv_iconst (v := 4) hx hb dX11_paint_46 (by decide) ?_
        refine lv_goto (tgt := 51) hx hb dX11_paint_47 (by decide) ?_
        obtain ⟨hPc, hDc, hFc⟩ := zc3 (wc := [(h0, .inr (11, [.int th, .ref tB, .int tsz, .int tat, .int wr, .int dp, .ref rC, .ref rV, .ref rD, .ref rK, .ref rT, .ref rS, .ref rU, .int lw, .int tx, .ref rL, .ref rX, .ref qR, .ref qB, .ref qP, .int qnb, .int qnp, .ref aR, .ref aB, .ref aP, .int nb, .int np, .ref aN, .ref rf, .int ho, .int br, .ref aK, .int ac, .long dw, .ref aE, .int sr, .int sf, .ref aA, .ref aH, .ref aI, .int hi])), (rf, .inl (cI, 5, .inl frf))]) hP hD hS hA [0, 12] (by decide +kernel) rfl
        refine va_calli (va_runV (As := [.int 4]) (rest := []) ⟨hx, hb, hml, hown, hts⟩ (g_X11_isRefused l dC dI cI cJ h0 4 th tB tsz tat wr dp rC rV rD rK rT rS rU lw tx rL rX qR qB qP qnb qnp aR aB aP nb np aN rf ho br aK ac dw aE sr sf aA aH aI hi frf H.size n_ac y_hi y_ho y_lw n_nb n_np (by decide) y_qnb y_qnp y_tat y_tsz y_wr) (cwV 1 hts (zgV qw1481 qw1483 qw66 qw108 qw1484) rfl rfl rfl hd_X11_isRefused ⟨by rw [hR]; exact Nat.le_of_ble_eq_true rfl, by rw [hR]; exact Nat.le_of_ble_eq_true rfl⟩) (zPV hPc hK hDc (va_recv (q := (RX11, TX11, 41)) hK hP (ci := 11) (q0 := 0) rfl rfl)) rfl rfl hl.1 rfl (lv_room (Nat.le_of_ble_eq_true rfl)) dX11_paint_51 ⟨Nat.zero_le _, Nat.zero_le _⟩) hS (fun q _ h => hFc q h) hFc (fun v51 u51 t H locs ht hvm hw hB hz1 hk1 hS9 => ?_)
        obtain ⟨u51_0, rfl⟩ : ∃ z, z = u51 := ⟨_, rfl⟩
        obtain ⟨hP9, hD9⟩ := zj2 (wX := [(h0, .inr (11, [.int th, .ref tB, .int tsz, .int tat, .int wr, .int dp, .ref rC, .ref rV, .ref rD, .ref rK, .ref rT, .ref rS, .ref rU, .int lw, .int tx, .ref rL, .ref rX, .ref qR, .ref qB, .ref qP, .int qnb, .int qnp, .ref aR, .ref aB, .ref aP, .int nb, .int np, .ref aN, .ref rf, .int ho, .int br, .ref aK, .int ac, .long dw, .ref aE, .int sr, .int sf, .ref aA, .ref aH, .ref aI, .int hi])), (rC, .inl (cI, 2600, .inl fC)), (rV, .inl (cI, 2600, .inl fV)), (rK, .inl (cI, 5, .inl fK)), (rT, .inl (cI, 700, .inl fT)), (rS, .inl (cI, 700, .inl fS)), (rU, .inl (cI, 700, .inl fU)), (rL, .inl (cI, 6, .inl fL)), (rX, .inl (cI, 80, .inl fX)), (aB, .inl (cI, 24, .inl fBr)), (aP, .inl (cI, 20, .inl fPa)), (aN, .inl (cI, 97, .inl fN)), (rf, .inl (cI, 5, .inl u51_0)), (aK, .inl (cI, 3880, .inl fKp))]) hP hD hk1 hFc ht hB [0, 12] [(true, 0), (false, 1), (false, 2), (false, 3), (false, 4), (false, 5), (false, 6), (false, 7), (false, 8), (false, 9), (false, 10), (false, 11), (true, 1), (false, 13)] rfl (by decide +kernel) (by decide +kernel) rfl
        clear hP hD hS hPc hDc hFc hB hk1 hz1 hvm
        have hP := hP9
        have hD := hD9
        have hS := hS9
        clear hP9 hD9 hS9
        have zn51_4 : (4 : Int32).toInt = 4 := by decide
        obtain ⟨f51_0, f51_1, f51_2, f51_3⟩ : (0 ≤ v51.toInt) ∧ (v51.toInt ≤ 1) ∧ (v51.toInt = 0 → (4 : Int32).toInt = -1) ∧ ((v51.toInt = 0 ∧ (4 : Int32).toInt = -1 ∧ u51_0 = frf) ∨ (v51.toInt = 1 ∧ ¬ (4 : Int32).toInt = -1 ∧ zRf frf u51_0 (4 : Int32).toInt)) := hw
        have F51 := f51_3
        refine lv_if_eq (tgt := 59) hx hb dX11_paint_54 (by decide) (fun c54 => by exfalso; have c54 : v51.toInt = 0 := z5 rfl (by decide) c54; omega) (fun c54 => ?_)
        have c54 : ¬ v51.toInt = 0 := z6 rfl (by decide) c54
        refine lv_iconst (v := (-1)) hx hb dX11_paint_57 (by decide) ?_
        have zr0 : ((-1) : Int32).toInt = (-1) := by decide
        rw [hQ]
        exact W.iret (v := ((-1))) hx hb hr (fun t ht hW => ⟨⟨(-1), (ac, fL, fX, fN, u51_0, fKp), rfl, ⟨by (try dsimp only); omega, by (try dsimp only); omega, by (try dsimp only); omega, by (try dsimp only); omega, by (try dsimp only); exact fun kc kT q_fR kl hc hb h hL => by rcases F51 with z | z; (exfalso; have z1 := z.2.1; omega); have y20 : v20 = kT.1.2.2.2.1.1 := (zIxN (n := 14) e20 (by decide)).trans (zSr_pu h.1).symm; have y24 : v24 = kc.2.2 (4 * p0.toInt.toNat + 1) := (F24.trans (congrArg fPa (show 4 * p0.toInt.toNat + (1 : Int32).toInt.toNat = 4 * p0.toInt.toNat + 1 by have : (1 : Int32).toInt = 1 := (by decide); omega))).trans (hc.2.2 _ (by omega)); have zy20 := congrArg Int32.toInt y20; have zy24 := congrArg Int32.toInt y24; have y40 : v40 = kT.1.2.2.2.1.2.2 := (zIxN (n := 16) e40 (by decide)).trans (zSr_pn h.1).symm; have zy40 := congrArg Int32.toInt y40; exact zActRr (x := (4 : Int32).toInt) (by unfold sW_pnt; exact ((if_neg (by omega)).trans ((if_neg (by omega)).trans (if_pos (by omega)))).trans (by omega)) (by omega) h z.2.2, ci_fKp_zKp_np__F_h0_32_, ci_fN_zNw_np⟩, ⟨by rw [ht]; exact hP, hD⟩⟩, hS.F ht⟩) hS.2.2 dX11_paint_58
    · have c27 : v20.toInt < v24.toInt := z4 rfl rfl c27
      refine lv_iconst (v := 2) hx hb dX11_paint_30 (by decide) ?_
      refine lv_goto (tgt := 51) hx hb dX11_paint_31 (by decide) ?_
      obtain ⟨hPc, hDc, hFc⟩ := zc3 (wc := [(h0, .inr (11, [.int th, .ref tB, .int tsz, .int tat, .int wr, .int dp, .ref rC, .ref rV, .ref rD, .ref rK, .ref rT, .ref rS, .ref rU, .int lw, .int tx, .ref rL, .ref rX, .ref qR, .ref qB, .ref qP, .int qnb, .int qnp, .ref aR, .ref aB, .ref aP, .int nb, .int np, .ref aN, .ref rf, .int ho, .int br, .ref aK, .int ac, .long dw, .ref aE, .int sr, .int sf, .ref aA, .ref aH, .ref aI, .int hi])), (rf, .inl (cI, 5, .inl frf))]) hP hD hS hA [0, 12] (by decide +kernel) rfl
      refine va_calli (va_runV (As := [.int 2]) (rest := []) ⟨hx, hb, hml, hown, hts⟩ (g_X11_isRefused l dC dI cI cJ h0 2 th tB tsz tat wr dp rC rV rD rK rT rS rU lw tx rL rX qR qB qP qnb qnp aR aB aP nb np aN rf ho br aK ac dw aE sr sf aA aH aI hi frf H.size n_ac y_hi y_ho y_lw n_nb n_np (by decide) y_qnb y_qnp y_tat y_tsz y_wr) (cwV 1 hts (zgV qw1481 qw1483 qw66 qw108 qw1484) rfl rfl rfl hd_X11_isRefused ⟨by rw [hR]; exact Nat.le_of_ble_eq_true rfl, by rw [hR]; exact Nat.le_of_ble_eq_true rfl⟩) (zPV hPc hK hDc (va_recv (q := (RX11, TX11, 41)) hK hP (ci := 11) (q0 := 0) rfl rfl)) rfl rfl hl.1 rfl (lv_room (Nat.le_of_ble_eq_true rfl)) dX11_paint_51 ⟨Nat.zero_le _, Nat.zero_le _⟩) hS (fun q _ h => hFc q h) hFc (fun v51 u51 t H locs ht hvm hw hB hz1 hk1 hS9 => ?_)
      obtain ⟨u51_0, rfl⟩ : ∃ z, z = u51 := ⟨_, rfl⟩
      obtain ⟨hP9, hD9⟩ := zj2 (wX := [(h0, .inr (11, [.int th, .ref tB, .int tsz, .int tat, .int wr, .int dp, .ref rC, .ref rV, .ref rD, .ref rK, .ref rT, .ref rS, .ref rU, .int lw, .int tx, .ref rL, .ref rX, .ref qR, .ref qB, .ref qP, .int qnb, .int qnp, .ref aR, .ref aB, .ref aP, .int nb, .int np, .ref aN, .ref rf, .int ho, .int br, .ref aK, .int ac, .long dw, .ref aE, .int sr, .int sf, .ref aA, .ref aH, .ref aI, .int hi])), (rC, .inl (cI, 2600, .inl fC)), (rV, .inl (cI, 2600, .inl fV)), (rK, .inl (cI, 5, .inl fK)), (rT, .inl (cI, 700, .inl fT)), (rS, .inl (cI, 700, .inl fS)), (rU, .inl (cI, 700, .inl fU)), (rL, .inl (cI, 6, .inl fL)), (rX, .inl (cI, 80, .inl fX)), (aB, .inl (cI, 24, .inl fBr)), (aP, .inl (cI, 20, .inl fPa)), (aN, .inl (cI, 97, .inl fN)), (rf, .inl (cI, 5, .inl u51_0)), (aK, .inl (cI, 3880, .inl fKp))]) hP hD hk1 hFc ht hB [0, 12] [(true, 0), (false, 1), (false, 2), (false, 3), (false, 4), (false, 5), (false, 6), (false, 7), (false, 8), (false, 9), (false, 10), (false, 11), (true, 1), (false, 13)] rfl (by decide +kernel) (by decide +kernel) rfl
      clear hP hD hS hPc hDc hFc hB hk1 hz1 hvm
      have hP := hP9
      have hD := hD9
      have hS := hS9
      clear hP9 hD9 hS9
      have zn51_2 : (2 : Int32).toInt = 2 := by decide
      obtain ⟨f51_0, f51_1, f51_2, f51_3⟩ : (0 ≤ v51.toInt) ∧ (v51.toInt ≤ 1) ∧ (v51.toInt = 0 → (2 : Int32).toInt = -1) ∧ ((v51.toInt = 0 ∧ (2 : Int32).toInt = -1 ∧ u51_0 = frf) ∨ (v51.toInt = 1 ∧ ¬ (2 : Int32).toInt = -1 ∧ zRf frf u51_0 (2 : Int32).toInt)) := hw
      have F51 := f51_3
      refine lv_if_eq (tgt := 59) hx hb dX11_paint_54 (by decide) (fun c54 => by exfalso; have c54 : v51.toInt = 0 := z5 rfl (by decide) c54; omega) (fun c54 => ?_)
      have c54 : ¬ v51.toInt = 0 := z6 rfl (by decide) c54
      refine lv_iconst (v := (-1)) hx hb dX11_paint_57 (by decide) ?_
      have zr0 : ((-1) : Int32).toInt = (-1) := by decide
      rw [hQ]
      exact W.iret (v := ((-1))) hx hb hr (fun t ht hW => ⟨⟨(-1), (ac, fL, fX, fN, u51_0, fKp), rfl, ⟨by (try dsimp only); omega, by (try dsimp only); omega, by (try dsimp only); omega, by (try dsimp only); omega, by (try dsimp only); exact fun kc kT q_fR kl hc hb h hL => by rcases F51 with z | z; (exfalso; have z1 := z.2.1; omega); have y20 : v20 = kT.1.2.2.2.1.1 := (zIxN (n := 14) e20 (by decide)).trans (zSr_pu h.1).symm; have y24 : v24 = kc.2.2 (4 * p0.toInt.toNat + 1) := (F24.trans (congrArg fPa (show 4 * p0.toInt.toNat + (1 : Int32).toInt.toNat = 4 * p0.toInt.toNat + 1 by have : (1 : Int32).toInt = 1 := (by decide); omega))).trans (hc.2.2 _ (by omega)); have zy20 := congrArg Int32.toInt y20; have zy24 := congrArg Int32.toInt y24; exact zActRr (x := (2 : Int32).toInt) (by unfold sW_pnt; exact ((if_neg (by omega)).trans (if_pos (by omega))).trans (by omega)) (by omega) h z.2.2, ci_fKp_zKp_np__F_h0_32_, ci_fN_zNw_np⟩, ⟨by rw [ht]; exact hP, hD⟩⟩, hS.F ht⟩) hS.2.2 dX11_paint_58
  · have c7 : v4.toInt = 0 := z5 rfl (by decide) c7
    refine lv_iconst (v := 0) hx hb dX11_paint_10 (by decide) ?_
    refine lv_goto (tgt := 51) hx hb dX11_paint_11 (by decide) ?_
    obtain ⟨hPc, hDc, hFc⟩ := zc3 (wc := [(h0, .inr (11, [.int th, .ref tB, .int tsz, .int tat, .int wr, .int dp, .ref rC, .ref rV, .ref rD, .ref rK, .ref rT, .ref rS, .ref rU, .int lw, .int tx, .ref rL, .ref rX, .ref qR, .ref qB, .ref qP, .int qnb, .int qnp, .ref aR, .ref aB, .ref aP, .int nb, .int np, .ref aN, .ref rf, .int ho, .int br, .ref aK, .int ac, .long dw, .ref aE, .int sr, .int sf, .ref aA, .ref aH, .ref aI, .int hi])), (rf, .inl (cI, 5, .inl frf))]) hP hD hS hA [0, 12] (by decide +kernel) rfl
    refine va_calli (va_runV (As := [.int 0]) (rest := []) ⟨hx, hb, hml, hown, hts⟩ (g_X11_isRefused l dC dI cI cJ h0 0 th tB tsz tat wr dp rC rV rD rK rT rS rU lw tx rL rX qR qB qP qnb qnp aR aB aP nb np aN rf ho br aK ac dw aE sr sf aA aH aI hi frf H.size n_ac y_hi y_ho y_lw n_nb n_np (by decide) y_qnb y_qnp y_tat y_tsz y_wr) (cwV 1 hts (zgV qw1481 qw1483 qw66 qw108 qw1484) rfl rfl rfl hd_X11_isRefused ⟨by rw [hR]; exact Nat.le_of_ble_eq_true rfl, by rw [hR]; exact Nat.le_of_ble_eq_true rfl⟩) (zPV hPc hK hDc (va_recv (q := (RX11, TX11, 41)) hK hP (ci := 11) (q0 := 0) rfl rfl)) rfl rfl hl.1 rfl (lv_room (Nat.le_of_ble_eq_true rfl)) dX11_paint_51 ⟨Nat.zero_le _, Nat.zero_le _⟩) hS (fun q _ h => hFc q h) hFc (fun v51 u51 t H locs ht hvm hw hB hz1 hk1 hS9 => ?_)
    obtain ⟨u51_0, rfl⟩ : ∃ z, z = u51 := ⟨_, rfl⟩
    obtain ⟨hP9, hD9⟩ := zj2 (wX := [(h0, .inr (11, [.int th, .ref tB, .int tsz, .int tat, .int wr, .int dp, .ref rC, .ref rV, .ref rD, .ref rK, .ref rT, .ref rS, .ref rU, .int lw, .int tx, .ref rL, .ref rX, .ref qR, .ref qB, .ref qP, .int qnb, .int qnp, .ref aR, .ref aB, .ref aP, .int nb, .int np, .ref aN, .ref rf, .int ho, .int br, .ref aK, .int ac, .long dw, .ref aE, .int sr, .int sf, .ref aA, .ref aH, .ref aI, .int hi])), (rC, .inl (cI, 2600, .inl fC)), (rV, .inl (cI, 2600, .inl fV)), (rK, .inl (cI, 5, .inl fK)), (rT, .inl (cI, 700, .inl fT)), (rS, .inl (cI, 700, .inl fS)), (rU, .inl (cI, 700, .inl fU)), (rL, .inl (cI, 6, .inl fL)), (rX, .inl (cI, 80, .inl fX)), (aB, .inl (cI, 24, .inl fBr)), (aP, .inl (cI, 20, .inl fPa)), (aN, .inl (cI, 97, .inl fN)), (rf, .inl (cI, 5, .inl u51_0)), (aK, .inl (cI, 3880, .inl fKp))]) hP hD hk1 hFc ht hB [0, 12] [(true, 0), (false, 1), (false, 2), (false, 3), (false, 4), (false, 5), (false, 6), (false, 7), (false, 8), (false, 9), (false, 10), (false, 11), (true, 1), (false, 13)] rfl (by decide +kernel) (by decide +kernel) rfl
    clear hP hD hS hPc hDc hFc hB hk1 hz1 hvm
    have hP := hP9
    have hD := hD9
    have hS := hS9
    clear hP9 hD9 hS9
    have zn51_0 : (0 : Int32).toInt = 0 := by decide
    obtain ⟨f51_0, f51_1, f51_2, f51_3⟩ : (0 ≤ v51.toInt) ∧ (v51.toInt ≤ 1) ∧ (v51.toInt = 0 → (0 : Int32).toInt = -1) ∧ ((v51.toInt = 0 ∧ (0 : Int32).toInt = -1 ∧ u51_0 = frf) ∨ (v51.toInt = 1 ∧ ¬ (0 : Int32).toInt = -1 ∧ zRf frf u51_0 (0 : Int32).toInt)) := hw
    have F51 := f51_3
    refine lv_if_eq (tgt := 59) hx hb dX11_paint_54 (by decide) (fun c54 => by exfalso; have c54 : v51.toInt = 0 := z5 rfl (by decide) c54; omega) (fun c54 => ?_)
    have c54 : ¬ v51.toInt = 0 := z6 rfl (by decide) c54
    refine lv_iconst (v := (-1)) hx hb dX11_paint_57 (by decide) ?_
    have zr0 : ((-1) : Int32).toInt = (-1) := by decide
    rw [hQ]
    exact W.iret (v := ((-1))) hx hb hr (fun t ht hW => ⟨⟨(-1), (ac, fL, fX, fN, u51_0, fKp), rfl, ⟨by (try dsimp only); omega, by (try dsimp only); omega, by (try dsimp only); omega, by (try dsimp only); omega, by (try dsimp only); exact fun kc kT q_fR kl hc hb h hL => by rcases F51 with z | z; (exfalso; have z1 := z.2.1; omega); exact zActRr (x := (0 : Int32).toInt) (by unfold sW_pnt; exact (if_pos (by omega)).trans (by omega)) (by omega) h z.2.2, ci_fKp_zKp_np__F_h0_32_, ci_fN_zNw_np⟩, ⟨by rw [ht]; exact hP, hD⟩⟩, hS.F ht⟩) hS.2.2 dX11_paint_58
set_option maxHeartbeats 4000000 in
set_option maxRecDepth 100000 in
theorem g_X11_pay (l : Launch) (dC : Nat → ClassId) (dI : Nat → Nat → Nat) (cI cJ : ClassId) (h0 : Nat) (p0 : Int32) (p1 : Int32) (th : Int32) (tB : Nat) (tsz : Int32) (tat : Int32) (wr : Int32) (dp : Int32) (rC : Nat) (rV : Nat) (rD : Nat) (rK : Nat) (rT : Nat) (rS : Nat) (rU : Nat) (lw : Int32) (tx : Int32) (rL : Nat) (rX : Nat) (qR : Nat) (qB : Nat) (qP : Nat) (qnb : Int32) (qnp : Int32) (aR : Nat) (aB : Nat) (aP : Nat) (nb : Int32) (np : Int32) (aN : Nat) (rf : Nat) (ho : Int32) (br : Int32) (aK : Nat) (ac : Int32) (dw : Int64) (aE : Nat) (sr : Int32) (sf : Int32) (aA : Nat) (aH : Nat) (aI : Nat) (hi : Int32) (fN : Nat → Int32) (frf : Nat → Int32) (fKp : Nat → Int32) (sz : Nat) (n_ac : 0 ≤ ac.toInt ∧ ac.toInt ≤ 40) (n_hi : 0 ≤ hi.toInt ∧ hi.toInt ≤ 1) (n_ho : (-1) ≤ ho.toInt ∧ ho.toInt ≤ 3) (n_lw : 0 ≤ lw.toInt ∧ lw.toInt ≤ 4) (n_nb : 0 ≤ nb.toInt ∧ nb.toInt ≤ 6) (n_np : 0 ≤ np.toInt ∧ np.toInt ≤ 5) (n_qnb : 0 ≤ qnb.toInt ∧ qnb.toInt ≤ 6) (n_qnp : 0 ≤ qnp.toInt ∧ qnp.toInt ≤ 5) (n_tat : 0 ≤ tat.toInt ∧ tat.toInt ≤ 260) (n_tsz : 0 ≤ tsz.toInt ∧ tsz.toInt ≤ 240) (n_wr : (-1) ≤ wr.toInt ∧ wr.toInt ≤ 260)  (ci_fKp_zKp_np__F_h0_32_ : zKp np ac fKp) (ci_fN_zNw_np : zNw np fN)  : Met l yX11_pay (.code yX11_pay cX11_pay 3 (some .int) :: wA) ({ frames := 2, cells := 0, slots := 0, locals := 43 }) (zP (dC, dI) [(cI, .int), (cJ, .long)] [.ref h0, .int p0, .int p1] sz [(h0, .inr (11, [.int th, .ref tB, .int tsz, .int tat, .int wr, .int dp, .ref rC, .ref rV, .ref rD, .ref rK, .ref rT, .ref rS, .ref rU, .int lw, .int tx, .ref rL, .ref rX, .ref qR, .ref qB, .ref qP, .int qnb, .int qnp, .ref aR, .ref aB, .ref aP, .int nb, .int np, .ref aN, .ref rf, .int ho, .int br, .ref aK, .int ac, .long dw, .ref aE, .int sr, .int sf, .ref aA, .ref aH, .ref aI, .int hi])), (aN, .inl (cI, 97, .inl fN)), (rf, .inl (cI, 5, .inl frf)), (aK, .inl (cI, 3880, .inl fKp))]) (va_Qi (fun (r : Int32) (u : Int32 × (Nat → Int32) × (Nat → Int32) × (Nat → Int32)) => (0 ≤ u.1.toInt) ∧ (u.1.toInt ≤ 40) ∧ (∀ (kc : zK3) (kT : zT) (q_fR : Nat → Int32) (q_fBr : Nat → Int32) (q_fPa : Nat → Int32), zCn q_fR q_fBr q_fPa nb.toInt np.toInt kc → zKo nb.toInt np.toInt kc kT → zTr nb.toInt np.toInt kT fN fKp ac frf → r = sA (sW_pay nb.toInt kT.1 p0 p1) (kT.1.1 p0.toInt.toNat + p1) ∧ zTr nb.toInt np.toInt (sDo (sW_pay nb.toInt kT.1 p0 p1) kT (sSetY kT.1 p0.toInt.toNat (kT.1.1 p0.toInt.toNat + p1))) u.2.1 u.2.2.2 u.1 u.2.2.1) ∧ (zKp np u.1 u.2.2.2) ∧ (zNw np u.2.1)) (fun (u : Int32 × (Nat → Int32) × (Nat → Int32) × (Nat → Int32)) (t : State) => va_P (dC, dI) vwCl [(h0, .inr (11, [.int th, .ref tB, .int tsz, .int tat, .int wr, .int dp, .ref rC, .ref rV, .ref rD, .ref rK, .ref rT, .ref rS, .ref rU, .int lw, .int tx, .ref rL, .ref rX, .ref qR, .ref qB, .ref qP, .int qnb, .int qnp, .ref aR, .ref aB, .ref aP, .int nb, .int np, .ref aN, .ref rf, .int ho, .int br, .ref aK, .int u.1, .long dw, .ref aE, .int sr, .int sf, .ref aA, .ref aH, .ref aI, .int hi])), (aN, .inl (cI, 97, .inl u.2.1)), (rf, .inl (cI, 5, .inl u.2.2.1)), (aK, .inl (cI, 3880, .inl u.2.2.2))] t.heap ∧ va_D (va_A [(h0, .inr (11, [.int th, .ref tB, .int tsz, .int tat, .int wr, .int dp, .ref rC, .ref rV, .ref rD, .ref rK, .ref rT, .ref rS, .ref rU, .int lw, .int tx, .ref rL, .ref rX, .ref qR, .ref qB, .ref qP, .int qnb, .int qnp, .ref aR, .ref aB, .ref aP, .int nb, .int np, .ref aN, .ref rf, .int ho, .int br, .ref aK, .int ac, .long dw, .ref aE, .int sr, .int sf, .ref aA, .ref aH, .ref aI, .int hi])), (aN, .inl (cI, 97, .inl fN)), (rf, .inl (cI, 5, .inl frf)), (aK, .inl (cI, 3880, .inl fKp))] sz) [(h0, .inr (11, [.int th, .ref tB, .int tsz, .int tat, .int wr, .int dp, .ref rC, .ref rV, .ref rD, .ref rK, .ref rT, .ref rS, .ref rU, .int lw, .int tx, .ref rL, .ref rX, .ref qR, .ref qB, .ref qP, .int qnb, .int qnp, .ref aR, .ref aB, .ref aP, .int nb, .int np, .ref aN, .ref rf, .int ho, .int br, .ref aK, .int u.1, .long dw, .ref aE, .int sr, .int sf, .ref aA, .ref aH, .ref aI, .int hi])), (aN, .inl (cI, 97, .inl u.2.1)), (rf, .inl (cI, 5, .inl u.2.2.1)), (aK, .inl (cI, 3880, .inl u.2.2.2))]) (va_A [(h0, .inr (11, [.int th, .ref tB, .int tsz, .int tat, .int wr, .int dp, .ref rC, .ref rV, .ref rD, .ref rK, .ref rT, .ref rS, .ref rU, .int lw, .int tx, .ref rL, .ref rX, .ref qR, .ref qB, .ref qP, .int qnb, .int qnp, .ref aR, .ref aB, .ref aP, .int nb, .int np, .ref aN, .ref rf, .int ho, .int br, .ref aK, .int ac, .long dw, .ref aE, .int sr, .int sf, .ref aA, .ref aH, .ref aI, .int hi])), (aN, .inl (cI, 97, .inl fN)), (rf, .inl (cI, 5, .inl frf)), (aK, .inl (cI, 3880, .inl fKp))] sz)) 0 0 (va_A [(h0, .inr (11, [.int th, .ref tB, .int tsz, .int tat, .int wr, .int dp, .ref rC, .ref rV, .ref rD, .ref rK, .ref rT, .ref rS, .ref rU, .int lw, .int tx, .ref rL, .ref rX, .ref qR, .ref qB, .ref qP, .int qnb, .int qnp, .ref aR, .ref aB, .ref aP, .int nb, .int np, .ref aN, .ref rf, .int ho, .int br, .ref aK, .int ac, .long dw, .ref aE, .int sr, .int sf, .ref aA, .ref aH, .ref aI, .int hi])), (aN, .inl (cI, 97, .inl fN)), (rf, .inl (cI, 5, .inl frf)), (aK, .inl (cI, 3880, .inl fKp))] sz) := by
  refine Met.ofW (cc := cX11_pay) (maxL := 3) (ret := (some .int)) (by decide) rfl ?_
  intro p e s m args below meth c s₁ B hml hv
  have y_hi : zHid (0 ≤ hi.toInt ∧ hi.toInt ≤ 1) := n_hi
  have y_ho : zHid ((-1) ≤ ho.toInt ∧ ho.toInt ≤ 3) := n_ho
  have y_lw : zHid (0 ≤ lw.toInt ∧ lw.toInt ≤ 4) := n_lw
  have y_qnb : zHid (0 ≤ qnb.toInt ∧ qnb.toInt ≤ 6) := n_qnb
  have y_qnp : zHid (0 ≤ qnp.toInt ∧ qnp.toInt ≤ 5) := n_qnp
  have y_tat : zHid (0 ≤ tat.toInt ∧ tat.toInt ≤ 260) := n_tat
  have y_tsz : zHid (0 ≤ tsz.toInt ∧ tsz.toInt ≤ 240) := n_tsz
  have y_wr : zHid ((-1) ≤ wr.toInt ∧ wr.toInt ≤ 260) := n_wr
  clear n_hi n_ho n_lw n_qnb n_qnp n_tat n_tsz n_wr
  obtain ⟨hargs, hsz, hP, hK, hT⟩ := hv
  have hx := B.exec
  have hb := B.bytes
  have hr := B.returns
  have hts : ∀ w ∈ wA, w.before args s = true := fun w h => atoms_spec (ws := .code yX11_pay cX11_pay 3 (some .int) :: wA) B.pre w (List.mem_cons_of_mem _ h)
  have hown : s.vm.findClass RX11 = some m.cls := findClass_of_methodNamed B.named
  have hlocks := B.notSynchronized
  subst hsz
  have hD := hT.self (sz := s.heap.size)
  generalize hAe : va_A [(h0, .inr (11, [.int th, .ref tB, .int tsz, .int tat, .int wr, .int dp, .ref rC, .ref rV, .ref rD, .ref rK, .ref rT, .ref rS, .ref rU, .int lw, .int tx, .ref rL, .ref rX, .ref qR, .ref qB, .ref qP, .int qnb, .int qnp, .ref aR, .ref aB, .ref aP, .int nb, .int np, .ref aN, .ref rf, .int ho, .int br, .ref aK, .int ac, .long dw, .ref aE, .int sr, .int sf, .ref aA, .ref aH, .ref aI, .int hi])), (aN, .inl (cI, 97, .inl fN)), (rf, .inl (cI, 5, .inl frf)), (aK, .inl (cI, 3880, .inl fKp))] s.heap.size = A at hD ⊢
  have hA : ∀ q : Nat, s.heap.size ≤ q → A q := fun q h => by rw [← hAe]; exact Or.inr h
  have hl := lv_entry ([.ref h0, .int p0, .int p1]) (n := 3) (Nat.le_of_ble_eq_true rfl)
  rw [show entryFrame m args 3 = entryFrame m ([.ref h0, .int p0, .int p1] : List Value).toArray 3 by rw [hargs], lg_entry_eq]
  generalize (lg_sl ([.ref h0, .int p0, .int p1]) ++ List.replicate (3 - (lg_sl ([.ref h0, .int p0, .int p1])).length) Slot.unset).toArray = ls at hl ⊢
  have hl : lv_has ls 3 [(0, .ref h0), (1, .int p0), (2, .int p1)] := hl
  refine zstart (fun H hH => ?_)
  rw [← hH] at hP
  have hS : va_S A s.heap H [] := by rw [hH]; exact va_S.rf
  generalize ([] : List Loc) = locs at hS ⊢
  refine zgen (fun R Q hR hQ => ?_)
  refine lv_aload_n hx hb dX11_pay_0 rfl (lv_at hl 0 rfl) ?_
  refine lv_aload_n hx hb dX11_pay_1 rfl (lv_at hl 0 rfl) ?_
  refine lv_iload_n hx hb dX11_pay_2 rfl (lv_at hl 1 rfl) ?_
  obtain ⟨hPc, hDc⟩ := zc2 (wc := [(h0, .inr (11, [.int th, .ref tB, .int tsz, .int tat, .int wr, .int dp, .ref rC, .ref rV, .ref rD, .ref rK, .ref rT, .ref rS, .ref rU, .int lw, .int tx, .ref rL, .ref rX, .ref qR, .ref qB, .ref qP, .int qnb, .int qnp, .ref aR, .ref aB, .ref aP, .int nb, .int np, .ref aN, .ref rf, .int ho, .int br, .ref aK, .int ac, .long dw, .ref aE, .int sr, .int sf, .ref aA, .ref aH, .ref aI, .int hi]))]) hP hD [0] (by decide +kernel) rfl
  have hFc := zfr hS hA
  refine va_calli (va_runV (As := [.int p0]) (rest := [.ref h0]) ⟨hx, hb, hml, hown, hts⟩ (g_X11_isBride l dC dI cI cJ h0 p0 th tB tsz tat wr dp rC rV rD rK rT rS rU lw tx rL rX qR qB qP qnb qnp aR aB aP nb np aN rf ho br aK ac dw aE sr sf aA aH aI hi H.size n_ac y_hi y_ho y_lw n_nb n_np y_qnb y_qnp y_tat y_tsz y_wr) (cwV 1 hts (zgV qw1402 qw1404 qw56 qw108 qw1405) rfl rfl rfl hd_X11_isBride ⟨by rw [hR]; exact Nat.le_of_ble_eq_true rfl, by rw [hR]; exact Nat.le_of_ble_eq_true rfl⟩) (zPV hPc hK hDc (va_recv (q := (RX11, TX11, 41)) hK hP (ci := 11) (q0 := 0) rfl rfl)) rfl rfl hl.1 rfl (lv_room (Nat.le_of_ble_eq_true rfl)) dX11_pay_3 ⟨Nat.zero_le _, Nat.zero_le _⟩) hS (fun q _ h => hFc q h) hFc (fun v3 u3 t H locs ht hvm hw hB hz1 hk1 hS9 => ?_)
  replace hP := zkeep hP hk1
  replace hS := hS9
  clear hPc hDc hFc hk1 hz1 hvm hS9
  obtain ⟨f3_0, f3_1, f3_2, f3_3⟩ : (0 ≤ v3.toInt) ∧ (v3.toInt ≤ 1) ∧ (¬ v3.toInt = 0 → (0 ≤ p0.toInt ∧ p0.toInt < nb.toInt)) ∧ (v3.toInt = 0 → ¬ (0 ≤ p0.toInt ∧ p0.toInt < nb.toInt)) := hw
  refine lv_if_ne (tgt := 13) hx hb dX11_pay_6 (by decide) (fun c6 => ?_) (fun c6 => ?_)
  · have c6 : ¬ v3.toInt = 0 := z6 rfl (by decide) c6
    refine lv_iload_n hx hb dX11_pay_13 rfl (lv_at hl 2 rfl) ?_
    refine lv_bipush (v := (-9)) hx hb dX11_pay_14 (by decide) ?_
    refine lv_bipush (v := 9) hx hb dX11_pay_16 (by decide) ?_
    have hPc : va_P (dC, dI) vwCl [] H := zP0
    have hDc : va_D (fun _ => True) [] := zD0
    have hFc := zfr hS hA
    refine va_calli (va_runS (As := [.int p1, .int (-9), .int 9]) (rest := [.ref h0]) ⟨hx, hb, hml, hown, hts⟩ (g_X11_in l dC dI cI cJ p1 ((-9)) 9 H.size) (cwS 3 hts (zgS qw1305 qw1306 qw108 qw1307) rfl rfl rfl hd_X11_in ⟨by rw [hR]; exact Nat.le_of_ble_eq_true rfl, by rw [hR]; exact Nat.le_of_ble_eq_true rfl⟩) (zPS hPc hK hDc) rfl rfl hl.1 rfl (lv_room (Nat.le_of_ble_eq_true rfl)) dX11_pay_18 ⟨Nat.zero_le _, Nat.zero_le _⟩) hS (fun q _ h => hFc q h) hFc (fun v18 u18 t H locs ht hvm hw hB hz1 hk1 hS9 => ?_)
    replace hP := zkeep hP hk1
    replace hS := hS9
    clear hPc hDc hFc hk1 hz1 hvm hS9
    have zn18_m9 : (-9 : Int32).toInt = -9 := by decide
    have zn18_9 : (9 : Int32).toInt = 9 := by decide
    obtain ⟨f18_0, f18_1, f18_2, f18_3⟩ : (0 ≤ v18.toInt) ∧ (v18.toInt ≤ 1) ∧ (¬ v18.toInt = 0 → ((-9 : Int32).toInt ≤ p1.toInt ∧ p1.toInt ≤ (9 : Int32).toInt)) ∧ (v18.toInt = 0 → (p1.toInt < (-9 : Int32).toInt ∨ (9 : Int32).toInt < p1.toInt)) := hw
    refine lv_if_eq (tgt := 47) hx hb dX11_pay_21 (by decide) (fun c21 => ?_) (fun c21 => ?_)
    · have c21 : v18.toInt = 0 := z5 rfl (by decide) c21
      refine lv_iconst (v := 1) hx hb dX11_pay_47 (by decide) ?_
      refine lv_goto (tgt := 52) hx hb dX11_pay_48 (by decide) ?_
      obtain ⟨hPc, hDc, hFc⟩ := zc3 (wc := [(h0, .inr (11, [.int th, .ref tB, .int tsz, .int tat, .int wr, .int dp, .ref rC, .ref rV, .ref rD, .ref rK, .ref rT, .ref rS, .ref rU, .int lw, .int tx, .ref rL, .ref rX, .ref qR, .ref qB, .ref qP, .int qnb, .int qnp, .ref aR, .ref aB, .ref aP, .int nb, .int np, .ref aN, .ref rf, .int ho, .int br, .ref aK, .int ac, .long dw, .ref aE, .int sr, .int sf, .ref aA, .ref aH, .ref aI, .int hi])), (rf, .inl (cI, 5, .inl frf))]) hP hD hS hA [0, 2] (by decide +kernel) rfl
      refine va_calli (va_runV (As := [.int 1]) (rest := []) ⟨hx, hb, hml, hown, hts⟩ (g_X11_isRefused l dC dI cI cJ h0 1 th tB tsz tat wr dp rC rV rD rK rT rS rU lw tx rL rX qR qB qP qnb qnp aR aB aP nb np aN rf ho br aK ac dw aE sr sf aA aH aI hi frf H.size n_ac y_hi y_ho y_lw n_nb n_np (by decide) y_qnb y_qnp y_tat y_tsz y_wr) (cwV 1 hts (zgV qw1481 qw1483 qw66 qw108 qw1484) rfl rfl rfl hd_X11_isRefused ⟨by rw [hR]; exact Nat.le_of_ble_eq_true rfl, by rw [hR]; exact Nat.le_of_ble_eq_true rfl⟩) (zPV hPc hK hDc (va_recv (q := (RX11, TX11, 41)) hK hP (ci := 11) (q0 := 0) rfl rfl)) rfl rfl hl.1 rfl (lv_room (Nat.le_of_ble_eq_true rfl)) dX11_pay_52 ⟨Nat.zero_le _, Nat.zero_le _⟩) hS (fun q _ h => hFc q h) hFc (fun v52 u52 t H locs ht hvm hw hB hz1 hk1 hS9 => ?_)
      obtain ⟨u52_0, rfl⟩ : ∃ z, z = u52 := ⟨_, rfl⟩
      obtain ⟨hP9, hD9⟩ := zj2 (wX := [(h0, .inr (11, [.int th, .ref tB, .int tsz, .int tat, .int wr, .int dp, .ref rC, .ref rV, .ref rD, .ref rK, .ref rT, .ref rS, .ref rU, .int lw, .int tx, .ref rL, .ref rX, .ref qR, .ref qB, .ref qP, .int qnb, .int qnp, .ref aR, .ref aB, .ref aP, .int nb, .int np, .ref aN, .ref rf, .int ho, .int br, .ref aK, .int ac, .long dw, .ref aE, .int sr, .int sf, .ref aA, .ref aH, .ref aI, .int hi])), (aN, .inl (cI, 97, .inl fN)), (rf, .inl (cI, 5, .inl u52_0)), (aK, .inl (cI, 3880, .inl fKp))]) hP hD hk1 hFc ht hB [0, 2] [(true, 0), (false, 1), (true, 1), (false, 3)] rfl (by decide +kernel) (by decide +kernel) rfl
      clear hP hD hS hPc hDc hFc hB hk1 hz1 hvm
      have hP := hP9
      have hD := hD9
      have hS := hS9
      clear hP9 hD9 hS9
      have zn52_1 : (1 : Int32).toInt = 1 := by decide
      obtain ⟨f52_0, f52_1, f52_2, f52_3⟩ : (0 ≤ v52.toInt) ∧ (v52.toInt ≤ 1) ∧ (v52.toInt = 0 → (1 : Int32).toInt = -1) ∧ ((v52.toInt = 0 ∧ (1 : Int32).toInt = -1 ∧ u52_0 = frf) ∨ (v52.toInt = 1 ∧ ¬ (1 : Int32).toInt = -1 ∧ zRf frf u52_0 (1 : Int32).toInt)) := hw
      have F52 := f52_3
      refine lv_if_eq (tgt := 60) hx hb dX11_pay_55 (by decide) (fun c55 => by exfalso; have c55 : v52.toInt = 0 := z5 rfl (by decide) c55; omega) (fun c55 => ?_)
      have c55 : ¬ v52.toInt = 0 := z6 rfl (by decide) c55
      refine lv_iconst (v := (-1)) hx hb dX11_pay_58 (by decide) ?_
      have zr0 : ((-1) : Int32).toInt = (-1) := by decide
      rw [hQ]
      exact W.iret (v := ((-1))) hx hb hr (fun t ht hW => ⟨⟨(-1), (ac, fN, u52_0, fKp), rfl, ⟨by (try dsimp only); omega, by (try dsimp only); omega, by (try dsimp only); exact fun kc kT q_fR q_fBr q_fPa hc hb h => by rcases F52 with z | z; (exfalso; have z1 := z.2.1; omega); exact zActRr (x := (1 : Int32).toInt) (by unfold sW_pay; exact ((if_neg (by omega)).trans (if_pos (by omega))).trans (by omega)) (by omega) h z.2.2, ci_fKp_zKp_np__F_h0_32_, ci_fN_zNw_np⟩, ⟨by rw [ht]; exact hP, hD⟩⟩, hS.F ht⟩) hS.2.2 dX11_pay_59
    · have c21 : ¬ v18.toInt = 0 := z6 rfl (by decide) c21
      refine lv_iload_n hx hb dX11_pay_24 rfl (lv_at hl 2 rfl) ?_
      refine lv_if_eq (tgt := 47) hx hb dX11_pay_25 (by decide) (fun c25 => ?_) (fun c25 => ?_)
      · have c25 : p1.toInt = 0 := z5 rfl (by decide) c25
        refine lv_iconst (v := 1) hx hb dX11_pay_47 (by decide) ?_
        refine lv_goto (tgt := 52) hx hb dX11_pay_48 (by decide) ?_
        obtain ⟨hPc, hDc, hFc⟩ := zc3 (wc := [(h0, .inr (11, [.int th, .ref tB, .int tsz, .int tat, .int wr, .int dp, .ref rC, .ref rV, .ref rD, .ref rK, .ref rT, .ref rS, .ref rU, .int lw, .int tx, .ref rL, .ref rX, .ref qR, .ref qB, .ref qP, .int qnb, .int qnp, .ref aR, .ref aB, .ref aP, .int nb, .int np, .ref aN, .ref rf, .int ho, .int br, .ref aK, .int ac, .long dw, .ref aE, .int sr, .int sf, .ref aA, .ref aH, .ref aI, .int hi])), (rf, .inl (cI, 5, .inl frf))]) hP hD hS hA [0, 2] (by decide +kernel) rfl
        refine va_calli (va_runV (As := [.int 1]) (rest := []) ⟨hx, hb, hml, hown, hts⟩ (g_X11_isRefused l dC dI cI cJ h0 1 th tB tsz tat wr dp rC rV rD rK rT rS rU lw tx rL rX qR qB qP qnb qnp aR aB aP nb np aN rf ho br aK ac dw aE sr sf aA aH aI hi frf H.size n_ac y_hi y_ho y_lw n_nb n_np (by decide) y_qnb y_qnp y_tat y_tsz y_wr) (cwV 1 hts (zgV qw1481 qw1483 qw66 qw108 qw1484) rfl rfl rfl hd_X11_isRefused ⟨by rw [hR]; exact Nat.le_of_ble_eq_true rfl, by rw [hR]; exact Nat.le_of_ble_eq_true rfl⟩) (zPV hPc hK hDc (va_recv (q := (RX11, TX11, 41)) hK hP (ci := 11) (q0 := 0) rfl rfl)) rfl rfl hl.1 rfl (lv_room (Nat.le_of_ble_eq_true rfl)) dX11_pay_52 ⟨Nat.zero_le _, Nat.zero_le _⟩) hS (fun q _ h => hFc q h) hFc (fun v52 u52 t H locs ht hvm hw hB hz1 hk1 hS9 => ?_)
        obtain ⟨u52_0, rfl⟩ : ∃ z, z = u52 := ⟨_, rfl⟩
        obtain ⟨hP9, hD9⟩ := zj2 (wX := [(h0, .inr (11, [.int th, .ref tB, .int tsz, .int tat, .int wr, .int dp, .ref rC, .ref rV, .ref rD, .ref rK, .ref rT, .ref rS, .ref rU, .int lw, .int tx, .ref rL, .ref rX, .ref qR, .ref qB, .ref qP, .int qnb, .int qnp, .ref aR, .ref aB, .ref aP, .int nb, .int np, .ref aN, .ref rf, .int ho, .int br, .ref aK, .int ac, .long dw, .ref aE, .int sr, .int sf, .ref aA, .ref aH, .ref aI, .int hi])), (aN, .inl (cI, 97, .inl fN)), (rf, .inl (cI, 5, .inl u52_0)), (aK, .inl (cI, 3880, .inl fKp))]) hP hD hk1 hFc ht hB [0, 2] [(true, 0), (false, 1), (true, 1), (false, 3)] rfl (by decide +kernel) (by decide +kernel) rfl
        clear hP hD hS hPc hDc hFc hB hk1 hz1 hvm
        have hP := hP9
        have hD := hD9
        have hS := hS9
        clear hP9 hD9 hS9
        have zn52_1 : (1 : Int32).toInt = 1 := by decide
        obtain ⟨f52_0, f52_1, f52_2, f52_3⟩ : (0 ≤ v52.toInt) ∧ (v52.toInt ≤ 1) ∧ (v52.toInt = 0 → (1 : Int32).toInt = -1) ∧ ((v52.toInt = 0 ∧ (1 : Int32).toInt = -1 ∧ u52_0 = frf) ∨ (v52.toInt = 1 ∧ ¬ (1 : Int32).toInt = -1 ∧ zRf frf u52_0 (1 : Int32).toInt)) := hw
        have F52 := f52_3
        refine lv_if_eq (tgt := 60) hx hb dX11_pay_55 (by decide) (fun c55 => by exfalso; have c55 : v52.toInt = 0 := z5 rfl (by decide) c55; omega) (fun c55 => ?_)
        have c55 : ¬ v52.toInt = 0 := z6 rfl (by decide) c55
        refine lv_iconst (v := (-1)) hx hb dX11_pay_58 (by decide) ?_
        have zr0 : ((-1) : Int32).toInt = (-1) := by decide
        rw [hQ]
        exact W.iret (v := ((-1))) hx hb hr (fun t ht hW => ⟨⟨(-1), (ac, fN, u52_0, fKp), rfl, ⟨by (try dsimp only); omega, by (try dsimp only); omega, by (try dsimp only); exact fun kc kT q_fR q_fBr q_fPa hc hb h => by rcases F52 with z | z; (exfalso; have z1 := z.2.1; omega); exact zActRr (x := (1 : Int32).toInt) (by unfold sW_pay; exact ((if_neg (by omega)).trans (if_pos (by omega))).trans (by omega)) (by omega) h z.2.2, ci_fKp_zKp_np__F_h0_32_, ci_fN_zNw_np⟩, ⟨by rw [ht]; exact hP, hD⟩⟩, hS.F ht⟩) hS.2.2 dX11_pay_59
      · have c25 : ¬ p1.toInt = 0 := z6 rfl (by decide) c25
        refine lv_aload_n hx hb dX11_pay_28 rfl (lv_at hl 0 rfl) ?_
        refine va_get (D := (dC, dI)) (ci := 11) (v := .ref aN) (C := RX11) (T := TX11) (N := 41) hx hb hts iX11 hown hK hP 0 rfl rfl 27 (by decide) (hts _ qw1154) (fun _ h9 => h9) rfl dX11_pay_29 ?_
        refine lv_iconst (v := 0) hx hb dX11_pay_32 (by decide) ?_
        refine lv_iload_n hx hb dX11_pay_33 rfl (lv_at hl 1 rfl) ?_
        refine lv_iadd hx hb dX11_pay_34 ?_
        refine lv_topi (fun v34 e34 => ?_)
        have i34 : v34.toInt = 0 + p0.toInt := zadd e34 (by decide) rfl (by omega) (by omega)
        refine va_iald hx hb hK hP 1 0 rfl rfl (vp_in_iff.mpr ⟨by omega, by omega⟩) dX11_pay_35 ?_
        refine lv_topi (fun v35 e35 => ?_)
        refine lv_iload_n hx hb dX11_pay_36 rfl (lv_at hl 2 rfl) ?_
        refine lv_iadd hx hb dX11_pay_37 ?_
        refine lv_topi (fun v37 e37 => ?_)
        refine lv_iconst (v := 0) hx hb dX11_pay_38 (by decide) ?_
        refine lv_bipush (v := 9) hx hb dX11_pay_39 (by decide) ?_
        have hPc : va_P (dC, dI) vwCl [] H := zP0
        have hDc : va_D (fun _ => True) [] := zD0
        have hFc := zfr hS hA
        refine va_calli (va_runS (As := [.int v37, .int 0, .int 9]) (rest := [.ref h0]) ⟨hx, hb, hml, hown, hts⟩ (g_X11_in l dC dI cI cJ v37 0 9 H.size) (cwS 3 hts (zgS qw1305 qw1306 qw108 qw1307) rfl rfl rfl hd_X11_in ⟨by rw [hR]; exact Nat.le_of_ble_eq_true rfl, by rw [hR]; exact Nat.le_of_ble_eq_true rfl⟩) (zPS hPc hK hDc) rfl rfl hl.1 rfl (lv_room (Nat.le_of_ble_eq_true rfl)) dX11_pay_41 ⟨Nat.zero_le _, Nat.zero_le _⟩) hS (fun q _ h => hFc q h) hFc (fun v41 u41 t H locs ht hvm hw hB hz1 hk1 hS9 => ?_)
        replace hP := zkeep hP hk1
        replace hS := hS9
        clear hPc hDc hFc hk1 hz1 hvm hS9
        have zn41_0 : (0 : Int32).toInt = 0 := by decide
        have zn41_9 : (9 : Int32).toInt = 9 := by decide
        obtain ⟨f41_0, f41_1, f41_2, f41_3⟩ : (0 ≤ v41.toInt) ∧ (v41.toInt ≤ 1) ∧ (¬ v41.toInt = 0 → ((0 : Int32).toInt ≤ v37.toInt ∧ v37.toInt ≤ (9 : Int32).toInt)) ∧ (v41.toInt = 0 → (v37.toInt < (0 : Int32).toInt ∨ (9 : Int32).toInt < v37.toInt)) := hw
        refine lv_if_ne (tgt := 51) hx hb dX11_pay_44 (by decide) (fun c44 => ?_) (fun c44 => ?_)
        · have c44 : ¬ v41.toInt = 0 := z6 rfl (by decide) c44
          refine lv_iconst (v := (-1)) hx hb dX11_pay_51 (by decide) ?_
          obtain ⟨hPc, hDc, hFc⟩ := zc3 (wc := [(h0, .inr (11, [.int th, .ref tB, .int tsz, .int tat, .int wr, .int dp, .ref rC, .ref rV, .ref rD, .ref rK, .ref rT, .ref rS, .ref rU, .int lw, .int tx, .ref rL, .ref rX, .ref qR, .ref qB, .ref qP, .int qnb, .int qnp, .ref aR, .ref aB, .ref aP, .int nb, .int np, .ref aN, .ref rf, .int ho, .int br, .ref aK, .int ac, .long dw, .ref aE, .int sr, .int sf, .ref aA, .ref aH, .ref aI, .int hi])), (rf, .inl (cI, 5, .inl frf))]) hP hD hS hA [0, 2] (by decide +kernel) rfl
          refine va_calli (va_runV (As := [.int (-1)]) (rest := []) ⟨hx, hb, hml, hown, hts⟩ (g_X11_isRefused l dC dI cI cJ h0 ((-1)) th tB tsz tat wr dp rC rV rD rK rT rS rU lw tx rL rX qR qB qP qnb qnp aR aB aP nb np aN rf ho br aK ac dw aE sr sf aA aH aI hi frf H.size n_ac y_hi y_ho y_lw n_nb n_np (by decide) y_qnb y_qnp y_tat y_tsz y_wr) (cwV 1 hts (zgV qw1481 qw1483 qw66 qw108 qw1484) rfl rfl rfl hd_X11_isRefused ⟨by rw [hR]; exact Nat.le_of_ble_eq_true rfl, by rw [hR]; exact Nat.le_of_ble_eq_true rfl⟩) (zPV hPc hK hDc (va_recv (q := (RX11, TX11, 41)) hK hP (ci := 11) (q0 := 0) rfl rfl)) rfl rfl hl.1 rfl (lv_room (Nat.le_of_ble_eq_true rfl)) dX11_pay_52 ⟨Nat.zero_le _, Nat.zero_le _⟩) hS (fun q _ h => hFc q h) hFc (fun v52 u52 t H locs ht hvm hw hB hz1 hk1 hS9 => ?_)
          obtain ⟨u52_0, rfl⟩ : ∃ z, z = u52 := ⟨_, rfl⟩
          obtain ⟨hP9, hD9⟩ := zj2 (wX := [(h0, .inr (11, [.int th, .ref tB, .int tsz, .int tat, .int wr, .int dp, .ref rC, .ref rV, .ref rD, .ref rK, .ref rT, .ref rS, .ref rU, .int lw, .int tx, .ref rL, .ref rX, .ref qR, .ref qB, .ref qP, .int qnb, .int qnp, .ref aR, .ref aB, .ref aP, .int nb, .int np, .ref aN, .ref rf, .int ho, .int br, .ref aK, .int ac, .long dw, .ref aE, .int sr, .int sf, .ref aA, .ref aH, .ref aI, .int hi])), (aN, .inl (cI, 97, .inl fN)), (rf, .inl (cI, 5, .inl u52_0)), (aK, .inl (cI, 3880, .inl fKp))]) hP hD hk1 hFc ht hB [0, 2] [(true, 0), (false, 1), (true, 1), (false, 3)] rfl (by decide +kernel) (by decide +kernel) rfl
          clear hP hD hS hPc hDc hFc hB hk1 hz1 hvm
          have hP := hP9
          have hD := hD9
          have hS := hS9
          clear hP9 hD9 hS9
          have zn52_m1 : (-1 : Int32).toInt = -1 := by decide
          obtain ⟨f52_0, f52_1, f52_2, f52_3⟩ : (0 ≤ v52.toInt) ∧ (v52.toInt ≤ 1) ∧ (v52.toInt = 0 → (-1 : Int32).toInt = -1) ∧ ((v52.toInt = 0 ∧ (-1 : Int32).toInt = -1 ∧ u52_0 = frf) ∨ (v52.toInt = 1 ∧ ¬ (-1 : Int32).toInt = -1 ∧ zRf frf u52_0 (-1 : Int32).toInt)) := hw
          have F52 := f52_3
          refine lv_if_eq (tgt := 60) hx hb dX11_pay_55 (by decide) (fun c55 => ?_) (fun c55 => ?_)
          · have c55 : v52.toInt = 0 := z5 rfl (by decide) c55
            refine lv_aload_n hx hb dX11_pay_60 rfl (lv_at hl 0 rfl) ?_
            obtain ⟨hPc, hDc, hFc⟩ := zc3 (wc := [(h0, .inr (11, [.int th, .ref tB, .int tsz, .int tat, .int wr, .int dp, .ref rC, .ref rV, .ref rD, .ref rK, .ref rT, .ref rS, .ref rU, .int lw, .int tx, .ref rL, .ref rX, .ref qR, .ref qB, .ref qP, .int qnb, .int qnp, .ref aR, .ref aB, .ref aP, .int nb, .int np, .ref aN, .ref rf, .int ho, .int br, .ref aK, .int ac, .long dw, .ref aE, .int sr, .int sf, .ref aA, .ref aH, .ref aI, .int hi])), (aN, .inl (cI, 97, .inl fN)), (aK, .inl (cI, 3880, .inl fKp))]) hP hD hS hA [0, 1, 3] (by decide +kernel) rfl
            refine va_callv (va_runV (As := []) (rest := []) ⟨hx, hb, hml, hown, hts⟩ (g_X11_keep l dC dI cI cJ h0 th tB tsz tat wr dp rC rV rD rK rT rS rU lw tx rL rX qR qB qP qnb qnp aR aB aP nb np aN rf ho br aK ac dw aE sr sf aA aH aI hi fN fKp H.size n_ac y_hi y_ho y_lw n_nb n_np y_qnb y_qnp y_tat y_tsz y_wr ci_fKp_zKp_np__F_h0_32_ ci_fN_zNw_np) (cwV 0 hts (zgV qw1485 qw1487 qw67 qw108 qw1488) rfl rfl rfl hd_X11_keep ⟨by rw [hR]; exact Nat.le_of_ble_eq_true rfl, by rw [hR]; exact Nat.le_of_ble_eq_true rfl⟩) (zPV hPc hK hDc (va_recv (q := (RX11, TX11, 41)) hK hP (ci := 11) (q0 := 0) rfl rfl)) rfl rfl hl.1 rfl (lv_room (Nat.le_of_ble_eq_true rfl)) dX11_pay_61 ⟨Nat.zero_le _, Nat.zero_le _⟩) hS (fun q _ h => hFc q h) hFc (fun u61 t H locs ht hvm hw hB hz1 hk1 hS9 => ?_)
            obtain ⟨u61_0, u61_1⟩ := u61
            obtain ⟨hP9, hD9⟩ := zj2 (wX := [(h0, .inr (11, [.int th, .ref tB, .int tsz, .int tat, .int wr, .int dp, .ref rC, .ref rV, .ref rD, .ref rK, .ref rT, .ref rS, .ref rU, .int lw, .int tx, .ref rL, .ref rX, .ref qR, .ref qB, .ref qP, .int qnb, .int qnp, .ref aR, .ref aB, .ref aP, .int nb, .int np, .ref aN, .ref rf, .int ho, .int br, .ref aK, .int u61_0, .long dw, .ref aE, .int sr, .int sf, .ref aA, .ref aH, .ref aI, .int hi])), (aN, .inl (cI, 97, .inl fN)), (rf, .inl (cI, 5, .inl u52_0)), (aK, .inl (cI, 3880, .inl u61_1))]) hP hD hk1 hFc ht hB [0, 1, 3] [(true, 0), (true, 1), (false, 2), (true, 2)] rfl (by decide +kernel) (by decide +kernel) rfl
            clear hP hD hS hPc hDc hFc hB hk1 hz1 hvm
            have hP := hP9
            have hD := hD9
            have hS := hS9
            clear hP9 hD9 hS9
            obtain ⟨f61_0, f61_1, f61_2, f61_3⟩ : (1 ≤ u61_0.toInt) ∧ (u61_0.toInt ≤ 40) ∧ (zKe fKp u61_1 fN ac u61_0) ∧ (zKp np u61_0 u61_1) := hw
            have F61 := f61_2
            refine lv_aload_n hx hb dX11_pay_64 rfl (lv_at hl 0 rfl) ?_
            refine va_get (D := (dC, dI)) (ci := 11) (v := .ref aN) (C := RX11) (T := TX11) (N := 41) hx hb hts iX11 hown hK hP 0 rfl rfl 27 (by decide) (hts _ qw1154) (fun _ h9 => h9) rfl dX11_pay_65 ?_
            refine lv_iconst (v := 0) hx hb dX11_pay_68 (by decide) ?_
            refine lv_iload_n hx hb dX11_pay_69 rfl (lv_at hl 1 rfl) ?_
            refine lv_iadd hx hb dX11_pay_70 ?_
            refine lv_topi (fun v70 e70 => ?_)
            have i70 : v70.toInt = 0 + p0.toInt := zadd e70 (by decide) rfl (by omega) (by omega)
            refine lv_dup2_11 hx hb dX11_pay_71 rfl rfl ?_
            refine va_iald hx hb hK hP 1 0 rfl rfl (vp_in_iff.mpr ⟨by omega, by omega⟩) dX11_pay_72 ?_
            refine lv_topi (fun v72 e72 => ?_)
            refine lv_iload_n hx hb dX11_pay_73 rfl (lv_at hl 2 rfl) ?_
            refine lv_iadd hx hb dX11_pay_74 ?_
            refine lv_topi (fun v74 e74 => ?_)
            refine va_iast hx hb hK hP hD hS 1 0 rfl rfl (vp_in_iff.mpr ⟨by omega, by omega⟩) dX11_pay_75 (fun H locs hP9 hD9 hS9 => ?_)
            clear hP hD hS
            obtain ⟨v75_f, e75⟩ : ∃ g : Nat → Int32, g = upd fN (v70).toNatClampNeg v74 := ⟨_, rfl⟩
            rw [← e75] at hP9 hD9
            obtain ⟨hP, hD⟩ := zst (wX := [(h0, .inr (11, [.int th, .ref tB, .int tsz, .int tat, .int wr, .int dp, .ref rC, .ref rV, .ref rD, .ref rK, .ref rT, .ref rS, .ref rU, .int lw, .int tx, .ref rL, .ref rX, .ref qR, .ref qB, .ref qP, .int qnb, .int qnp, .ref aR, .ref aB, .ref aP, .int nb, .int np, .ref aN, .ref rf, .int ho, .int br, .ref aK, .int u61_0, .long dw, .ref aE, .int sr, .int sf, .ref aA, .ref aH, .ref aI, .int hi])), (aN, .inl (cI, 97, .inl v75_f)), (rf, .inl (cI, 5, .inl u52_0)), (aK, .inl (cI, 3880, .inl u61_1))]) hP9 hD9 rfl
            have hS := hS9
            clear hP9 hD9 hS9
            have cq75_zNw_np : zNw np v75_f := (zNw_low ci_fN_zNw_np e75 (by omega) (by omega)).1
            refine lv_aload_n hx hb dX11_pay_76 rfl (lv_at hl 0 rfl) ?_
            refine va_get (D := (dC, dI)) (ci := 11) (v := .ref aN) (C := RX11) (T := TX11) (N := 41) hx hb hts iX11 hown hK hP 0 rfl rfl 27 (by decide) (hts _ qw1154) (fun _ h9 => h9) rfl dX11_pay_77 ?_
            refine lv_iconst (v := 0) hx hb dX11_pay_80 (by decide) ?_
            refine lv_iload_n hx hb dX11_pay_81 rfl (lv_at hl 1 rfl) ?_
            refine lv_iadd hx hb dX11_pay_82 ?_
            refine lv_topi (fun v82 e82 => ?_)
            have i82 : v82.toInt = 0 + p0.toInt := zadd e82 (by decide) rfl (by omega) (by omega)
            refine va_iald hx hb hK hP 1 0 rfl rfl (vp_in_iff.mpr ⟨by omega, by omega⟩) dX11_pay_83 ?_
            refine lv_topi (fun v83 e83 => ?_)
            rw [hQ]
            exact W.iret (v := v83) hx hb hr (fun t ht hW => ⟨⟨v83, (u61_0, v75_f, u52_0, u61_1), rfl, ⟨by (try dsimp only); omega, by (try dsimp only); omega, by (try dsimp only); exact fun kc kT q_fR q_fBr q_fPa hc hb h => by rcases F52 with z | z; rotate_left; (exfalso; have z1 := z.2.1; omega); have y35 : v35 = kT.1.1 p0.toInt.toNat := (zIxN (n := p0.toInt.toNat) e35 (by omega)).trans (h.1.1 _ (by omega)); have yb := hb.2.2.2.1.1 p0.toInt.toNat (by omega); have z37 : v37.toInt = (kT.1.1 p0.toInt.toNat).toInt + p1.toInt := zadd e37 (congrArg Int32.toInt y35) rfl (by omega) (by omega); have y72 : v72 = kT.1.1 p0.toInt.toNat := (zIxN (n := p0.toInt.toNat) e72 (by omega)).trans (h.1.1 _ (by omega)); have y74 : v74 = kT.1.1 p0.toInt.toNat + p1 := (by rw [e74, y72]); exact zActAr (by unfold sW_pay; exact (if_neg (by omega)).trans (if_neg (by omega))) h (zKr_k hb.2 h F61 (by omega)) (by rw [← y74]; exact zSr_Y h.1 e75 (by omega) (by omega)) z.2.2 (by rw [zIxN (n := p0.toInt.toNat) e83 (by omega), e75, show v70.toNatClampNeg = p0.toInt.toNat from (by show v70.toInt.toNat = _; omega), pk_us, y74]), f61_3, cq75_zNw_np⟩, ⟨by rw [ht]; exact hP, hD⟩⟩, hS.F ht⟩) hS.2.2 dX11_pay_84
          · have c55 : ¬ v52.toInt = 0 := z6 rfl (by decide) c55
            refine lv_iconst (v := (-1)) hx hb dX11_pay_58 (by decide) ?_
            have zr0 : ((-1) : Int32).toInt = (-1) := by decide
            rw [hQ]
            exact W.iret (v := ((-1))) hx hb hr (fun t ht hW => ⟨⟨(-1), (ac, fN, u52_0, fKp), rfl, ⟨by (try dsimp only); omega, by (try dsimp only); omega, by (try dsimp only); exact fun kc kT q_fR q_fBr q_fPa hc hb h => by exfalso; rcases F52 with z | z; (have z1 := z.1; omega); (have z1 := z.2.1; omega), ci_fKp_zKp_np__F_h0_32_, ci_fN_zNw_np⟩, ⟨by rw [ht]; exact hP, hD⟩⟩, hS.F ht⟩) hS.2.2 dX11_pay_59
        · have c44 : v41.toInt = 0 := z5 rfl (by decide) c44
          refine lv_iconst (v := 1) hx hb dX11_pay_47 (by decide) ?_
          refine lv_goto (tgt := 52) hx hb dX11_pay_48 (by decide) ?_
          obtain ⟨hPc, hDc, hFc⟩ := zc3 (wc := [(h0, .inr (11, [.int th, .ref tB, .int tsz, .int tat, .int wr, .int dp, .ref rC, .ref rV, .ref rD, .ref rK, .ref rT, .ref rS, .ref rU, .int lw, .int tx, .ref rL, .ref rX, .ref qR, .ref qB, .ref qP, .int qnb, .int qnp, .ref aR, .ref aB, .ref aP, .int nb, .int np, .ref aN, .ref rf, .int ho, .int br, .ref aK, .int ac, .long dw, .ref aE, .int sr, .int sf, .ref aA, .ref aH, .ref aI, .int hi])), (rf, .inl (cI, 5, .inl frf))]) hP hD hS hA [0, 2] (by decide +kernel) rfl
          refine va_calli (va_runV (As := [.int 1]) (rest := []) ⟨hx, hb, hml, hown, hts⟩ (g_X11_isRefused l dC dI cI cJ h0 1 th tB tsz tat wr dp rC rV rD rK rT rS rU lw tx rL rX qR qB qP qnb qnp aR aB aP nb np aN rf ho br aK ac dw aE sr sf aA aH aI hi frf H.size n_ac y_hi y_ho y_lw n_nb n_np (by decide) y_qnb y_qnp y_tat y_tsz y_wr) (cwV 1 hts (zgV qw1481 qw1483 qw66 qw108 qw1484) rfl rfl rfl hd_X11_isRefused ⟨by rw [hR]; exact Nat.le_of_ble_eq_true rfl, by rw [hR]; exact Nat.le_of_ble_eq_true rfl⟩) (zPV hPc hK hDc (va_recv (q := (RX11, TX11, 41)) hK hP (ci := 11) (q0 := 0) rfl rfl)) rfl rfl hl.1 rfl (lv_room (Nat.le_of_ble_eq_true rfl)) dX11_pay_52 ⟨Nat.zero_le _, Nat.zero_le _⟩) hS (fun q _ h => hFc q h) hFc (fun v52 u52 t H locs ht hvm hw hB hz1 hk1 hS9 => ?_)
          obtain ⟨u52_0, rfl⟩ : ∃ z, z = u52 := ⟨_, rfl⟩
          obtain ⟨hP9, hD9⟩ := zj2 (wX := [(h0, .inr (11, [.int th, .ref tB, .int tsz, .int tat, .int wr, .int dp, .ref rC, .ref rV, .ref rD, .ref rK, .ref rT, .ref rS, .ref rU, .int lw, .int tx, .ref rL, .ref rX, .ref qR, .ref qB, .ref qP, .int qnb, .int qnp, .ref aR, .ref aB, .ref aP, .int nb, .int np, .ref aN, .ref rf, .int ho, .int br, .ref aK, .int ac, .long dw, .ref aE, .int sr, .int sf, .ref aA, .ref aH, .ref aI, .int hi])), (aN, .inl (cI, 97, .inl fN)), (rf, .inl (cI, 5, .inl u52_0)), (aK, .inl (cI, 3880, .inl fKp))]) hP hD hk1 hFc ht hB [0, 2] [(true, 0), (false, 1), (true, 1), (false, 3)] rfl (by decide +kernel) (by decide +kernel) rfl
          clear hP hD hS hPc hDc hFc hB hk1 hz1 hvm
          have hP := hP9
          have hD := hD9
          have hS := hS9
          clear hP9 hD9 hS9
          have zn52_1 : (1 : Int32).toInt = 1 := by decide
          obtain ⟨f52_0, f52_1, f52_2, f52_3⟩ : (0 ≤ v52.toInt) ∧ (v52.toInt ≤ 1) ∧ (v52.toInt = 0 → (1 : Int32).toInt = -1) ∧ ((v52.toInt = 0 ∧ (1 : Int32).toInt = -1 ∧ u52_0 = frf) ∨ (v52.toInt = 1 ∧ ¬ (1 : Int32).toInt = -1 ∧ zRf frf u52_0 (1 : Int32).toInt)) := hw
          have F52 := f52_3
          refine lv_if_eq (tgt := 60) hx hb dX11_pay_55 (by decide) (fun c55 => by exfalso; have c55 : v52.toInt = 0 := z5 rfl (by decide) c55; omega) (fun c55 => ?_)
          have c55 : ¬ v52.toInt = 0 := z6 rfl (by decide) c55
          refine lv_iconst (v := (-1)) hx hb dX11_pay_58 (by decide) ?_
          have zr0 : ((-1) : Int32).toInt = (-1) := by decide
          rw [hQ]
          exact W.iret (v := ((-1))) hx hb hr (fun t ht hW => ⟨⟨(-1), (ac, fN, u52_0, fKp), rfl, ⟨by (try dsimp only); omega, by (try dsimp only); omega, by (try dsimp only); exact fun kc kT q_fR q_fBr q_fPa hc hb h => by rcases F52 with z | z; (exfalso; have z1 := z.2.1; omega); have y35 : v35 = kT.1.1 p0.toInt.toNat := (zIxN (n := p0.toInt.toNat) e35 (by omega)).trans (h.1.1 _ (by omega)); have yb := hb.2.2.2.1.1 p0.toInt.toNat (by omega); have z37 : v37.toInt = (kT.1.1 p0.toInt.toNat).toInt + p1.toInt := zadd e37 (congrArg Int32.toInt y35) rfl (by omega) (by omega); exact zActRr (x := (1 : Int32).toInt) (by unfold sW_pay; exact ((if_neg (by omega)).trans (if_pos (by omega))).trans (by omega)) (by omega) h z.2.2, ci_fKp_zKp_np__F_h0_32_, ci_fN_zNw_np⟩, ⟨by rw [ht]; exact hP, hD⟩⟩, hS.F ht⟩) hS.2.2 dX11_pay_59
  · have c6 : v3.toInt = 0 := z5 rfl (by decide) c6
    refine lv_iconst (v := 0) hx hb dX11_pay_9 (by decide) ?_
    refine lv_goto (tgt := 52) hx hb dX11_pay_10 (by decide) ?_
    obtain ⟨hPc, hDc, hFc⟩ := zc3 (wc := [(h0, .inr (11, [.int th, .ref tB, .int tsz, .int tat, .int wr, .int dp, .ref rC, .ref rV, .ref rD, .ref rK, .ref rT, .ref rS, .ref rU, .int lw, .int tx, .ref rL, .ref rX, .ref qR, .ref qB, .ref qP, .int qnb, .int qnp, .ref aR, .ref aB, .ref aP, .int nb, .int np, .ref aN, .ref rf, .int ho, .int br, .ref aK, .int ac, .long dw, .ref aE, .int sr, .int sf, .ref aA, .ref aH, .ref aI, .int hi])), (rf, .inl (cI, 5, .inl frf))]) hP hD hS hA [0, 2] (by decide +kernel) rfl
    refine va_calli (va_runV (As := [.int 0]) (rest := []) ⟨hx, hb, hml, hown, hts⟩ (g_X11_isRefused l dC dI cI cJ h0 0 th tB tsz tat wr dp rC rV rD rK rT rS rU lw tx rL rX qR qB qP qnb qnp aR aB aP nb np aN rf ho br aK ac dw aE sr sf aA aH aI hi frf H.size n_ac y_hi y_ho y_lw n_nb n_np (by decide) y_qnb y_qnp y_tat y_tsz y_wr) (cwV 1 hts (zgV qw1481 qw1483 qw66 qw108 qw1484) rfl rfl rfl hd_X11_isRefused ⟨by rw [hR]; exact Nat.le_of_ble_eq_true rfl, by rw [hR]; exact Nat.le_of_ble_eq_true rfl⟩) (zPV hPc hK hDc (va_recv (q := (RX11, TX11, 41)) hK hP (ci := 11) (q0 := 0) rfl rfl)) rfl rfl hl.1 rfl (lv_room (Nat.le_of_ble_eq_true rfl)) dX11_pay_52 ⟨Nat.zero_le _, Nat.zero_le _⟩) hS (fun q _ h => hFc q h) hFc (fun v52 u52 t H locs ht hvm hw hB hz1 hk1 hS9 => ?_)
    obtain ⟨u52_0, rfl⟩ : ∃ z, z = u52 := ⟨_, rfl⟩
    obtain ⟨hP9, hD9⟩ := zj2 (wX := [(h0, .inr (11, [.int th, .ref tB, .int tsz, .int tat, .int wr, .int dp, .ref rC, .ref rV, .ref rD, .ref rK, .ref rT, .ref rS, .ref rU, .int lw, .int tx, .ref rL, .ref rX, .ref qR, .ref qB, .ref qP, .int qnb, .int qnp, .ref aR, .ref aB, .ref aP, .int nb, .int np, .ref aN, .ref rf, .int ho, .int br, .ref aK, .int ac, .long dw, .ref aE, .int sr, .int sf, .ref aA, .ref aH, .ref aI, .int hi])), (aN, .inl (cI, 97, .inl fN)), (rf, .inl (cI, 5, .inl u52_0)), (aK, .inl (cI, 3880, .inl fKp))]) hP hD hk1 hFc ht hB [0, 2] [(true, 0), (false, 1), (true, 1), (false, 3)] rfl (by decide +kernel) (by decide +kernel) rfl
    clear hP hD hS hPc hDc hFc hB hk1 hz1 hvm
    have hP := hP9
    have hD := hD9
    have hS := hS9
    clear hP9 hD9 hS9
    have zn52_0 : (0 : Int32).toInt = 0 := by decide
    obtain ⟨f52_0, f52_1, f52_2, f52_3⟩ : (0 ≤ v52.toInt) ∧ (v52.toInt ≤ 1) ∧ (v52.toInt = 0 → (0 : Int32).toInt = -1) ∧ ((v52.toInt = 0 ∧ (0 : Int32).toInt = -1 ∧ u52_0 = frf) ∨ (v52.toInt = 1 ∧ ¬ (0 : Int32).toInt = -1 ∧ zRf frf u52_0 (0 : Int32).toInt)) := hw
    have F52 := f52_3
    refine lv_if_eq (tgt := 60) hx hb dX11_pay_55 (by decide) (fun c55 => by exfalso; have c55 : v52.toInt = 0 := z5 rfl (by decide) c55; omega) (fun c55 => ?_)
    have c55 : ¬ v52.toInt = 0 := z6 rfl (by decide) c55
    refine lv_iconst (v := (-1)) hx hb dX11_pay_58 (by decide) ?_
    have zr0 : ((-1) : Int32).toInt = (-1) := by decide
    rw [hQ]
    exact W.iret (v := ((-1))) hx hb hr (fun t ht hW => ⟨⟨(-1), (ac, fN, u52_0, fKp), rfl, ⟨by (try dsimp only); omega, by (try dsimp only); omega, by (try dsimp only); exact fun kc kT q_fR q_fBr q_fPa hc hb h => by rcases F52 with z | z; (exfalso; have z1 := z.2.1; omega); exact zActRr (x := (0 : Int32).toInt) (by unfold sW_pay; exact (if_pos (by omega)).trans (by omega)) (by omega) h z.2.2, ci_fKp_zKp_np__F_h0_32_, ci_fN_zNw_np⟩, ⟨by rw [ht]; exact hP, hD⟩⟩, hS.F ht⟩) hS.2.2 dX11_pay_59
set_option maxHeartbeats 4000000 in
set_option maxRecDepth 100000 in
theorem g_X11_threaten (l : Launch) (dC : Nat → ClassId) (dI : Nat → Nat → Nat) (cI cJ : ClassId) (h0 : Nat) (p0 : Int32) (th : Int32) (tB : Nat) (tsz : Int32) (tat : Int32) (wr : Int32) (dp : Int32) (rC : Nat) (rV : Nat) (rD : Nat) (rK : Nat) (rT : Nat) (rS : Nat) (rU : Nat) (lw : Int32) (tx : Int32) (rL : Nat) (rX : Nat) (qR : Nat) (qB : Nat) (qP : Nat) (qnb : Int32) (qnp : Int32) (aR : Nat) (aB : Nat) (aP : Nat) (nb : Int32) (np : Int32) (aN : Nat) (rf : Nat) (ho : Int32) (br : Int32) (aK : Nat) (ac : Int32) (dw : Int64) (aE : Nat) (sr : Int32) (sf : Int32) (aA : Nat) (aH : Nat) (aI : Nat) (hi : Int32) (fN : Nat → Int32) (frf : Nat → Int32) (fKp : Nat → Int32) (sz : Nat) (n_ac : 0 ≤ ac.toInt ∧ ac.toInt ≤ 40) (n_hi : 0 ≤ hi.toInt ∧ hi.toInt ≤ 1) (n_ho : (-1) ≤ ho.toInt ∧ ho.toInt ≤ 3) (n_lw : 0 ≤ lw.toInt ∧ lw.toInt ≤ 4) (n_nb : 0 ≤ nb.toInt ∧ nb.toInt ≤ 6) (n_np : 0 ≤ np.toInt ∧ np.toInt ≤ 5) (n_qnb : 0 ≤ qnb.toInt ∧ qnb.toInt ≤ 6) (n_qnp : 0 ≤ qnp.toInt ∧ qnp.toInt ≤ 5) (n_tat : 0 ≤ tat.toInt ∧ tat.toInt ≤ 260) (n_tsz : 0 ≤ tsz.toInt ∧ tsz.toInt ≤ 240) (n_wr : (-1) ≤ wr.toInt ∧ wr.toInt ≤ 260)  (ci_fKp_zKp_np__F_h0_32_ : zKp np ac fKp) (ci_fN_zNw_np : zNw np fN)  : Met l yX11_threaten (.code yX11_threaten cX11_threaten 2 (some .int) :: wA) ({ frames := 2, cells := 0, slots := 0, locals := 43 }) (zP (dC, dI) [(cI, .int), (cJ, .long)] [.ref h0, .int p0] sz [(h0, .inr (11, [.int th, .ref tB, .int tsz, .int tat, .int wr, .int dp, .ref rC, .ref rV, .ref rD, .ref rK, .ref rT, .ref rS, .ref rU, .int lw, .int tx, .ref rL, .ref rX, .ref qR, .ref qB, .ref qP, .int qnb, .int qnp, .ref aR, .ref aB, .ref aP, .int nb, .int np, .ref aN, .ref rf, .int ho, .int br, .ref aK, .int ac, .long dw, .ref aE, .int sr, .int sf, .ref aA, .ref aH, .ref aI, .int hi])), (aN, .inl (cI, 97, .inl fN)), (rf, .inl (cI, 5, .inl frf)), (aK, .inl (cI, 3880, .inl fKp))]) (va_Qi (fun (r : Int32) (u : Int32 × (Nat → Int32) × (Nat → Int32) × (Nat → Int32)) => (0 ≤ u.1.toInt) ∧ (u.1.toInt ≤ 40) ∧ (∀ (kc : zK3) (kT : zT) (q_fR : Nat → Int32) (q_fBr : Nat → Int32) (q_fPa : Nat → Int32), zCn q_fR q_fBr q_fPa nb.toInt np.toInt kc → zKo nb.toInt np.toInt kc kT → zTr nb.toInt np.toInt kT fN fKp ac frf → r = sA (sW_thr np.toInt kT.1 p0) (kT.1.2.1 p0.toInt.toNat + 1) ∧ zTr nb.toInt np.toInt (sDo (sW_thr np.toInt kT.1 p0) kT (sSetF kT.1 p0.toInt.toNat (kT.1.2.1 p0.toInt.toNat + 1))) u.2.1 u.2.2.2 u.1 u.2.2.1) ∧ (zKp np u.1 u.2.2.2) ∧ (zNw np u.2.1)) (fun (u : Int32 × (Nat → Int32) × (Nat → Int32) × (Nat → Int32)) (t : State) => va_P (dC, dI) vwCl [(h0, .inr (11, [.int th, .ref tB, .int tsz, .int tat, .int wr, .int dp, .ref rC, .ref rV, .ref rD, .ref rK, .ref rT, .ref rS, .ref rU, .int lw, .int tx, .ref rL, .ref rX, .ref qR, .ref qB, .ref qP, .int qnb, .int qnp, .ref aR, .ref aB, .ref aP, .int nb, .int np, .ref aN, .ref rf, .int ho, .int br, .ref aK, .int u.1, .long dw, .ref aE, .int sr, .int sf, .ref aA, .ref aH, .ref aI, .int hi])), (aN, .inl (cI, 97, .inl u.2.1)), (rf, .inl (cI, 5, .inl u.2.2.1)), (aK, .inl (cI, 3880, .inl u.2.2.2))] t.heap ∧ va_D (va_A [(h0, .inr (11, [.int th, .ref tB, .int tsz, .int tat, .int wr, .int dp, .ref rC, .ref rV, .ref rD, .ref rK, .ref rT, .ref rS, .ref rU, .int lw, .int tx, .ref rL, .ref rX, .ref qR, .ref qB, .ref qP, .int qnb, .int qnp, .ref aR, .ref aB, .ref aP, .int nb, .int np, .ref aN, .ref rf, .int ho, .int br, .ref aK, .int ac, .long dw, .ref aE, .int sr, .int sf, .ref aA, .ref aH, .ref aI, .int hi])), (aN, .inl (cI, 97, .inl fN)), (rf, .inl (cI, 5, .inl frf)), (aK, .inl (cI, 3880, .inl fKp))] sz) [(h0, .inr (11, [.int th, .ref tB, .int tsz, .int tat, .int wr, .int dp, .ref rC, .ref rV, .ref rD, .ref rK, .ref rT, .ref rS, .ref rU, .int lw, .int tx, .ref rL, .ref rX, .ref qR, .ref qB, .ref qP, .int qnb, .int qnp, .ref aR, .ref aB, .ref aP, .int nb, .int np, .ref aN, .ref rf, .int ho, .int br, .ref aK, .int u.1, .long dw, .ref aE, .int sr, .int sf, .ref aA, .ref aH, .ref aI, .int hi])), (aN, .inl (cI, 97, .inl u.2.1)), (rf, .inl (cI, 5, .inl u.2.2.1)), (aK, .inl (cI, 3880, .inl u.2.2.2))]) (va_A [(h0, .inr (11, [.int th, .ref tB, .int tsz, .int tat, .int wr, .int dp, .ref rC, .ref rV, .ref rD, .ref rK, .ref rT, .ref rS, .ref rU, .int lw, .int tx, .ref rL, .ref rX, .ref qR, .ref qB, .ref qP, .int qnb, .int qnp, .ref aR, .ref aB, .ref aP, .int nb, .int np, .ref aN, .ref rf, .int ho, .int br, .ref aK, .int ac, .long dw, .ref aE, .int sr, .int sf, .ref aA, .ref aH, .ref aI, .int hi])), (aN, .inl (cI, 97, .inl fN)), (rf, .inl (cI, 5, .inl frf)), (aK, .inl (cI, 3880, .inl fKp))] sz)) 0 0 (va_A [(h0, .inr (11, [.int th, .ref tB, .int tsz, .int tat, .int wr, .int dp, .ref rC, .ref rV, .ref rD, .ref rK, .ref rT, .ref rS, .ref rU, .int lw, .int tx, .ref rL, .ref rX, .ref qR, .ref qB, .ref qP, .int qnb, .int qnp, .ref aR, .ref aB, .ref aP, .int nb, .int np, .ref aN, .ref rf, .int ho, .int br, .ref aK, .int ac, .long dw, .ref aE, .int sr, .int sf, .ref aA, .ref aH, .ref aI, .int hi])), (aN, .inl (cI, 97, .inl fN)), (rf, .inl (cI, 5, .inl frf)), (aK, .inl (cI, 3880, .inl fKp))] sz) := by
  refine Met.ofW (cc := cX11_threaten) (maxL := 2) (ret := (some .int)) (by decide) rfl ?_
  intro p e s m args below meth c s₁ B hml hv
  have y_hi : zHid (0 ≤ hi.toInt ∧ hi.toInt ≤ 1) := n_hi
  have y_ho : zHid ((-1) ≤ ho.toInt ∧ ho.toInt ≤ 3) := n_ho
  have y_lw : zHid (0 ≤ lw.toInt ∧ lw.toInt ≤ 4) := n_lw
  have y_qnb : zHid (0 ≤ qnb.toInt ∧ qnb.toInt ≤ 6) := n_qnb
  have y_qnp : zHid (0 ≤ qnp.toInt ∧ qnp.toInt ≤ 5) := n_qnp
  have y_tat : zHid (0 ≤ tat.toInt ∧ tat.toInt ≤ 260) := n_tat
  have y_tsz : zHid (0 ≤ tsz.toInt ∧ tsz.toInt ≤ 240) := n_tsz
  have y_wr : zHid ((-1) ≤ wr.toInt ∧ wr.toInt ≤ 260) := n_wr
  clear n_hi n_ho n_lw n_qnb n_qnp n_tat n_tsz n_wr
  obtain ⟨hargs, hsz, hP, hK, hT⟩ := hv
  have hx := B.exec
  have hb := B.bytes
  have hr := B.returns
  have hts : ∀ w ∈ wA, w.before args s = true := fun w h => atoms_spec (ws := .code yX11_threaten cX11_threaten 2 (some .int) :: wA) B.pre w (List.mem_cons_of_mem _ h)
  have hown : s.vm.findClass RX11 = some m.cls := findClass_of_methodNamed B.named
  have hlocks := B.notSynchronized
  subst hsz
  have hD := hT.self (sz := s.heap.size)
  generalize hAe : va_A [(h0, .inr (11, [.int th, .ref tB, .int tsz, .int tat, .int wr, .int dp, .ref rC, .ref rV, .ref rD, .ref rK, .ref rT, .ref rS, .ref rU, .int lw, .int tx, .ref rL, .ref rX, .ref qR, .ref qB, .ref qP, .int qnb, .int qnp, .ref aR, .ref aB, .ref aP, .int nb, .int np, .ref aN, .ref rf, .int ho, .int br, .ref aK, .int ac, .long dw, .ref aE, .int sr, .int sf, .ref aA, .ref aH, .ref aI, .int hi])), (aN, .inl (cI, 97, .inl fN)), (rf, .inl (cI, 5, .inl frf)), (aK, .inl (cI, 3880, .inl fKp))] s.heap.size = A at hD ⊢
  have hA : ∀ q : Nat, s.heap.size ≤ q → A q := fun q h => by rw [← hAe]; exact Or.inr h
  have hl := lv_entry ([.ref h0, .int p0]) (n := 2) (Nat.le_of_ble_eq_true rfl)
  rw [show entryFrame m args 2 = entryFrame m ([.ref h0, .int p0] : List Value).toArray 2 by rw [hargs], lg_entry_eq]
  generalize (lg_sl ([.ref h0, .int p0]) ++ List.replicate (2 - (lg_sl ([.ref h0, .int p0])).length) Slot.unset).toArray = ls at hl ⊢
  have hl : lv_has ls 2 [(0, .ref h0), (1, .int p0)] := hl
  refine zstart (fun H hH => ?_)
  rw [← hH] at hP
  have hS : va_S A s.heap H [] := by rw [hH]; exact va_S.rf
  generalize ([] : List Loc) = locs at hS ⊢
  refine zgen (fun R Q hR hQ => ?_)
  refine lv_aload_n hx hb dX11_threaten_0 rfl (lv_at hl 0 rfl) ?_
  refine lv_aload_n hx hb dX11_threaten_1 rfl (lv_at hl 0 rfl) ?_
  refine lv_iload_n hx hb dX11_threaten_2 rfl (lv_at hl 1 rfl) ?_
  obtain ⟨hPc, hDc⟩ := zc2 (wc := [(h0, .inr (11, [.int th, .ref tB, .int tsz, .int tat, .int wr, .int dp, .ref rC, .ref rV, .ref rD, .ref rK, .ref rT, .ref rS, .ref rU, .int lw, .int tx, .ref rL, .ref rX, .ref qR, .ref qB, .ref qP, .int qnb, .int qnp, .ref aR, .ref aB, .ref aP, .int nb, .int np, .ref aN, .ref rf, .int ho, .int br, .ref aK, .int ac, .long dw, .ref aE, .int sr, .int sf, .ref aA, .ref aH, .ref aI, .int hi]))]) hP hD [0] (by decide +kernel) rfl
  have hFc := zfr hS hA
  refine va_calli (va_runV (As := [.int p0]) (rest := [.ref h0]) ⟨hx, hb, hml, hown, hts⟩ (g_X11_isPainter l dC dI cI cJ h0 p0 th tB tsz tat wr dp rC rV rD rK rT rS rU lw tx rL rX qR qB qP qnb qnp aR aB aP nb np aN rf ho br aK ac dw aE sr sf aA aH aI hi H.size n_ac y_hi y_ho y_lw n_nb n_np y_qnb y_qnp y_tat y_tsz y_wr) (cwV 1 hts (zgV qw1410 qw1412 qw57 qw108 qw1413) rfl rfl rfl hd_X11_isPainter ⟨by rw [hR]; exact Nat.le_of_ble_eq_true rfl, by rw [hR]; exact Nat.le_of_ble_eq_true rfl⟩) (zPV hPc hK hDc (va_recv (q := (RX11, TX11, 41)) hK hP (ci := 11) (q0 := 0) rfl rfl)) rfl rfl hl.1 rfl (lv_room (Nat.le_of_ble_eq_true rfl)) dX11_threaten_3 ⟨Nat.zero_le _, Nat.zero_le _⟩) hS (fun q _ h => hFc q h) hFc (fun v3 u3 t H locs ht hvm hw hB hz1 hk1 hS9 => ?_)
  replace hP := zkeep hP hk1
  replace hS := hS9
  clear hPc hDc hFc hk1 hz1 hvm hS9
  obtain ⟨f3_0, f3_1, f3_2, f3_3⟩ : (0 ≤ v3.toInt) ∧ (v3.toInt ≤ 1) ∧ (¬ v3.toInt = 0 → (0 ≤ p0.toInt ∧ p0.toInt < np.toInt)) ∧ (v3.toInt = 0 → ¬ (0 ≤ p0.toInt ∧ p0.toInt < np.toInt)) := hw
  refine lv_if_ne (tgt := 13) hx hb dX11_threaten_6 (by decide) (fun c6 => ?_) (fun c6 => ?_)
  · have c6 : ¬ v3.toInt = 0 := z6 rfl (by decide) c6
    refine lv_aload_n hx hb dX11_threaten_13 rfl (lv_at hl 0 rfl) ?_
    refine va_get (D := (dC, dI)) (ci := 11) (v := .ref aN) (C := RX11) (T := TX11) (N := 41) hx hb hts iX11 hown hK hP 0 rfl rfl 27 (by decide) (hts _ qw1154) (fun _ h9 => h9) rfl dX11_threaten_14 ?_
    refine lv_bipush (v := 6) hx hb dX11_threaten_17 (by decide) ?_
    refine lv_iload_n hx hb dX11_threaten_19 rfl (lv_at hl 1 rfl) ?_
    refine lv_iadd hx hb dX11_threaten_20 ?_
    refine lv_topi (fun v20 e20 => ?_)
    have i20 : v20.toInt = 6 + p0.toInt := zadd e20 (by decide) rfl (by omega) (by omega)
    refine va_iald hx hb hK hP 1 0 rfl rfl (vp_in_iff.mpr ⟨by omega, by omega⟩) dX11_threaten_21 ?_
    refine lv_topi (fun v21 e21 => ?_)
    refine lv_bipush (v := 9) hx hb dX11_threaten_22 (by decide) ?_
    refine lv_icmp_ne (tgt := 31) hx hb dX11_threaten_24 (by decide) (fun c24 => ?_) (fun c24 => ?_)
    · have c24 : ¬ v21.toInt = 9 := z6 rfl (by decide) c24
      refine lv_iconst (v := (-1)) hx hb dX11_threaten_31 (by decide) ?_
      obtain ⟨hPc, hDc, hFc⟩ := zc3 (wc := [(h0, .inr (11, [.int th, .ref tB, .int tsz, .int tat, .int wr, .int dp, .ref rC, .ref rV, .ref rD, .ref rK, .ref rT, .ref rS, .ref rU, .int lw, .int tx, .ref rL, .ref rX, .ref qR, .ref qB, .ref qP, .int qnb, .int qnp, .ref aR, .ref aB, .ref aP, .int nb, .int np, .ref aN, .ref rf, .int ho, .int br, .ref aK, .int ac, .long dw, .ref aE, .int sr, .int sf, .ref aA, .ref aH, .ref aI, .int hi])), (rf, .inl (cI, 5, .inl frf))]) hP hD hS hA [0, 2] (by decide +kernel) rfl
      refine va_calli (va_runV (As := [.int (-1)]) (rest := []) ⟨hx, hb, hml, hown, hts⟩ (g_X11_isRefused l dC dI cI cJ h0 ((-1)) th tB tsz tat wr dp rC rV rD rK rT rS rU lw tx rL rX qR qB qP qnb qnp aR aB aP nb np aN rf ho br aK ac dw aE sr sf aA aH aI hi frf H.size n_ac y_hi y_ho y_lw n_nb n_np (by decide) y_qnb y_qnp y_tat y_tsz y_wr) (cwV 1 hts (zgV qw1481 qw1483 qw66 qw108 qw1484) rfl rfl rfl hd_X11_isRefused ⟨by rw [hR]; exact Nat.le_of_ble_eq_true rfl, by rw [hR]; exact Nat.le_of_ble_eq_true rfl⟩) (zPV hPc hK hDc (va_recv (q := (RX11, TX11, 41)) hK hP (ci := 11) (q0 := 0) rfl rfl)) rfl rfl hl.1 rfl (lv_room (Nat.le_of_ble_eq_true rfl)) dX11_threaten_32 ⟨Nat.zero_le _, Nat.zero_le _⟩) hS (fun q _ h => hFc q h) hFc (fun v32 u32 t H locs ht hvm hw hB hz1 hk1 hS9 => ?_)
      obtain ⟨u32_0, rfl⟩ : ∃ z, z = u32 := ⟨_, rfl⟩
      obtain ⟨hP9, hD9⟩ := zj2 (wX := [(h0, .inr (11, [.int th, .ref tB, .int tsz, .int tat, .int wr, .int dp, .ref rC, .ref rV, .ref rD, .ref rK, .ref rT, .ref rS, .ref rU, .int lw, .int tx, .ref rL, .ref rX, .ref qR, .ref qB, .ref qP, .int qnb, .int qnp, .ref aR, .ref aB, .ref aP, .int nb, .int np, .ref aN, .ref rf, .int ho, .int br, .ref aK, .int ac, .long dw, .ref aE, .int sr, .int sf, .ref aA, .ref aH, .ref aI, .int hi])), (aN, .inl (cI, 97, .inl fN)), (rf, .inl (cI, 5, .inl u32_0)), (aK, .inl (cI, 3880, .inl fKp))]) hP hD hk1 hFc ht hB [0, 2] [(true, 0), (false, 1), (true, 1), (false, 3)] rfl (by decide +kernel) (by decide +kernel) rfl
      clear hP hD hS hPc hDc hFc hB hk1 hz1 hvm
      have hP := hP9
      have hD := hD9
      have hS := hS9
      clear hP9 hD9 hS9
      have zn32_m1 : (-1 : Int32).toInt = -1 := by decide
      obtain ⟨f32_0, f32_1, f32_2, f32_3⟩ : (0 ≤ v32.toInt) ∧ (v32.toInt ≤ 1) ∧ (v32.toInt = 0 → (-1 : Int32).toInt = -1) ∧ ((v32.toInt = 0 ∧ (-1 : Int32).toInt = -1 ∧ u32_0 = frf) ∨ (v32.toInt = 1 ∧ ¬ (-1 : Int32).toInt = -1 ∧ zRf frf u32_0 (-1 : Int32).toInt)) := hw
      have F32 := f32_3
      refine lv_if_eq (tgt := 40) hx hb dX11_threaten_35 (by decide) (fun c35 => ?_) (fun c35 => ?_)
      · have c35 : v32.toInt = 0 := z5 rfl (by decide) c35
        refine lv_aload_n hx hb dX11_threaten_40 rfl (lv_at hl 0 rfl) ?_
        obtain ⟨hPc, hDc, hFc⟩ := zc3 (wc := [(h0, .inr (11, [.int th, .ref tB, .int tsz, .int tat, .int wr, .int dp, .ref rC, .ref rV, .ref rD, .ref rK, .ref rT, .ref rS, .ref rU, .int lw, .int tx, .ref rL, .ref rX, .ref qR, .ref qB, .ref qP, .int qnb, .int qnp, .ref aR, .ref aB, .ref aP, .int nb, .int np, .ref aN, .ref rf, .int ho, .int br, .ref aK, .int ac, .long dw, .ref aE, .int sr, .int sf, .ref aA, .ref aH, .ref aI, .int hi])), (aN, .inl (cI, 97, .inl fN)), (aK, .inl (cI, 3880, .inl fKp))]) hP hD hS hA [0, 1, 3] (by decide +kernel) rfl
        refine va_callv (va_runV (As := []) (rest := []) ⟨hx, hb, hml, hown, hts⟩ (g_X11_keep l dC dI cI cJ h0 th tB tsz tat wr dp rC rV rD rK rT rS rU lw tx rL rX qR qB qP qnb qnp aR aB aP nb np aN rf ho br aK ac dw aE sr sf aA aH aI hi fN fKp H.size n_ac y_hi y_ho y_lw n_nb n_np y_qnb y_qnp y_tat y_tsz y_wr ci_fKp_zKp_np__F_h0_32_ ci_fN_zNw_np) (cwV 0 hts (zgV qw1485 qw1487 qw67 qw108 qw1488) rfl rfl rfl hd_X11_keep ⟨by rw [hR]; exact Nat.le_of_ble_eq_true rfl, by rw [hR]; exact Nat.le_of_ble_eq_true rfl⟩) (zPV hPc hK hDc (va_recv (q := (RX11, TX11, 41)) hK hP (ci := 11) (q0 := 0) rfl rfl)) rfl rfl hl.1 rfl (lv_room (Nat.le_of_ble_eq_true rfl)) dX11_threaten_41 ⟨Nat.zero_le _, Nat.zero_le _⟩) hS (fun q _ h => hFc q h) hFc (fun u41 t H locs ht hvm hw hB hz1 hk1 hS9 => ?_)
        obtain ⟨u41_0, u41_1⟩ := u41
        obtain ⟨hP9, hD9⟩ := zj2 (wX := [(h0, .inr (11, [.int th, .ref tB, .int tsz, .int tat, .int wr, .int dp, .ref rC, .ref rV, .ref rD, .ref rK, .ref rT, .ref rS, .ref rU, .int lw, .int tx, .ref rL, .ref rX, .ref qR, .ref qB, .ref qP, .int qnb, .int qnp, .ref aR, .ref aB, .ref aP, .int nb, .int np, .ref aN, .ref rf, .int ho, .int br, .ref aK, .int u41_0, .long dw, .ref aE, .int sr, .int sf, .ref aA, .ref aH, .ref aI, .int hi])), (aN, .inl (cI, 97, .inl fN)), (rf, .inl (cI, 5, .inl u32_0)), (aK, .inl (cI, 3880, .inl u41_1))]) hP hD hk1 hFc ht hB [0, 1, 3] [(true, 0), (true, 1), (false, 2), (true, 2)] rfl (by decide +kernel) (by decide +kernel) rfl
        clear hP hD hS hPc hDc hFc hB hk1 hz1 hvm
        have hP := hP9
        have hD := hD9
        have hS := hS9
        clear hP9 hD9 hS9
        obtain ⟨f41_0, f41_1, f41_2, f41_3⟩ : (1 ≤ u41_0.toInt) ∧ (u41_0.toInt ≤ 40) ∧ (zKe fKp u41_1 fN ac u41_0) ∧ (zKp np u41_0 u41_1) := hw
        have F41 := f41_2
        refine lv_aload_n hx hb dX11_threaten_44 rfl (lv_at hl 0 rfl) ?_
        refine va_get (D := (dC, dI)) (ci := 11) (v := .ref aN) (C := RX11) (T := TX11) (N := 41) hx hb hts iX11 hown hK hP 0 rfl rfl 27 (by decide) (hts _ qw1154) (fun _ h9 => h9) rfl dX11_threaten_45 ?_
        refine lv_bipush (v := 6) hx hb dX11_threaten_48 (by decide) ?_
        refine lv_iload_n hx hb dX11_threaten_50 rfl (lv_at hl 1 rfl) ?_
        refine lv_iadd hx hb dX11_threaten_51 ?_
        refine lv_topi (fun v51 e51 => ?_)
        have i51 : v51.toInt = 6 + p0.toInt := zadd e51 (by decide) rfl (by omega) (by omega)
        refine lv_dup2_11 hx hb dX11_threaten_52 rfl rfl ?_
        refine va_iald hx hb hK hP 1 0 rfl rfl (vp_in_iff.mpr ⟨by omega, by omega⟩) dX11_threaten_53 ?_
        refine lv_topi (fun v53 e53 => ?_)
        refine lv_iconst (v := 1) hx hb dX11_threaten_54 (by decide) ?_
        refine lv_iadd hx hb dX11_threaten_55 ?_
        refine lv_topi (fun v55 e55 => ?_)
        refine va_iast hx hb hK hP hD hS 1 0 rfl rfl (vp_in_iff.mpr ⟨by omega, by omega⟩) dX11_threaten_56 (fun H locs hP9 hD9 hS9 => ?_)
        clear hP hD hS
        obtain ⟨v56_f, e56⟩ : ∃ g : Nat → Int32, g = upd fN (v51).toNatClampNeg v55 := ⟨_, rfl⟩
        rw [← e56] at hP9 hD9
        obtain ⟨hP, hD⟩ := zst (wX := [(h0, .inr (11, [.int th, .ref tB, .int tsz, .int tat, .int wr, .int dp, .ref rC, .ref rV, .ref rD, .ref rK, .ref rT, .ref rS, .ref rU, .int lw, .int tx, .ref rL, .ref rX, .ref qR, .ref qB, .ref qP, .int qnb, .int qnp, .ref aR, .ref aB, .ref aP, .int nb, .int np, .ref aN, .ref rf, .int ho, .int br, .ref aK, .int u41_0, .long dw, .ref aE, .int sr, .int sf, .ref aA, .ref aH, .ref aI, .int hi])), (aN, .inl (cI, 97, .inl v56_f)), (rf, .inl (cI, 5, .inl u32_0)), (aK, .inl (cI, 3880, .inl u41_1))]) hP9 hD9 rfl
        have hS := hS9
        clear hP9 hD9 hS9
        have cq56_zNw_np : zNw np v56_f := (zNw_low ci_fN_zNw_np e56 (by omega) (by omega)).1
        refine lv_aload_n hx hb dX11_threaten_57 rfl (lv_at hl 0 rfl) ?_
        refine va_get (D := (dC, dI)) (ci := 11) (v := .ref aN) (C := RX11) (T := TX11) (N := 41) hx hb hts iX11 hown hK hP 0 rfl rfl 27 (by decide) (hts _ qw1154) (fun _ h9 => h9) rfl dX11_threaten_58 ?_
        refine lv_bipush (v := 6) hx hb dX11_threaten_61 (by decide) ?_
        refine lv_iload_n hx hb dX11_threaten_63 rfl (lv_at hl 1 rfl) ?_
        refine lv_iadd hx hb dX11_threaten_64 ?_
        refine lv_topi (fun v64 e64 => ?_)
        have i64 : v64.toInt = 6 + p0.toInt := zadd e64 (by decide) rfl (by omega) (by omega)
        refine va_iald hx hb hK hP 1 0 rfl rfl (vp_in_iff.mpr ⟨by omega, by omega⟩) dX11_threaten_65 ?_
        refine lv_topi (fun v65 e65 => ?_)
        rw [hQ]
        exact W.iret (v := v65) hx hb hr (fun t ht hW => ⟨⟨v65, (u41_0, v56_f, u32_0, u41_1), rfl, ⟨by (try dsimp only); omega, by (try dsimp only); omega, by (try dsimp only); exact fun kc kT q_fR q_fBr q_fPa hc hb h => by rcases F32 with z | z; rotate_left; (exfalso; have z1 := z.2.1; omega); have y21 : v21 = kT.1.2.1 p0.toInt.toNat := (zIxN (n := 6 + p0.toInt.toNat) e21 (by omega)).trans (h.1.2.1 _ (by omega)); have zy21 := congrArg Int32.toInt y21; have yb := hb.2.2.2.1.2.1 p0.toInt.toNat (by omega); have y53 : v53 = kT.1.2.1 p0.toInt.toNat := (zIxN (n := 6 + p0.toInt.toNat) e53 (by omega)).trans (h.1.2.1 _ (by omega)); have y55 : v55 = kT.1.2.1 p0.toInt.toNat + 1 := (by rw [e55, y53]); exact zActAr (by unfold sW_thr; exact (if_neg (by omega)).trans (if_neg (by omega))) h (zKr_k hb.2 h F41 (by omega)) (by rw [← y55]; exact zSr_F h.1 e56 (by omega) (by omega) hb.2.1.2) z.2.2 (by rw [zIxN (n := 6 + p0.toInt.toNat) e65 (by omega), e56, show v51.toNatClampNeg = 6 + p0.toInt.toNat from (by show v51.toInt.toNat = _; omega), pk_us, y55]), f41_3, cq56_zNw_np⟩, ⟨by rw [ht]; exact hP, hD⟩⟩, hS.F ht⟩) hS.2.2 dX11_threaten_66
      · have c35 : ¬ v32.toInt = 0 := z6 rfl (by decide) c35
        refine lv_iconst (v := (-1)) hx hb dX11_threaten_38 (by decide) ?_
        have zr0 : ((-1) : Int32).toInt = (-1) := by decide
        rw [hQ]
        exact W.iret (v := ((-1))) hx hb hr (fun t ht hW => ⟨⟨(-1), (ac, fN, u32_0, fKp), rfl, ⟨by (try dsimp only); omega, by (try dsimp only); omega, by (try dsimp only); exact fun kc kT q_fR q_fBr q_fPa hc hb h => by exfalso; rcases F32 with z | z; (have z1 := z.1; omega); (have z1 := z.2.1; omega), ci_fKp_zKp_np__F_h0_32_, ci_fN_zNw_np⟩, ⟨by rw [ht]; exact hP, hD⟩⟩, hS.F ht⟩) hS.2.2 dX11_threaten_39
    · have c24 : v21.toInt = 9 := z5 rfl (by decide) c24
      refine lv_iconst (v := 1) hx hb dX11_threaten_27 (by decide) ?_
      refine lv_goto (tgt := 32) hx hb dX11_threaten_28 (by decide) ?_
      obtain ⟨hPc, hDc, hFc⟩ := zc3 (wc := [(h0, .inr (11, [.int th, .ref tB, .int tsz, .int tat, .int wr, .int dp, .ref rC, .ref rV, .ref rD, .ref rK, .ref rT, .ref rS, .ref rU, .int lw, .int tx, .ref rL, .ref rX, .ref qR, .ref qB, .ref qP, .int qnb, .int qnp, .ref aR, .ref aB, .ref aP, .int nb, .int np, .ref aN, .ref rf, .int ho, .int br, .ref aK, .int ac, .long dw, .ref aE, .int sr, .int sf, .ref aA, .ref aH, .ref aI, .int hi])), (rf, .inl (cI, 5, .inl frf))]) hP hD hS hA [0, 2] (by decide +kernel) rfl
      refine va_calli (va_runV (As := [.int 1]) (rest := []) ⟨hx, hb, hml, hown, hts⟩ (g_X11_isRefused l dC dI cI cJ h0 1 th tB tsz tat wr dp rC rV rD rK rT rS rU lw tx rL rX qR qB qP qnb qnp aR aB aP nb np aN rf ho br aK ac dw aE sr sf aA aH aI hi frf H.size n_ac y_hi y_ho y_lw n_nb n_np (by decide) y_qnb y_qnp y_tat y_tsz y_wr) (cwV 1 hts (zgV qw1481 qw1483 qw66 qw108 qw1484) rfl rfl rfl hd_X11_isRefused ⟨by rw [hR]; exact Nat.le_of_ble_eq_true rfl, by rw [hR]; exact Nat.le_of_ble_eq_true rfl⟩) (zPV hPc hK hDc (va_recv (q := (RX11, TX11, 41)) hK hP (ci := 11) (q0 := 0) rfl rfl)) rfl rfl hl.1 rfl (lv_room (Nat.le_of_ble_eq_true rfl)) dX11_threaten_32 ⟨Nat.zero_le _, Nat.zero_le _⟩) hS (fun q _ h => hFc q h) hFc (fun v32 u32 t H locs ht hvm hw hB hz1 hk1 hS9 => ?_)
      obtain ⟨u32_0, rfl⟩ : ∃ z, z = u32 := ⟨_, rfl⟩
      obtain ⟨hP9, hD9⟩ := zj2 (wX := [(h0, .inr (11, [.int th, .ref tB, .int tsz, .int tat, .int wr, .int dp, .ref rC, .ref rV, .ref rD, .ref rK, .ref rT, .ref rS, .ref rU, .int lw, .int tx, .ref rL, .ref rX, .ref qR, .ref qB, .ref qP, .int qnb, .int qnp, .ref aR, .ref aB, .ref aP, .int nb, .int np, .ref aN, .ref rf, .int ho, .int br, .ref aK, .int ac, .long dw, .ref aE, .int sr, .int sf, .ref aA, .ref aH, .ref aI, .int hi])), (aN, .inl (cI, 97, .inl fN)), (rf, .inl (cI, 5, .inl u32_0)), (aK, .inl (cI, 3880, .inl fKp))]) hP hD hk1 hFc ht hB [0, 2] [(true, 0), (false, 1), (true, 1), (false, 3)] rfl (by decide +kernel) (by decide +kernel) rfl
      clear hP hD hS hPc hDc hFc hB hk1 hz1 hvm
      have hP := hP9
      have hD := hD9
      have hS := hS9
      clear hP9 hD9 hS9
      have zn32_1 : (1 : Int32).toInt = 1 := by decide
      obtain ⟨f32_0, f32_1, f32_2, f32_3⟩ : (0 ≤ v32.toInt) ∧ (v32.toInt ≤ 1) ∧ (v32.toInt = 0 → (1 : Int32).toInt = -1) ∧ ((v32.toInt = 0 ∧ (1 : Int32).toInt = -1 ∧ u32_0 = frf) ∨ (v32.toInt = 1 ∧ ¬ (1 : Int32).toInt = -1 ∧ zRf frf u32_0 (1 : Int32).toInt)) := hw
      have F32 := f32_3
      refine lv_if_eq (tgt := 40) hx hb dX11_threaten_35 (by decide) (fun c35 => by exfalso; have c35 : v32.toInt = 0 := z5 rfl (by decide) c35; omega) (fun c35 => ?_)
      have c35 : ¬ v32.toInt = 0 := z6 rfl (by decide) c35
      refine lv_iconst (v := (-1)) hx hb dX11_threaten_38 (by decide) ?_
      have zr0 : ((-1) : Int32).toInt = (-1) := by decide
      rw [hQ]
      exact W.iret (v := ((-1))) hx hb hr (fun t ht hW => ⟨⟨(-1), (ac, fN, u32_0, fKp), rfl, ⟨by (try dsimp only); omega, by (try dsimp only); omega, by (try dsimp only); exact fun kc kT q_fR q_fBr q_fPa hc hb h => by rcases F32 with z | z; (exfalso; have z1 := z.2.1; omega); have y21 : v21 = kT.1.2.1 p0.toInt.toNat := (zIxN (n := 6 + p0.toInt.toNat) e21 (by omega)).trans (h.1.2.1 _ (by omega)); have zy21 := congrArg Int32.toInt y21; have yb := hb.2.2.2.1.2.1 p0.toInt.toNat (by omega); exact zActRr (x := (1 : Int32).toInt) (by unfold sW_thr; exact ((if_neg (by omega)).trans (if_pos (by omega))).trans (by omega)) (by omega) h z.2.2, ci_fKp_zKp_np__F_h0_32_, ci_fN_zNw_np⟩, ⟨by rw [ht]; exact hP, hD⟩⟩, hS.F ht⟩) hS.2.2 dX11_threaten_39
  · have c6 : v3.toInt = 0 := z5 rfl (by decide) c6
    refine lv_iconst (v := 0) hx hb dX11_threaten_9 (by decide) ?_
    refine lv_goto (tgt := 32) hx hb dX11_threaten_10 (by decide) ?_
    obtain ⟨hPc, hDc, hFc⟩ := zc3 (wc := [(h0, .inr (11, [.int th, .ref tB, .int tsz, .int tat, .int wr, .int dp, .ref rC, .ref rV, .ref rD, .ref rK, .ref rT, .ref rS, .ref rU, .int lw, .int tx, .ref rL, .ref rX, .ref qR, .ref qB, .ref qP, .int qnb, .int qnp, .ref aR, .ref aB, .ref aP, .int nb, .int np, .ref aN, .ref rf, .int ho, .int br, .ref aK, .int ac, .long dw, .ref aE, .int sr, .int sf, .ref aA, .ref aH, .ref aI, .int hi])), (rf, .inl (cI, 5, .inl frf))]) hP hD hS hA [0, 2] (by decide +kernel) rfl
    refine va_calli (va_runV (As := [.int 0]) (rest := []) ⟨hx, hb, hml, hown, hts⟩ (g_X11_isRefused l dC dI cI cJ h0 0 th tB tsz tat wr dp rC rV rD rK rT rS rU lw tx rL rX qR qB qP qnb qnp aR aB aP nb np aN rf ho br aK ac dw aE sr sf aA aH aI hi frf H.size n_ac y_hi y_ho y_lw n_nb n_np (by decide) y_qnb y_qnp y_tat y_tsz y_wr) (cwV 1 hts (zgV qw1481 qw1483 qw66 qw108 qw1484) rfl rfl rfl hd_X11_isRefused ⟨by rw [hR]; exact Nat.le_of_ble_eq_true rfl, by rw [hR]; exact Nat.le_of_ble_eq_true rfl⟩) (zPV hPc hK hDc (va_recv (q := (RX11, TX11, 41)) hK hP (ci := 11) (q0 := 0) rfl rfl)) rfl rfl hl.1 rfl (lv_room (Nat.le_of_ble_eq_true rfl)) dX11_threaten_32 ⟨Nat.zero_le _, Nat.zero_le _⟩) hS (fun q _ h => hFc q h) hFc (fun v32 u32 t H locs ht hvm hw hB hz1 hk1 hS9 => ?_)
    obtain ⟨u32_0, rfl⟩ : ∃ z, z = u32 := ⟨_, rfl⟩
    obtain ⟨hP9, hD9⟩ := zj2 (wX := [(h0, .inr (11, [.int th, .ref tB, .int tsz, .int tat, .int wr, .int dp, .ref rC, .ref rV, .ref rD, .ref rK, .ref rT, .ref rS, .ref rU, .int lw, .int tx, .ref rL, .ref rX, .ref qR, .ref qB, .ref qP, .int qnb, .int qnp, .ref aR, .ref aB, .ref aP, .int nb, .int np, .ref aN, .ref rf, .int ho, .int br, .ref aK, .int ac, .long dw, .ref aE, .int sr, .int sf, .ref aA, .ref aH, .ref aI, .int hi])), (aN, .inl (cI, 97, .inl fN)), (rf, .inl (cI, 5, .inl u32_0)), (aK, .inl (cI, 3880, .inl fKp))]) hP hD hk1 hFc ht hB [0, 2] [(true, 0), (false, 1), (true, 1), (false, 3)] rfl (by decide +kernel) (by decide +kernel) rfl
    clear hP hD hS hPc hDc hFc hB hk1 hz1 hvm
    have hP := hP9
    have hD := hD9
    have hS := hS9
    clear hP9 hD9 hS9
    have zn32_0 : (0 : Int32).toInt = 0 := by decide
    obtain ⟨f32_0, f32_1, f32_2, f32_3⟩ : (0 ≤ v32.toInt) ∧ (v32.toInt ≤ 1) ∧ (v32.toInt = 0 → (0 : Int32).toInt = -1) ∧ ((v32.toInt = 0 ∧ (0 : Int32).toInt = -1 ∧ u32_0 = frf) ∨ (v32.toInt = 1 ∧ ¬ (0 : Int32).toInt = -1 ∧ zRf frf u32_0 (0 : Int32).toInt)) := hw
    have F32 := f32_3
    refine lv_if_eq (tgt := 40) hx hb dX11_threaten_35 (by decide) (fun c35 => by exfalso; have c35 : v32.toInt = 0 := z5 rfl (by decide) c35; omega) (fun c35 => ?_)
    have c35 : ¬ v32.toInt = 0 := z6 rfl (by decide) c35
    refine lv_iconst (v := (-1)) hx hb dX11_threaten_38 (by decide) ?_
    have zr0 : ((-1) : Int32).toInt = (-1) := by decide
    rw [hQ]
    exact W.iret (v := ((-1))) hx hb hr (fun t ht hW => ⟨⟨(-1), (ac, fN, u32_0, fKp), rfl, ⟨by (try dsimp only); omega, by (try dsimp only); omega, by (try dsimp only); exact fun kc kT q_fR q_fBr q_fPa hc hb h => by rcases F32 with z | z; (exfalso; have z1 := z.2.1; omega); exact zActRr (x := (0 : Int32).toInt) (by unfold sW_thr; exact (if_pos (by omega)).trans (by omega)) (by omega) h z.2.2, ci_fKp_zKp_np__F_h0_32_, ci_fN_zNw_np⟩, ⟨by rw [ht]; exact hP, hD⟩⟩, hS.F ht⟩) hS.2.2 dX11_threaten_39
set_option maxHeartbeats 4000000 in
set_option maxRecDepth 100000 in
theorem g_X11_isTold_l (l : Launch) (dC : Nat → ClassId) (dI : Nat → Nat → Nat) (cI cJ : ClassId) (h0 : Nat) (p1 : Int32) (th : Int32) (tB : Nat) (tsz : Int32) (tat : Int32) (wr : Int32) (dp : Int32) (rC : Nat) (rV : Nat) (rD : Nat) (rK : Nat) (rT : Nat) (rS : Nat) (rU : Nat) (lw : Int32) (tx : Int32) (rL : Nat) (rX : Nat) (qR : Nat) (qB : Nat) (qP : Nat) (qnb : Int32) (qnp : Int32) (aR : Nat) (aB : Nat) (aP : Nat) (nb : Int32) (np : Int32) (aN : Nat) (rf : Nat) (ho : Int32) (br : Int32) (aK : Nat) (ac : Int32) (dw : Int64) (aE : Nat) (sr : Int32) (sf : Int32) (aA : Nat) (aH : Nat) (aI : Nat) (hi : Int32) (fN : Nat → Int32) (frf : Nat → Int32) (fKp : Nat → Int32) (sz : Nat) (n_ac : 0 ≤ ac.toInt ∧ ac.toInt ≤ 40) (n_hi : 0 ≤ hi.toInt ∧ hi.toInt ≤ 1) (n_ho : (-1) ≤ ho.toInt ∧ ho.toInt ≤ 3) (n_lw : 0 ≤ lw.toInt ∧ lw.toInt ≤ 4) (n_nb : 0 ≤ nb.toInt ∧ nb.toInt ≤ 6) (n_np : 0 ≤ np.toInt ∧ np.toInt ≤ 5) (n_qnb : 0 ≤ qnb.toInt ∧ qnb.toInt ≤ 6) (n_qnp : 0 ≤ qnp.toInt ∧ qnp.toInt ≤ 5) (n_tat : 0 ≤ tat.toInt ∧ tat.toInt ≤ 260) (n_tsz : 0 ≤ tsz.toInt ∧ tsz.toInt ≤ 240) (n_wr : (-1) ≤ wr.toInt ∧ wr.toInt ≤ 260)  (ci_fKp_zKp_np__F_h0_32_ : zKp np ac fKp) (ci_fN_zNw_np : zNw np fN)  : Met l yX11_isTold (.code yX11_isTold cX11_isTold 4 (some .boolean) :: wA) ({ frames := 2, cells := 0, slots := 0, locals := 43 }) (zP (dC, dI) [(cI, .int), (cJ, .long)] [.ref h0, .int 11, .int p1, .int 2] sz [(h0, .inr (11, [.int th, .ref tB, .int tsz, .int tat, .int wr, .int dp, .ref rC, .ref rV, .ref rD, .ref rK, .ref rT, .ref rS, .ref rU, .int lw, .int tx, .ref rL, .ref rX, .ref qR, .ref qB, .ref qP, .int qnb, .int qnp, .ref aR, .ref aB, .ref aP, .int nb, .int np, .ref aN, .ref rf, .int ho, .int br, .ref aK, .int ac, .long dw, .ref aE, .int sr, .int sf, .ref aA, .ref aH, .ref aI, .int hi])), (aN, .inl (cI, 97, .inl fN)), (rf, .inl (cI, 5, .inl frf)), (aK, .inl (cI, 3880, .inl fKp))]) (va_Qi (fun (r : Int32) (u : Int32 × (Nat → Int32) × (Nat → Int32) × (Nat → Int32)) => (0 ≤ r.toInt) ∧ (r.toInt ≤ 1) ∧ (0 ≤ u.1.toInt) ∧ (u.1.toInt ≤ 40) ∧ (¬ r.toInt = 0 → (0 ≤ p1.toInt ∧ p1.toInt < nb.toInt)) ∧ (∀ (kc : zK3) (kT : zT) (q_fR : Nat → Int32) (q_fBr : Nat → Int32) (q_fPa : Nat → Int32), zCn q_fR q_fBr q_fPa nb.toInt np.toInt kc → zKo nb.toInt np.toInt kc kT → zTr nb.toInt np.toInt kT fN fKp ac frf → ((r.toInt = 0 ∧ ¬ sW_tld nb.toInt kT.1 kT.1.2.2.1.1 p1 2 = -1) ∨ (r.toInt = 1 ∧ sW_tld nb.toInt kT.1 kT.1.2.2.1.1 p1 2 = -1)) ∧ zTr nb.toInt np.toInt (sDo (sW_tld nb.toInt kT.1 kT.1.2.2.1.1 p1 2) kT (sN_ltr kT.1 p1)) u.2.1 u.2.2.2 u.1 u.2.2.1) ∧ (zKp np u.1 u.2.2.2) ∧ (zNw np u.2.1)) (fun (u : Int32 × (Nat → Int32) × (Nat → Int32) × (Nat → Int32)) (t : State) => va_P (dC, dI) vwCl [(h0, .inr (11, [.int th, .ref tB, .int tsz, .int tat, .int wr, .int dp, .ref rC, .ref rV, .ref rD, .ref rK, .ref rT, .ref rS, .ref rU, .int lw, .int tx, .ref rL, .ref rX, .ref qR, .ref qB, .ref qP, .int qnb, .int qnp, .ref aR, .ref aB, .ref aP, .int nb, .int np, .ref aN, .ref rf, .int ho, .int br, .ref aK, .int u.1, .long dw, .ref aE, .int sr, .int sf, .ref aA, .ref aH, .ref aI, .int hi])), (aN, .inl (cI, 97, .inl u.2.1)), (rf, .inl (cI, 5, .inl u.2.2.1)), (aK, .inl (cI, 3880, .inl u.2.2.2))] t.heap ∧ va_D (va_A [(h0, .inr (11, [.int th, .ref tB, .int tsz, .int tat, .int wr, .int dp, .ref rC, .ref rV, .ref rD, .ref rK, .ref rT, .ref rS, .ref rU, .int lw, .int tx, .ref rL, .ref rX, .ref qR, .ref qB, .ref qP, .int qnb, .int qnp, .ref aR, .ref aB, .ref aP, .int nb, .int np, .ref aN, .ref rf, .int ho, .int br, .ref aK, .int ac, .long dw, .ref aE, .int sr, .int sf, .ref aA, .ref aH, .ref aI, .int hi])), (aN, .inl (cI, 97, .inl fN)), (rf, .inl (cI, 5, .inl frf)), (aK, .inl (cI, 3880, .inl fKp))] sz) [(h0, .inr (11, [.int th, .ref tB, .int tsz, .int tat, .int wr, .int dp, .ref rC, .ref rV, .ref rD, .ref rK, .ref rT, .ref rS, .ref rU, .int lw, .int tx, .ref rL, .ref rX, .ref qR, .ref qB, .ref qP, .int qnb, .int qnp, .ref aR, .ref aB, .ref aP, .int nb, .int np, .ref aN, .ref rf, .int ho, .int br, .ref aK, .int u.1, .long dw, .ref aE, .int sr, .int sf, .ref aA, .ref aH, .ref aI, .int hi])), (aN, .inl (cI, 97, .inl u.2.1)), (rf, .inl (cI, 5, .inl u.2.2.1)), (aK, .inl (cI, 3880, .inl u.2.2.2))]) (va_A [(h0, .inr (11, [.int th, .ref tB, .int tsz, .int tat, .int wr, .int dp, .ref rC, .ref rV, .ref rD, .ref rK, .ref rT, .ref rS, .ref rU, .int lw, .int tx, .ref rL, .ref rX, .ref qR, .ref qB, .ref qP, .int qnb, .int qnp, .ref aR, .ref aB, .ref aP, .int nb, .int np, .ref aN, .ref rf, .int ho, .int br, .ref aK, .int ac, .long dw, .ref aE, .int sr, .int sf, .ref aA, .ref aH, .ref aI, .int hi])), (aN, .inl (cI, 97, .inl fN)), (rf, .inl (cI, 5, .inl frf)), (aK, .inl (cI, 3880, .inl fKp))] sz)) 0 0 (va_A [(h0, .inr (11, [.int th, .ref tB, .int tsz, .int tat, .int wr, .int dp, .ref rC, .ref rV, .ref rD, .ref rK, .ref rT, .ref rS, .ref rU, .int lw, .int tx, .ref rL, .ref rX, .ref qR, .ref qB, .ref qP, .int qnb, .int qnp, .ref aR, .ref aB, .ref aP, .int nb, .int np, .ref aN, .ref rf, .int ho, .int br, .ref aK, .int ac, .long dw, .ref aE, .int sr, .int sf, .ref aA, .ref aH, .ref aI, .int hi])), (aN, .inl (cI, 97, .inl fN)), (rf, .inl (cI, 5, .inl frf)), (aK, .inl (cI, 3880, .inl fKp))] sz) := by
  refine Met.ofW (cc := cX11_isTold) (maxL := 4) (ret := (some .boolean)) (by decide) rfl ?_
  intro p e s m args below meth c s₁ B hml hv
  have y_hi : zHid (0 ≤ hi.toInt ∧ hi.toInt ≤ 1) := n_hi
  have y_ho : zHid ((-1) ≤ ho.toInt ∧ ho.toInt ≤ 3) := n_ho
  have y_lw : zHid (0 ≤ lw.toInt ∧ lw.toInt ≤ 4) := n_lw
  have y_qnb : zHid (0 ≤ qnb.toInt ∧ qnb.toInt ≤ 6) := n_qnb
  have y_qnp : zHid (0 ≤ qnp.toInt ∧ qnp.toInt ≤ 5) := n_qnp
  have y_tat : zHid (0 ≤ tat.toInt ∧ tat.toInt ≤ 260) := n_tat
  have y_tsz : zHid (0 ≤ tsz.toInt ∧ tsz.toInt ≤ 240) := n_tsz
  have y_wr : zHid ((-1) ≤ wr.toInt ∧ wr.toInt ≤ 260) := n_wr
  clear n_hi n_ho n_lw n_qnb n_qnp n_tat n_tsz n_wr
  obtain ⟨hargs, hsz, hP, hK, hT⟩ := hv
  have hx := B.exec
  have hb := B.bytes
  have hr := B.returns
  have hts : ∀ w ∈ wA, w.before args s = true := fun w h => atoms_spec (ws := .code yX11_isTold cX11_isTold 4 (some .boolean) :: wA) B.pre w (List.mem_cons_of_mem _ h)
  have hown : s.vm.findClass RX11 = some m.cls := findClass_of_methodNamed B.named
  have hlocks := B.notSynchronized
  subst hsz
  have hD := hT.self (sz := s.heap.size)
  generalize hAe : va_A [(h0, .inr (11, [.int th, .ref tB, .int tsz, .int tat, .int wr, .int dp, .ref rC, .ref rV, .ref rD, .ref rK, .ref rT, .ref rS, .ref rU, .int lw, .int tx, .ref rL, .ref rX, .ref qR, .ref qB, .ref qP, .int qnb, .int qnp, .ref aR, .ref aB, .ref aP, .int nb, .int np, .ref aN, .ref rf, .int ho, .int br, .ref aK, .int ac, .long dw, .ref aE, .int sr, .int sf, .ref aA, .ref aH, .ref aI, .int hi])), (aN, .inl (cI, 97, .inl fN)), (rf, .inl (cI, 5, .inl frf)), (aK, .inl (cI, 3880, .inl fKp))] s.heap.size = A at hD ⊢
  have hA : ∀ q : Nat, s.heap.size ≤ q → A q := fun q h => by rw [← hAe]; exact Or.inr h
  have hl := lv_entry ([.ref h0, .int 11, .int p1, .int 2]) (n := 4) (Nat.le_of_ble_eq_true rfl)
  rw [show entryFrame m args 4 = entryFrame m ([.ref h0, .int 11, .int p1, .int 2] : List Value).toArray 4 by rw [hargs], lg_entry_eq]
  generalize (lg_sl ([.ref h0, .int 11, .int p1, .int 2]) ++ List.replicate (4 - (lg_sl ([.ref h0, .int 11, .int p1, .int 2])).length) Slot.unset).toArray = ls at hl ⊢
  have hl : lv_has ls 4 [(0, .ref h0), (1, .int 11), (2, .int p1), (3, .int 2)] := hl
  refine zstart (fun H hH => ?_)
  rw [← hH] at hP
  have hS : va_S A s.heap H [] := by rw [hH]; exact va_S.rf
  generalize ([] : List Loc) = locs at hS ⊢
  refine zgen (fun R Q hR hQ => ?_)
  refine lv_aload_n hx hb dX11_isTold_0 rfl (lv_at hl 0 rfl) ?_
  refine lv_aload_n hx hb dX11_isTold_1 rfl (lv_at hl 0 rfl) ?_
  refine lv_iload_n hx hb dX11_isTold_2 rfl (lv_at hl 2 rfl) ?_
  obtain ⟨hPc, hDc⟩ := zc2 (wc := [(h0, .inr (11, [.int th, .ref tB, .int tsz, .int tat, .int wr, .int dp, .ref rC, .ref rV, .ref rD, .ref rK, .ref rT, .ref rS, .ref rU, .int lw, .int tx, .ref rL, .ref rX, .ref qR, .ref qB, .ref qP, .int qnb, .int qnp, .ref aR, .ref aB, .ref aP, .int nb, .int np, .ref aN, .ref rf, .int ho, .int br, .ref aK, .int ac, .long dw, .ref aE, .int sr, .int sf, .ref aA, .ref aH, .ref aI, .int hi]))]) hP hD [0] (by decide +kernel) rfl
  have hFc := zfr hS hA
  refine va_calli (va_runV (As := [.int p1]) (rest := [.ref h0]) ⟨hx, hb, hml, hown, hts⟩ (g_X11_isBride l dC dI cI cJ h0 p1 th tB tsz tat wr dp rC rV rD rK rT rS rU lw tx rL rX qR qB qP qnb qnp aR aB aP nb np aN rf ho br aK ac dw aE sr sf aA aH aI hi H.size n_ac y_hi y_ho y_lw n_nb n_np y_qnb y_qnp y_tat y_tsz y_wr) (cwV 1 hts (zgV qw1402 qw1404 qw56 qw108 qw1405) rfl rfl rfl hd_X11_isBride ⟨by rw [hR]; exact Nat.le_of_ble_eq_true rfl, by rw [hR]; exact Nat.le_of_ble_eq_true rfl⟩) (zPV hPc hK hDc (va_recv (q := (RX11, TX11, 41)) hK hP (ci := 11) (q0 := 0) rfl rfl)) rfl rfl hl.1 rfl (lv_room (Nat.le_of_ble_eq_true rfl)) dX11_isTold_3 ⟨Nat.zero_le _, Nat.zero_le _⟩) hS (fun q _ h => hFc q h) hFc (fun v3 u3 t H locs ht hvm hw hB hz1 hk1 hS9 => ?_)
  replace hP := zkeep hP hk1
  replace hS := hS9
  clear hPc hDc hFc hk1 hz1 hvm hS9
  obtain ⟨f3_0, f3_1, f3_2, f3_3⟩ : (0 ≤ v3.toInt) ∧ (v3.toInt ≤ 1) ∧ (¬ v3.toInt = 0 → (0 ≤ p1.toInt ∧ p1.toInt < nb.toInt)) ∧ (v3.toInt = 0 → ¬ (0 ≤ p1.toInt ∧ p1.toInt < nb.toInt)) := hw
  refine lv_if_ne (tgt := 13) hx hb dX11_isTold_6 (by decide) (fun c6 => ?_) (fun c6 => ?_)
  · have c6 : ¬ v3.toInt = 0 := z6 rfl (by decide) c6
    refine lv_aload_n hx hb dX11_isTold_13 rfl (lv_at hl 0 rfl) ?_
    refine va_get (D := (dC, dI)) (ci := 11) (v := .ref aN) (C := RX11) (T := TX11) (N := 41) hx hb hts iX11 hown hK hP 0 rfl rfl 27 (by decide) (hts _ qw1154) (fun _ h9 => h9) rfl dX11_isTold_14 ?_
    refine lv_iload_n hx hb dX11_isTold_17 rfl (lv_at hl 1 rfl) ?_
    refine va_iald hx hb hK hP 1 0 rfl rfl (by unfold vp_in; decide) dX11_isTold_18 ?_
    refine lv_topi (fun v18 e18 => ?_)
    refine lv_iload_n hx hb dX11_isTold_19 rfl (lv_at hl 2 rfl) ?_
    have hPc : va_P (dC, dI) vwCl [] H := zP0
    have hDc : va_D (fun _ => True) [] := zD0
    have hFc := zfr hS hA
    refine va_calli (va_runS (As := [.int v18, .int p1]) (rest := [.ref h0]) ⟨hx, hb, hml, hown, hts⟩ (g_X11_has l dC dI cI cJ v18 p1 H.size) (cwS 2 hts (zgS qw1288 qw1289 qw108 qw1290) rfl rfl rfl hd_X11_has ⟨by rw [hR]; exact Nat.le_of_ble_eq_true rfl, by rw [hR]; exact Nat.le_of_ble_eq_true rfl⟩) (zPS hPc hK hDc) rfl rfl hl.1 rfl (lv_room (Nat.le_of_ble_eq_true rfl)) dX11_isTold_20 ⟨Nat.zero_le _, Nat.zero_le _⟩) hS (fun q _ h => hFc q h) hFc (fun v20 u20 t H locs ht hvm hw hB hz1 hk1 hS9 => ?_)
    replace hP := zkeep hP hk1
    replace hS := hS9
    clear hPc hDc hFc hk1 hz1 hvm hS9
    obtain ⟨f20_0, f20_1, f20_2, f20_3⟩ : (0 ≤ v20.toInt) ∧ (v20.toInt ≤ 1) ∧ (v20.toInt = ((v18 >>> (p1 &&& 31)) &&& 1).toInt) ∧ (v20.toInt = (cBt v18 p1).toInt) := hw
    have F20 := f20_3
    refine lv_if_eq (tgt := 30) hx hb dX11_isTold_23 (by decide) (fun c23 => ?_) (fun c23 => ?_)
    · have c23 : v20.toInt = 0 := z5 rfl (by decide) c23
      refine lv_aload_n hx hb dX11_isTold_30 rfl (lv_at hl 0 rfl) ?_
      refine va_get (D := (dC, dI)) (ci := 11) (v := .ref aN) (C := RX11) (T := TX11) (N := 41) hx hb hts iX11 hown hK hP 0 rfl rfl 27 (by decide) (hts _ qw1154) (fun _ h9 => h9) rfl dX11_isTold_31 ?_
      refine lv_bipush (v := 14) hx hb dX11_isTold_34 (by decide) ?_
      refine va_iald hx hb hK hP 1 0 rfl rfl (by unfold vp_in; decide) dX11_isTold_36 ?_
      refine lv_topi (fun v36 e36 => ?_)
      refine lv_iload_n hx hb dX11_isTold_37 rfl (lv_at hl 3 rfl) ?_
      refine lv_icmp_ge (tgt := 45) hx hb dX11_isTold_38 (by decide) (fun c38 => ?_) (fun c38 => ?_)
      · have c38 : 2 ≤ v36.toInt := z3 (by decide) rfl c38
        refine lv_iconst (v := (-1)) hx hb dX11_isTold_45 (by decide) ?_
        obtain ⟨hPc, hDc, hFc⟩ := zc3 (wc := [(h0, .inr (11, [.int th, .ref tB, .int tsz, .int tat, .int wr, .int dp, .ref rC, .ref rV, .ref rD, .ref rK, .ref rT, .ref rS, .ref rU, .int lw, .int tx, .ref rL, .ref rX, .ref qR, .ref qB, .ref qP, .int qnb, .int qnp, .ref aR, .ref aB, .ref aP, .int nb, .int np, .ref aN, .ref rf, .int ho, .int br, .ref aK, .int ac, .long dw, .ref aE, .int sr, .int sf, .ref aA, .ref aH, .ref aI, .int hi])), (rf, .inl (cI, 5, .inl frf))]) hP hD hS hA [0, 2] (by decide +kernel) rfl
        refine va_calli (va_runV (As := [.int (-1)]) (rest := []) ⟨hx, hb, hml, hown, hts⟩ (g_X11_isRefused l dC dI cI cJ h0 ((-1)) th tB tsz tat wr dp rC rV rD rK rT rS rU lw tx rL rX qR qB qP qnb qnp aR aB aP nb np aN rf ho br aK ac dw aE sr sf aA aH aI hi frf H.size n_ac y_hi y_ho y_lw n_nb n_np (by decide) y_qnb y_qnp y_tat y_tsz y_wr) (cwV 1 hts (zgV qw1481 qw1483 qw66 qw108 qw1484) rfl rfl rfl hd_X11_isRefused ⟨by rw [hR]; exact Nat.le_of_ble_eq_true rfl, by rw [hR]; exact Nat.le_of_ble_eq_true rfl⟩) (zPV hPc hK hDc (va_recv (q := (RX11, TX11, 41)) hK hP (ci := 11) (q0 := 0) rfl rfl)) rfl rfl hl.1 rfl (lv_room (Nat.le_of_ble_eq_true rfl)) dX11_isTold_46 ⟨Nat.zero_le _, Nat.zero_le _⟩) hS (fun q _ h => hFc q h) hFc (fun v46 u46 t H locs ht hvm hw hB hz1 hk1 hS9 => ?_)
        obtain ⟨u46_0, rfl⟩ : ∃ z, z = u46 := ⟨_, rfl⟩
        obtain ⟨hP9, hD9⟩ := zj2 (wX := [(h0, .inr (11, [.int th, .ref tB, .int tsz, .int tat, .int wr, .int dp, .ref rC, .ref rV, .ref rD, .ref rK, .ref rT, .ref rS, .ref rU, .int lw, .int tx, .ref rL, .ref rX, .ref qR, .ref qB, .ref qP, .int qnb, .int qnp, .ref aR, .ref aB, .ref aP, .int nb, .int np, .ref aN, .ref rf, .int ho, .int br, .ref aK, .int ac, .long dw, .ref aE, .int sr, .int sf, .ref aA, .ref aH, .ref aI, .int hi])), (aN, .inl (cI, 97, .inl fN)), (rf, .inl (cI, 5, .inl u46_0)), (aK, .inl (cI, 3880, .inl fKp))]) hP hD hk1 hFc ht hB [0, 2] [(true, 0), (false, 1), (true, 1), (false, 3)] rfl (by decide +kernel) (by decide +kernel) rfl
        clear hP hD hS hPc hDc hFc hB hk1 hz1 hvm
        have hP := hP9
        have hD := hD9
        have hS := hS9
        clear hP9 hD9 hS9
        have zn46_m1 : (-1 : Int32).toInt = -1 := by decide
        obtain ⟨f46_0, f46_1, f46_2, f46_3⟩ : (0 ≤ v46.toInt) ∧ (v46.toInt ≤ 1) ∧ (v46.toInt = 0 → (-1 : Int32).toInt = -1) ∧ ((v46.toInt = 0 ∧ (-1 : Int32).toInt = -1 ∧ u46_0 = frf) ∨ (v46.toInt = 1 ∧ ¬ (-1 : Int32).toInt = -1 ∧ zRf frf u46_0 (-1 : Int32).toInt)) := hw
        have F46 := f46_3
        refine lv_if_eq (tgt := 54) hx hb dX11_isTold_49 (by decide) (fun c49 => ?_) (fun c49 => ?_)
        · have c49 : v46.toInt = 0 := z5 rfl (by decide) c49
          refine lv_aload_n hx hb dX11_isTold_54 rfl (lv_at hl 0 rfl) ?_
          obtain ⟨hPc, hDc, hFc⟩ := zc3 (wc := [(h0, .inr (11, [.int th, .ref tB, .int tsz, .int tat, .int wr, .int dp, .ref rC, .ref rV, .ref rD, .ref rK, .ref rT, .ref rS, .ref rU, .int lw, .int tx, .ref rL, .ref rX, .ref qR, .ref qB, .ref qP, .int qnb, .int qnp, .ref aR, .ref aB, .ref aP, .int nb, .int np, .ref aN, .ref rf, .int ho, .int br, .ref aK, .int ac, .long dw, .ref aE, .int sr, .int sf, .ref aA, .ref aH, .ref aI, .int hi])), (aN, .inl (cI, 97, .inl fN)), (aK, .inl (cI, 3880, .inl fKp))]) hP hD hS hA [0, 1, 3] (by decide +kernel) rfl
          refine va_callv (va_runV (As := []) (rest := []) ⟨hx, hb, hml, hown, hts⟩ (g_X11_keep l dC dI cI cJ h0 th tB tsz tat wr dp rC rV rD rK rT rS rU lw tx rL rX qR qB qP qnb qnp aR aB aP nb np aN rf ho br aK ac dw aE sr sf aA aH aI hi fN fKp H.size n_ac y_hi y_ho y_lw n_nb n_np y_qnb y_qnp y_tat y_tsz y_wr ci_fKp_zKp_np__F_h0_32_ ci_fN_zNw_np) (cwV 0 hts (zgV qw1485 qw1487 qw67 qw108 qw1488) rfl rfl rfl hd_X11_keep ⟨by rw [hR]; exact Nat.le_of_ble_eq_true rfl, by rw [hR]; exact Nat.le_of_ble_eq_true rfl⟩) (zPV hPc hK hDc (va_recv (q := (RX11, TX11, 41)) hK hP (ci := 11) (q0 := 0) rfl rfl)) rfl rfl hl.1 rfl (lv_room (Nat.le_of_ble_eq_true rfl)) dX11_isTold_55 ⟨Nat.zero_le _, Nat.zero_le _⟩) hS (fun q _ h => hFc q h) hFc (fun u55 t H locs ht hvm hw hB hz1 hk1 hS9 => ?_)
          obtain ⟨u55_0, u55_1⟩ := u55
          obtain ⟨hP9, hD9⟩ := zj2 (wX := [(h0, .inr (11, [.int th, .ref tB, .int tsz, .int tat, .int wr, .int dp, .ref rC, .ref rV, .ref rD, .ref rK, .ref rT, .ref rS, .ref rU, .int lw, .int tx, .ref rL, .ref rX, .ref qR, .ref qB, .ref qP, .int qnb, .int qnp, .ref aR, .ref aB, .ref aP, .int nb, .int np, .ref aN, .ref rf, .int ho, .int br, .ref aK, .int u55_0, .long dw, .ref aE, .int sr, .int sf, .ref aA, .ref aH, .ref aI, .int hi])), (aN, .inl (cI, 97, .inl fN)), (rf, .inl (cI, 5, .inl u46_0)), (aK, .inl (cI, 3880, .inl u55_1))]) hP hD hk1 hFc ht hB [0, 1, 3] [(true, 0), (true, 1), (false, 2), (true, 2)] rfl (by decide +kernel) (by decide +kernel) rfl
          clear hP hD hS hPc hDc hFc hB hk1 hz1 hvm
          have hP := hP9
          have hD := hD9
          have hS := hS9
          clear hP9 hD9 hS9
          obtain ⟨f55_0, f55_1, f55_2, f55_3⟩ : (1 ≤ u55_0.toInt) ∧ (u55_0.toInt ≤ 40) ∧ (zKe fKp u55_1 fN ac u55_0) ∧ (zKp np u55_0 u55_1) := hw
          have F55 := f55_2
          refine lv_aload_n hx hb dX11_isTold_58 rfl (lv_at hl 0 rfl) ?_
          refine va_get (D := (dC, dI)) (ci := 11) (v := .ref aN) (C := RX11) (T := TX11) (N := 41) hx hb hts iX11 hown hK hP 0 rfl rfl 27 (by decide) (hts _ qw1154) (fun _ h9 => h9) rfl dX11_isTold_59 ?_
          refine lv_iload_n hx hb dX11_isTold_62 rfl (lv_at hl 1 rfl) ?_
          refine lv_dup2_11 hx hb dX11_isTold_63 rfl rfl ?_
          refine va_iald hx hb hK hP 1 0 rfl rfl (by unfold vp_in; decide) dX11_isTold_64 ?_
          refine lv_topi (fun v64 e64 => ?_)
          refine lv_iconst (v := 1) hx hb dX11_isTold_65 (by decide) ?_
          refine lv_iload_n hx hb dX11_isTold_66 rfl (lv_at hl 2 rfl) ?_
          refine lv_ishl hx hb dX11_isTold_67 ?_
          refine lv_topi (fun v67 e67 => ?_)
          have i67 : 1 ≤ v67.toInt ∧ v67.toInt ≤ 32 := zshl1 e67 (by omega) (by omega)
          refine lv_ior hx hb dX11_isTold_68 ?_
          refine lv_topi (fun v68 e68 => ?_)
          refine va_iast hx hb hK hP hD hS 1 0 rfl rfl (by unfold vp_in; decide) dX11_isTold_69 (fun H locs hP9 hD9 hS9 => ?_)
          clear hP hD hS
          obtain ⟨v69_f, e69⟩ : ∃ g : Nat → Int32, g = upd fN (11 : Int32).toNatClampNeg v68 := ⟨_, rfl⟩
          rw [← e69] at hP9 hD9
          obtain ⟨hP, hD⟩ := zst (wX := [(h0, .inr (11, [.int th, .ref tB, .int tsz, .int tat, .int wr, .int dp, .ref rC, .ref rV, .ref rD, .ref rK, .ref rT, .ref rS, .ref rU, .int lw, .int tx, .ref rL, .ref rX, .ref qR, .ref qB, .ref qP, .int qnb, .int qnp, .ref aR, .ref aB, .ref aP, .int nb, .int np, .ref aN, .ref rf, .int ho, .int br, .ref aK, .int u55_0, .long dw, .ref aE, .int sr, .int sf, .ref aA, .ref aH, .ref aI, .int hi])), (aN, .inl (cI, 97, .inl v69_f)), (rf, .inl (cI, 5, .inl u46_0)), (aK, .inl (cI, 3880, .inl u55_1))]) hP9 hD9 rfl
          have hS := hS9
          clear hP9 hD9 hS9
          have cq69_zNw_np : zNw np v69_f := (zNw_low ci_fN_zNw_np e69 (by decide) (by decide)).1
          refine lv_aload_n hx hb dX11_isTold_70 rfl (lv_at hl 0 rfl) ?_
          refine va_get (D := (dC, dI)) (ci := 11) (v := .ref aN) (C := RX11) (T := TX11) (N := 41) hx hb hts iX11 hown hK hP 0 rfl rfl 27 (by decide) (hts _ qw1154) (fun _ h9 => h9) rfl dX11_isTold_71 ?_
          refine lv_bipush (v := 14) hx hb dX11_isTold_74 (by decide) ?_
          refine lv_dup2_11 hx hb dX11_isTold_76 rfl rfl ?_
          refine va_iald hx hb hK hP 1 0 rfl rfl (by unfold vp_in; decide) dX11_isTold_77 ?_
          refine lv_topi (fun v77 e77 => ?_)
          refine lv_iload_n hx hb dX11_isTold_78 rfl (lv_at hl 3 rfl) ?_
          refine lv_isub hx hb dX11_isTold_79 ?_
          refine lv_topi (fun v79 e79 => ?_)
          refine va_iast hx hb hK hP hD hS 1 0 rfl rfl (by unfold vp_in; decide) dX11_isTold_80 (fun H locs hP9 hD9 hS9 => ?_)
          clear hP hD hS
          obtain ⟨v80_f, e80⟩ : ∃ g : Nat → Int32, g = upd v69_f (14 : Int32).toNatClampNeg v79 := ⟨_, rfl⟩
          rw [← e80] at hP9 hD9
          obtain ⟨hP, hD⟩ := zst (wX := [(h0, .inr (11, [.int th, .ref tB, .int tsz, .int tat, .int wr, .int dp, .ref rC, .ref rV, .ref rD, .ref rK, .ref rT, .ref rS, .ref rU, .int lw, .int tx, .ref rL, .ref rX, .ref qR, .ref qB, .ref qP, .int qnb, .int qnp, .ref aR, .ref aB, .ref aP, .int nb, .int np, .ref aN, .ref rf, .int ho, .int br, .ref aK, .int u55_0, .long dw, .ref aE, .int sr, .int sf, .ref aA, .ref aH, .ref aI, .int hi])), (aN, .inl (cI, 97, .inl v80_f)), (rf, .inl (cI, 5, .inl u46_0)), (aK, .inl (cI, 3880, .inl u55_1))]) hP9 hD9 rfl
          have hS := hS9
          clear hP9 hD9 hS9
          have cq80_zNw_np : zNw np v80_f := (zNw_low cq69_zNw_np e80 (by decide) (by decide)).1
          refine lv_iconst (v := 1) hx hb dX11_isTold_81 (by decide) ?_
          have zr0 : (1 : Int32).toInt = 1 := by decide
          rw [hQ]
          exact W.zret (v := 1) (ty := .boolean) hx hb hr rfl (fun t ht hW => ⟨⟨1, (u55_0, v80_f, u46_0, u55_1), rfl, ⟨by (try dsimp only); omega, by (try dsimp only); omega, by (try dsimp only); omega, by (try dsimp only); omega, by (try dsimp only); omega, by (try dsimp only); exact fun kc kT q_fR q_fBr q_fPa hc hb h => by rcases F46 with z | z; rotate_left; (exfalso; have z1 := z.2.1; omega); have zk2 : (2 : Int32).toInt = 2 := (by decide); have y18 : v18 = kT.1.2.2.1.1 := (zIxN (n := 11) e18 (by decide)).trans (zSr_lt h.1).symm; rw [y18] at F20; have y36 : v36 = kT.1.2.2.2.1.1 := (zIxN (n := 14) e36 (by decide)).trans (zSr_pu h.1).symm; have zy36 := congrArg Int32.toInt y36; have q : sW_tld nb.toInt kT.1 kT.1.2.2.1.1 p1 2 = -1 := (by unfold sW_tld; exact (if_neg (by omega)).trans ((if_neg (by omega)).trans (if_neg (by omega)))); exact ⟨Or.inr ⟨by decide, q⟩, (zActAr (r := 0) (v := 0) q h (zKr_k hb.2 h F55 (by omega)) (zSr_L h.1 e64 (e68.trans (by rw [e67])) e69 e77 e79 e80 hb.2.1.2 hb.2.2.1.2) z.2.2 rfl).2⟩, f55_3, cq80_zNw_np⟩, ⟨by rw [ht]; exact hP, hD⟩⟩, hS.F ht⟩) hS.2.2 dX11_isTold_82
        · have c49 : ¬ v46.toInt = 0 := z6 rfl (by decide) c49
          refine lv_iconst (v := 0) hx hb dX11_isTold_52 (by decide) ?_
          have zr0 : (0 : Int32).toInt = 0 := by decide
          rw [hQ]
          exact W.zret (v := 0) (ty := .boolean) hx hb hr rfl (fun t ht hW => ⟨⟨0, (ac, fN, u46_0, fKp), rfl, ⟨by (try dsimp only); omega, by (try dsimp only); omega, by (try dsimp only); omega, by (try dsimp only); omega, by (try dsimp only); omega, by (try dsimp only); exact fun kc kT q_fR q_fBr q_fPa hc hb h => by exfalso; rcases F46 with z | z; (have z1 := z.1; omega); (have z1 := z.2.1; omega), ci_fKp_zKp_np__F_h0_32_, ci_fN_zNw_np⟩, ⟨by rw [ht]; exact hP, hD⟩⟩, hS.F ht⟩) hS.2.2 dX11_isTold_53
      · have c38 : v36.toInt < 2 := z4 (by decide) rfl c38
        refine lv_iconst (v := 2) hx hb dX11_isTold_41 (by decide) ?_
        refine lv_goto (tgt := 46) hx hb dX11_isTold_42 (by decide) ?_
        obtain ⟨hPc, hDc, hFc⟩ := zc3 (wc := [(h0, .inr (11, [.int th, .ref tB, .int tsz, .int tat, .int wr, .int dp, .ref rC, .ref rV, .ref rD, .ref rK, .ref rT, .ref rS, .ref rU, .int lw, .int tx, .ref rL, .ref rX, .ref qR, .ref qB, .ref qP, .int qnb, .int qnp, .ref aR, .ref aB, .ref aP, .int nb, .int np, .ref aN, .ref rf, .int ho, .int br, .ref aK, .int ac, .long dw, .ref aE, .int sr, .int sf, .ref aA, .ref aH, .ref aI, .int hi])), (rf, .inl (cI, 5, .inl frf))]) hP hD hS hA [0, 2] (by decide +kernel) rfl
        refine va_calli (va_runV (As := [.int 2]) (rest := []) ⟨hx, hb, hml, hown, hts⟩ (g_X11_isRefused l dC dI cI cJ h0 2 th tB tsz tat wr dp rC rV rD rK rT rS rU lw tx rL rX qR qB qP qnb qnp aR aB aP nb np aN rf ho br aK ac dw aE sr sf aA aH aI hi frf H.size n_ac y_hi y_ho y_lw n_nb n_np (by decide) y_qnb y_qnp y_tat y_tsz y_wr) (cwV 1 hts (zgV qw1481 qw1483 qw66 qw108 qw1484) rfl rfl rfl hd_X11_isRefused ⟨by rw [hR]; exact Nat.le_of_ble_eq_true rfl, by rw [hR]; exact Nat.le_of_ble_eq_true rfl⟩) (zPV hPc hK hDc (va_recv (q := (RX11, TX11, 41)) hK hP (ci := 11) (q0 := 0) rfl rfl)) rfl rfl hl.1 rfl (lv_room (Nat.le_of_ble_eq_true rfl)) dX11_isTold_46 ⟨Nat.zero_le _, Nat.zero_le _⟩) hS (fun q _ h => hFc q h) hFc (fun v46 u46 t H locs ht hvm hw hB hz1 hk1 hS9 => ?_)
        obtain ⟨u46_0, rfl⟩ : ∃ z, z = u46 := ⟨_, rfl⟩
        obtain ⟨hP9, hD9⟩ := zj2 (wX := [(h0, .inr (11, [.int th, .ref tB, .int tsz, .int tat, .int wr, .int dp, .ref rC, .ref rV, .ref rD, .ref rK, .ref rT, .ref rS, .ref rU, .int lw, .int tx, .ref rL, .ref rX, .ref qR, .ref qB, .ref qP, .int qnb, .int qnp, .ref aR, .ref aB, .ref aP, .int nb, .int np, .ref aN, .ref rf, .int ho, .int br, .ref aK, .int ac, .long dw, .ref aE, .int sr, .int sf, .ref aA, .ref aH, .ref aI, .int hi])), (aN, .inl (cI, 97, .inl fN)), (rf, .inl (cI, 5, .inl u46_0)), (aK, .inl (cI, 3880, .inl fKp))]) hP hD hk1 hFc ht hB [0, 2] [(true, 0), (false, 1), (true, 1), (false, 3)] rfl (by decide +kernel) (by decide +kernel) rfl
        clear hP hD hS hPc hDc hFc hB hk1 hz1 hvm
        have hP := hP9
        have hD := hD9
        have hS := hS9
        clear hP9 hD9 hS9
        have zn46_2 : (2 : Int32).toInt = 2 := by decide
        obtain ⟨f46_0, f46_1, f46_2, f46_3⟩ : (0 ≤ v46.toInt) ∧ (v46.toInt ≤ 1) ∧ (v46.toInt = 0 → (2 : Int32).toInt = -1) ∧ ((v46.toInt = 0 ∧ (2 : Int32).toInt = -1 ∧ u46_0 = frf) ∨ (v46.toInt = 1 ∧ ¬ (2 : Int32).toInt = -1 ∧ zRf frf u46_0 (2 : Int32).toInt)) := hw
        have F46 := f46_3
        refine lv_if_eq (tgt := 54) hx hb dX11_isTold_49 (by decide) (fun c49 => by exfalso; have c49 : v46.toInt = 0 := z5 rfl (by decide) c49; omega) (fun c49 => ?_)
        have c49 : ¬ v46.toInt = 0 := z6 rfl (by decide) c49
        refine lv_iconst (v := 0) hx hb dX11_isTold_52 (by decide) ?_
        have zr0 : (0 : Int32).toInt = 0 := by decide
        rw [hQ]
        exact W.zret (v := 0) (ty := .boolean) hx hb hr rfl (fun t ht hW => ⟨⟨0, (ac, fN, u46_0, fKp), rfl, ⟨by (try dsimp only); omega, by (try dsimp only); omega, by (try dsimp only); omega, by (try dsimp only); omega, by (try dsimp only); omega, by (try dsimp only); exact fun kc kT q_fR q_fBr q_fPa hc hb h => by rcases F46 with z | z; (exfalso; have z1 := z.2.1; omega); have zk2 : (2 : Int32).toInt = 2 := (by decide); have y18 : v18 = kT.1.2.2.1.1 := (zIxN (n := 11) e18 (by decide)).trans (zSr_lt h.1).symm; rw [y18] at F20; have y36 : v36 = kT.1.2.2.2.1.1 := (zIxN (n := 14) e36 (by decide)).trans (zSr_pu h.1).symm; have zy36 := congrArg Int32.toInt y36; have q : sW_tld nb.toInt kT.1 kT.1.2.2.1.1 p1 2 = (2 : Int32).toInt := (by unfold sW_tld; exact ((if_neg (by omega)).trans ((if_neg (by omega)).trans (if_pos (by omega)))).trans (by omega)); exact ⟨Or.inl ⟨by decide, by omega⟩, (zActRr (v := 0) q (by omega) h z.2.2).2⟩, ci_fKp_zKp_np__F_h0_32_, ci_fN_zNw_np⟩, ⟨by rw [ht]; exact hP, hD⟩⟩, hS.F ht⟩) hS.2.2 dX11_isTold_53
    · have c23 : ¬ v20.toInt = 0 := z6 rfl (by decide) c23
      refine lv_iconst (v := 1) hx hb dX11_isTold_26 (by decide) ?_
      refine lv_goto (tgt := 46) hx hb dX11_isTold_27 (by decide) ?_
      obtain ⟨hPc, hDc, hFc⟩ := zc3 (wc := [(h0, .inr (11, [.int th, .ref tB, .int tsz, .int tat, .int wr, .int dp, .ref rC, .ref rV, .ref rD, .ref rK, .ref rT, .ref rS, .ref rU, .int lw, .int tx, .ref rL, .ref rX, .ref qR, .ref qB, .ref qP, .int qnb, .int qnp, .ref aR, .ref aB, .ref aP, .int nb, .int np, .ref aN, .ref rf, .int ho, .int br, .ref aK, .int ac, .long dw, .ref aE, .int sr, .int sf, .ref aA, .ref aH, .ref aI, .int hi])), (rf, .inl (cI, 5, .inl frf))]) hP hD hS hA [0, 2] (by decide +kernel) rfl
      refine va_calli (va_runV (As := [.int 1]) (rest := []) ⟨hx, hb, hml, hown, hts⟩ (g_X11_isRefused l dC dI cI cJ h0 1 th tB tsz tat wr dp rC rV rD rK rT rS rU lw tx rL rX qR qB qP qnb qnp aR aB aP nb np aN rf ho br aK ac dw aE sr sf aA aH aI hi frf H.size n_ac y_hi y_ho y_lw n_nb n_np (by decide) y_qnb y_qnp y_tat y_tsz y_wr) (cwV 1 hts (zgV qw1481 qw1483 qw66 qw108 qw1484) rfl rfl rfl hd_X11_isRefused ⟨by rw [hR]; exact Nat.le_of_ble_eq_true rfl, by rw [hR]; exact Nat.le_of_ble_eq_true rfl⟩) (zPV hPc hK hDc (va_recv (q := (RX11, TX11, 41)) hK hP (ci := 11) (q0 := 0) rfl rfl)) rfl rfl hl.1 rfl (lv_room (Nat.le_of_ble_eq_true rfl)) dX11_isTold_46 ⟨Nat.zero_le _, Nat.zero_le _⟩) hS (fun q _ h => hFc q h) hFc (fun v46 u46 t H locs ht hvm hw hB hz1 hk1 hS9 => ?_)
      obtain ⟨u46_0, rfl⟩ : ∃ z, z = u46 := ⟨_, rfl⟩
      obtain ⟨hP9, hD9⟩ := zj2 (wX := [(h0, .inr (11, [.int th, .ref tB, .int tsz, .int tat, .int wr, .int dp, .ref rC, .ref rV, .ref rD, .ref rK, .ref rT, .ref rS, .ref rU, .int lw, .int tx, .ref rL, .ref rX, .ref qR, .ref qB, .ref qP, .int qnb, .int qnp, .ref aR, .ref aB, .ref aP, .int nb, .int np, .ref aN, .ref rf, .int ho, .int br, .ref aK, .int ac, .long dw, .ref aE, .int sr, .int sf, .ref aA, .ref aH, .ref aI, .int hi])), (aN, .inl (cI, 97, .inl fN)), (rf, .inl (cI, 5, .inl u46_0)), (aK, .inl (cI, 3880, .inl fKp))]) hP hD hk1 hFc ht hB [0, 2] [(true, 0), (false, 1), (true, 1), (false, 3)] rfl (by decide +kernel) (by decide +kernel) rfl
      clear hP hD hS hPc hDc hFc hB hk1 hz1 hvm
      have hP := hP9
      have hD := hD9
      have hS := hS9
      clear hP9 hD9 hS9
      have zn46_1 : (1 : Int32).toInt = 1 := by decide
      obtain ⟨f46_0, f46_1, f46_2, f46_3⟩ : (0 ≤ v46.toInt) ∧ (v46.toInt ≤ 1) ∧ (v46.toInt = 0 → (1 : Int32).toInt = -1) ∧ ((v46.toInt = 0 ∧ (1 : Int32).toInt = -1 ∧ u46_0 = frf) ∨ (v46.toInt = 1 ∧ ¬ (1 : Int32).toInt = -1 ∧ zRf frf u46_0 (1 : Int32).toInt)) := hw
      have F46 := f46_3
      refine lv_if_eq (tgt := 54) hx hb dX11_isTold_49 (by decide) (fun c49 => by exfalso; have c49 : v46.toInt = 0 := z5 rfl (by decide) c49; omega) (fun c49 => ?_)
      have c49 : ¬ v46.toInt = 0 := z6 rfl (by decide) c49
      refine lv_iconst (v := 0) hx hb dX11_isTold_52 (by decide) ?_
      have zr0 : (0 : Int32).toInt = 0 := by decide
      rw [hQ]
      exact W.zret (v := 0) (ty := .boolean) hx hb hr rfl (fun t ht hW => ⟨⟨0, (ac, fN, u46_0, fKp), rfl, ⟨by (try dsimp only); omega, by (try dsimp only); omega, by (try dsimp only); omega, by (try dsimp only); omega, by (try dsimp only); omega, by (try dsimp only); exact fun kc kT q_fR q_fBr q_fPa hc hb h => by rcases F46 with z | z; (exfalso; have z1 := z.2.1; omega); have zk2 : (2 : Int32).toInt = 2 := (by decide); have y18 : v18 = kT.1.2.2.1.1 := (zIxN (n := 11) e18 (by decide)).trans (zSr_lt h.1).symm; rw [y18] at F20; have q : sW_tld nb.toInt kT.1 kT.1.2.2.1.1 p1 2 = (1 : Int32).toInt := (by unfold sW_tld; exact ((if_neg (by omega)).trans (if_pos (by omega))).trans (by omega)); exact ⟨Or.inl ⟨by decide, by omega⟩, (zActRr (v := 0) q (by omega) h z.2.2).2⟩, ci_fKp_zKp_np__F_h0_32_, ci_fN_zNw_np⟩, ⟨by rw [ht]; exact hP, hD⟩⟩, hS.F ht⟩) hS.2.2 dX11_isTold_53
  · have c6 : v3.toInt = 0 := z5 rfl (by decide) c6
    refine lv_iconst (v := 0) hx hb dX11_isTold_9 (by decide) ?_
    refine lv_goto (tgt := 46) hx hb dX11_isTold_10 (by decide) ?_
    obtain ⟨hPc, hDc, hFc⟩ := zc3 (wc := [(h0, .inr (11, [.int th, .ref tB, .int tsz, .int tat, .int wr, .int dp, .ref rC, .ref rV, .ref rD, .ref rK, .ref rT, .ref rS, .ref rU, .int lw, .int tx, .ref rL, .ref rX, .ref qR, .ref qB, .ref qP, .int qnb, .int qnp, .ref aR, .ref aB, .ref aP, .int nb, .int np, .ref aN, .ref rf, .int ho, .int br, .ref aK, .int ac, .long dw, .ref aE, .int sr, .int sf, .ref aA, .ref aH, .ref aI, .int hi])), (rf, .inl (cI, 5, .inl frf))]) hP hD hS hA [0, 2] (by decide +kernel) rfl
    refine va_calli (va_runV (As := [.int 0]) (rest := []) ⟨hx, hb, hml, hown, hts⟩ (g_X11_isRefused l dC dI cI cJ h0 0 th tB tsz tat wr dp rC rV rD rK rT rS rU lw tx rL rX qR qB qP qnb qnp aR aB aP nb np aN rf ho br aK ac dw aE sr sf aA aH aI hi frf H.size n_ac y_hi y_ho y_lw n_nb n_np (by decide) y_qnb y_qnp y_tat y_tsz y_wr) (cwV 1 hts (zgV qw1481 qw1483 qw66 qw108 qw1484) rfl rfl rfl hd_X11_isRefused ⟨by rw [hR]; exact Nat.le_of_ble_eq_true rfl, by rw [hR]; exact Nat.le_of_ble_eq_true rfl⟩) (zPV hPc hK hDc (va_recv (q := (RX11, TX11, 41)) hK hP (ci := 11) (q0 := 0) rfl rfl)) rfl rfl hl.1 rfl (lv_room (Nat.le_of_ble_eq_true rfl)) dX11_isTold_46 ⟨Nat.zero_le _, Nat.zero_le _⟩) hS (fun q _ h => hFc q h) hFc (fun v46 u46 t H locs ht hvm hw hB hz1 hk1 hS9 => ?_)
    obtain ⟨u46_0, rfl⟩ : ∃ z, z = u46 := ⟨_, rfl⟩
    obtain ⟨hP9, hD9⟩ := zj2 (wX := [(h0, .inr (11, [.int th, .ref tB, .int tsz, .int tat, .int wr, .int dp, .ref rC, .ref rV, .ref rD, .ref rK, .ref rT, .ref rS, .ref rU, .int lw, .int tx, .ref rL, .ref rX, .ref qR, .ref qB, .ref qP, .int qnb, .int qnp, .ref aR, .ref aB, .ref aP, .int nb, .int np, .ref aN, .ref rf, .int ho, .int br, .ref aK, .int ac, .long dw, .ref aE, .int sr, .int sf, .ref aA, .ref aH, .ref aI, .int hi])), (aN, .inl (cI, 97, .inl fN)), (rf, .inl (cI, 5, .inl u46_0)), (aK, .inl (cI, 3880, .inl fKp))]) hP hD hk1 hFc ht hB [0, 2] [(true, 0), (false, 1), (true, 1), (false, 3)] rfl (by decide +kernel) (by decide +kernel) rfl
    clear hP hD hS hPc hDc hFc hB hk1 hz1 hvm
    have hP := hP9
    have hD := hD9
    have hS := hS9
    clear hP9 hD9 hS9
    have zn46_0 : (0 : Int32).toInt = 0 := by decide
    obtain ⟨f46_0, f46_1, f46_2, f46_3⟩ : (0 ≤ v46.toInt) ∧ (v46.toInt ≤ 1) ∧ (v46.toInt = 0 → (0 : Int32).toInt = -1) ∧ ((v46.toInt = 0 ∧ (0 : Int32).toInt = -1 ∧ u46_0 = frf) ∨ (v46.toInt = 1 ∧ ¬ (0 : Int32).toInt = -1 ∧ zRf frf u46_0 (0 : Int32).toInt)) := hw
    have F46 := f46_3
    refine lv_if_eq (tgt := 54) hx hb dX11_isTold_49 (by decide) (fun c49 => by exfalso; have c49 : v46.toInt = 0 := z5 rfl (by decide) c49; omega) (fun c49 => ?_)
    have c49 : ¬ v46.toInt = 0 := z6 rfl (by decide) c49
    refine lv_iconst (v := 0) hx hb dX11_isTold_52 (by decide) ?_
    have zr0 : (0 : Int32).toInt = 0 := by decide
    rw [hQ]
    exact W.zret (v := 0) (ty := .boolean) hx hb hr rfl (fun t ht hW => ⟨⟨0, (ac, fN, u46_0, fKp), rfl, ⟨by (try dsimp only); omega, by (try dsimp only); omega, by (try dsimp only); omega, by (try dsimp only); omega, by (try dsimp only); omega, by (try dsimp only); exact fun kc kT q_fR q_fBr q_fPa hc hb h => by rcases F46 with z | z; (exfalso; have z1 := z.2.1; omega); have zk2 : (2 : Int32).toInt = 2 := (by decide); have q : sW_tld nb.toInt kT.1 kT.1.2.2.1.1 p1 2 = (0 : Int32).toInt := (by unfold sW_tld; exact (if_pos (by omega)).trans (by omega)); exact ⟨Or.inl ⟨by decide, by omega⟩, (zActRr (v := 0) q (by omega) h z.2.2).2⟩, ci_fKp_zKp_np__F_h0_32_, ci_fN_zNw_np⟩, ⟨by rw [ht]; exact hP, hD⟩⟩, hS.F ht⟩) hS.2.2 dX11_isTold_53
