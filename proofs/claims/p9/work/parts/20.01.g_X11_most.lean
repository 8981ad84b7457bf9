set_option maxHeartbeats 4000000 in
set_option maxRecDepth 100000 in
theorem g_X11_truth (l : Launch) (dC : Nat → ClassId) (dI : Nat → Nat → Nat) (cI cJ : ClassId) (h0 : Nat) (p0 : Int32) (p1 : Int32) (th : Int32) (tB : Nat) (tsz : Int32) (tat : Int32) (wr : Int32) (dp : Int32) (rC : Nat) (rV : Nat) (rD : Nat) (rK : Nat) (rT : Nat) (rS : Nat) (rU : Nat) (lw : Int32) (tx : Int32) (rL : Nat) (rX : Nat) (qR : Nat) (qB : Nat) (qP : Nat) (qnb : Int32) (qnp : Int32) (aR : Nat) (aB : Nat) (aP : Nat) (nb : Int32) (np : Int32) (aN : Nat) (rf : Nat) (ho : Int32) (br : Int32) (aK : Nat) (ac : Int32) (dw : Int64) (aE : Nat) (sr : Int32) (sf : Int32) (aA : Nat) (aH : Nat) (aI : Nat) (hi : Int32) (fN : Nat → Int32) (sz : Nat) (n_ac : 0 ≤ ac.toInt ∧ ac.toInt ≤ 40) (n_hi : 0 ≤ hi.toInt ∧ hi.toInt ≤ 1) (n_ho : (-1) ≤ ho.toInt ∧ ho.toInt ≤ 3) (n_lw : 0 ≤ lw.toInt ∧ lw.toInt ≤ 4) (n_nb : 0 ≤ nb.toInt ∧ nb.toInt ≤ 6) (n_np : 0 ≤ np.toInt ∧ np.toInt ≤ 5) (n_qnb : 0 ≤ qnb.toInt ∧ qnb.toInt ≤ 6) (n_qnp : 0 ≤ qnp.toInt ∧ qnp.toInt ≤ 5) (n_tat : 0 ≤ tat.toInt ∧ tat.toInt ≤ 260) (n_tsz : 0 ≤ tsz.toInt ∧ tsz.toInt ≤ 240) (n_wr : (-1) ≤ wr.toInt ∧ wr.toInt ≤ 260)  (ci_fN_zNw_np : zNw np fN)  : Met l yX11_truth (.code yX11_truth cX11_truth 3 (some .int) :: wA) ({ frames := 3, cells := 0, slots := 0, locals := 65 }) (zP (dC, dI) [(cI, .int), (cJ, .long)] [.ref h0, .int p0, .int p1] sz [(h0, .inr (11, [.int th, .ref tB, .int tsz, .int tat, .int wr, .int dp, .ref rC, .ref rV, .ref rD, .ref rK, .ref rT, .ref rS, .ref rU, .int lw, .int tx, .ref rL, .ref rX, .ref qR, .ref qB, .ref qP, .int qnb, .int qnp, .ref aR, .ref aB, .ref aP, .int nb, .int np, .ref aN, .ref rf, .int ho, .int br, .ref aK, .int ac, .long dw, .ref aE, .int sr, .int sf, .ref aA, .ref aH, .ref aI, .int hi])), (aN, .inl (cI, 97, .inl fN))]) (va_Qi (fun (r : Int32) (u : Unit) => ((-1) ≤ r.toInt) ∧ (r.toInt ≤ 1) ∧ (∀ (kc : zK3) (kT : zT) (q_fR : Nat → Int32) (q_fBr : Nat → Int32) (q_fPa : Nat → Int32) (q_fKp : Nat → Int32) (q_frf : Nat → Int32), zCn q_fR q_fBr q_fPa nb.toInt np.toInt kc → zKo nb.toInt np.toInt kc kT → zTr nb.toInt np.toInt kT fN q_fKp ac q_frf → r = sV_tru nb.toInt np.toInt kT.1 p0 p1)) (fun (_ : Unit) (_ : State) => True) (va_A [] sz)) 0 0 (va_A [] sz) := by
  refine Met.ofW (cc := cX11_truth) (maxL := 3) (ret := (some .int)) (by decide) rfl ?_
  intro p e s m args below meth c s₁ B hml hv
  have y_ac : zHid (0 ≤ ac.toInt ∧ ac.toInt ≤ 40) := n_ac
  have y_hi : zHid (0 ≤ hi.toInt ∧ hi.toInt ≤ 1) := n_hi
  have y_ho : zHid ((-1) ≤ ho.toInt ∧ ho.toInt ≤ 3) := n_ho
  have y_lw : zHid (0 ≤ lw.toInt ∧ lw.toInt ≤ 4) := n_lw
  have y_qnb : zHid (0 ≤ qnb.toInt ∧ qnb.toInt ≤ 6) := n_qnb
  have y_qnp : zHid (0 ≤ qnp.toInt ∧ qnp.toInt ≤ 5) := n_qnp
  have y_tat : zHid (0 ≤ tat.toInt ∧ tat.toInt ≤ 260) := n_tat
  have y_tsz : zHid (0 ≤ tsz.toInt ∧ tsz.toInt ≤ 240) := n_tsz
  have y_wr : zHid ((-1) ≤ wr.toInt ∧ wr.toInt ≤ 260) := n_wr
  clear n_ac n_hi n_ho n_lw n_qnb n_qnp n_tat n_tsz n_wr
  obtain ⟨hargs, hsz, hP, hK, hT⟩ := hv
  have hx := B.exec
  have hb := B.bytes
  have hr := B.returns
  have hts : ∀ w ∈ wA, w.before args s = true := fun w h => atoms_spec (ws := .code yX11_truth cX11_truth 3 (some .int) :: wA) B.pre w (List.mem_cons_of_mem _ h)
  have hown : s.vm.findClass RX11 = some m.cls := findClass_of_methodNamed B.named
  have hlocks := B.notSynchronized
  subst hsz
  have hD : va_D (va_A [] s.heap.size) [] := zD0
  generalize hAe : va_A [] s.heap.size = A at hD ⊢
  have hA : ∀ q : Nat, s.heap.size ≤ q → A q := fun q h => by rw [← hAe]; exact Or.inr h
  have hl := lv_entry ([.ref h0, .int p0, .int p1]) (n := 3) (Nat.le_of_ble_eq_true rfl)
  rw [show entryFrame m args 3 = entryFrame m ([.ref h0, .int p0, .int p1] : List Value).toArray 3 by rw [hargs], lg_entry_eq]
  generalize (lg_sl ([.ref h0, .int p0, .int p1]) ++ List.replicate (3 - (lg_sl ([.ref h0, .int p0, .int p1])).length) Slot.unset).toArray = ls at hl ⊢
  have hl : lv_has ls 3 [(0, .ref h0), (1, .int p0), (2, .int p1)] := hl
  refine zstart (fun H hH => ?_)
  rw [← hH] at hP
  have hS : va_S A s.heap H [] := by rw [hH]; exact va_S.rf
  generalize ([] : List Loc) = locs at hS ⊢
  refine zgen (fun R Q hR hQ => ?_)
  refine lv_aload_n hx hb dX11_truth_0 rfl (lv_at hl 0 rfl) ?_
  refine lv_iload_n hx hb dX11_truth_1 rfl (lv_at hl 1 rfl) ?_
  refine lv_iload_n hx hb dX11_truth_2 rfl (lv_at hl 2 rfl) ?_
  obtain ⟨hPc, hDc⟩ := zc2 (wc := [(h0, .inr (11, [.int th, .ref tB, .int tsz, .int tat, .int wr, .int dp, .ref rC, .ref rV, .ref rD, .ref rK, .ref rT, .ref rS, .ref rU, .int lw, .int tx, .ref rL, .ref rX, .ref qR, .ref qB, .ref qP, .int qnb, .int qnp, .ref aR, .ref aB, .ref aP, .int nb, .int np, .ref aN, .ref rf, .int ho, .int br, .ref aK, .int ac, .long dw, .ref aE, .int sr, .int sf, .ref aA, .ref aH, .ref aI, .int hi]))]) hP hT [0] (by decide +kernel) rfl
  have hFc := zfr hS hA
  refine va_calli (va_runV (As := [.int p0, .int p1]) (rest := []) ⟨hx, hb, hml, hown, hts⟩ (g_X11_areBoth l dC dI cI cJ h0 p0 p1 th tB tsz tat wr dp rC rV rD rK rT rS rU lw tx rL rX qR qB qP qnb qnp aR aB aP nb np aN rf ho br aK ac dw aE sr sf aA aH aI hi H.size y_ac y_hi y_ho y_lw n_nb n_np y_qnb y_qnp y_tat y_tsz y_wr) (cwV 2 hts (zgV qw1422 qw1424 qw58 qw108 qw1425) rfl rfl rfl hd_X11_areBoth ⟨by rw [hR]; exact Nat.le_of_ble_eq_true rfl, by rw [hR]; exact Nat.le_of_ble_eq_true rfl⟩) (zPV hPc hK hDc (va_recv (q := (RX11, TX11, 41)) hK hP (ci := 11) (q0 := 0) rfl rfl)) rfl rfl hl.1 rfl (lv_room (Nat.le_of_ble_eq_true rfl)) dX11_truth_3 ⟨Nat.zero_le _, Nat.zero_le _⟩) hS (fun q _ h => hFc q h) hFc (fun v3 u3 t H locs ht hvm hw hB hz1 hk1 hS9 => ?_)
  replace hP := zkeep hP hk1
  replace hS := hS9
  clear hPc hDc hFc hk1 hz1 hvm hS9
  obtain ⟨f3_0, f3_1, f3_2, f3_3⟩ : (0 ≤ v3.toInt) ∧ (v3.toInt ≤ 1) ∧ (¬ v3.toInt = 0 → (0 ≤ p0.toInt ∧ p0.toInt < np.toInt ∧ 0 ≤ p1.toInt ∧ p1.toInt < nb.toInt)) ∧ (v3.toInt = 0 → ¬ ((0 ≤ p0.toInt ∧ p0.toInt < np.toInt) ∧ 0 ≤ p1.toInt ∧ p1.toInt < nb.toInt)) := hw
  refine lv_if_ne (tgt := 13) hx hb dX11_truth_6 (by decide) (fun c6 => ?_) (fun c6 => ?_)
  · have c6 : ¬ v3.toInt = 0 := z6 rfl (by decide) c6
    refine lv_aload_n hx hb dX11_truth_13 rfl (lv_at hl 0 rfl) ?_
    refine va_get (D := (dC, dI)) (ci := 11) (v := .ref aN) (C := RX11) (T := TX11) (N := 41) hx hb hts iX11 hown hK hP 0 rfl rfl 27 (by decide) (hts _ qw1154) (fun _ h9 => h9) rfl dX11_truth_14 ?_
    refine lv_iconst (v := 0) hx hb dX11_truth_17 (by decide) ?_
    refine lv_iload_n hx hb dX11_truth_18 rfl (lv_at hl 2 rfl) ?_
    refine lv_iadd hx hb dX11_truth_19 ?_
    refine lv_topi (fun v19 e19 => ?_)
    have i19 : v19.toInt = 0 + p1.toInt := zadd e19 (by decide) rfl (by omega) (by omega)
    refine va_iald hx hb hK hP 1 0 rfl rfl (vp_in_iff.mpr ⟨by omega, by omega⟩) dX11_truth_20 ?_
    refine lv_topi (fun v20 e20 => ?_)
    refine lv_aload_n hx hb dX11_truth_21 rfl (lv_at hl 0 rfl) ?_
    refine va_get (D := (dC, dI)) (ci := 11) (v := .ref aN) (C := RX11) (T := TX11) (N := 41) hx hb hts iX11 hown hK hP 0 rfl rfl 27 (by decide) (hts _ qw1154) (fun _ h9 => h9) rfl dX11_truth_22 ?_
    refine lv_bipush (v := 6) hx hb dX11_truth_25 (by decide) ?_
    refine lv_iload_n hx hb dX11_truth_27 rfl (lv_at hl 1 rfl) ?_
    refine lv_iadd hx hb dX11_truth_28 ?_
    refine lv_topi (fun v28 e28 => ?_)
    have i28 : v28.toInt = 6 + p0.toInt := zadd e28 (by decide) rfl (by omega) (by omega)
    refine va_iald hx hb hK hP 1 0 rfl rfl (vp_in_iff.mpr ⟨by omega, by omega⟩) dX11_truth_29 ?_
    refine lv_topi (fun v29 e29 => ?_)
    refine lv_aload_n hx hb dX11_truth_30 rfl (lv_at hl 0 rfl) ?_
    refine lv_iload_n hx hb dX11_truth_31 rfl (lv_at hl 1 rfl) ?_
    refine lv_aload_n hx hb dX11_truth_32 rfl (lv_at hl 0 rfl) ?_
    refine va_get (D := (dC, dI)) (ci := 11) (v := .ref aN) (C := RX11) (T := TX11) (N := 41) hx hb hts iX11 hown hK hP 0 rfl rfl 27 (by decide) (hts _ qw1154) (fun _ h9 => h9) rfl dX11_truth_33 ?_
    refine lv_iconst (v := 0) hx hb dX11_truth_36 (by decide) ?_
    refine lv_iload_n hx hb dX11_truth_37 rfl (lv_at hl 2 rfl) ?_
    refine lv_iadd hx hb dX11_truth_38 ?_
    refine lv_topi (fun v38 e38 => ?_)
    have i38 : v38.toInt = 0 + p1.toInt := zadd e38 (by decide) rfl (by omega) (by omega)
    refine va_iald hx hb hK hP 1 0 rfl rfl (vp_in_iff.mpr ⟨by omega, by omega⟩) dX11_truth_39 ?_
    refine lv_topi (fun v39 e39 => ?_)
    obtain ⟨hPc, hDc⟩ := zc2 (wc := [(h0, .inr (11, [.int th, .ref tB, .int tsz, .int tat, .int wr, .int dp, .ref rC, .ref rV, .ref rD, .ref rK, .ref rT, .ref rS, .ref rU, .int lw, .int tx, .ref rL, .ref rX, .ref qR, .ref qB, .ref qP, .int qnb, .int qnp, .ref aR, .ref aB, .ref aP, .int nb, .int np, .ref aN, .ref rf, .int ho, .int br, .ref aK, .int ac, .long dw, .ref aE, .int sr, .int sf, .ref aA, .ref aH, .ref aI, .int hi])), (aN, .inl (cI, 97, .inl fN))]) hP hT [0, 1] (by decide +kernel) rfl
    have hFc := zfr hS hA
    refine va_calli (va_runV (As := [.int p0, .int v39]) (rest := [.int v29, .int v20]) ⟨hx, hb, hml, hown, hts⟩ (g_X11_flatteryBy l dC dI cI cJ h0 p0 v39 th tB tsz tat wr dp rC rV rD rK rT rS rU lw tx rL rX qR qB qP qnb qnp aR aB aP nb np aN rf ho br aK ac dw aE sr sf aA aH aI hi fN H.size y_ac y_hi y_ho y_lw n_nb n_np (by omega) y_qnb y_qnp y_tat y_tsz y_wr) (cwV 2 hts (zgV qw1426 qw1428 qw59 qw108 qw1429) rfl rfl rfl hd_X11_flatteryBy ⟨by rw [hR]; exact Nat.le_of_ble_eq_true rfl, by rw [hR]; exact Nat.le_of_ble_eq_true rfl⟩) (zPV hPc hK hDc (va_recv (q := (RX11, TX11, 41)) hK hP (ci := 11) (q0 := 0) rfl rfl)) rfl rfl hl.1 rfl (lv_room (Nat.le_of_ble_eq_true rfl)) dX11_truth_40 ⟨Nat.zero_le _, Nat.zero_le _⟩) hS (fun q _ h => hFc q h) hFc (fun v40 u40 t H locs ht hvm hw hB hz1 hk1 hS9 => ?_)
    replace hP := zkeep hP hk1
    replace hS := hS9
    clear hPc hDc hFc hk1 hz1 hvm hS9
    obtain ⟨f40_0, f40_1⟩ : (0 ≤ v40.toInt) ∧ (v40 = zFl (fN (6 + p0.toInt.toNat)) v39) := hw
    have F40 := f40_1
    refine lv_imul hx hb dX11_truth_43 ?_
    refine lv_topi (fun v43 e43 => ?_)
    refine lv_iconst (v := 3) hx hb dX11_truth_44 (by decide) ?_
    refine lv_idiv hx hb dX11_truth_45 (by decide) ?_
    refine lv_topi (fun v45 e45 => ?_)
    refine lv_icmp_gt (tgt := 53) hx hb dX11_truth_46 (by decide) (fun c46 => ?_) (fun c46 => ?_)
    · have c46 : v45.toInt < v20.toInt := z1 rfl rfl c46
      refine lv_iconst (v := 0) hx hb dX11_truth_53 (by decide) ?_
      have zr0 : (0 : Int32).toInt = 0 := by decide
      rw [hQ]
      exact W.iret (v := 0) hx hb hr (fun t ht hW => ⟨⟨0, (), rfl, ⟨by (try dsimp only); omega, by (try dsimp only); omega, by (try dsimp only); exact fun kc kT q_fR q_fBr q_fPa q_fKp q_frf hc hb h => by have y20 : v20 = kT.1.1 p1.toInt.toNat := (zIxN (n := p1.toInt.toNat) e20 (by omega)).trans (h.1.1 _ (by omega)); have y29 : v29 = kT.1.2.1 p0.toInt.toNat := (zIxN (n := 6 + p0.toInt.toNat) e29 (by omega)).trans (h.1.2.1 _ (by omega)); have y39 : v39 = kT.1.1 p1.toInt.toNat := (zIxN (n := p1.toInt.toNat) e39 (by omega)).trans (h.1.1 _ (by omega)); have y40 : v40 = zFl (kT.1.2.1 p0.toInt.toNat) (kT.1.1 p1.toInt.toNat) := (by rw [F40, y39, h.1.2.1 _ (by omega)]); have y45 : kT.1.2.1 p0.toInt.toNat * zFl (kT.1.2.1 p0.toInt.toNat) (kT.1.1 p1.toInt.toNat) / 3 = v45 := (by rw [e45, e43, y29, y40]); have z45 := congrArg Int32.toInt y45; have z20 := congrArg Int32.toInt y20; unfold sV_tru; rw [if_pos (by omega)]; exact (if_neg (by omega)).symm⟩, trivial⟩, hS.F ht⟩) hS.2.2 dX11_truth_54
    · have c46 : v20.toInt ≤ v45.toInt := z2 rfl rfl c46
      refine lv_iconst (v := 1) hx hb dX11_truth_49 (by decide) ?_
      refine lv_goto (tgt := 54) hx hb dX11_truth_50 (by decide) ?_
      have zr0 : (1 : Int32).toInt = 1 := by decide
      rw [hQ]
      exact W.iret (v := 1) hx hb hr (fun t ht hW => ⟨⟨1, (), rfl, ⟨by (try dsimp only); omega, by (try dsimp only); omega, by (try dsimp only); exact fun kc kT q_fR q_fBr q_fPa q_fKp q_frf hc hb h => by have y20 : v20 = kT.1.1 p1.toInt.toNat := (zIxN (n := p1.toInt.toNat) e20 (by omega)).trans (h.1.1 _ (by omega)); have y29 : v29 = kT.1.2.1 p0.toInt.toNat := (zIxN (n := 6 + p0.toInt.toNat) e29 (by omega)).trans (h.1.2.1 _ (by omega)); have y39 : v39 = kT.1.1 p1.toInt.toNat := (zIxN (n := p1.toInt.toNat) e39 (by omega)).trans (h.1.1 _ (by omega)); have y40 : v40 = zFl (kT.1.2.1 p0.toInt.toNat) (kT.1.1 p1.toInt.toNat) := (by rw [F40, y39, h.1.2.1 _ (by omega)]); have y45 : kT.1.2.1 p0.toInt.toNat * zFl (kT.1.2.1 p0.toInt.toNat) (kT.1.1 p1.toInt.toNat) / 3 = v45 := (by rw [e45, e43, y29, y40]); have z45 := congrArg Int32.toInt y45; have z20 := congrArg Int32.toInt y20; unfold sV_tru; rw [if_pos (by omega)]; exact (if_pos (by omega)).symm⟩, trivial⟩, hS.F ht⟩) hS.2.2 dX11_truth_54
  · have c6 : v3.toInt = 0 := z5 rfl (by decide) c6
    refine lv_iconst (v := (-1)) hx hb dX11_truth_9 (by decide) ?_
    refine lv_goto (tgt := 54) hx hb dX11_truth_10 (by decide) ?_
    have zr0 : ((-1) : Int32).toInt = (-1) := by decide
    rw [hQ]
    exact W.iret (v := ((-1))) hx hb hr (fun t ht hW => ⟨⟨(-1), (), rfl, ⟨by (try dsimp only); omega, by (try dsimp only); omega, by (try dsimp only); exact fun kc kT q_fR q_fBr q_fPa q_fKp q_frf hc hb h => by unfold sV_tru; rw [if_neg (by omega)]; ⟩, trivial⟩, hS.F ht⟩) hS.2.2 dX11_truth_54
set_option maxHeartbeats 4000000 in
set_option maxRecDepth 100000 in
theorem g_X11_looks (l : Launch) (dC : Nat → ClassId) (dI : Nat → Nat → Nat) (cI cJ : ClassId) (h0 : Nat) (p0 : Int32) (th : Int32) (tB : Nat) (tsz : Int32) (tat : Int32) (wr : Int32) (dp : Int32) (rC : Nat) (rV : Nat) (rD : Nat) (rK : Nat) (rT : Nat) (rS : Nat) (rU : Nat) (lw : Int32) (tx : Int32) (rL : Nat) (rX : Nat) (qR : Nat) (qB : Nat) (qP : Nat) (qnb : Int32) (qnp : Int32) (aR : Nat) (aB : Nat) (aP : Nat) (nb : Int32) (np : Int32) (aN : Nat) (rf : Nat) (ho : Int32) (br : Int32) (aK : Nat) (ac : Int32) (dw : Int64) (aE : Nat) (sr : Int32) (sf : Int32) (aA : Nat) (aH : Nat) (aI : Nat) (hi : Int32) (fBr : Nat → Int32) (fN : Nat → Int32) (sz : Nat) (n_ac : 0 ≤ ac.toInt ∧ ac.toInt ≤ 40) (n_hi : 0 ≤ hi.toInt ∧ hi.toInt ≤ 1) (n_ho : (-1) ≤ ho.toInt ∧ ho.toInt ≤ 3) (n_lw : 0 ≤ lw.toInt ∧ lw.toInt ≤ 4) (n_nb : 0 ≤ nb.toInt ∧ nb.toInt ≤ 6) (n_np : 0 ≤ np.toInt ∧ np.toInt ≤ 5) (n_qnb : 0 ≤ qnb.toInt ∧ qnb.toInt ≤ 6) (n_qnp : 0 ≤ qnp.toInt ∧ qnp.toInt ≤ 5) (n_tat : 0 ≤ tat.toInt ∧ tat.toInt ≤ 260) (n_tsz : 0 ≤ tsz.toInt ∧ tsz.toInt ≤ 240) (n_wr : (-1) ≤ wr.toInt ∧ wr.toInt ≤ 260)  (ci_fBr_zBr_nb : zBr nb fBr) (ci_fN_zNw_np : zNw np fN)  : Met l yX11_looks (.code yX11_looks cX11_looks 2 (some .int) :: wA) ({ frames := 3, cells := 0, slots := 0, locals := 68 }) (zP (dC, dI) [(cI, .int), (cJ, .long)] [.ref h0, .int p0] sz [(h0, .inr (11, [.int th, .ref tB, .int tsz, .int tat, .int wr, .int dp, .ref rC, .ref rV, .ref rD, .ref rK, .ref rT, .ref rS, .ref rU, .int lw, .int tx, .ref rL, .ref rX, .ref qR, .ref qB, .ref qP, .int qnb, .int qnp, .ref aR, .ref aB, .ref aP, .int nb, .int np, .ref aN, .ref rf, .int ho, .int br, .ref aK, .int ac, .long dw, .ref aE, .int sr, .int sf, .ref aA, .ref aH, .ref aI, .int hi])), (aB, .inl (cI, 24, .inl fBr)), (aN, .inl (cI, 97, .inl fN))]) (va_Qi (fun (r : Int32) (u : Unit) => (∀ (kc : zK3) (kT : zT) (q_fR : Nat → Int32) (q_fPa : Nat → Int32) (q_fKp : Nat → Int32) (q_frf : Nat → Int32), zCn q_fR fBr q_fPa nb.toInt np.toInt kc → zKo nb.toInt np.toInt kc kT → zTr nb.toInt np.toInt kT fN q_fKp ac q_frf → r = sV_loo nb.toInt kc kT.1 p0)) (fun (_ : Unit) (_ : State) => True) (va_A [] sz)) 0 0 (va_A [] sz) := by
  refine Met.ofW (cc := cX11_looks) (maxL := 2) (ret := (some .int)) (by decide) rfl ?_
  intro p e s m args below meth c s₁ B hml hv
  have y_ac : zHid (0 ≤ ac.toInt ∧ ac.toInt ≤ 40) := n_ac
  have y_hi : zHid (0 ≤ hi.toInt ∧ hi.toInt ≤ 1) := n_hi
  have y_ho : zHid ((-1) ≤ ho.toInt ∧ ho.toInt ≤ 3) := n_ho
  have y_lw : zHid (0 ≤ lw.toInt ∧ lw.toInt ≤ 4) := n_lw
  have y_qnb : zHid (0 ≤ qnb.toInt ∧ qnb.toInt ≤ 6) := n_qnb
  have y_qnp : zHid (0 ≤ qnp.toInt ∧ qnp.toInt ≤ 5) := n_qnp
  have y_tat : zHid (0 ≤ tat.toInt ∧ tat.toInt ≤ 260) := n_tat
  have y_tsz : zHid (0 ≤ tsz.toInt ∧ tsz.toInt ≤ 240) := n_tsz
  have y_wr : zHid ((-1) ≤ wr.toInt ∧ wr.toInt ≤ 260) := n_wr
  clear n_ac n_hi n_ho n_lw n_qnb n_qnp n_tat n_tsz n_wr
  obtain ⟨hargs, hsz, hP, hK, hT⟩ := hv
  have hx := B.exec
  have hb := B.bytes
  have hr := B.returns
  have hts : ∀ w ∈ wA, w.before args s = true := fun w h => atoms_spec (ws := .code yX11_looks cX11_looks 2 (some .int) :: wA) B.pre w (List.mem_cons_of_mem _ h)
  have hown : s.vm.findClass RX11 = some m.cls := findClass_of_methodNamed B.named
  have hlocks := B.notSynchronized
  subst hsz
  have hD : va_D (va_A [] s.heap.size) [] := zD0
  generalize hAe : va_A [] s.heap.size = A at hD ⊢
  have hA : ∀ q : Nat, s.heap.size ≤ q → A q := fun q h => by rw [← hAe]; exact Or.inr h
  have hl := lv_entry ([.ref h0, .int p0]) (n := 2) (Nat.le_of_ble_eq_true rfl)
  rw [show entryFrame m args 2 = entryFrame m ([.ref h0, .int p0] : List Value).toArray 2 by rw [hargs], lg_entry_eq]
  generalize (lg_sl ([.ref h0, .int p0]) ++ List.replicate (2 - (lg_sl ([.ref h0, .int p0])).length) Slot.unset).toArray = ls at hl ⊢
  have hl : lv_has ls 2 [(0, .ref h0), (1, .int p0)] := hl
  refine zstart (fun H hH => ?_)
  rw [← hH] at hP
  have hS : va_S A s.heap H [] := by rw [hH]; exact va_S.rf
  generalize ([] : List Loc) = locs at hS ⊢
  refine zgen (fun R Q hR hQ => ?_)
  refine lv_aload_n hx hb dX11_looks_0 rfl (lv_at hl 0 rfl) ?_
  refine lv_iload_n hx hb dX11_looks_1 rfl (lv_at hl 1 rfl) ?_
  obtain ⟨hPc, hDc⟩ := zc2 (wc := [(h0, .inr (11, [.int th, .ref tB, .int tsz, .int tat, .int wr, .int dp, .ref rC, .ref rV, .ref rD, .ref rK, .ref rT, .ref rS, .ref rU, .int lw, .int tx, .ref rL, .ref rX, .ref qR, .ref qB, .ref qP, .int qnb, .int qnp, .ref aR, .ref aB, .ref aP, .int nb, .int np, .ref aN, .ref rf, .int ho, .int br, .ref aK, .int ac, .long dw, .ref aE, .int sr, .int sf, .ref aA, .ref aH, .ref aI, .int hi]))]) hP hT [0] (by decide +kernel) rfl
  have hFc := zfr hS hA
  refine va_calli (va_runV (As := [.int p0]) (rest := []) ⟨hx, hb, hml, hown, hts⟩ (g_X11_isBride l dC dI cI cJ h0 p0 th tB tsz tat wr dp rC rV rD rK rT rS rU lw tx rL rX qR qB qP qnb qnp aR aB aP nb np aN rf ho br aK ac dw aE sr sf aA aH aI hi H.size y_ac y_hi y_ho y_lw n_nb n_np y_qnb y_qnp y_tat y_tsz y_wr) (cwV 1 hts (zgV qw1402 qw1404 qw56 qw108 qw1405) rfl rfl rfl hd_X11_isBride ⟨by rw [hR]; exact Nat.le_of_ble_eq_true rfl, by rw [hR]; exact Nat.le_of_ble_eq_true rfl⟩) (zPV hPc hK hDc (va_recv (q := (RX11, TX11, 41)) hK hP (ci := 11) (q0 := 0) rfl rfl)) rfl rfl hl.1 rfl (lv_room (Nat.le_of_ble_eq_true rfl)) dX11_looks_2 ⟨Nat.zero_le _, Nat.zero_le _⟩) hS (fun q _ h => hFc q h) hFc (fun v2 u2 t H locs ht hvm hw hB hz1 hk1 hS9 => ?_)
  replace hP := zkeep hP hk1
  replace hS := hS9
  clear hPc hDc hFc hk1 hz1 hvm hS9
  obtain ⟨f2_0, f2_1, f2_2, f2_3⟩ : (0 ≤ v2.toInt) ∧ (v2.toInt ≤ 1) ∧ (¬ v2.toInt = 0 → (0 ≤ p0.toInt ∧ p0.toInt < nb.toInt)) ∧ (v2.toInt = 0 → ¬ (0 ≤ p0.toInt ∧ p0.toInt < nb.toInt)) := hw
  refine lv_if_eq (tgt := 31) hx hb dX11_looks_5 (by decide) (fun c5 => ?_) (fun c5 => ?_)
  · have c5 : v2.toInt = 0 := z5 rfl (by decide) c5
    refine lv_ldcw (v := (-1000000)) hx hb hown (hts _ qw1662) dX11_looks_31 ?_
    have zr0 : ((-1000000) : Int32).toInt = (-1000000) := by decide
    rw [hQ]
    exact W.iret (v := ((-1000000))) hx hb hr (fun t ht hW => ⟨⟨(-1000000), (), rfl, (by (try dsimp only); exact fun kc kT q_fR q_fPa q_fKp q_frf hc hb h => by unfold sV_loo; rw [if_neg (by omega)]; ), trivial⟩, hS.F ht⟩) hS.2.2 dX11_looks_34
  · have c5 : ¬ v2.toInt = 0 := z6 rfl (by decide) c5
    refine lv_aload_n hx hb dX11_looks_8 rfl (lv_at hl 0 rfl) ?_
    refine lv_iload_n hx hb dX11_looks_9 rfl (lv_at hl 1 rfl) ?_
    obtain ⟨hPc, hDc⟩ := zc2 (wc := [(h0, .inr (11, [.int th, .ref tB, .int tsz, .int tat, .int wr, .int dp, .ref rC, .ref rV, .ref rD, .ref rK, .ref rT, .ref rS, .ref rU, .int lw, .int tx, .ref rL, .ref rX, .ref qR, .ref qB, .ref qP, .int qnb, .int qnp, .ref aR, .ref aB, .ref aP, .int nb, .int np, .ref aN, .ref rf, .int ho, .int br, .ref aK, .int ac, .long dw, .ref aE, .int sr, .int sf, .ref aA, .ref aH, .ref aI, .int hi])), (aN, .inl (cI, 97, .inl fN))]) hP hT [0, 2] (by decide +kernel) rfl
    have hFc := zfr hS hA
    refine va_calli (va_runV (As := [.int p0]) (rest := []) ⟨hx, hb, hml, hown, hts⟩ (g_X11_seenOf l dC dI cI cJ h0 p0 th tB tsz tat wr dp rC rV rD rK rT rS rU lw tx rL rX qR qB qP qnb qnp aR aB aP nb np aN rf ho br aK ac dw aE sr sf aA aH aI hi fN H.size y_ac y_hi y_ho y_lw n_nb n_np y_qnb y_qnp y_tat y_tsz y_wr ci_fN_zNw_np) (cwV 1 hts (zgV qw1525 qw1527 qw71 qw108 qw1528) rfl rfl rfl hd_X11_seenOf ⟨by rw [hR]; exact Nat.le_of_ble_eq_true rfl, by rw [hR]; exact Nat.le_of_ble_eq_true rfl⟩) (zPV hPc hK hDc (va_recv (q := (RX11, TX11, 41)) hK hP (ci := 11) (q0 := 0) rfl rfl)) rfl rfl hl.1 rfl (lv_room (Nat.le_of_ble_eq_true rfl)) dX11_looks_10 ⟨Nat.zero_le _, Nat.zero_le _⟩) hS (fun q _ h => hFc q h) hFc (fun v10 u10 t H locs ht hvm hw hB hz1 hk1 hS9 => ?_)
    replace hP := zkeep hP hk1
    replace hS := hS9
    clear hPc hDc hFc hk1 hz1 hvm hS9
    obtain ⟨f10_0, f10_1, f10_2, f10_3⟩ : (0 ≤ v10.toInt) ∧ (v10.toInt ≤ 20) ∧ (v10.toInt = (zCt fN p0 (fN 16).toInt.toNat : Int)) ∧ (v10 = zCnt (fun i => fN (17 + i)) p0 (fN 16).toInt.toNat) := hw
    have F10 := f10_3
    refine lv_if_le (tgt := 31) hx hb dX11_looks_13 (by decide) (fun c13 => ?_) (fun c13 => ?_)
    · have c13 : v10.toInt ≤ 0 := z3 rfl (by decide) c13
      refine lv_ldcw (v := (-1000000)) hx hb hown (hts _ qw1662) dX11_looks_31 ?_
      have zr0 : ((-1000000) : Int32).toInt = (-1000000) := by decide
      rw [hQ]
      exact W.iret (v := ((-1000000))) hx hb hr (fun t ht hW => ⟨⟨(-1000000), (), rfl, (by (try dsimp only); exact fun kc kT q_fR q_fPa q_fKp q_frf hc hb h => by have y10 : zCnt kT.1.2.2.2.2 p0 kT.1.2.2.2.1.2.2.toInt.toNat = v10 := (by rw [zSr_pn h.1, ← zCnt_c (P := fun i => fN (17 + i)) (zSr_P h.1), ← F10]); have z10 := congrArg Int32.toInt y10; unfold sV_loo; rw [if_neg (by omega)]; ), trivial⟩, hS.F ht⟩) hS.2.2 dX11_looks_34
    · have c13 : 0 < v10.toInt := z4 rfl (by decide) c13
      refine lv_aload_n hx hb dX11_looks_16 rfl (lv_at hl 0 rfl) ?_
      refine lv_iload_n hx hb dX11_looks_17 rfl (lv_at hl 1 rfl) ?_
      obtain ⟨hPc, hDc⟩ := zc2 (wc := [(h0, .inr (11, [.int th, .ref tB, .int tsz, .int tat, .int wr, .int dp, .ref rC, .ref rV, .ref rD, .ref rK, .ref rT, .ref rS, .ref rU, .int lw, .int tx, .ref rL, .ref rX, .ref qR, .ref qB, .ref qP, .int qnb, .int qnp, .ref aR, .ref aB, .ref aP, .int nb, .int np, .ref aN, .ref rf, .int ho, .int br, .ref aK, .int ac, .long dw, .ref aE, .int sr, .int sf, .ref aA, .ref aH, .ref aI, .int hi])), (aN, .inl (cI, 97, .inl fN))]) hP hT [0, 2] (by decide +kernel) rfl
      have hFc := zfr hS hA
      refine va_calli (va_runV (As := [.int p0]) (rest := []) ⟨hx, hb, hml, hown, hts⟩ (g_X11_lookedOf l dC dI cI cJ h0 p0 th tB tsz tat wr dp rC rV rD rK rT rS rU lw tx rL rX qR qB qP qnb qnp aR aB aP nb np aN rf ho br aK ac dw aE sr sf aA aH aI hi fN H.size y_ac y_hi y_ho y_lw n_nb n_np y_qnb y_qnp y_tat y_tsz y_wr ci_fN_zNw_np) (cwV 1 hts (zgV qw1521 qw1523 qw70 qw108 qw1524) rfl rfl rfl hd_X11_lookedOf ⟨by rw [hR]; exact Nat.le_of_ble_eq_true rfl, by rw [hR]; exact Nat.le_of_ble_eq_true rfl⟩) (zPV hPc hK hDc (va_recv (q := (RX11, TX11, 41)) hK hP (ci := 11) (q0 := 0) rfl rfl)) rfl rfl hl.1 rfl (lv_room (Nat.le_of_ble_eq_true rfl)) dX11_looks_18 ⟨Nat.zero_le _, Nat.zero_le _⟩) hS (fun q _ h => hFc q h) hFc (fun v18 u18 t H locs ht hvm hw hB hz1 hk1 hS9 => ?_)
      replace hP := zkeep hP hk1
      replace hS := hS9
      clear hPc hDc hFc hk1 hz1 hvm hS9
      have f18_0 : (v18 = zLkd (fun i => fN (17 + i)) p0 (fN 16).toInt.toNat) := hw
      have F18 := f18_0
      refine lv_aload_n hx hb dX11_looks_21 rfl (lv_at hl 0 rfl) ?_
      refine lv_iload_n hx hb dX11_looks_22 rfl (lv_at hl 1 rfl) ?_
      refine lv_iconst (v := 0) hx hb dX11_looks_23 (by decide) ?_
      obtain ⟨hPc, hDc⟩ := zc2 (wc := [(h0, .inr (11, [.int th, .ref tB, .int tsz, .int tat, .int wr, .int dp, .ref rC, .ref rV, .ref rD, .ref rK, .ref rT, .ref rS, .ref rU, .int lw, .int tx, .ref rL, .ref rX, .ref qR, .ref qB, .ref qP, .int qnb, .int qnp, .ref aR, .ref aB, .ref aP, .int nb, .int np, .ref aN, .ref rf, .int ho, .int br, .ref aK, .int ac, .long dw, .ref aE, .int sr, .int sf, .ref aA, .ref aH, .ref aI, .int hi])), (aB, .inl (cI, 24, .inl fBr))]) hP hT [0, 1] (by decide +kernel) rfl
      have hFc := zfr hS hA
      refine va_calli (va_runV (As := [.int p0, .int 0]) (rest := [.int v18]) ⟨hx, hb, hml, hown, hts⟩ (g_X11_of l dC dI cI cJ h0 p0 0 th tB tsz tat wr dp rC rV rD rK rT rS rU lw tx rL rX qR qB qP qnb qnp aR aB aP nb np aN rf ho br aK ac dw aE sr sf aA aH aI hi fBr H.size y_ac y_hi y_ho y_lw n_nb n_np (by omega) (by decide) y_qnb y_qnp y_tat y_tsz y_wr) (cwV 2 hts (zgV qw1386 qw1388 qw54 qw108 qw1389) rfl rfl rfl hd_X11_of ⟨by rw [hR]; exact Nat.le_of_ble_eq_true rfl, by rw [hR]; exact Nat.le_of_ble_eq_true rfl⟩) (zPV hPc hK hDc (va_recv (q := (RX11, TX11, 41)) hK hP (ci := 11) (q0 := 0) rfl rfl)) rfl rfl hl.1 rfl (lv_room (Nat.le_of_ble_eq_true rfl)) dX11_looks_24 ⟨Nat.zero_le _, Nat.zero_le _⟩) hS (fun q _ h => hFc q h) hFc (fun v24 u24 t H locs ht hvm hw hB hz1 hk1 hS9 => ?_)
      replace hP := zkeep hP hk1
      replace hS := hS9
      clear hPc hDc hFc hk1 hz1 hvm hS9
      have zn24_0 : (0 : Int32).toInt = 0 := by decide
      have f24_0 : (v24 = fBr (4 * p0.toInt.toNat + (0 : Int32).toInt.toNat)) := hw
      have F24 := f24_0
      refine lv_isub hx hb dX11_looks_27 ?_
      refine lv_topi (fun v27 e27 => ?_)
      refine lv_goto (tgt := 34) hx hb dX11_looks_28 (by decide) ?_
      rw [hQ]
      exact W.iret (v := v27) hx hb hr (fun t ht hW => ⟨⟨v27, (), rfl, (by (try dsimp only); exact fun kc kT q_fR q_fPa q_fKp q_frf hc hb h => by have y10 : zCnt kT.1.2.2.2.2 p0 kT.1.2.2.2.1.2.2.toInt.toNat = v10 := (by rw [zSr_pn h.1, ← zCnt_c (P := fun i => fN (17 + i)) (zSr_P h.1), ← F10]); have z10 := congrArg Int32.toInt y10; have y24 : v24 = kc.2.1 (4 * p0.toInt.toNat) := (F24.trans (congrArg fBr (show 4 * p0.toInt.toNat + (0 : Int32).toInt.toNat = 4 * p0.toInt.toNat by have : (0 : Int32).toInt = 0 := (by decide); omega))).trans (hc.2.1 _ (by omega)); unfold sV_loo; rw [if_pos (by omega)]; rw [zSr_pn h.1, ← zLkd_c (P := fun i => fN (17 + i)) (zSr_P h.1), ← F18, ← y24]; exact e27), trivial⟩, hS.F ht⟩) hS.2.2 dX11_looks_34
set_option maxHeartbeats 4000000 in
set_option maxRecDepth 100000 in
theorem g_X11_whose (l : Launch) (dC : Nat → ClassId) (dI : Nat → Nat → Nat) (cI cJ : ClassId) (h0 : Nat) (p0 : Int32) (p1 : Int32) (th : Int32) (tB : Nat) (tsz : Int32) (tat : Int32) (wr : Int32) (dp : Int32) (rC : Nat) (rV : Nat) (rD : Nat) (rK : Nat) (rT : Nat) (rS : Nat) (rU : Nat) (lw : Int32) (tx : Int32) (rL : Nat) (rX : Nat) (qR : Nat) (qB : Nat) (qP : Nat) (qnb : Int32) (qnp : Int32) (aR : Nat) (aB : Nat) (aP : Nat) (nb : Int32) (np : Int32) (aN : Nat) (rf : Nat) (ho : Int32) (br : Int32) (aK : Nat) (ac : Int32) (dw : Int64) (aE : Nat) (sr : Int32) (sf : Int32) (aA : Nat) (aH : Nat) (aI : Nat) (hi : Int32) (fC : Nat → Int32) (fV : Nat → Int32) (fK : Nat → Int32) (fT : Nat → Int32) (fS : Nat → Int32) (fU : Nat → Int32) (fL : Nat → Int32) (fX : Nat → Int32) (fBr : Nat → Int32) (fPa : Nat → Int32) (fN : Nat → Int32) (sz : Nat) (n_ac : 0 ≤ ac.toInt ∧ ac.toInt ≤ 40) (n_hi : 0 ≤ hi.toInt ∧ hi.toInt ≤ 1) (n_ho : (-1) ≤ ho.toInt ∧ ho.toInt ≤ 3) (n_lw : 0 ≤ lw.toInt ∧ lw.toInt ≤ 4) (n_nb : 0 ≤ nb.toInt ∧ nb.toInt ≤ 6) (n_np : 0 ≤ np.toInt ∧ np.toInt ≤ 5) (n_qnb : 0 ≤ qnb.toInt ∧ qnb.toInt ≤ 6) (n_qnp : 0 ≤ qnp.toInt ∧ qnp.toInt ≤ 5) (n_tat : 0 ≤ tat.toInt ∧ tat.toInt ≤ 260) (n_tsz : 0 ≤ tsz.toInt ∧ tsz.toInt ≤ 240) (n_wr : (-1) ≤ wr.toInt ∧ wr.toInt ≤ 260) (hls : zLs ho fC fV fK fT fS fU) (ci_fBr_zBr_nb : zBr nb fBr) (ci_fN_zNw_np : zNw np fN) (ci_fPa_zBr_np : zBr np fPa)  : Met l yX11_whose (.code yX11_whose cX11_whose 5 (some .int) :: wA) ({ frames := 7, cells := 0, slots := 0, locals := 171 }) (zP (dC, dI) [(cI, .int), (cJ, .long)] [.ref h0, .int p0, .int p1] sz [(h0, .inr (11, [.int th, .ref tB, .int tsz, .int tat, .int wr, .int dp, .ref rC, .ref rV, .ref rD, .ref rK, .ref rT, .ref rS, .ref rU, .int lw, .int tx, .ref rL, .ref rX, .ref qR, .ref qB, .ref qP, .int qnb, .int qnp, .ref aR, .ref aB, .ref aP, .int nb, .int np, .ref aN, .ref rf, .int ho, .int br, .ref aK, .int ac, .long dw, .ref aE, .int sr, .int sf, .ref aA, .ref aH, .ref aI, .int hi])), (rC, .inl (cI, 2600, .inl fC)), (rV, .inl (cI, 2600, .inl fV)), (rK, .inl (cI, 5, .inl fK)), (rT, .inl (cI, 700, .inl fT)), (rS, .inl (cI, 700, .inl fS)), (rU, .inl (cI, 700, .inl fU)), (rL, .inl (cI, 6, .inl fL)), (rX, .inl (cI, 80, .inl fX)), (aB, .inl (cI, 24, .inl fBr)), (aP, .inl (cI, 20, .inl fPa)), (aN, .inl (cI, 97, .inl fN))]) (va_Qi (fun (r : Int32) (u : (Nat → Int32) × (Nat → Int32)) => (∀ (kc : zK3) (kT : zT) (q_fR : Nat → Int32) (q_fKp : Nat → Int32) (q_frf : Nat → Int32) (kl : Option ((Int → Int) × Int)), zCn q_fR fBr fPa nb.toInt np.toInt kc → zKo nb.toInt np.toInt kc kT → zTr nb.toInt np.toInt kT fN q_fKp ac q_frf → zLwR ho fC fV fK fT fS fU kl → r = sV_who nb.toInt np.toInt kc kT.1 kl p0 p1)) (fun (u : (Nat → Int32) × (Nat → Int32)) (t : State) => va_P (dC, dI) vwCl [(h0, .inr (11, [.int th, .ref tB, .int tsz, .int tat, .int wr, .int dp, .ref rC, .ref rV, .ref rD, .ref rK, .ref rT, .ref rS, .ref rU, .int lw, .int tx, .ref rL, .ref rX, .ref qR, .ref qB, .ref qP, .int qnb, .int qnp, .ref aR, .ref aB, .ref aP, .int nb, .int np, .ref aN, .ref rf, .int ho, .int br, .ref aK, .int ac, .long dw, .ref aE, .int sr, .int sf, .ref aA, .ref aH, .ref aI, .int hi])), (rC, .inl (cI, 2600, .inl fC)), (rV, .inl (cI, 2600, .inl fV)), (rK, .inl (cI, 5, .inl fK)), (rT, .inl (cI, 700, .inl fT)), (rS, .inl (cI, 700, .inl fS)), (rU, .inl (cI, 700, .inl fU)), (rL, .inl (cI, 6, .inl u.1)), (rX, .inl (cI, 80, .inl u.2)), (aB, .inl (cI, 24, .inl fBr)), (aP, .inl (cI, 20, .inl fPa)), (aN, .inl (cI, 97, .inl fN))] t.heap ∧ va_D (va_A [(h0, .inr (11, [.int th, .ref tB, .int tsz, .int tat, .int wr, .int dp, .ref rC, .ref rV, .ref rD, .ref rK, .ref rT, .ref rS, .ref rU, .int lw, .int tx, .ref rL, .ref rX, .ref qR, .ref qB, .ref qP, .int qnb, .int qnp, .ref aR, .ref aB, .ref aP, .int nb, .int np, .ref aN, .ref rf, .int ho, .int br, .ref aK, .int ac, .long dw, .ref aE, .int sr, .int sf, .ref aA, .ref aH, .ref aI, .int hi])), (rC, .inl (cI, 2600, .inl fC)), (rV, .inl (cI, 2600, .inl fV)), (rK, .inl (cI, 5, .inl fK)), (rT, .inl (cI, 700, .inl fT)), (rS, .inl (cI, 700, .inl fS)), (rU, .inl (cI, 700, .inl fU)), (rL, .inl (cI, 6, .inl fL)), (rX, .inl (cI, 80, .inl fX)), (aB, .inl (cI, 24, .inl fBr)), (aP, .inl (cI, 20, .inl fPa)), (aN, .inl (cI, 97, .inl fN))] sz) [(h0, .inr (11, [.int th, .ref tB, .int tsz, .int tat, .int wr, .int dp, .ref rC, .ref rV, .ref rD, .ref rK, .ref rT, .ref rS, .ref rU, .int lw, .int tx, .ref rL, .ref rX, .ref qR, .ref qB, .ref qP, .int qnb, .int qnp, .ref aR, .ref aB, .ref aP, .int nb, .int np, .ref aN, .ref rf, .int ho, .int br, .ref aK, .int ac, .long dw, .ref aE, .int sr, .int sf, .ref aA, .ref aH, .ref aI, .int hi])), (rC, .inl (cI, 2600, .inl fC)), (rV, .inl (cI, 2600, .inl fV)), (rK, .inl (cI, 5, .inl fK)), (rT, .inl (cI, 700, .inl fT)), (rS, .inl (cI, 700, .inl fS)), (rU, .inl (cI, 700, .inl fU)), (rL, .inl (cI, 6, .inl u.1)), (rX, .inl (cI, 80, .inl u.2)), (aB, .inl (cI, 24, .inl fBr)), (aP, .inl (cI, 20, .inl fPa)), (aN, .inl (cI, 97, .inl fN))]) (va_A [(h0, .inr (11, [.int th, .ref tB, .int tsz, .int tat, .int wr, .int dp, .ref rC, .ref rV, .ref rD, .ref rK, .ref rT, .ref rS, .ref rU, .int lw, .int tx, .ref rL, .ref rX, .ref qR, .ref qB, .ref qP, .int qnb, .int qnp, .ref aR, .ref aB, .ref aP, .int nb, .int np, .ref aN, .ref rf, .int ho, .int br, .ref aK, .int ac, .long dw, .ref aE, .int sr, .int sf, .ref aA, .ref aH, .ref aI, .int hi])), (rC, .inl (cI, 2600, .inl fC)), (rV, .inl (cI, 2600, .inl fV)), (rK, .inl (cI, 5, .inl fK)), (rT, .inl (cI, 700, .inl fT)), (rS, .inl (cI, 700, .inl fS)), (rU, .inl (cI, 700, .inl fU)), (rL, .inl (cI, 6, .inl fL)), (rX, .inl (cI, 80, .inl fX)), (aB, .inl (cI, 24, .inl fBr)), (aP, .inl (cI, 20, .inl fPa)), (aN, .inl (cI, 97, .inl fN))] sz)) 0 0 (va_A [(h0, .inr (11, [.int th, .ref tB, .int tsz, .int tat, .int wr, .int dp, .ref rC, .ref rV, .ref rD, .ref rK, .ref rT, .ref rS, .ref rU, .int lw, .int tx, .ref rL, .ref rX, .ref qR, .ref qB, .ref qP, .int qnb, .int qnp, .ref aR, .ref aB, .ref aP, .int nb, .int np, .ref aN, .ref rf, .int ho, .int br, .ref aK, .int ac, .long dw, .ref aE, .int sr, .int sf, .ref aA, .ref aH, .ref aI, .int hi])), (rC, .inl (cI, 2600, .inl fC)), (rV, .inl (cI, 2600, .inl fV)), (rK, .inl (cI, 5, .inl fK)), (rT, .inl (cI, 700, .inl fT)), (rS, .inl (cI, 700, .inl fS)), (rU, .inl (cI, 700, .inl fU)), (rL, .inl (cI, 6, .inl fL)), (rX, .inl (cI, 80, .inl fX)), (aB, .inl (cI, 24, .inl fBr)), (aP, .inl (cI, 20, .inl fPa)), (aN, .inl (cI, 97, .inl fN))] sz) := by
  refine Met.ofW (cc := cX11_whose) (maxL := 5) (ret := (some .int)) (by decide) rfl ?_
  intro p e s m args below meth c s₁ B hml hv
  have y_ac : zHid (0 ≤ ac.toInt ∧ ac.toInt ≤ 40) := n_ac
  have y_hi : zHid (0 ≤ hi.toInt ∧ hi.toInt ≤ 1) := n_hi
  have y_ho : zHid ((-1) ≤ ho.toInt ∧ ho.toInt ≤ 3) := n_ho
  have y_lw : zHid (0 ≤ lw.toInt ∧ lw.toInt ≤ 4) := n_lw
  have y_qnb : zHid (0 ≤ qnb.toInt ∧ qnb.toInt ≤ 6) := n_qnb
  have y_qnp : zHid (0 ≤ qnp.toInt ∧ qnp.toInt ≤ 5) := n_qnp
  have y_tat : zHid (0 ≤ tat.toInt ∧ tat.toInt ≤ 260) := n_tat
  have y_tsz : zHid (0 ≤ tsz.toInt ∧ tsz.toInt ≤ 240) := n_tsz
  have y_wr : zHid ((-1) ≤ wr.toInt ∧ wr.toInt ≤ 260) := n_wr
  clear n_ac n_hi n_ho n_lw n_qnb n_qnp n_tat n_tsz n_wr
  obtain ⟨hargs, hsz, hP, hK, hT⟩ := hv
  have hx := B.exec
  have hb := B.bytes
  have hr := B.returns
  have hts : ∀ w ∈ wA, w.before args s = true := fun w h => atoms_spec (ws := .code yX11_whose cX11_whose 5 (some .int) :: wA) B.pre w (List.mem_cons_of_mem _ h)
  have hown : s.vm.findClass RX11 = some m.cls := findClass_of_methodNamed B.named
  have hlocks := B.notSynchronized
  subst hsz
  have hD := hT.self (sz := s.heap.size)
  generalize hAe : va_A [(h0, .inr (11, [.int th, .ref tB, .int tsz, .int tat, .int wr, .int dp, .ref rC, .ref rV, .ref rD, .ref rK, .ref rT, .ref rS, .ref rU, .int lw, .int tx, .ref rL, .ref rX, .ref qR, .ref qB, .ref qP, .int qnb, .int qnp, .ref aR, .ref aB, .ref aP, .int nb, .int np, .ref aN, .ref rf, .int ho, .int br, .ref aK, .int ac, .long dw, .ref aE, .int sr, .int sf, .ref aA, .ref aH, .ref aI, .int hi])), (rC, .inl (cI, 2600, .inl fC)), (rV, .inl (cI, 2600, .inl fV)), (rK, .inl (cI, 5, .inl fK)), (rT, .inl (cI, 700, .inl fT)), (rS, .inl (cI, 700, .inl fS)), (rU, .inl (cI, 700, .inl fU)), (rL, .inl (cI, 6, .inl fL)), (rX, .inl (cI, 80, .inl fX)), (aB, .inl (cI, 24, .inl fBr)), (aP, .inl (cI, 20, .inl fPa)), (aN, .inl (cI, 97, .inl fN))] s.heap.size = A at hD ⊢
  have hA : ∀ q : Nat, s.heap.size ≤ q → A q := fun q h => by rw [← hAe]; exact Or.inr h
  have hl := lv_entry ([.ref h0, .int p0, .int p1]) (n := 5) (Nat.le_of_ble_eq_true rfl)
  rw [show entryFrame m args 5 = entryFrame m ([.ref h0, .int p0, .int p1] : List Value).toArray 5 by rw [hargs], lg_entry_eq]
  generalize (lg_sl ([.ref h0, .int p0, .int p1]) ++ List.replicate (5 - (lg_sl ([.ref h0, .int p0, .int p1])).length) Slot.unset).toArray = ls at hl ⊢
  have hl : lv_has ls 5 [(0, .ref h0), (1, .int p0), (2, .int p1)] := hl
  refine zstart (fun H hH => ?_)
  rw [← hH] at hP
  have hS : va_S A s.heap H [] := by rw [hH]; exact va_S.rf
  generalize ([] : List Loc) = locs at hS ⊢
  refine zgen (fun R Q hR hQ => ?_)
  refine lv_aload_n hx hb dX11_whose_0 rfl (lv_at hl 0 rfl) ?_
  refine lv_iload_n hx hb dX11_whose_1 rfl (lv_at hl 1 rfl) ?_
  obtain ⟨hPc, hDc⟩ := zc2 (wc := [(h0, .inr (11, [.int th, .ref tB, .int tsz, .int tat, .int wr, .int dp, .ref rC, .ref rV, .ref rD, .ref rK, .ref rT, .ref rS, .ref rU, .int lw, .int tx, .ref rL, .ref rX, .ref qR, .ref qB, .ref qP, .int qnb, .int qnp, .ref aR, .ref aB, .ref aP, .int nb, .int np, .ref aN, .ref rf, .int ho, .int br, .ref aK, .int ac, .long dw, .ref aE, .int sr, .int sf, .ref aA, .ref aH, .ref aI, .int hi]))]) hP hD [0] (by decide +kernel) rfl
  have hFc := zfr hS hA
  refine va_calli (va_runV (As := [.int p0]) (rest := []) ⟨hx, hb, hml, hown, hts⟩ (g_X11_isPainter l dC dI cI cJ h0 p0 th tB tsz tat wr dp rC rV rD rK rT rS rU lw tx rL rX qR qB qP qnb qnp aR aB aP nb np aN rf ho br aK ac dw aE sr sf aA aH aI hi H.size y_ac y_hi y_ho y_lw n_nb n_np y_qnb y_qnp y_tat y_tsz y_wr) (cwV 1 hts (zgV qw1410 qw1412 qw57 qw108 qw1413) rfl rfl rfl hd_X11_isPainter ⟨by rw [hR]; exact Nat.le_of_ble_eq_true rfl, by rw [hR]; exact Nat.le_of_ble_eq_true rfl⟩) (zPV hPc hK hDc (va_recv (q := (RX11, TX11, 41)) hK hP (ci := 11) (q0 := 0) rfl rfl)) rfl rfl hl.1 rfl (lv_room (Nat.le_of_ble_eq_true rfl)) dX11_whose_2 ⟨Nat.zero_le _, Nat.zero_le _⟩) hS (fun q _ h => hFc q h) hFc (fun v2 u2 t H locs ht hvm hw hB hz1 hk1 hS9 => ?_)
  replace hP := zkeep hP hk1
  replace hS := hS9
  clear hPc hDc hFc hk1 hz1 hvm hS9
  obtain ⟨f2_0, f2_1, f2_2, f2_3⟩ : (0 ≤ v2.toInt) ∧ (v2.toInt ≤ 1) ∧ (¬ v2.toInt = 0 → (0 ≤ p0.toInt ∧ p0.toInt < np.toInt)) ∧ (v2.toInt = 0 → ¬ (0 ≤ p0.toInt ∧ p0.toInt < np.toInt)) := hw
  refine lv_if_eq (tgt := 18) hx hb dX11_whose_5 (by decide) (fun c5 => ?_) (fun c5 => ?_)
  · have c5 : v2.toInt = 0 := z5 rfl (by decide) c5
    refine lv_iconst (v := (-1)) hx hb dX11_whose_18 (by decide) ?_
    have zr0 : ((-1) : Int32).toInt = (-1) := by decide
    rw [hQ]
    exact W.iret (v := ((-1))) hx hb hr (fun t ht hW => ⟨⟨(-1), (fL, fX), rfl, (by (try dsimp only); exact fun kc kT q_fR q_fKp q_frf kl hc hb h hL => by unfold sV_who; rw [if_neg (by omega)]; ), ⟨by rw [ht]; exact hP, hD⟩⟩, hS.F ht⟩) hS.2.2 dX11_whose_19
  · have c5 : ¬ v2.toInt = 0 := z6 rfl (by decide) c5
    refine lv_iload_n hx hb dX11_whose_8 rfl (lv_at hl 2 rfl) ?_
    refine lv_iconst (v := 0) hx hb dX11_whose_9 (by decide) ?_
    refine lv_bipush (v := 9) hx hb dX11_whose_10 (by decide) ?_
    have hPc : va_P (dC, dI) vwCl [] H := zP0
    have hDc : va_D (fun _ => True) [] := zD0
    have hFc := zfr hS hA
    refine va_calli (va_runS (As := [.int p1, .int 0, .int 9]) (rest := []) ⟨hx, hb, hml, hown, hts⟩ (g_X11_in l dC dI cI cJ p1 0 9 H.size) (cwS 3 hts (zgS qw1305 qw1306 qw108 qw1307) rfl rfl rfl hd_X11_in ⟨by rw [hR]; exact Nat.le_of_ble_eq_true rfl, by rw [hR]; exact Nat.le_of_ble_eq_true rfl⟩) (zPS hPc hK hDc) rfl rfl hl.1 rfl (lv_room (Nat.le_of_ble_eq_true rfl)) dX11_whose_12 ⟨Nat.zero_le _, Nat.zero_le _⟩) hS (fun q _ h => hFc q h) hFc (fun v12 u12 t H locs ht hvm hw hB hz1 hk1 hS9 => ?_)
    replace hP := zkeep hP hk1
    replace hS := hS9
    clear hPc hDc hFc hk1 hz1 hvm hS9
    have zn12_0 : (0 : Int32).toInt = 0 := by decide
    have zn12_9 : (9 : Int32).toInt = 9 := by decide
    obtain ⟨f12_0, f12_1, f12_2, f12_3⟩ : (0 ≤ v12.toInt) ∧ (v12.toInt ≤ 1) ∧ (¬ v12.toInt = 0 → ((0 : Int32).toInt ≤ p1.toInt ∧ p1.toInt ≤ (9 : Int32).toInt)) ∧ (v12.toInt = 0 → (p1.toInt < (0 : Int32).toInt ∨ (9 : Int32).toInt < p1.toInt)) := hw
    refine lv_if_ne (tgt := 20) hx hb dX11_whose_15 (by decide) (fun c15 => ?_) (fun c15 => ?_)
    · have c15 : ¬ v12.toInt = 0 := z6 rfl (by decide) c15
      refine lv_iconst (v := 0) hx hb dX11_whose_20 (by decide) ?_
      refine lv_istore_n (lv' := [(3, .int 0), (0, .ref h0), (1, .int p0), (2, .int p1)]) hx hb dX11_whose_21 rfl hl (by decide) rfl (fun ls hl => ?_)
      refine lv_iconst (v := 0) hx hb dX11_whose_22 (by decide) ?_
      have J25 : ∀ (n : Nat) (m25_A_rL : Nat → Int32) (m25_A_rX : Nat → Int32) (m25_L_3 : Int32) (m25_L_4 : Int32), (0 ≤ m25_L_4.toInt ∧ m25_L_4.toInt ≤ 6) → (∀ (kc : zK3) (kT : zT) (q_fR : Nat → Int32) (q_fKp : Nat → Int32) (q_frf : Nat → Int32) (kl : Option ((Int → Int) × Int)), zCn q_fR fBr fPa nb.toInt np.toInt kc → zKo nb.toInt np.toInt kc kT → zTr nb.toInt np.toInt kT fN q_fKp ac q_frf → zLwR ho fC fV fK fT fS fU kl → m25_L_3 = sWho kc kT.1 kl p0 p1 m25_L_4.toInt.toNat) → (m25_L_4.toInt ≤ nb.toInt) → (7 - m25_L_4.toInt).toNat = n → ∀ (H : Heap) (locs : List Loc) (ls : Array Slot), va_P (dC, dI) vwCl [(h0, .inr (11, [.int th, .ref tB, .int tsz, .int tat, .int wr, .int dp, .ref rC, .ref rV, .ref rD, .ref rK, .ref rT, .ref rS, .ref rU, .int lw, .int tx, .ref rL, .ref rX, .ref qR, .ref qB, .ref qP, .int qnb, .int qnp, .ref aR, .ref aB, .ref aP, .int nb, .int np, .ref aN, .ref rf, .int ho, .int br, .ref aK, .int ac, .long dw, .ref aE, .int sr, .int sf, .ref aA, .ref aH, .ref aI, .int hi])), (rC, .inl (cI, 2600, .inl fC)), (rV, .inl (cI, 2600, .inl fV)), (rK, .inl (cI, 5, .inl fK)), (rT, .inl (cI, 700, .inl fT)), (rS, .inl (cI, 700, .inl fS)), (rU, .inl (cI, 700, .inl fU)), (rL, .inl (cI, 6, .inl m25_A_rL)), (rX, .inl (cI, 80, .inl m25_A_rX)), (aB, .inl (cI, 24, .inl fBr)), (aP, .inl (cI, 20, .inl fPa)), (aN, .inl (cI, 97, .inl fN))] H → va_D A [(h0, .inr (11, [.int th, .ref tB, .int tsz, .int tat, .int wr, .int dp, .ref rC, .ref rV, .ref rD, .ref rK, .ref rT, .ref rS, .ref rU, .int lw, .int tx, .ref rL, .ref rX, .ref qR, .ref qB, .ref qP, .int qnb, .int qnp, .ref aR, .ref aB, .ref aP, .int nb, .int np, .ref aN, .ref rf, .int ho, .int br, .ref aK, .int ac, .long dw, .ref aE, .int sr, .int sf, .ref aA, .ref aH, .ref aI, .int hi])), (rC, .inl (cI, 2600, .inl fC)), (rV, .inl (cI, 2600, .inl fV)), (rK, .inl (cI, 5, .inl fK)), (rT, .inl (cI, 700, .inl fT)), (rS, .inl (cI, 700, .inl fS)), (rU, .inl (cI, 700, .inl fU)), (rL, .inl (cI, 6, .inl m25_A_rL)), (rX, .inl (cI, 80, .inl m25_A_rX)), (aB, .inl (cI, 24, .inl fBr)), (aP, .inl (cI, 20, .inl fPa)), (aN, .inl (cI, 97, .inl fN))] → va_S A s.heap H locs → lv_has ls 5 [(4, .int m25_L_4), (3, .int m25_L_3), (0, .ref h0), (1, .int p0), (2, .int p1)] → W p l e R s m args below meth c H locs 0 0 Q (F0 m 25 ls []) := by
        intro n25
        induction n25 using Nat.strongRecOn with
        | _ n25 ih25 =>
          intro m25_A_rL m25_A_rX m25_L_3 m25_L_4 jf25_0 jv25_0 jf25_2 hmu25 H locs ls hP hD hS hl
          refine lv_iload hx hb dX11_whose_25 (lv_at hl 0 rfl) ?_
          refine lv_aload_n hx hb dX11_whose_27 rfl (lv_at hl 2 rfl) ?_
          refine va_get (D := (dC, dI)) (ci := 11) (v := .int nb) (C := RX11) (T := TX11) (N := 41) hx hb hts iX11 hown hK hP 0 rfl rfl 25 (by decide) (hts _ qw1152) (fun _ h9 => h9) rfl dX11_whose_28 ?_
          refine lv_icmp_ge (tgt := 69) hx hb dX11_whose_31 (by decide) (fun c31 => ?_) (fun c31 => ?_)
          · have c31 : nb.toInt ≤ m25_L_4.toInt := z3 rfl rfl c31
            refine lv_iload_n hx hb dX11_whose_69 rfl (lv_at hl 1 rfl) ?_
            rw [hQ]
            exact W.iret (v := m25_L_3) hx hb hr (fun t ht hW => ⟨⟨m25_L_3, (m25_A_rL, m25_A_rX), rfl, (by (try dsimp only); exact fun kc kT q_fR q_fKp q_frf kl hc hb h hL => by unfold sV_who; rw [if_pos (by omega)]; rw [jv25_0 kc kT _ _ _ kl hc hb h hL, show m25_L_4.toInt.toNat = nb.toInt.toNat by omega]), ⟨by rw [ht]; exact hP, hD⟩⟩, hS.F ht⟩) hS.2.2 dX11_whose_70
          · have c31 : m25_L_4.toInt < nb.toInt := z4 rfl rfl c31
            refine lv_iload_n hx hb dX11_whose_34 rfl (lv_at hl 1 rfl) ?_
            refine lv_aload_n hx hb dX11_whose_35 rfl (lv_at hl 2 rfl) ?_
            refine lv_iload_n hx hb dX11_whose_36 rfl (lv_at hl 3 rfl) ?_
            refine lv_iload hx hb dX11_whose_37 (lv_at hl 0 rfl) ?_
            refine lv_aload_n hx hb dX11_whose_39 rfl (lv_at hl 2 rfl) ?_
            refine lv_iload hx hb dX11_whose_40 (lv_at hl 0 rfl) ?_
            refine lv_iconst (v := 0) hx hb dX11_whose_42 (by decide) ?_
            obtain ⟨hPc, hDc⟩ := zc2 (wc := [(h0, .inr (11, [.int th, .ref tB, .int tsz, .int tat, .int wr, .int dp, .ref rC, .ref rV, .ref rD, .ref rK, .ref rT, .ref rS, .ref rU, .int lw, .int tx, .ref rL, .ref rX, .ref qR, .ref qB, .ref qP, .int qnb, .int qnp, .ref aR, .ref aB, .ref aP, .int nb, .int np, .ref aN, .ref rf, .int ho, .int br, .ref aK, .int ac, .long dw, .ref aE, .int sr, .int sf, .ref aA, .ref aH, .ref aI, .int hi])), (aB, .inl (cI, 24, .inl fBr))]) hP hD [0, 9] (by decide +kernel) rfl
            have hFc := zfr hS hA
            refine va_calli (va_runV (As := [.int m25_L_4, .int 0]) (rest := [.int m25_L_4, .int p0, .ref h0, .int m25_L_3]) ⟨hx, hb, hml, hown, hts⟩ (g_X11_of l dC dI cI cJ h0 m25_L_4 0 th tB tsz tat wr dp rC rV rD rK rT rS rU lw tx rL rX qR qB qP qnb qnp aR aB aP nb np aN rf ho br aK ac dw aE sr sf aA aH aI hi fBr H.size y_ac y_hi y_ho y_lw n_nb n_np (by omega) (by decide) y_qnb y_qnp y_tat y_tsz y_wr) (cwV 2 hts (zgV qw1386 qw1388 qw54 qw108 qw1389) rfl rfl rfl hd_X11_of ⟨by rw [hR]; exact Nat.le_of_ble_eq_true rfl, by rw [hR]; exact Nat.le_of_ble_eq_true rfl⟩) (zPV hPc hK hDc (va_recv (q := (RX11, TX11, 41)) hK hP (ci := 11) (q0 := 0) rfl rfl)) rfl rfl hl.1 rfl (lv_room (Nat.le_of_ble_eq_true rfl)) dX11_whose_43 ⟨Nat.zero_le _, Nat.zero_le _⟩) hS (fun q _ h => hFc q h) hFc (fun v43 u43 t H locs ht hvm hw hB hz1 hk1 hS9 => ?_)
            replace hP := zkeep hP hk1
            replace hS := hS9
            clear hPc hDc hFc hk1 hz1 hvm hS9
            have zn43_0 : (0 : Int32).toInt = 0 := by decide
            have f43_0 : (v43 = fBr (4 * m25_L_4.toInt.toNat + (0 : Int32).toInt.toNat)) := hw
            have F43 := f43_0
            obtain ⟨hPc, hDc, hFc⟩ := zc3 (wc := [(h0, .inr (11, [.int th, .ref tB, .int tsz, .int tat, .int wr, .int dp, .ref rC, .ref rV, .ref rD, .ref rK, .ref rT, .ref rS, .ref rU, .int lw, .int tx, .ref rL, .ref rX, .ref qR, .ref qB, .ref qP, .int qnb, .int qnp, .ref aR, .ref aB, .ref aP, .int nb, .int np, .ref aN, .ref rf, .int ho, .int br, .ref aK, .int ac, .long dw, .ref aE, .int sr, .int sf, .ref aA, .ref aH, .ref aI, .int hi])), (rC, .inl (cI, 2600, .inl fC)), (rV, .inl (cI, 2600, .inl fV)), (rK, .inl (cI, 5, .inl fK)), (rT, .inl (cI, 700, .inl fT)), (rS, .inl (cI, 700, .inl fS)), (rU, .inl (cI, 700, .inl fU)), (rL, .inl (cI, 6, .inl m25_A_rL)), (rX, .inl (cI, 80, .inl m25_A_rX)), (aB, .inl (cI, 24, .inl fBr)), (aP, .inl (cI, 20, .inl fPa)), (aN, .inl (cI, 97, .inl fN))]) hP hD hS hA [0, 1, 2, 3, 4, 5, 6, 7, 8, 9, 10, 11] (by decide +kernel) rfl
            refine va_calli (va_runV (As := [.int p0, .int m25_L_4, .int v43]) (rest := [.int m25_L_3]) ⟨hx, hb, hml, hown, hts⟩ (g_X11_shownOf l dC dI cI cJ h0 p0 m25_L_4 v43 th tB tsz tat wr dp rC rV rD rK rT rS rU lw tx rL rX qR qB qP qnb qnp aR aB aP nb np aN rf ho br aK ac dw aE sr sf aA aH aI hi fC fV fK fT fS fU m25_A_rL m25_A_rX fBr fPa fN H.size y_ac y_hi y_ho y_lw n_nb n_np (by omega) (by omega) y_qnb y_qnp y_tat y_tsz y_wr (hls) ci_fBr_zBr_nb ci_fN_zNw_np ci_fPa_zBr_np) (cwV 3 hts (zgV qw1438 qw1440 qw60 qw108 qw1441) rfl rfl rfl hd_X11_shownOf ⟨by rw [hR]; exact Nat.le_of_ble_eq_true rfl, by rw [hR]; exact Nat.le_of_ble_eq_true rfl⟩) (zPV hPc hK hDc (va_recv (q := (RX11, TX11, 41)) hK hP (ci := 11) (q0 := 0) rfl rfl)) rfl rfl hl.1 rfl (lv_room (Nat.le_of_ble_eq_true rfl)) dX11_whose_46 ⟨Nat.zero_le _, Nat.zero_le _⟩) hS (fun q _ h => hFc q h) hFc (fun v46 u46 t H locs ht hvm hw hB hz1 hk1 hS9 => ?_)
            obtain ⟨u46_0, u46_1⟩ := u46
            obtain ⟨hP9, hD9⟩ := zj2 (wX := [(h0, .inr (11, [.int th, .ref tB, .int tsz, .int tat, .int wr, .int dp, .ref rC, .ref rV, .ref rD, .ref rK, .ref rT, .ref rS, .ref rU, .int lw, .int tx, .ref rL, .ref rX, .ref qR, .ref qB, .ref qP, .int qnb, .int qnp, .ref aR, .ref aB, .ref aP, .int nb, .int np, .ref aN, .ref rf, .int ho, .int br, .ref aK, .int ac, .long dw, .ref aE, .int sr, .int sf, .ref aA, .ref aH, .ref aI, .int hi])), (rC, .inl (cI, 2600, .inl fC)), (rV, .inl (cI, 2600, .inl fV)), (rK, .inl (cI, 5, .inl fK)), (rT, .inl (cI, 700, .inl fT)), (rS, .inl (cI, 700, .inl fS)), (rU, .inl (cI, 700, .inl fU)), (rL, .inl (cI, 6, .inl u46_0)), (rX, .inl (cI, 80, .inl u46_1)), (aB, .inl (cI, 24, .inl fBr)), (aP, .inl (cI, 20, .inl fPa)), (aN, .inl (cI, 97, .inl fN))]) hP hD hk1 hFc ht hB [0, 1, 2, 3, 4, 5, 6, 7, 8, 9, 10, 11] [(true, 0), (true, 1), (true, 2), (true, 3), (true, 4), (true, 5), (true, 6), (true, 7), (true, 8), (true, 9), (true, 10), (true, 11)] rfl (by decide +kernel) (by decide +kernel) rfl
            clear hP hD hS hPc hDc hFc hB hk1 hz1 hvm
            have hP := hP9
            have hD := hD9
            have hS := hS9
            clear hP9 hD9 hS9
            obtain ⟨f46_0, f46_1, f46_2⟩ : ((-1) ≤ v46.toInt) ∧ (v46.toInt ≤ 9) ∧ (∀ lw : Option ((Int → Int) × Int), zLwR ho fC fV fK fT fS fU lw → zB5 v43 (fBr (4 * m25_L_4.toInt.toNat + 2)) (fN m25_L_4.toInt.toNat) (fPa (4 * p0.toInt.toNat)) (fN (6 + p0.toInt.toNat)) (fN 15) → v46 = zSh (fPa (4 * p0.toInt.toNat + 3)) (zLat (fun i => fN (17 + i)) p0 (fN 16).toInt.toNat) (zLkv lw v43 (fBr (4 * m25_L_4.toInt.toNat + 2)) (fN m25_L_4.toInt.toNat) (fPa (4 * p0.toInt.toNat)) (fN (6 + p0.toInt.toNat)) (fN 15))) := hw
            have F46 := f46_2
            refine lv_iload_n hx hb dX11_whose_49 rfl (lv_at hl 4 rfl) ?_
            refine lv_icmp_ne (tgt := 60) hx hb dX11_whose_50 (by decide) (fun c50 => ?_) (fun c50 => ?_)
            · have c50 : ¬ v46.toInt = p1.toInt := z6 rfl rfl c50
              refine lv_iconst (v := 0) hx hb dX11_whose_60 (by decide) ?_
              refine lv_ior hx hb dX11_whose_61 ?_
              refine lv_topi (fun v61 e61 => ?_)
              refine lv_istore_n (lv' := [(3, .int v61), (4, .int m25_L_4), (0, .ref h0), (1, .int p0), (2, .int p1)]) hx hb dX11_whose_62 rfl hl (by decide) rfl (fun ls hl => ?_)
              obtain ⟨v63, e63⟩ : ∃ y : Int32, y = m25_L_4 + Int32.ofInt (1) := ⟨_, rfl⟩
              refine lv_iinc (v := v63) (lv' := [(4, .int v63), (3, .int v61), (0, .ref h0), (1, .int p0), (2, .int p1)]) hx hb dX11_whose_63 hl (k := 1) rfl e63.symm (by decide) rfl (fun ls hl => ?_)
              have i63 : v63.toInt = m25_L_4.toInt + 1 := zaddI e63 (by decide) (by omega) (by omega)
              refine lv_goto (tgt := 25) hx hb dX11_whose_66 (by decide) ?_
              exact ih25 _ (by omega) u46_0 u46_1 v61 v63 (by omega) (fun kc kT q_fR q_fKp q_frf kl hc hb h hL => by have a := jv25_0 kc kT _ _ _ kl hc hb h hL; have y43 : v43 = kc.2.1 (4 * m25_L_4.toInt.toNat) := (F43.trans (congrArg fBr (show 4 * m25_L_4.toInt.toNat + (0 : Int32).toInt.toNat = 4 * m25_L_4.toInt.toNat by have : (0 : Int32).toInt = 0 := (by decide); omega))).trans (hc.2.1 _ (by omega)); have s0 : v46 = sShow kc kT.1 kl p0 m25_L_4 (kc.2.1 (4 * m25_L_4.toInt.toNat)) := (by rw [← y43]; exact sShow_r hc hb h.1 (by omega) (by omega) (by rw [y43]; exact zFace_b hb (by omega)) hL F46); first | exact zWhoY a (by omega) i63 s0 (by omega) e56 e61 | exact (zor0 e61 rfl).trans (zWhoN a (by omega) i63 s0 (by omega))) (by omega) rfl H locs ls hP hD hS (lv_sub hl [0, 1, 2, 3, 4] rfl)
            · have c50 : v46.toInt = p1.toInt := z5 rfl rfl c50
              refine lv_iconst (v := 1) hx hb dX11_whose_53 (by decide) ?_
              refine lv_iload hx hb dX11_whose_54 (lv_at hl 0 rfl) ?_
              refine lv_ishl hx hb dX11_whose_56 ?_
              refine lv_topi (fun v56 e56 => ?_)
              have i56 : 1 ≤ v56.toInt ∧ v56.toInt ≤ 32 := zshl1 e56 (by omega) (by omega)
              refine lv_goto (tgt := 61) hx hb dX11_whose_57 (by decide) ?_
              refine lv_ior hx hb dX11_whose_61 ?_
              refine lv_topi (fun v61 e61 => ?_)
              refine lv_istore_n (lv' := [(3, .int v61), (4, .int m25_L_4), (0, .ref h0), (1, .int p0), (2, .int p1)]) hx hb dX11_whose_62 rfl hl (by decide) rfl (fun ls hl => ?_)
              obtain ⟨v63, e63⟩ : ∃ y : Int32, y = m25_L_4 + Int32.ofInt (1) := ⟨_, rfl⟩
              refine lv_iinc (v := v63) (lv' := [(4, .int v63), (3, .int v61), (0, .ref h0), (1, .int p0), (2, .int p1)]) hx hb dX11_whose_63 hl (k := 1) rfl e63.symm (by decide) rfl (fun ls hl => ?_)
              have i63 : v63.toInt = m25_L_4.toInt + 1 := zaddI e63 (by decide) (by omega) (by omega)
              refine lv_goto (tgt := 25) hx hb dX11_whose_66 (by decide) ?_
              exact ih25 _ (by omega) u46_0 u46_1 v61 v63 (by omega) (fun kc kT q_fR q_fKp q_frf kl hc hb h hL => by have a := jv25_0 kc kT _ _ _ kl hc hb h hL; have y43 : v43 = kc.2.1 (4 * m25_L_4.toInt.toNat) := (F43.trans (congrArg fBr (show 4 * m25_L_4.toInt.toNat + (0 : Int32).toInt.toNat = 4 * m25_L_4.toInt.toNat by have : (0 : Int32).toInt = 0 := (by decide); omega))).trans (hc.2.1 _ (by omega)); have s0 : v46 = sShow kc kT.1 kl p0 m25_L_4 (kc.2.1 (4 * m25_L_4.toInt.toNat)) := (by rw [← y43]; exact sShow_r hc hb h.1 (by omega) (by omega) (by rw [y43]; exact zFace_b hb (by omega)) hL F46); first | exact zWhoY a (by omega) i63 s0 (by omega) e56 e61 | exact (zor0 e61 rfl).trans (zWhoN a (by omega) i63 s0 (by omega))) (by omega) rfl H locs ls hP hD hS (lv_sub hl [0, 1, 2, 3, 4] rfl)
      refine lv_istore (lv' := [(4, .int 0), (3, .int 0), (0, .ref h0), (1, .int p0), (2, .int p1)]) hx hb dX11_whose_23 hl (by decide) rfl (fun ls hl => ?_)
      have zj25_m25_L_3 : (0 : Int32).toInt = 0 := by decide
      have zj25_m25_L_4 : (0 : Int32).toInt = 0 := by decide
      exact J25 _ fL fX 0 0 (by decide) (fun kc kT q_fR q_fKp q_frf kl hc hb h hL => rfl) (by omega) rfl H locs ls hP hD hS (lv_sub hl [0, 1, 2, 3, 4] rfl)
    · have c15 : v12.toInt = 0 := z5 rfl (by decide) c15
      refine lv_iconst (v := (-1)) hx hb dX11_whose_18 (by decide) ?_
      have zr0 : ((-1) : Int32).toInt = (-1) := by decide
      rw [hQ]
      exact W.iret (v := ((-1))) hx hb hr (fun t ht hW => ⟨⟨(-1), (fL, fX), rfl, (by (try dsimp only); exact fun kc kT q_fR q_fKp q_frf kl hc hb h hL => by unfold sV_who; rw [if_neg (by omega)]; ), ⟨by rw [ht]; exact hP, hD⟩⟩, hS.F ht⟩) hS.2.2 dX11_whose_19
set_option maxHeartbeats 4000000 in
set_option maxRecDepth 100000 in
theorem g_X11_heads (l : Launch) (dC : Nat → ClassId) (dI : Nat → Nat → Nat) (cI cJ : ClassId) (h0 : Nat) (p0 : Int32) (p1 : Int32) (p2 : Int32) (th : Int32) (tB : Nat) (tsz : Int32) (tat : Int32) (wr : Int32) (dp : Int32) (rC : Nat) (rV : Nat) (rD : Nat) (rK : Nat) (rT : Nat) (rS : Nat) (rU : Nat) (lw : Int32) (tx : Int32) (rL : Nat) (rX : Nat) (qR : Nat) (qB : Nat) (qP : Nat) (qnb : Int32) (qnp : Int32) (aR : Nat) (aB : Nat) (aP : Nat) (nb : Int32) (np : Int32) (aN : Nat) (rf : Nat) (ho : Int32) (br : Int32) (aK : Nat) (ac : Int32) (dw : Int64) (aE : Nat) (sr : Int32) (sf : Int32) (aA : Nat) (aH : Nat) (aI : Nat) (hi : Int32) (fN : Nat → Int32) (sz : Nat) (n_ac : 0 ≤ ac.toInt ∧ ac.toInt ≤ 40) (n_hi : 0 ≤ hi.toInt ∧ hi.toInt ≤ 1) (n_ho : (-1) ≤ ho.toInt ∧ ho.toInt ≤ 3) (n_lw : 0 ≤ lw.toInt ∧ lw.toInt ≤ 4) (n_nb : 0 ≤ nb.toInt ∧ nb.toInt ≤ 6) (n_np : 0 ≤ np.toInt ∧ np.toInt ≤ 5) (n_qnb : 0 ≤ qnb.toInt ∧ qnb.toInt ≤ 6) (n_qnp : 0 ≤ qnp.toInt ∧ qnp.toInt ≤ 5) (n_tat : 0 ≤ tat.toInt ∧ tat.toInt ≤ 260) (n_tsz : 0 ≤ tsz.toInt ∧ tsz.toInt ≤ 240) (n_wr : (-1) ≤ wr.toInt ∧ wr.toInt ≤ 260)  (ci_fN_zNw_np : zNw np fN)  : Met l yX11_heads (.code yX11_heads cX11_heads 8 (some .int) :: wA) ({ frames := 2, cells := 0, slots := 0, locals := 43 }) (zP (dC, dI) [(cI, .int), (cJ, .long)] [.ref h0, .int p0, .int p1, .int p2] sz [(h0, .inr (11, [.int th, .ref tB, .int tsz, .int tat, .int wr, .int dp, .ref rC, .ref rV, .ref rD, .ref rK, .ref rT, .ref rS, .ref rU, .int lw, .int tx, .ref rL, .ref rX, .ref qR, .ref qB, .ref qP, .int qnb, .int qnp, .ref aR, .ref aB, .ref aP, .int nb, .int np, .ref aN, .ref rf, .int ho, .int br, .ref aK, .int ac, .long dw, .ref aE, .int sr, .int sf, .ref aA, .ref aH, .ref aI, .int hi])), (aN, .inl (cI, 97, .inl fN))]) (va_Qi (fun (r : Int32) (u : Unit) => (∀ (kc : zK3) (kT : zT) (q_fR : Nat → Int32) (q_fBr : Nat → Int32) (q_fPa : Nat → Int32) (q_fKp : Nat → Int32) (q_frf : Nat → Int32), zCn q_fR q_fBr q_fPa nb.toInt np.toInt kc → zKo nb.toInt np.toInt kc kT → zTr nb.toInt np.toInt kT fN q_fKp ac q_frf → r = sV_hea np.toInt kT.1 p0 p1 p2)) (fun (_ : Unit) (_ : State) => True) (va_A [] sz)) 0 0 (va_A [] sz) := by
  refine Met.ofW (cc := cX11_heads) (maxL := 8) (ret := (some .int)) (by decide) rfl ?_
  intro p e s m args below meth c s₁ B hml hv
  have y_ac : zHid (0 ≤ ac.toInt ∧ ac.toInt ≤ 40) := n_ac
  have y_hi : zHid (0 ≤ hi.toInt ∧ hi.toInt ≤ 1) := n_hi
  have y_ho : zHid ((-1) ≤ ho.toInt ∧ ho.toInt ≤ 3) := n_ho
  have y_lw : zHid (0 ≤ lw.toInt ∧ lw.toInt ≤ 4) := n_lw
  have y_qnb : zHid (0 ≤ qnb.toInt ∧ qnb.toInt ≤ 6) := n_qnb
  have y_qnp : zHid (0 ≤ qnp.toInt ∧ qnp.toInt ≤ 5) := n_qnp
  have y_tat : zHid (0 ≤ tat.toInt ∧ tat.toInt ≤ 260) := n_tat
  have y_tsz : zHid (0 ≤ tsz.toInt ∧ tsz.toInt ≤ 240) := n_tsz
  have y_wr : zHid ((-1) ≤ wr.toInt ∧ wr.toInt ≤ 260) := n_wr
  clear n_ac n_hi n_ho n_lw n_qnb n_qnp n_tat n_tsz n_wr
  obtain ⟨hargs, hsz, hP, hK, hT⟩ := hv
  have hx := B.exec
  have hb := B.bytes
  have hr := B.returns
  have hts : ∀ w ∈ wA, w.before args s = true := fun w h => atoms_spec (ws := .code yX11_heads cX11_heads 8 (some .int) :: wA) B.pre w (List.mem_cons_of_mem _ h)
  have hown : s.vm.findClass RX11 = some m.cls := findClass_of_methodNamed B.named
  have hlocks := B.notSynchronized
  subst hsz
  have hD : va_D (va_A [] s.heap.size) [] := zD0
  generalize hAe : va_A [] s.heap.size = A at hD ⊢
  have hA : ∀ q : Nat, s.heap.size ≤ q → A q := fun q h => by rw [← hAe]; exact Or.inr h
  have hl := lv_entry ([.ref h0, .int p0, .int p1, .int p2]) (n := 8) (Nat.le_of_ble_eq_true rfl)
  rw [show entryFrame m args 8 = entryFrame m ([.ref h0, .int p0, .int p1, .int p2] : List Value).toArray 8 by rw [hargs], lg_entry_eq]
  generalize (lg_sl ([.ref h0, .int p0, .int p1, .int p2]) ++ List.replicate (8 - (lg_sl ([.ref h0, .int p0, .int p1, .int p2])).length) Slot.unset).toArray = ls at hl ⊢
  have hl : lv_has ls 8 [(0, .ref h0), (1, .int p0), (2, .int p1), (3, .int p2)] := hl
  refine zstart (fun H hH => ?_)
  rw [← hH] at hP
  have hS : va_S A s.heap H [] := by rw [hH]; exact va_S.rf
  generalize ([] : List Loc) = locs at hS ⊢
  refine zgen (fun R Q hR hQ => ?_)
  refine lv_aload_n hx hb dX11_heads_0 rfl (lv_at hl 0 rfl) ?_
  refine lv_iload_n hx hb dX11_heads_1 rfl (lv_at hl 1 rfl) ?_
  obtain ⟨hPc, hDc⟩ := zc2 (wc := [(h0, .inr (11, [.int th, .ref tB, .int tsz, .int tat, .int wr, .int dp, .ref rC, .ref rV, .ref rD, .ref rK, .ref rT, .ref rS, .ref rU, .int lw, .int tx, .ref rL, .ref rX, .ref qR, .ref qB, .ref qP, .int qnb, .int qnp, .ref aR, .ref aB, .ref aP, .int nb, .int np, .ref aN, .ref rf, .int ho, .int br, .ref aK, .int ac, .long dw, .ref aE, .int sr, .int sf, .ref aA, .ref aH, .ref aI, .int hi]))]) hP hT [0] (by decide +kernel) rfl
  have hFc := zfr hS hA
  refine va_calli (va_runV (As := [.int p0]) (rest := []) ⟨hx, hb, hml, hown, hts⟩ (g_X11_isPainter l dC dI cI cJ h0 p0 th tB tsz tat wr dp rC rV rD rK rT rS rU lw tx rL rX qR qB qP qnb qnp aR aB aP nb np aN rf ho br aK ac dw aE sr sf aA aH aI hi H.size y_ac y_hi y_ho y_lw n_nb n_np y_qnb y_qnp y_tat y_tsz y_wr) (cwV 1 hts (zgV qw1410 qw1412 qw57 qw108 qw1413) rfl rfl rfl hd_X11_isPainter ⟨by rw [hR]; exact Nat.le_of_ble_eq_true rfl, by rw [hR]; exact Nat.le_of_ble_eq_true rfl⟩) (zPV hPc hK hDc (va_recv (q := (RX11, TX11, 41)) hK hP (ci := 11) (q0 := 0) rfl rfl)) rfl rfl hl.1 rfl (lv_room (Nat.le_of_ble_eq_true rfl)) dX11_heads_2 ⟨Nat.zero_le _, Nat.zero_le _⟩) hS (fun q _ h => hFc q h) hFc (fun v2 u2 t H locs ht hvm hw hB hz1 hk1 hS9 => ?_)
  replace hP := zkeep hP hk1
  replace hS := hS9
  clear hPc hDc hFc hk1 hz1 hvm hS9
  obtain ⟨f2_0, f2_1, f2_2, f2_3⟩ : (0 ≤ v2.toInt) ∧ (v2.toInt ≤ 1) ∧ (¬ v2.toInt = 0 → (0 ≤ p0.toInt ∧ p0.toInt < np.toInt)) ∧ (v2.toInt = 0 → ¬ (0 ≤ p0.toInt ∧ p0.toInt < np.toInt)) := hw
  refine lv_if_eq (tgt := 28) hx hb dX11_heads_5 (by decide) (fun c5 => ?_) (fun c5 => ?_)
  · have c5 : v2.toInt = 0 := z5 rfl (by decide) c5
    refine lv_iconst (v := (-1)) hx hb dX11_heads_28 (by decide) ?_
    have zr0 : ((-1) : Int32).toInt = (-1) := by decide
    rw [hQ]
    exact W.iret (v := ((-1))) hx hb hr (fun t ht hW => ⟨⟨(-1), (), rfl, (by (try dsimp only); exact fun kc kT q_fR q_fBr q_fPa q_fKp q_frf hc hb h => by unfold sV_hea; rw [if_neg (by omega)]; ), trivial⟩, hS.F ht⟩) hS.2.2 dX11_heads_29
  · have c5 : ¬ v2.toInt = 0 := z6 rfl (by decide) c5
    refine lv_iload_n hx hb dX11_heads_8 rfl (lv_at hl 2 rfl) ?_
    refine lv_iconst (v := 0) hx hb dX11_heads_9 (by decide) ?_
    refine lv_bipush (v := 20) hx hb dX11_heads_10 (by decide) ?_
    have hPc : va_P (dC, dI) vwCl [] H := zP0
    have hDc : va_D (fun _ => True) [] := zD0
    have hFc := zfr hS hA
    refine va_calli (va_runS (As := [.int p1, .int 0, .int 20]) (rest := []) ⟨hx, hb, hml, hown, hts⟩ (g_X11_in l dC dI cI cJ p1 0 20 H.size) (cwS 3 hts (zgS qw1305 qw1306 qw108 qw1307) rfl rfl rfl hd_X11_in ⟨by rw [hR]; exact Nat.le_of_ble_eq_true rfl, by rw [hR]; exact Nat.le_of_ble_eq_true rfl⟩) (zPS hPc hK hDc) rfl rfl hl.1 rfl (lv_room (Nat.le_of_ble_eq_true rfl)) dX11_heads_12 ⟨Nat.zero_le _, Nat.zero_le _⟩) hS (fun q _ h => hFc q h) hFc (fun v12 u12 t H locs ht hvm hw hB hz1 hk1 hS9 => ?_)
    replace hP := zkeep hP hk1
    replace hS := hS9
    clear hPc hDc hFc hk1 hz1 hvm hS9
    have zn12_0 : (0 : Int32).toInt = 0 := by decide
    have zn12_20 : (20 : Int32).toInt = 20 := by decide
    obtain ⟨f12_0, f12_1, f12_2, f12_3⟩ : (0 ≤ v12.toInt) ∧ (v12.toInt ≤ 1) ∧ (¬ v12.toInt = 0 → ((0 : Int32).toInt ≤ p1.toInt ∧ p1.toInt ≤ (20 : Int32).toInt)) ∧ (v12.toInt = 0 → (p1.toInt < (0 : Int32).toInt ∨ (20 : Int32).toInt < p1.toInt)) := hw
    refine lv_if_eq (tgt := 28) hx hb dX11_heads_15 (by decide) (fun c15 => ?_) (fun c15 => ?_)
    · have c15 : v12.toInt = 0 := z5 rfl (by decide) c15
      refine lv_iconst (v := (-1)) hx hb dX11_heads_28 (by decide) ?_
      have zr0 : ((-1) : Int32).toInt = (-1) := by decide
      rw [hQ]
      exact W.iret (v := ((-1))) hx hb hr (fun t ht hW => ⟨⟨(-1), (), rfl, (by (try dsimp only); exact fun kc kT q_fR q_fBr q_fPa q_fKp q_frf hc hb h => by unfold sV_hea; rw [if_neg (by omega)]; ), trivial⟩, hS.F ht⟩) hS.2.2 dX11_heads_29
    · have c15 : ¬ v12.toInt = 0 := z6 rfl (by decide) c15
      refine lv_iload_n hx hb dX11_heads_18 rfl (lv_at hl 3 rfl) ?_
      refine lv_iconst (v := 0) hx hb dX11_heads_19 (by decide) ?_
      refine lv_bipush (v := 100) hx hb dX11_heads_20 (by decide) ?_
      have hPc : va_P (dC, dI) vwCl [] H := zP0
      have hDc : va_D (fun _ => True) [] := zD0
      have hFc := zfr hS hA
      refine va_calli (va_runS (As := [.int p2, .int 0, .int 100]) (rest := []) ⟨hx, hb, hml, hown, hts⟩ (g_X11_in l dC dI cI cJ p2 0 100 H.size) (cwS 3 hts (zgS qw1305 qw1306 qw108 qw1307) rfl rfl rfl hd_X11_in ⟨by rw [hR]; exact Nat.le_of_ble_eq_true rfl, by rw [hR]; exact Nat.le_of_ble_eq_true rfl⟩) (zPS hPc hK hDc) rfl rfl hl.1 rfl (lv_room (Nat.le_of_ble_eq_true rfl)) dX11_heads_22 ⟨Nat.zero_le _, Nat.zero_le _⟩) hS (fun q _ h => hFc q h) hFc (fun v22 u22 t H locs ht hvm hw hB hz1 hk1 hS9 => ?_)
      replace hP := zkeep hP hk1
      replace hS := hS9
      clear hPc hDc hFc hk1 hz1 hvm hS9
      have zn22_0 : (0 : Int32).toInt = 0 := by decide
      have zn22_100 : (100 : Int32).toInt = 100 := by decide
      obtain ⟨f22_0, f22_1, f22_2, f22_3⟩ : (0 ≤ v22.toInt) ∧ (v22.toInt ≤ 1) ∧ (¬ v22.toInt = 0 → ((0 : Int32).toInt ≤ p2.toInt ∧ p2.toInt ≤ (100 : Int32).toInt)) ∧ (v22.toInt = 0 → (p2.toInt < (0 : Int32).toInt ∨ (100 : Int32).toInt < p2.toInt)) := hw
      refine lv_if_ne (tgt := 30) hx hb dX11_heads_25 (by decide) (fun c25 => ?_) (fun c25 => ?_)
      · have c25 : ¬ v22.toInt = 0 := z6 rfl (by decide) c25
        refine lv_aload_n hx hb dX11_heads_30 rfl (lv_at hl 0 rfl) ?_
        refine va_get (D := (dC, dI)) (ci := 11) (v := .ref aN) (C := RX11) (T := TX11) (N := 41) hx hb hts iX11 hown hK hP 0 rfl rfl 27 (by decide) (hts _ qw1154) (fun _ h9 => h9) rfl dX11_heads_31 ?_
        refine lv_bipush (v := 6) hx hb dX11_heads_34 (by decide) ?_
        refine lv_iload_n hx hb dX11_heads_36 rfl (lv_at hl 1 rfl) ?_
        refine lv_iadd hx hb dX11_heads_37 ?_
        refine lv_topi (fun v37 e37 => ?_)
        have i37 : v37.toInt = 6 + p0.toInt := zadd e37 (by decide) rfl (by omega) (by omega)
        refine va_iald hx hb hK hP 1 0 rfl rfl (vp_in_iff.mpr ⟨by omega, by omega⟩) dX11_heads_38 ?_
        refine lv_topi (fun v38 e38 => ?_)
        refine lv_iconst (v := 5) hx hb dX11_heads_39 (by decide) ?_
        refine lv_icmp_le (tgt := 49) hx hb dX11_heads_40 (by decide) (fun c40 => ?_) (fun c40 => ?_)
        · have c40 : v38.toInt ≤ 5 := z3 rfl (by decide) c40
          refine lv_iload_n hx hb dX11_heads_49 rfl (lv_at hl 3 rfl) ?_
          refine lv_istore (lv' := [(4, .int p2), (0, .ref h0), (1, .int p0), (2, .int p1), (3, .int p2)]) hx hb dX11_heads_50 hl (by decide) rfl (fun ls hl => ?_)
          refine lv_ldc2 (v := 1000000000) hx hb hown (hts _ qw1699) dX11_heads_52 ?_
          refine lv_lstore (lv' := [(5, .long 1000000000), (4, .int p2), (0, .ref h0), (1, .int p0), (2, .int p1), (3, .int p2)]) hx hb dX11_heads_55 hl (by decide) rfl (fun ls hl => ?_)
          refine lv_iconst (v := 0) hx hb dX11_heads_57 (by decide) ?_
          have J60 : ∀ (n : Nat) (m60_L_4 : Int32) (m60_L_5 : Int64) (m60_L_7 : Int32), (0 ≤ m60_L_4.toInt ∧ m60_L_4.toInt ≤ 100) → (0 ≤ m60_L_7.toInt ∧ m60_L_7.toInt ≤ 20) → (m60_L_4 = sEch (fN (6 + p0.toInt.toNat)) p2) → (m60_L_5 = sHea m60_L_4 m60_L_7.toInt.toNat) → (m60_L_7.toInt ≤ p1.toInt) → (21 - m60_L_7.toInt).toNat = n → ∀ (H : Heap) (locs : List Loc) (ls : Array Slot), va_P (dC, dI) vwCl [(h0, .inr (11, [.int th, .ref tB, .int tsz, .int tat, .int wr, .int dp, .ref rC, .ref rV, .ref rD, .ref rK, .ref rT, .ref rS, .ref rU, .int lw, .int tx, .ref rL, .ref rX, .ref qR, .ref qB, .ref qP, .int qnb, .int qnp, .ref aR, .ref aB, .ref aP, .int nb, .int np, .ref aN, .ref rf, .int ho, .int br, .ref aK, .int ac, .long dw, .ref aE, .int sr, .int sf, .ref aA, .ref aH, .ref aI, .int hi])), (aN, .inl (cI, 97, .inl fN))] H → va_S A s.heap H locs → lv_has ls 8 [(7, .int m60_L_7), (5, .long m60_L_5), (4, .int m60_L_4), (0, .ref h0), (1, .int p0), (2, .int p1), (3, .int p2)] → W p l e R s m args below meth c H locs 0 0 Q (F0 m 60 ls []) := by
            intro n60
            induction n60 using Nat.strongRecOn with
            | _ n60 ih60 =>
              intro m60_L_4 m60_L_5 m60_L_7 jf60_0 jf60_1 jv60_0 jv60_1 jf60_4 hmu60 H locs ls hP hS hl
              refine lv_iload hx hb dX11_heads_60 (lv_at hl 0 rfl) ?_
              refine lv_iload_n hx hb dX11_heads_62 rfl (lv_at hl 5 rfl) ?_
              refine lv_icmp_ge (tgt := 87) hx hb dX11_heads_63 (by decide) (fun c63 => ?_) (fun c63 => ?_)
              · have c63 : p1.toInt ≤ m60_L_7.toInt := z3 rfl rfl c63
                refine lv_lload hx hb dX11_heads_87 (lv_at hl 1 rfl) ?_
                refine lv_l2i hx hb dX11_heads_89 rfl ?_
                refine lv_topi (fun v89 e89 => ?_)
                rw [hQ]
                exact W.iret (v := v89) hx hb hr (fun t ht hW => ⟨⟨v89, (), rfl, (by (try dsimp only); exact fun kc kT q_fR q_fBr q_fPa q_fKp q_frf hc hb h => by unfold sV_hea; rw [if_pos (by omega)]; rw [← h.1.2.1 _ (by omega), ← jv60_0, show p1.toInt.toNat = m60_L_7.toInt.toNat by omega, ← jv60_1]; exact e89), trivial⟩, hS.F ht⟩) hS.2.2 dX11_heads_90
              · have c63 : m60_L_7.toInt < p1.toInt := z4 rfl rfl c63
                refine lv_lload hx hb dX11_heads_66 (lv_at hl 1 rfl) ?_
                refine lv_lload hx hb dX11_heads_68 (lv_at hl 1 rfl) ?_
                refine lv_iload hx hb dX11_heads_70 (lv_at hl 2 rfl) ?_
                refine lv_i2l hx hb dX11_heads_72 rfl ?_
                refine lv_topl (fun v72 e72 => ?_)
                refine lv_lmul hx hb dX11_heads_73 ?_
                refine lv_topl (fun v73 e73 => ?_)
                refine lv_ldc2 (v := 100) hx hb hown (hts _ qw1700) dX11_heads_74 ?_
                refine lv_ldiv hx hb dX11_heads_77 (by decide) ?_
                refine lv_topl (fun v77 e77 => ?_)
                refine lv_lsub hx hb dX11_heads_78 ?_
                refine lv_topl (fun v78 e78 => ?_)
                refine lv_lstore (lv' := [(5, .long v78), (7, .int m60_L_7), (4, .int m60_L_4), (0, .ref h0), (1, .int p0), (2, .int p1), (3, .int p2)]) hx hb dX11_heads_79 hl (by decide) rfl (fun ls hl => ?_)
                obtain ⟨v81, e81⟩ : ∃ y : Int32, y = m60_L_7 + Int32.ofInt (1) := ⟨_, rfl⟩
                refine lv_iinc (v := v81) (lv' := [(7, .int v81), (5, .long v78), (4, .int m60_L_4), (0, .ref h0), (1, .int p0), (2, .int p1), (3, .int p2)]) hx hb dX11_heads_81 hl (k := 1) rfl e81.symm (by decide) rfl (fun ls hl => ?_)
                have i81 : v81.toInt = m60_L_7.toInt + 1 := zaddI e81 (by decide) (by omega) (by omega)
                refine lv_goto (tgt := 60) hx hb dX11_heads_84 (by decide) ?_
                exact ih60 _ (by omega) m60_L_4 v78 v81 jf60_0 (by omega) (jv60_0) (zHeaS jv60_1 (by omega) i81 e72 e73 e77 e78) (by omega) rfl H locs ls hP hS (lv_sub hl [0, 1, 2, 3, 4, 5, 6] rfl)
          refine lv_istore (lv' := [(7, .int 0), (5, .long 1000000000), (4, .int p2), (0, .ref h0), (1, .int p0), (2, .int p1), (3, .int p2)]) hx hb dX11_heads_58 hl (by decide) rfl (fun ls hl => ?_)
          have zj60_m60_L_7 : (0 : Int32).toInt = 0 := by decide
          exact J60 _ p2 1000000000 0 (by omega) (by decide) (by unfold sEch; rw [← zIxN (n := 6 + p0.toInt.toNat) e38 (by omega)]; first | exact e45.trans (if_pos (by omega)).symm | exact (if_neg (by omega)).symm) (rfl) (by omega) rfl H locs ls hP hS (lv_sub hl [0, 1, 2, 3, 4, 5, 6] rfl)
        · have c40 : 5 < v38.toInt := z4 rfl (by decide) c40
          refine lv_iload_n hx hb dX11_heads_43 rfl (lv_at hl 3 rfl) ?_
          refine lv_iconst (v := 2) hx hb dX11_heads_44 (by decide) ?_
          refine lv_idiv hx hb dX11_heads_45 (by decide) ?_
          refine lv_topi (fun v45 e45 => ?_)
          have i45 : v45.toInt = p2.toInt / 2 := zdiv e45 rfl (by decide) (by omega) (by omega)
          refine lv_goto (tgt := 50) hx hb dX11_heads_46 (by decide) ?_
          refine lv_istore (lv' := [(4, .int v45), (0, .ref h0), (1, .int p0), (2, .int p1), (3, .int p2)]) hx hb dX11_heads_50 hl (by decide) rfl (fun ls hl => ?_)
          refine lv_ldc2 (v := 1000000000) hx hb hown (hts _ qw1699) dX11_heads_52 ?_
          refine lv_lstore (lv' := [(5, .long 1000000000), (4, .int v45), (0, .ref h0), (1, .int p0), (2, .int p1), (3, .int p2)]) hx hb dX11_heads_55 hl (by decide) rfl (fun ls hl => ?_)
          refine lv_iconst (v := 0) hx hb dX11_heads_57 (by decide) ?_
          have J60 : ∀ (n : Nat) (m60_L_4 : Int32) (m60_L_5 : Int64) (m60_L_7 : Int32), (0 ≤ m60_L_4.toInt ∧ m60_L_4.toInt ≤ 100) → (0 ≤ m60_L_7.toInt ∧ m60_L_7.toInt ≤ 20) → (m60_L_4 = sEch (fN (6 + p0.toInt.toNat)) p2) → (m60_L_5 = sHea m60_L_4 m60_L_7.toInt.toNat) → (m60_L_7.toInt ≤ p1.toInt) → (21 - m60_L_7.toInt).toNat = n → ∀ (H : Heap) (locs : List Loc) (ls : Array Slot), va_P (dC, dI) vwCl [(h0, .inr (11, [.int th, .ref tB, .int tsz, .int tat, .int wr, .int dp, .ref rC, .ref rV, .ref rD, .ref rK, .ref rT, .ref rS, .ref rU, .int lw, .int tx, .ref rL, .ref rX, .ref qR, .ref qB, .ref qP, .int qnb, .int qnp, .ref aR, .ref aB, .ref aP, .int nb, .int np, .ref aN, .ref rf, .int ho, .int br, .ref aK, .int ac, .long dw, .ref aE, .int sr, .int sf, .ref aA, .ref aH, .ref aI, .int hi])), (aN, .inl (cI, 97, .inl fN))] H → va_S A s.heap H locs → lv_has ls 8 [(7, .int m60_L_7), (5, .long m60_L_5), (4, .int m60_L_4), (0, .ref h0), (1, .int p0), (2, .int p1), (3, .int p2)] → W p l e R s m args below meth c H locs 0 0 Q (F0 m 60 ls []) := by
            intro n60
            induction n60 using Nat.strongRecOn with
            | _ n60 ih60 =>
              intro m60_L_4 m60_L_5 m60_L_7 jf60_0 jf60_1 jv60_0 jv60_1 jf60_4 hmu60 H locs ls hP hS hl
              refine lv_iload hx hb dX11_heads_60 (lv_at hl 0 rfl) ?_
              refine lv_iload_n hx hb dX11_heads_62 rfl (lv_at hl 5 rfl) ?_
              refine lv_icmp_ge (tgt := 87) hx hb dX11_heads_63 (by decide) (fun c63 => ?_) (fun c63 => ?_)
              · have c63 : p1.toInt ≤ m60_L_7.toInt := z3 rfl rfl c63
                refine lv_lload hx hb dX11_heads_87 (lv_at hl 1 rfl) ?_
                refine lv_l2i hx hb dX11_heads_89 rfl ?_
                refine lv_topi (fun v89 e89 => ?_)
                rw [hQ]
                exact W.iret (v := v89) hx hb hr (fun t ht hW => ⟨⟨v89, (), rfl, (by (try dsimp only); exact fun kc kT q_fR q_fBr q_fPa q_fKp q_frf hc hb h => by unfold sV_hea; rw [if_pos (by omega)]; rw [← h.1.2.1 _ (by omega), ← jv60_0, show p1.toInt.toNat = m60_L_7.toInt.toNat by omega, ← jv60_1]; exact e89), trivial⟩, hS.F ht⟩) hS.2.2 dX11_heads_90
              · have c63 : m60_L_7.toInt < p1.toInt := z4 rfl rfl c63
                refine lv_lload hx hb dX11_heads_66 (lv_at hl 1 rfl) ?_
                refine lv_lload hx hb dX11_heads_68 (lv_at hl 1 rfl) ?_
                refine lv_iload hx hb dX11_heads_70 (lv_at hl 2 rfl) ?_
                refine lv_i2l hx hb dX11_heads_72 rfl ?_
                refine lv_topl (fun v72 e72 => ?_)
                refine lv_lmul hx hb dX11_heads_73 ?_
                refine lv_topl (fun v73 e73 => ?_)
                refine lv_ldc2 (v := 100) hx hb hown (hts _ qw1700) dX11_heads_74 ?_
                refine lv_ldiv hx hb dX11_heads_77 (by decide) ?_
                refine lv_topl (fun v77 e77 => ?_)
                refine lv_lsub hx hb dX11_heads_78 ?_
                refine lv_topl (fun v78 e78 => ?_)
                refine lv_lstore (lv' := [(5, .long v78), (7, .int m60_L_7), (4, .int m60_L_4), (0, .ref h0), (1, .int p0), (2, .int p1), (3, .int p2)]) hx hb dX11_heads_79 hl (by decide) rfl (fun ls hl => ?_)
                obtain ⟨v81, e81⟩ : ∃ y : Int32, y = m60_L_7 + Int32.ofInt (1) := ⟨_, rfl⟩
                refine lv_iinc (v := v81) (lv' := [(7, .int v81), (5, .long v78), (4, .int m60_L_4), (0, .ref h0), (1, .int p0), (2, .int p1), (3, .int p2)]) hx hb dX11_heads_81 hl (k := 1) rfl e81.symm (by decide) rfl (fun ls hl => ?_)
                have i81 : v81.toInt = m60_L_7.toInt + 1 := zaddI e81 (by decide) (by omega) (by omega)
                refine lv_goto (tgt := 60) hx hb dX11_heads_84 (by decide) ?_
                exact ih60 _ (by omega) m60_L_4 v78 v81 jf60_0 (by omega) (jv60_0) (zHeaS jv60_1 (by omega) i81 e72 e73 e77 e78) (by omega) rfl H locs ls hP hS (lv_sub hl [0, 1, 2, 3, 4, 5, 6] rfl)
          refine lv_istore (lv' := [(7, .int 0), (5, .long 1000000000), (4, .int v45), (0, .ref h0), (1, .int p0), (2, .int p1), (3, .int p2)]) hx hb dX11_heads_58 hl (by decide) rfl (fun ls hl => ?_)
          have zj60_m60_L_7 : (0 : Int32).toInt = 0 := by decide
          exact J60 _ v45 1000000000 0 (by omega) (by decide) (by unfold sEch; rw [← zIxN (n := 6 + p0.toInt.toNat) e38 (by omega)]; first | exact e45.trans (if_pos (by omega)).symm | exact (if_neg (by omega)).symm) (rfl) (by omega) rfl H locs ls hP hS (lv_sub hl [0, 1, 2, 3, 4, 5, 6] rfl)
      · have c25 : v22.toInt = 0 := z5 rfl (by decide) c25
        refine lv_iconst (v := (-1)) hx hb dX11_heads_28 (by decide) ?_
        have zr0 : ((-1) : Int32).toInt = (-1) := by decide
        rw [hQ]
        exact W.iret (v := ((-1))) hx hb hr (fun t ht hW => ⟨⟨(-1), (), rfl, (by (try dsimp only); exact fun kc kT q_fR q_fBr q_fPa q_fKp q_frf hc hb h => by unfold sV_hea; rw [if_neg (by omega)]; ), trivial⟩, hS.F ht⟩) hS.2.2 dX11_heads_29
set_option maxHeartbeats 4000000 in
set_option maxRecDepth 100000 in
theorem g_X11_lies (l : Launch) (dC : Nat → ClassId) (dI : Nat → Nat → Nat) (cI cJ : ClassId) (h0 : Nat) (th : Int32) (tB : Nat) (tsz : Int32) (tat : Int32) (wr : Int32) (dp : Int32) (rC : Nat) (rV : Nat) (rD : Nat) (rK : Nat) (rT : Nat) (rS : Nat) (rU : Nat) (lw : Int32) (tx : Int32) (rL : Nat) (rX : Nat) (qR : Nat) (qB : Nat) (qP : Nat) (qnb : Int32) (qnp : Int32) (aR : Nat) (aB : Nat) (aP : Nat) (nb : Int32) (np : Int32) (aN : Nat) (rf : Nat) (ho : Int32) (br : Int32) (aK : Nat) (ac : Int32) (dw : Int64) (aE : Nat) (sr : Int32) (sf : Int32) (aA : Nat) (aH : Nat) (aI : Nat) (hi : Int32) (fBr : Nat → Int32) (fN : Nat → Int32) (sz : Nat) (n_ac : 0 ≤ ac.toInt ∧ ac.toInt ≤ 40) (n_hi : 0 ≤ hi.toInt ∧ hi.toInt ≤ 1) (n_ho : (-1) ≤ ho.toInt ∧ ho.toInt ≤ 3) (n_lw : 0 ≤ lw.toInt ∧ lw.toInt ≤ 4) (n_nb : 0 ≤ nb.toInt ∧ nb.toInt ≤ 6) (n_np : 0 ≤ np.toInt ∧ np.toInt ≤ 5) (n_qnb : 0 ≤ qnb.toInt ∧ qnb.toInt ≤ 6) (n_qnp : 0 ≤ qnp.toInt ∧ qnp.toInt ≤ 5) (n_tat : 0 ≤ tat.toInt ∧ tat.toInt ≤ 260) (n_tsz : 0 ≤ tsz.toInt ∧ tsz.toInt ≤ 240) (n_wr : (-1) ≤ wr.toInt ∧ wr.toInt ≤ 260)  (ci_fBr_zBr_nb : zBr nb fBr) (ci_fN_zNw_np : zNw np fN)  : Met l yX11_lies (.code yX11_lies cX11_lies 3 (some .int) :: wA) ({ frames := 1, cells := 0, slots := 0, locals := 30 }) (zP (dC, dI) [(cI, .int), (cJ, .long)] [.ref h0] sz [(h0, .inr (11, [.int th, .ref tB, .int tsz, .int tat, .int wr, .int dp, .ref rC, .ref rV, .ref rD, .ref rK, .ref rT, .ref rS, .ref rU, .int lw, .int tx, .ref rL, .ref rX, .ref qR, .ref qB, .ref qP, .int qnb, .int qnp, .ref aR, .ref aB, .ref aP, .int nb, .int np, .ref aN, .ref rf, .int ho, .int br, .ref aK, .int ac, .long dw, .ref aE, .int sr, .int sf, .ref aA, .ref aH, .ref aI, .int hi])), (aB, .inl (cI, 24, .inl fBr)), (aN, .inl (cI, 97, .inl fN))]) (va_Qi (fun (r : Int32) (u : Unit) => (r = zLie fBr (fun i => fN (17 + i)) (fN 16).toInt.toNat)) (fun (_ : Unit) (_ : State) => True) (va_A [] sz)) 0 0 (va_A [] sz) := by
  refine Met.ofW (cc := cX11_lies) (maxL := 3) (ret := (some .int)) (by decide) rfl ?_
  intro p e s m args below meth c s₁ B hml hv
  have y_ac : zHid (0 ≤ ac.toInt ∧ ac.toInt ≤ 40) := n_ac
  have y_hi : zHid (0 ≤ hi.toInt ∧ hi.toInt ≤ 1) := n_hi
  have y_ho : zHid ((-1) ≤ ho.toInt ∧ ho.toInt ≤ 3) := n_ho
  have y_lw : zHid (0 ≤ lw.toInt ∧ lw.toInt ≤ 4) := n_lw
  have y_nb : zHid (0 ≤ nb.toInt ∧ nb.toInt ≤ 6) := n_nb
  have y_np : zHid (0 ≤ np.toInt ∧ np.toInt ≤ 5) := n_np
  have y_qnb : zHid (0 ≤ qnb.toInt ∧ qnb.toInt ≤ 6) := n_qnb
  have y_qnp : zHid (0 ≤ qnp.toInt ∧ qnp.toInt ≤ 5) := n_qnp
  have y_tat : zHid (0 ≤ tat.toInt ∧ tat.toInt ≤ 260) := n_tat
  have y_tsz : zHid (0 ≤ tsz.toInt ∧ tsz.toInt ≤ 240) := n_tsz
  have y_wr : zHid ((-1) ≤ wr.toInt ∧ wr.toInt ≤ 260) := n_wr
  clear n_ac n_hi n_ho n_lw n_nb n_np n_qnb n_qnp n_tat n_tsz n_wr
  obtain ⟨hargs, hsz, hP, hK, hT⟩ := hv
  have hx := B.exec
  have hb := B.bytes
  have hr := B.returns
  have hts : ∀ w ∈ wA, w.before args s = true := fun w h => atoms_spec (ws := .code yX11_lies cX11_lies 3 (some .int) :: wA) B.pre w (List.mem_cons_of_mem _ h)
  have hown : s.vm.findClass RX11 = some m.cls := findClass_of_methodNamed B.named
  have hlocks := B.notSynchronized
  subst hsz
  have hD : va_D (va_A [] s.heap.size) [] := zD0
  generalize hAe : va_A [] s.heap.size = A at hD ⊢
  have hA : ∀ q : Nat, s.heap.size ≤ q → A q := fun q h => by rw [← hAe]; exact Or.inr h
  have hl := lv_entry ([.ref h0]) (n := 3) (Nat.le_of_ble_eq_true rfl)
  rw [show entryFrame m args 3 = entryFrame m ([.ref h0] : List Value).toArray 3 by rw [hargs], lg_entry_eq]
  generalize (lg_sl ([.ref h0]) ++ List.replicate (3 - (lg_sl ([.ref h0])).length) Slot.unset).toArray = ls at hl ⊢
  have hl : lv_has ls 3 [(0, .ref h0)] := hl
  refine zstart (fun H hH => ?_)
  rw [← hH] at hP
  have hS : va_S A s.heap H [] := by rw [hH]; exact va_S.rf
  generalize ([] : List Loc) = locs at hS ⊢
  refine zgen (fun R Q hR hQ => ?_)
  have q0 := ci_fN_zNw_np.2.1
  refine lv_iconst (v := 0) hx hb dX11_lies_0 (by decide) ?_
  refine lv_istore_n (lv' := [(1, .int 0), (0, .ref h0)]) hx hb dX11_lies_1 rfl hl (by decide) rfl (fun ls hl => ?_)
  refine lv_iconst (v := 0) hx hb dX11_lies_2 (by decide) ?_
  have J4 : ∀ (n : Nat) (m4_L_1 : Int32) (m4_L_2 : Int32), (0 ≤ m4_L_2.toInt ∧ m4_L_2.toInt ≤ 20) → (m4_L_2.toInt ≤ (fN 16).toInt ∨ m4_L_2.toInt = 0) → (m4_L_1 = zLie fBr (fun i => fN (17 + i)) m4_L_2.toInt.toNat) → (21 - m4_L_2.toInt).toNat = n → ∀ (H : Heap) (locs : List Loc) (ls : Array Slot), va_P (dC, dI) vwCl [(h0, .inr (11, [.int th, .ref tB, .int tsz, .int tat, .int wr, .int dp, .ref rC, .ref rV, .ref rD, .ref rK, .ref rT, .ref rS, .ref rU, .int lw, .int tx, .ref rL, .ref rX, .ref qR, .ref qB, .ref qP, .int qnb, .int qnp, .ref aR, .ref aB, .ref aP, .int nb, .int np, .ref aN, .ref rf, .int ho, .int br, .ref aK, .int ac, .long dw, .ref aE, .int sr, .int sf, .ref aA, .ref aH, .ref aI, .int hi])), (aB, .inl (cI, 24, .inl fBr)), (aN, .inl (cI, 97, .inl fN))] H → va_S A s.heap H locs → lv_has ls 3 [(2, .int m4_L_2), (1, .int m4_L_1), (0, .ref h0)] → W p l e R s m args below meth c H locs 0 0 Q (F0 m 4 ls []) := by
    intro n4
    induction n4 using Nat.strongRecOn with
    | _ n4 ih4 =>
      intro m4_L_1 m4_L_2 jf4_0 jf4_1 jv4_0 hmu4 H locs ls hP hS hl
      refine lv_iload_n hx hb dX11_lies_4 rfl (lv_at hl 0 rfl) ?_
      refine lv_aload_n hx hb dX11_lies_5 rfl (lv_at hl 2 rfl) ?_
      refine va_get (D := (dC, dI)) (ci := 11) (v := .ref aN) (C := RX11) (T := TX11) (N := 41) hx hb hts iX11 hown hK hP 0 rfl rfl 27 (by decide) (hts _ qw1154) (fun _ h9 => h9) rfl dX11_lies_6 ?_
      refine lv_bipush (v := 16) hx hb dX11_lies_9 (by decide) ?_
      refine va_iald hx hb hK hP 2 0 rfl rfl (by unfold vp_in; decide) dX11_lies_11 ?_
      refine lv_topi (fun v11 e11 => ?_)
      have i11 : v11.toInt = (fN 16).toInt ∧ 0 ≤ v11.toInt ∧ v11.toInt ≤ 20 := zNw_16 ci_fN_zNw_np e11
      refine lv_icmp_ge (tgt := 45) hx hb dX11_lies_12 (by decide) (fun c12 => ?_) (fun c12 => ?_)
      · have c12 : v11.toInt ≤ m4_L_2.toInt := z3 rfl rfl c12
        refine lv_iload_n hx hb dX11_lies_45 rfl (lv_at hl 1 rfl) ?_
        rw [hQ]
        exact W.iret (v := m4_L_1) hx hb hr (fun t ht hW => ⟨⟨m4_L_1, (), rfl, (by (try dsimp only); exact jv4_0.trans (by rw [show m4_L_2.toInt.toNat = (fN 16).toInt.toNat by omega])), trivial⟩, hS.F ht⟩) hS.2.2 dX11_lies_46
      · have c12 : m4_L_2.toInt < v11.toInt := z4 rfl rfl c12
        refine lv_iload_n hx hb dX11_lies_15 rfl (lv_at hl 1 rfl) ?_
        refine lv_aload_n hx hb dX11_lies_16 rfl (lv_at hl 2 rfl) ?_
        refine lv_iload_n hx hb dX11_lies_17 rfl (lv_at hl 0 rfl) ?_
        refine lv_iconst (v := 2) hx hb dX11_lies_18 (by decide) ?_
        obtain ⟨hPc, hDc⟩ := zc2 (wc := [(h0, .inr (11, [.int th, .ref tB, .int tsz, .int tat, .int wr, .int dp, .ref rC, .ref rV, .ref rD, .ref rK, .ref rT, .ref rS, .ref rU, .int lw, .int tx, .ref rL, .ref rX, .ref qR, .ref qB, .ref qP, .int qnb, .int qnp, .ref aR, .ref aB, .ref aP, .int nb, .int np, .ref aN, .ref rf, .int ho, .int br, .ref aK, .int ac, .long dw, .ref aE, .int sr, .int sf, .ref aA, .ref aH, .ref aI, .int hi])), (aN, .inl (cI, 97, .inl fN))]) hP hT [0, 2] (by decide +kernel) rfl
        have hFc := zfr hS hA
        refine va_calli (va_runV (As := [.int m4_L_2, .int 2]) (rest := [.int m4_L_1]) ⟨hx, hb, hml, hown, hts⟩ (g_X11_shot_2 l dC dI cI cJ h0 m4_L_2 th tB tsz tat wr dp rC rV rD rK rT rS rU lw tx rL rX qR qB qP qnb qnp aR aB aP nb np aN rf ho br aK ac dw aE sr sf aA aH aI hi fN H.size y_ac y_hi y_ho y_lw y_nb y_np (by omega) y_qnb y_qnp y_tat y_tsz y_wr (by omega) ci_fN_zNw_np) (cwV 2 hts (zgV qw1473 qw1475 qw65 qw108 qw1476) rfl rfl rfl hd_X11_shot ⟨by rw [hR]; exact Nat.le_of_ble_eq_true rfl, by rw [hR]; exact Nat.le_of_ble_eq_true rfl⟩) (zPV hPc hK hDc (va_recv (q := (RX11, TX11, 41)) hK hP (ci := 11) (q0 := 0) rfl rfl)) rfl rfl hl.1 rfl (lv_room (Nat.le_of_ble_eq_true rfl)) dX11_lies_19 ⟨Nat.zero_le _, Nat.zero_le _⟩) hS (fun q _ h => hFc q h) hFc (fun v19 u19 t H locs ht hvm hw hB hz1 hk1 hS9 => ?_)
        replace hP := zkeep hP hk1
        replace hS := hS9
        clear hPc hDc hFc hk1 hz1 hvm hS9
        obtain ⟨f19_0, f19_1, f19_2⟩ : ((-1) ≤ v19.toInt) ∧ (v19.toInt ≤ 9) ∧ (v19 = fN (17 + (4 * m4_L_2.toInt.toNat + 2))) := hw
        have F19 := f19_2
        refine lv_aload_n hx hb dX11_lies_22 rfl (lv_at hl 2 rfl) ?_
        refine lv_aload_n hx hb dX11_lies_23 rfl (lv_at hl 2 rfl) ?_
        refine lv_iload_n hx hb dX11_lies_24 rfl (lv_at hl 0 rfl) ?_
        refine lv_iconst (v := 0) hx hb dX11_lies_25 (by decide) ?_
        obtain ⟨hPc, hDc⟩ := zc2 (wc := [(h0, .inr (11, [.int th, .ref tB, .int tsz, .int tat, .int wr, .int dp, .ref rC, .ref rV, .ref rD, .ref rK, .ref rT, .ref rS, .ref rU, .int lw, .int tx, .ref rL, .ref rX, .ref qR, .ref qB, .ref qP, .int qnb, .int qnp, .ref aR, .ref aB, .ref aP, .int nb, .int np, .ref aN, .ref rf, .int ho, .int br, .ref aK, .int ac, .long dw, .ref aE, .int sr, .int sf, .ref aA, .ref aH, .ref aI, .int hi])), (aN, .inl (cI, 97, .inl fN))]) hP hT [0, 2] (by decide +kernel) rfl
        have hFc := zfr hS hA
        refine va_calli (va_runV (As := [.int m4_L_2, .int 0]) (rest := [.ref h0, .int v19, .int m4_L_1]) ⟨hx, hb, hml, hown, hts⟩ (g_X11_shot_0 l dC dI cI cJ h0 m4_L_2 th tB tsz tat wr dp rC rV rD rK rT rS rU lw tx rL rX qR qB qP qnb qnp aR aB aP nb np aN rf ho br aK ac dw aE sr sf aA aH aI hi fN H.size y_ac y_hi y_ho y_lw y_nb y_np (by omega) y_qnb y_qnp y_tat y_tsz y_wr (by omega) ci_fN_zNw_np) (cwV 2 hts (zgV qw1473 qw1475 qw65 qw108 qw1476) rfl rfl rfl hd_X11_shot ⟨by rw [hR]; exact Nat.le_of_ble_eq_true rfl, by rw [hR]; exact Nat.le_of_ble_eq_true rfl⟩) (zPV hPc hK hDc (va_recv (q := (RX11, TX11, 41)) hK hP (ci := 11) (q0 := 0) rfl rfl)) rfl rfl hl.1 rfl (lv_room (Nat.le_of_ble_eq_true rfl)) dX11_lies_26 ⟨Nat.zero_le _, Nat.zero_le _⟩) hS (fun q _ h => hFc q h) hFc (fun v26 u26 t H locs ht hvm hw hB hz1 hk1 hS9 => ?_)
        replace hP := zkeep hP hk1
        replace hS := hS9
        clear hPc hDc hFc hk1 hz1 hvm hS9
        obtain ⟨f26_0, f26_1, f26_2, f26_3⟩ : (0 ≤ v26.toInt) ∧ (v26.toInt ≤ 5) ∧ (v26.toInt = (fN (17 + 4 * m4_L_2.toInt.toNat)).toInt) ∧ (v26 = fN (17 + 4 * m4_L_2.toInt.toNat)) := hw
        have F26 := f26_3
        refine lv_iconst (v := 0) hx hb dX11_lies_29 (by decide) ?_
        obtain ⟨hPc, hDc⟩ := zc2 (wc := [(h0, .inr (11, [.int th, .ref tB, .int tsz, .int tat, .int wr, .int dp, .ref rC, .ref rV, .ref rD, .ref rK, .ref rT, .ref rS, .ref rU, .int lw, .int tx, .ref rL, .ref rX, .ref qR, .ref qB, .ref qP, .int qnb, .int qnp, .ref aR, .ref aB, .ref aP, .int nb, .int np, .ref aN, .ref rf, .int ho, .int br, .ref aK, .int ac, .long dw, .ref aE, .int sr, .int sf, .ref aA, .ref aH, .ref aI, .int hi])), (aB, .inl (cI, 24, .inl fBr))]) hP hT [0, 1] (by decide +kernel) rfl
        have hFc := zfr hS hA
        refine va_calli (va_runV (As := [.int v26, .int 0]) (rest := [.int v19, .int m4_L_1]) ⟨hx, hb, hml, hown, hts⟩ (g_X11_of l dC dI cI cJ h0 v26 0 th tB tsz tat wr dp rC rV rD rK rT rS rU lw tx rL rX qR qB qP qnb qnp aR aB aP nb np aN rf ho br aK ac dw aE sr sf aA aH aI hi fBr H.size y_ac y_hi y_ho y_lw y_nb y_np ⟨f26_0, f26_1⟩ (by decide) y_qnb y_qnp y_tat y_tsz y_wr) (cwV 2 hts (zgV qw1386 qw1388 qw54 qw108 qw1389) rfl rfl rfl hd_X11_of ⟨by rw [hR]; exact Nat.le_of_ble_eq_true rfl, by rw [hR]; exact Nat.le_of_ble_eq_true rfl⟩) (zPV hPc hK hDc (va_recv (q := (RX11, TX11, 41)) hK hP (ci := 11) (q0 := 0) rfl rfl)) rfl rfl hl.1 rfl (lv_room (Nat.le_of_ble_eq_true rfl)) dX11_lies_30 ⟨Nat.zero_le _, Nat.zero_le _⟩) hS (fun q _ h => hFc q h) hFc (fun v30 u30 t H locs ht hvm hw hB hz1 hk1 hS9 => ?_)
        replace hP := zkeep hP hk1
        replace hS := hS9
        clear hPc hDc hFc hk1 hz1 hvm hS9
        have zn30_0 : (0 : Int32).toInt = 0 := by decide
        have f30_0 : (v30 = fBr (4 * v26.toInt.toNat + (0 : Int32).toInt.toNat)) := hw
        have F30 := f30_0
        refine lv_isub hx hb dX11_lies_33 ?_
        refine lv_topi (fun v33 e33 => ?_)
        refine va_mabs hx hb (by rw [hml]; exact hl.1.symm) hown (hts _ qw1595) (hts _ qw846) (hts _ qw112) (hts _ qw847) (by rw [hR]; exact Nat.le_of_ble_eq_true rfl) (by rw [hR]; exact Nat.le_of_ble_eq_true rfl) (Nat.zero_le _) (Nat.zero_le _) dX11_lies_34 ?_
        refine lv_topi (fun v34 e34 => ?_)
        refine lv_iadd hx hb dX11_lies_37 ?_
        refine lv_topi (fun v37 e37 => ?_)
        refine lv_istore_n (lv' := [(1, .int v37), (2, .int m4_L_2), (0, .ref h0)]) hx hb dX11_lies_38 rfl hl (by decide) rfl (fun ls hl => ?_)
        obtain ⟨v39, e39⟩ : ∃ y : Int32, y = m4_L_2 + Int32.ofInt (1) := ⟨_, rfl⟩
        refine lv_iinc (v := v39) (lv' := [(2, .int v39), (1, .int v37), (0, .ref h0)]) hx hb dX11_lies_39 hl (k := 1) rfl e39.symm (by decide) rfl (fun ls hl => ?_)
        have i39 : v39.toInt = m4_L_2.toInt + 1 := zaddI e39 (by decide) (by omega) (by omega)
        refine lv_goto (tgt := 4) hx hb dX11_lies_42 (by decide) ?_
        exact ih4 _ (by omega) v37 v39 (by omega) (by omega) (zLieS (P := fun i => fN (17 + i)) jv4_0 (by omega) i39 (show v33 = fN (17 + (4 * m4_L_2.toInt.toNat + 2)) - fBr (4 * (fN (17 + 4 * m4_L_2.toInt.toNat)).toInt.toNat) by rw [e33, F19, F30.trans (congrArg fBr (show 4 * v26.toInt.toNat + (0 : Int32).toInt.toNat = 4 * v26.toInt.toNat by have : (0 : Int32).toInt = 0 := (by decide); omega)), F26]) e34 e37) rfl H locs ls hP hS (lv_sub hl [0, 1, 2] rfl)
  refine lv_istore_n (lv' := [(2, .int 0), (1, .int 0), (0, .ref h0)]) hx hb dX11_lies_3 rfl hl (by decide) rfl (fun ls hl => ?_)
  have zj4_m4_L_1 : (0 : Int32).toInt = 0 := by decide
  have zj4_m4_L_2 : (0 : Int32).toInt = 0 := by decide
  exact J4 _ 0 0 (by decide) (by omega) (rfl) rfl H locs ls hP hS (lv_sub hl [0, 1, 2] rfl)
set_option maxHeartbeats 4000000 in
set_option maxRecDepth 100000 in
theorem g_X11_mostOf (l : Launch) (dC : Nat → ClassId) (dI : Nat → Nat → Nat) (cI cJ : ClassId) (h0 : Nat) (p0 : Int32) (th : Int32) (tB : Nat) (tsz : Int32) (tat : Int32) (wr : Int32) (dp : Int32) (rC : Nat) (rV : Nat) (rD : Nat) (rK : Nat) (rT : Nat) (rS : Nat) (rU : Nat) (lw : Int32) (tx : Int32) (rL : Nat) (rX : Nat) (qR : Nat) (qB : Nat) (qP : Nat) (qnb : Int32) (qnp : Int32) (aR : Nat) (aB : Nat) (aP : Nat) (nb : Int32) (np : Int32) (aN : Nat) (rf : Nat) (ho : Int32) (br : Int32) (aK : Nat) (ac : Int32) (dw : Int64) (aE : Nat) (sr : Int32) (sf : Int32) (aA : Nat) (aH : Nat) (aI : Nat) (hi : Int32) (fBr : Nat → Int32) (sz : Nat) (n_ac : 0 ≤ ac.toInt ∧ ac.toInt ≤ 40) (n_hi : 0 ≤ hi.toInt ∧ hi.toInt ≤ 1) (n_ho : (-1) ≤ ho.toInt ∧ ho.toInt ≤ 3) (n_lw : 0 ≤ lw.toInt ∧ lw.toInt ≤ 4) (n_nb : 0 ≤ nb.toInt ∧ nb.toInt ≤ 6) (n_np : 0 ≤ np.toInt ∧ np.toInt ≤ 5) (n_p0 : 0 ≤ p0.toInt ∧ p0.toInt ≤ 3) (n_qnb : 0 ≤ qnb.toInt ∧ qnb.toInt ≤ 6) (n_qnp : 0 ≤ qnp.toInt ∧ qnp.toInt ≤ 5) (n_tat : 0 ≤ tat.toInt ∧ tat.toInt ≤ 260) (n_tsz : 0 ≤ tsz.toInt ∧ tsz.toInt ≤ 240) (n_wr : (-1) ≤ wr.toInt ∧ wr.toInt ≤ 260)  (ci_fBr_zBr_nb : zBr nb fBr)  : Met l yX11_mostOf (.code yX11_mostOf cX11_mostOf 4 (some .int) :: wA) ({ frames := 1, cells := 0, slots := 0, locals := 22 }) (zP (dC, dI) [(cI, .int), (cJ, .long)] [.ref h0, .int p0] sz [(h0, .inr (11, [.int th, .ref tB, .int tsz, .int tat, .int wr, .int dp, .ref rC, .ref rV, .ref rD, .ref rK, .ref rT, .ref rS, .ref rU, .int lw, .int tx, .ref rL, .ref rX, .ref qR, .ref qB, .ref qP, .int qnb, .int qnp, .ref aR, .ref aB, .ref aP, .int nb, .int np, .ref aN, .ref rf, .int ho, .int br, .ref aK, .int ac, .long dw, .ref aE, .int sr, .int sf, .ref aA, .ref aH, .ref aI, .int hi])), (aB, .inl (cI, 24, .inl fBr))]) (va_Qi (fun (r : Int32) (u : Unit) => (0 ≤ r.toInt) ∧ (r.toInt ≤ 5) ∧ (r = zXm (fun j => fBr (4 * j + p0.toInt.toNat)) (nb.toInt.toNat - 1))) (fun (_ : Unit) (_ : State) => True) (va_A [] sz)) 0 0 (va_A [] sz) := by
  refine Met.ofW (cc := cX11_mostOf) (maxL := 4) (ret := (some .int)) (by decide) rfl ?_
  intro p e s m args below meth c s₁ B hml hv
  have y_ac : zHid (0 ≤ ac.toInt ∧ ac.toInt ≤ 40) := n_ac
  have y_hi : zHid (0 ≤ hi.toInt ∧ hi.toInt ≤ 1) := n_hi
  have y_ho : zHid ((-1) ≤ ho.toInt ∧ ho.toInt ≤ 3) := n_ho
  have y_lw : zHid (0 ≤ lw.toInt ∧ lw.toInt ≤ 4) := n_lw
  have y_np : zHid (0 ≤ np.toInt ∧ np.toInt ≤ 5) := n_np
  have y_qnb : zHid (0 ≤ qnb.toInt ∧ qnb.toInt ≤ 6) := n_qnb
  have y_qnp : zHid (0 ≤ qnp.toInt ∧ qnp.toInt ≤ 5) := n_qnp
  have y_tat : zHid (0 ≤ tat.toInt ∧ tat.toInt ≤ 260) := n_tat
  have y_tsz : zHid (0 ≤ tsz.toInt ∧ tsz.toInt ≤ 240) := n_tsz
  have y_wr : zHid ((-1) ≤ wr.toInt ∧ wr.toInt ≤ 260) := n_wr
  clear n_ac n_hi n_ho n_lw n_np n_qnb n_qnp n_tat n_tsz n_wr
  obtain ⟨hargs, hsz, hP, hK, hT⟩ := hv
  have hx := B.exec
  have hb := B.bytes
  have hr := B.returns
  have hts : ∀ w ∈ wA, w.before args s = true := fun w h => atoms_spec (ws := .code yX11_mostOf cX11_mostOf 4 (some .int) :: wA) B.pre w (List.mem_cons_of_mem _ h)
  have hown : s.vm.findClass RX11 = some m.cls := findClass_of_methodNamed B.named
  have hlocks := B.notSynchronized
  subst hsz
  have hD : va_D (va_A [] s.heap.size) [] := zD0
  generalize hAe : va_A [] s.heap.size = A at hD ⊢
  have hA : ∀ q : Nat, s.heap.size ≤ q → A q := fun q h => by rw [← hAe]; exact Or.inr h
  have hl := lv_entry ([.ref h0, .int p0]) (n := 4) (Nat.le_of_ble_eq_true rfl)
  rw [show entryFrame m args 4 = entryFrame m ([.ref h0, .int p0] : List Value).toArray 4 by rw [hargs], lg_entry_eq]
  generalize (lg_sl ([.ref h0, .int p0]) ++ List.replicate (4 - (lg_sl ([.ref h0, .int p0])).length) Slot.unset).toArray = ls at hl ⊢
  have hl : lv_has ls 4 [(0, .ref h0), (1, .int p0)] := hl
  refine zstart (fun H hH => ?_)
  rw [← hH] at hP
  have hS : va_S A s.heap H [] := by rw [hH]; exact va_S.rf
  generalize ([] : List Loc) = locs at hS ⊢
  refine zgen (fun R Q hR hQ => ?_)
  refine lv_iconst (v := 0) hx hb dX11_mostOf_0 (by decide) ?_
  refine lv_istore_n (lv' := [(2, .int 0), (0, .ref h0), (1, .int p0)]) hx hb dX11_mostOf_1 rfl hl (by decide) rfl (fun ls hl => ?_)
  refine lv_iconst (v := 1) hx hb dX11_mostOf_2 (by decide) ?_
  have J4 : ∀ (n : Nat) (m4_L_2 : Int32) (m4_L_3 : Int32), (0 ≤ m4_L_2.toInt ∧ m4_L_2.toInt ≤ 5) → (1 ≤ m4_L_3.toInt ∧ m4_L_3.toInt ≤ 6) → (m4_L_3.toInt ≤ nb.toInt ∨ m4_L_3.toInt = 1) → (m4_L_2 = zXm (fun j => fBr (4 * j + p0.toInt.toNat)) (m4_L_3.toInt.toNat - 1)) → (7 - m4_L_3.toInt).toNat = n → ∀ (H : Heap) (locs : List Loc) (ls : Array Slot), va_P (dC, dI) vwCl [(h0, .inr (11, [.int th, .ref tB, .int tsz, .int tat, .int wr, .int dp, .ref rC, .ref rV, .ref rD, .ref rK, .ref rT, .ref rS, .ref rU, .int lw, .int tx, .ref rL, .ref rX, .ref qR, .ref qB, .ref qP, .int qnb, .int qnp, .ref aR, .ref aB, .ref aP, .int nb, .int np, .ref aN, .ref rf, .int ho, .int br, .ref aK, .int ac, .long dw, .ref aE, .int sr, .int sf, .ref aA, .ref aH, .ref aI, .int hi])), (aB, .inl (cI, 24, .inl fBr))] H → va_S A s.heap H locs → lv_has ls 4 [(3, .int m4_L_3), (2, .int m4_L_2), (0, .ref h0), (1, .int p0)] → W p l e R s m args below meth c H locs 0 0 Q (F0 m 4 ls []) := by
    intro n4
    induction n4 using Nat.strongRecOn with
    | _ n4 ih4 =>
      intro m4_L_2 m4_L_3 jf4_0 jf4_1 jf4_2 jv4_0 hmu4 H locs ls hP hS hl
      refine lv_iload_n hx hb dX11_mostOf_4 rfl (lv_at hl 0 rfl) ?_
      refine lv_aload_n hx hb dX11_mostOf_5 rfl (lv_at hl 2 rfl) ?_
      refine va_get (D := (dC, dI)) (ci := 11) (v := .int nb) (C := RX11) (T := TX11) (N := 41) hx hb hts iX11 hown hK hP 0 rfl rfl 25 (by decide) (hts _ qw1152) (fun _ h9 => h9) rfl dX11_mostOf_6 ?_
      refine lv_icmp_ge (tgt := 39) hx hb dX11_mostOf_9 (by decide) (fun c9 => ?_) (fun c9 => ?_)
      · have c9 : nb.toInt ≤ m4_L_3.toInt := z3 rfl rfl c9
        refine lv_iload_n hx hb dX11_mostOf_39 rfl (lv_at hl 1 rfl) ?_
        rw [hQ]
        exact W.iret (v := m4_L_2) hx hb hr (fun t ht hW => ⟨⟨m4_L_2, (), rfl, ⟨by (try dsimp only); omega, by (try dsimp only); omega, by (try dsimp only); exact jv4_0.trans (by rw [show m4_L_3.toInt.toNat - 1 = nb.toInt.toNat - 1 by omega])⟩, trivial⟩, hS.F ht⟩) hS.2.2 dX11_mostOf_40
      · have c9 : m4_L_3.toInt < nb.toInt := z4 rfl rfl c9
        refine lv_aload_n hx hb dX11_mostOf_12 rfl (lv_at hl 2 rfl) ?_
        refine lv_iload_n hx hb dX11_mostOf_13 rfl (lv_at hl 0 rfl) ?_
        refine lv_iload_n hx hb dX11_mostOf_14 rfl (lv_at hl 3 rfl) ?_
        obtain ⟨hPc, hDc⟩ := zc2 (wc := [(h0, .inr (11, [.int th, .ref tB, .int tsz, .int tat, .int wr, .int dp, .ref rC, .ref rV, .ref rD, .ref rK, .ref rT, .ref rS, .ref rU, .int lw, .int tx, .ref rL, .ref rX, .ref qR, .ref qB, .ref qP, .int qnb, .int qnp, .ref aR, .ref aB, .ref aP, .int nb, .int np, .ref aN, .ref rf, .int ho, .int br, .ref aK, .int ac, .long dw, .ref aE, .int sr, .int sf, .ref aA, .ref aH, .ref aI, .int hi])), (aB, .inl (cI, 24, .inl fBr))]) hP hT [0, 1] (by decide +kernel) rfl
        have hFc := zfr hS hA
        refine va_calli (va_runV (As := [.int m4_L_3, .int p0]) (rest := []) ⟨hx, hb, hml, hown, hts⟩ (g_X11_of l dC dI cI cJ h0 m4_L_3 p0 th tB tsz tat wr dp rC rV rD rK rT rS rU lw tx rL rX qR qB qP qnb qnp aR aB aP nb np aN rf ho br aK ac dw aE sr sf aA aH aI hi fBr H.size y_ac y_hi y_ho y_lw n_nb y_np (by omega) n_p0 y_qnb y_qnp y_tat y_tsz y_wr) (cwV 2 hts (zgV qw1386 qw1388 qw54 qw108 qw1389) rfl rfl rfl hd_X11_of ⟨by rw [hR]; exact Nat.le_of_ble_eq_true rfl, by rw [hR]; exact Nat.le_of_ble_eq_true rfl⟩) (zPV hPc hK hDc (va_recv (q := (RX11, TX11, 41)) hK hP (ci := 11) (q0 := 0) rfl rfl)) rfl rfl hl.1 rfl (lv_room (Nat.le_of_ble_eq_true rfl)) dX11_mostOf_15 ⟨Nat.zero_le _, Nat.zero_le _⟩) hS (fun q _ h => hFc q h) hFc (fun v15 u15 t H locs ht hvm hw hB hz1 hk1 hS9 => ?_)
        replace hP := zkeep hP hk1
        replace hS := hS9
        clear hPc hDc hFc hk1 hz1 hvm hS9
        have f15_0 : (v15 = fBr (4 * m4_L_3.toInt.toNat + p0.toInt.toNat)) := hw
        have F15 := f15_0
        refine lv_aload_n hx hb dX11_mostOf_18 rfl (lv_at hl 2 rfl) ?_
        refine lv_iload_n hx hb dX11_mostOf_19 rfl (lv_at hl 1 rfl) ?_
        refine lv_iload_n hx hb dX11_mostOf_20 rfl (lv_at hl 3 rfl) ?_
        obtain ⟨hPc, hDc⟩ := zc2 (wc := [(h0, .inr (11, [.int th, .ref tB, .int tsz, .int tat, .int wr, .int dp, .ref rC, .ref rV, .ref rD, .ref rK, .ref rT, .ref rS, .ref rU, .int lw, .int tx, .ref rL, .ref rX, .ref qR, .ref qB, .ref qP, .int qnb, .int qnp, .ref aR, .ref aB, .ref aP, .int nb, .int np, .ref aN, .ref rf, .int ho, .int br, .ref aK, .int ac, .long dw, .ref aE, .int sr, .int sf, .ref aA, .ref aH, .ref aI, .int hi])), (aB, .inl (cI, 24, .inl fBr))]) hP hT [0, 1] (by decide +kernel) rfl
        have hFc := zfr hS hA
        refine va_calli (va_runV (As := [.int m4_L_2, .int p0]) (rest := [.int v15]) ⟨hx, hb, hml, hown, hts⟩ (g_X11_of l dC dI cI cJ h0 m4_L_2 p0 th tB tsz tat wr dp rC rV rD rK rT rS rU lw tx rL rX qR qB qP qnb qnp aR aB aP nb np aN rf ho br aK ac dw aE sr sf aA aH aI hi fBr H.size y_ac y_hi y_ho y_lw n_nb y_np jf4_0 n_p0 y_qnb y_qnp y_tat y_tsz y_wr) (cwV 2 hts (zgV qw1386 qw1388 qw54 qw108 qw1389) rfl rfl rfl hd_X11_of ⟨by rw [hR]; exact Nat.le_of_ble_eq_true rfl, by rw [hR]; exact Nat.le_of_ble_eq_true rfl⟩) (zPV hPc hK hDc (va_recv (q := (RX11, TX11, 41)) hK hP (ci := 11) (q0 := 0) rfl rfl)) rfl rfl hl.1 rfl (lv_room (Nat.le_of_ble_eq_true rfl)) dX11_mostOf_21 ⟨Nat.zero_le _, Nat.zero_le _⟩) hS (fun q _ h => hFc q h) hFc (fun v21 u21 t H locs ht hvm hw hB hz1 hk1 hS9 => ?_)
        replace hP := zkeep hP hk1
        replace hS := hS9
        clear hPc hDc hFc hk1 hz1 hvm hS9
        have f21_0 : (v21 = fBr (4 * m4_L_2.toInt.toNat + p0.toInt.toNat)) := hw
        have F21 := f21_0
        refine lv_icmp_le (tgt := 31) hx hb dX11_mostOf_24 (by decide) (fun c24 => ?_) (fun c24 => ?_)
        · have c24 : v15.toInt ≤ v21.toInt := z3 rfl rfl c24
          refine lv_iload_n hx hb dX11_mostOf_31 rfl (lv_at hl 1 rfl) ?_
          refine lv_istore_n (lv' := [(2, .int m4_L_2), (3, .int m4_L_3), (0, .ref h0), (1, .int p0)]) hx hb dX11_mostOf_32 rfl hl (by decide) rfl (fun ls hl => ?_)
          obtain ⟨v33, e33⟩ : ∃ y : Int32, y = m4_L_3 + Int32.ofInt (1) := ⟨_, rfl⟩
          refine lv_iinc (v := v33) (lv' := [(3, .int v33), (2, .int m4_L_2), (0, .ref h0), (1, .int p0)]) hx hb dX11_mostOf_33 hl (k := 1) rfl e33.symm (by decide) rfl (fun ls hl => ?_)
          have i33 : v33.toInt = m4_L_3.toInt + 1 := zaddI e33 (by decide) (by omega) (by omega)
          refine lv_goto (tgt := 4) hx hb dX11_mostOf_36 (by decide) ?_
          exact ih4 _ (by omega) m4_L_2 v33 jf4_0 (by omega) (by omega) (by first | exact zXmS (B := (fun j => fBr (4 * j + p0.toInt.toNat))) jv4_0 (by omega) i33 F15 F21 (Or.inl ⟨by omega, rfl⟩) | exact zXmS (B := (fun j => fBr (4 * j + p0.toInt.toNat))) jv4_0 (by omega) i33 F15 F21 (Or.inr ⟨by omega, rfl⟩)) rfl H locs ls hP hS (lv_sub hl [0, 1, 2, 3] rfl)
        · have c24 : v21.toInt < v15.toInt := z4 rfl rfl c24
          refine lv_iload_n hx hb dX11_mostOf_27 rfl (lv_at hl 0 rfl) ?_
          refine lv_goto (tgt := 32) hx hb dX11_mostOf_28 (by decide) ?_
          refine lv_istore_n (lv' := [(2, .int m4_L_3), (3, .int m4_L_3), (0, .ref h0), (1, .int p0)]) hx hb dX11_mostOf_32 rfl hl (by decide) rfl (fun ls hl => ?_)
          obtain ⟨v33, e33⟩ : ∃ y : Int32, y = m4_L_3 + Int32.ofInt (1) := ⟨_, rfl⟩
          refine lv_iinc (v := v33) (lv' := [(3, .int v33), (2, .int m4_L_3), (0, .ref h0), (1, .int p0)]) hx hb dX11_mostOf_33 hl (k := 1) rfl e33.symm (by decide) rfl (fun ls hl => ?_)
          have i33 : v33.toInt = m4_L_3.toInt + 1 := zaddI e33 (by decide) (by omega) (by omega)
          refine lv_goto (tgt := 4) hx hb dX11_mostOf_36 (by decide) ?_
          exact ih4 _ (by omega) m4_L_3 v33 (by omega) (by omega) (by omega) (by first | exact zXmS (B := (fun j => fBr (4 * j + p0.toInt.toNat))) jv4_0 (by omega) i33 F15 F21 (Or.inl ⟨by omega, rfl⟩) | exact zXmS (B := (fun j => fBr (4 * j + p0.toInt.toNat))) jv4_0 (by omega) i33 F15 F21 (Or.inr ⟨by omega, rfl⟩)) rfl H locs ls hP hS (lv_sub hl [0, 1, 2, 3] rfl)
  refine lv_istore_n (lv' := [(3, .int 1), (2, .int 0), (0, .ref h0), (1, .int p0)]) hx hb dX11_mostOf_3 rfl hl (by decide) rfl (fun ls hl => ?_)
  have zj4_m4_L_2 : (0 : Int32).toInt = 0 := by decide
  have zj4_m4_L_3 : (1 : Int32).toInt = 1 := by decide
  exact J4 _ 0 1 (by decide) (by decide) (by omega) (rfl) rfl H locs ls hP hS (lv_sub hl [0, 1, 2, 3] rfl)
set_option maxHeartbeats 4000000 in
set_option maxRecDepth 100000 in
theorem g_X11_most (l : Launch) (dC : Nat → ClassId) (dI : Nat → Nat → Nat) (cI cJ : ClassId) (h0 : Nat) (p0 : Int32) (th : Int32) (tB : Nat) (tsz : Int32) (tat : Int32) (wr : Int32) (dp : Int32) (rC : Nat) (rV : Nat) (rD : Nat) (rK : Nat) (rT : Nat) (rS : Nat) (rU : Nat) (lw : Int32) (tx : Int32) (rL : Nat) (rX : Nat) (qR : Nat) (qB : Nat) (qP : Nat) (qnb : Int32) (qnp : Int32) (aR : Nat) (aB : Nat) (aP : Nat) (nb : Int32) (np : Int32) (aN : Nat) (rf : Nat) (ho : Int32) (br : Int32) (aK : Nat) (ac : Int32) (dw : Int64) (aE : Nat) (sr : Int32) (sf : Int32) (aA : Nat) (aH : Nat) (aI : Nat) (hi : Int32) (fC : Nat → Int32) (fV : Nat → Int32) (fK : Nat → Int32) (fT : Nat → Int32) (fS : Nat → Int32) (fU : Nat → Int32) (fL : Nat → Int32) (fX : Nat → Int32) (fBr : Nat → Int32) (fPa : Nat → Int32) (fN : Nat → Int32) (fE : Nat → Int32) (sz : Nat) (n_ac : 0 ≤ ac.toInt ∧ ac.toInt ≤ 40) (n_hi : 0 ≤ hi.toInt ∧ hi.toInt ≤ 1) (n_ho : (-1) ≤ ho.toInt ∧ ho.toInt ≤ 3) (n_lw : 0 ≤ lw.toInt ∧ lw.toInt ≤ 4) (n_nb : 0 ≤ nb.toInt ∧ nb.toInt ≤ 6) (n_np : 0 ≤ np.toInt ∧ np.toInt ≤ 5) (n_qnb : 0 ≤ qnb.toInt ∧ qnb.toInt ≤ 6) (n_qnp : 0 ≤ qnp.toInt ∧ qnp.toInt ≤ 5) (n_tat : 0 ≤ tat.toInt ∧ tat.toInt ≤ 260) (n_tsz : 0 ≤ tsz.toInt ∧ tsz.toInt ≤ 240) (n_wr : (-1) ≤ wr.toInt ∧ wr.toInt ≤ 260) (hls : zLs ho fC fV fK fT fS fU) (ci_fBr_zBr_nb : zBr nb fBr) (ci_fN_zNw_np : zNw np fN) (ci_fPa_zBr_np : zBr np fPa)  : Met l yX11_most (.code yX11_most cX11_most 5 (some .int) :: wA) ({ frames := 10, cells := 0, slots := 0, locals := 245 }) (zP (dC, dI) [(cI, .int), (cJ, .long)] [.ref h0, .int p0] sz [(h0, .inr (11, [.int th, .ref tB, .int tsz, .int tat, .int wr, .int dp, .ref rC, .ref rV, .ref rD, .ref rK, .ref rT, .ref rS, .ref rU, .int lw, .int tx, .ref rL, .ref rX, .ref qR, .ref qB, .ref qP, .int qnb, .int qnp, .ref aR, .ref aB, .ref aP, .int nb, .int np, .ref aN, .ref rf, .int ho, .int br, .ref aK, .int ac, .long dw, .ref aE, .int sr, .int sf, .ref aA, .ref aH, .ref aI, .int hi])), (rC, .inl (cI, 2600, .inl fC)), (rV, .inl (cI, 2600, .inl fV)), (rK, .inl (cI, 5, .inl fK)), (rT, .inl (cI, 700, .inl fT)), (rS, .inl (cI, 700, .inl fS)), (rU, .inl (cI, 700, .inl fU)), (rL, .inl (cI, 6, .inl fL)), (rX, .inl (cI, 80, .inl fX)), (aB, .inl (cI, 24, .inl fBr)), (aP, .inl (cI, 20, .inl fPa)), (aN, .inl (cI, 97, .inl fN)), (aE, .inl (cI, 10, .inl fE))]) (va_Qi (fun (r : Int32) (u : (Nat → Int32) × (Nat → Int32) × (Nat → Int32)) => (∀ (kc : zK3) (kT : zT) (q_fR : Nat → Int32) (q_fKp : Nat → Int32) (q_frf : Nat → Int32) (kl : Option ((Int → Int) × Int)), zCn q_fR fBr fPa nb.toInt np.toInt kc → zKo nb.toInt np.toInt kc kT → zTr nb.toInt np.toInt kT fN q_fKp ac q_frf → zLwR ho fC fV fK fT fS fU kl → r = sV_mos nb.toInt np.toInt kc kT.1 kl p0)) (fun (u : (Nat → Int32) × (Nat → Int32) × (Nat → Int32)) (t : State) => va_P (dC, dI) vwCl [(h0, .inr (11, [.int th, .ref tB, .int tsz, .int tat, .int wr, .int dp, .ref rC, .ref rV, .ref rD, .ref rK, .ref rT, .ref rS, .ref rU, .int lw, .int tx, .ref rL, .ref rX, .ref qR, .ref qB, .ref qP, .int qnb, .int qnp, .ref aR, .ref aB, .ref aP, .int nb, .int np, .ref aN, .ref rf, .int ho, .int br, .ref aK, .int ac, .long dw, .ref aE, .int sr, .int sf, .ref aA, .ref aH, .ref aI, .int hi])), (rC, .inl (cI, 2600, .inl fC)), (rV, .inl (cI, 2600, .inl fV)), (rK, .inl (cI, 5, .inl fK)), (rT, .inl (cI, 700, .inl fT)), (rS, .inl (cI, 700, .inl fS)), (rU, .inl (cI, 700, .inl fU)), (rL, .inl (cI, 6, .inl u.1)), (rX, .inl (cI, 80, .inl u.2.1)), (aB, .inl (cI, 24, .inl fBr)), (aP, .inl (cI, 20, .inl fPa)), (aN, .inl (cI, 97, .inl fN)), (aE, .inl (cI, 10, .inl u.2.2))] t.heap ∧ va_D (va_A [(h0, .inr (11, [.int th, .ref tB, .int tsz, .int tat, .int wr, .int dp, .ref rC, .ref rV, .ref rD, .ref rK, .ref rT, .ref rS, .ref rU, .int lw, .int tx, .ref rL, .ref rX, .ref qR, .ref qB, .ref qP, .int qnb, .int qnp, .ref aR, .ref aB, .ref aP, .int nb, .int np, .ref aN, .ref rf, .int ho, .int br, .ref aK, .int ac, .long dw, .ref aE, .int sr, .int sf, .ref aA, .ref aH, .ref aI, .int hi])), (rC, .inl (cI, 2600, .inl fC)), (rV, .inl (cI, 2600, .inl fV)), (rK, .inl (cI, 5, .inl fK)), (rT, .inl (cI, 700, .inl fT)), (rS, .inl (cI, 700, .inl fS)), (rU, .inl (cI, 700, .inl fU)), (rL, .inl (cI, 6, .inl fL)), (rX, .inl (cI, 80, .inl fX)), (aB, .inl (cI, 24, .inl fBr)), (aP, .inl (cI, 20, .inl fPa)), (aN, .inl (cI, 97, .inl fN)), (aE, .inl (cI, 10, .inl fE))] sz) [(h0, .inr (11, [.int th, .ref tB, .int tsz, .int tat, .int wr, .int dp, .ref rC, .ref rV, .ref rD, .ref rK, .ref rT, .ref rS, .ref rU, .int lw, .int tx, .ref rL, .ref rX, .ref qR, .ref qB, .ref qP, .int qnb, .int qnp, .ref aR, .ref aB, .ref aP, .int nb, .int np, .ref aN, .ref rf, .int ho, .int br, .ref aK, .int ac, .long dw, .ref aE, .int sr, .int sf, .ref aA, .ref aH, .ref aI, .int hi])), (rC, .inl (cI, 2600, .inl fC)), (rV, .inl (cI, 2600, .inl fV)), (rK, .inl (cI, 5, .inl fK)), (rT, .inl (cI, 700, .inl fT)), (rS, .inl (cI, 700, .inl fS)), (rU, .inl (cI, 700, .inl fU)), (rL, .inl (cI, 6, .inl u.1)), (rX, .inl (cI, 80, .inl u.2.1)), (aB, .inl (cI, 24, .inl fBr)), (aP, .inl (cI, 20, .inl fPa)), (aN, .inl (cI, 97, .inl fN)), (aE, .inl (cI, 10, .inl u.2.2))]) (va_A [(h0, .inr (11, [.int th, .ref tB, .int tsz, .int tat, .int wr, .int dp, .ref rC, .ref rV, .ref rD, .ref rK, .ref rT, .ref rS, .ref rU, .int lw, .int tx, .ref rL, .ref rX, .ref qR, .ref qB, .ref qP, .int qnb, .int qnp, .ref aR, .ref aB, .ref aP, .int nb, .int np, .ref aN, .ref rf, .int ho, .int br, .ref aK, .int ac, .long dw, .ref aE, .int sr, .int sf, .ref aA, .ref aH, .ref aI, .int hi])), (rC, .inl (cI, 2600, .inl fC)), (rV, .inl (cI, 2600, .inl fV)), (rK, .inl (cI, 5, .inl fK)), (rT, .inl (cI, 700, .inl fT)), (rS, .inl (cI, 700, .inl fS)), (rU, .inl (cI, 700, .inl fU)), (rL, .inl (cI, 6, .inl fL)), (rX, .inl (cI, 80, .inl fX)), (aB, .inl (cI, 24, .inl fBr)), (aP, .inl (cI, 20, .inl fPa)), (aN, .inl (cI, 97, .inl fN)), (aE, .inl (cI, 10, .inl fE))] sz)) 0 0 (va_A [(h0, .inr (11, [.int th, .ref tB, .int tsz, .int tat, .int wr, .int dp, .ref rC, .ref rV, .ref rD, .ref rK, .ref rT, .ref rS, .ref rU, .int lw, .int tx, .ref rL, .ref rX, .ref qR, .ref qB, .ref qP, .int qnb, .int qnp, .ref aR, .ref aB, .ref aP, .int nb, .int np, .ref aN, .ref rf, .int ho, .int br, .ref aK, .int ac, .long dw, .ref aE, .int sr, .int sf, .ref aA, .ref aH, .ref aI, .int hi])), (rC, .inl (cI, 2600, .inl fC)), (rV, .inl (cI, 2600, .inl fV)), (rK, .inl (cI, 5, .inl fK)), (rT, .inl (cI, 700, .inl fT)), (rS, .inl (cI, 700, .inl fS)), (rU, .inl (cI, 700, .inl fU)), (rL, .inl (cI, 6, .inl fL)), (rX, .inl (cI, 80, .inl fX)), (aB, .inl (cI, 24, .inl fBr)), (aP, .inl (cI, 20, .inl fPa)), (aN, .inl (cI, 97, .inl fN)), (aE, .inl (cI, 10, .inl fE))] sz) := by
  refine Met.ofW (cc := cX11_most) (maxL := 5) (ret := (some .int)) (by decide) rfl ?_
  intro p e s m args below meth c s₁ B hml hv
  have y_ac : zHid (0 ≤ ac.toInt ∧ ac.toInt ≤ 40) := n_ac
  have y_hi : zHid (0 ≤ hi.toInt ∧ hi.toInt ≤ 1) := n_hi
  have y_ho : zHid ((-1) ≤ ho.toInt ∧ ho.toInt ≤ 3) := n_ho
  have y_lw : zHid (0 ≤ lw.toInt ∧ lw.toInt ≤ 4) := n_lw
  have y_qnb : zHid (0 ≤ qnb.toInt ∧ qnb.toInt ≤ 6) := n_qnb
  have y_qnp : zHid (0 ≤ qnp.toInt ∧ qnp.toInt ≤ 5) := n_qnp
  have y_tat : zHid (0 ≤ tat.toInt ∧ tat.toInt ≤ 260) := n_tat
  have y_tsz : zHid (0 ≤ tsz.toInt ∧ tsz.toInt ≤ 240) := n_tsz
  have y_wr : zHid ((-1) ≤ wr.toInt ∧ wr.toInt ≤ 260) := n_wr
  clear n_ac n_hi n_ho n_lw n_qnb n_qnp n_tat n_tsz n_wr
  obtain ⟨hargs, hsz, hP, hK, hT⟩ := hv
  have hx := B.exec
  have hb := B.bytes
  have hr := B.returns
  have hts : ∀ w ∈ wA, w.before args s = true := fun w h => atoms_spec (ws := .code yX11_most cX11_most 5 (some .int) :: wA) B.pre w (List.mem_cons_of_mem _ h)
  have hown : s.vm.findClass RX11 = some m.cls := findClass_of_methodNamed B.named
  have hlocks := B.notSynchronized
  subst hsz
  have hD := hT.self (sz := s.heap.size)
  generalize hAe : va_A [(h0, .inr (11, [.int th, .ref tB, .int tsz, .int tat, .int wr, .int dp, .ref rC, .ref rV, .ref rD, .ref rK, .ref rT, .ref rS, .ref rU, .int lw, .int tx, .ref rL, .ref rX, .ref qR, .ref qB, .ref qP, .int qnb, .int qnp, .ref aR, .ref aB, .ref aP, .int nb, .int np, .ref aN, .ref rf, .int ho, .int br, .ref aK, .int ac, .long dw, .ref aE, .int sr, .int sf, .ref aA, .ref aH, .ref aI, .int hi])), (rC, .inl (cI, 2600, .inl fC)), (rV, .inl (cI, 2600, .inl fV)), (rK, .inl (cI, 5, .inl fK)), (rT, .inl (cI, 700, .inl fT)), (rS, .inl (cI, 700, .inl fS)), (rU, .inl (cI, 700, .inl fU)), (rL, .inl (cI, 6, .inl fL)), (rX, .inl (cI, 80, .inl fX)), (aB, .inl (cI, 24, .inl fBr)), (aP, .inl (cI, 20, .inl fPa)), (aN, .inl (cI, 97, .inl fN)), (aE, .inl (cI, 10, .inl fE))] s.heap.size = A at hD ⊢
  have hA : ∀ q : Nat, s.heap.size ≤ q → A q := fun q h => by rw [← hAe]; exact Or.inr h
  have hl := lv_entry ([.ref h0, .int p0]) (n := 5) (Nat.le_of_ble_eq_true rfl)
  rw [show entryFrame m args 5 = entryFrame m ([.ref h0, .int p0] : List Value).toArray 5 by rw [hargs], lg_entry_eq]
  generalize (lg_sl ([.ref h0, .int p0]) ++ List.replicate (5 - (lg_sl ([.ref h0, .int p0])).length) Slot.unset).toArray = ls at hl ⊢
  have hl : lv_has ls 5 [(0, .ref h0), (1, .int p0)] := hl
  refine zstart (fun H hH => ?_)
  rw [← hH] at hP
  have hS : va_S A s.heap H [] := by rw [hH]; exact va_S.rf
  generalize ([] : List Loc) = locs at hS ⊢
  refine zgen (fun R Q hR hQ => ?_)
  refine lv_aload_n hx hb dX11_most_0 rfl (lv_at hl 0 rfl) ?_
  refine va_get (D := (dC, dI)) (ci := 11) (v := .int nb) (C := RX11) (T := TX11) (N := 41) hx hb hts iX11 hown hK hP 0 rfl rfl 25 (by decide) (hts _ qw1152) (fun _ h9 => h9) rfl dX11_most_1 ?_
  refine lv_if_eq (tgt := 16) hx hb dX11_most_4 (by decide) (fun c4 => ?_) (fun c4 => ?_)
  · have c4 : nb.toInt = 0 := z5 rfl (by decide) c4
    refine lv_iconst (v := (-1)) hx hb dX11_most_16 (by decide) ?_
    have zr0 : ((-1) : Int32).toInt = (-1) := by decide
    rw [hQ]
    exact W.iret (v := ((-1))) hx hb hr (fun t ht hW => ⟨⟨(-1), (fL, fX, fE), rfl, (by (try dsimp only); exact fun kc kT q_fR q_fKp q_frf kl hc hb h hL => by first | (unfold sV_mos; rw [if_pos (by omega)]) | (unfold sV_mos; rw [if_neg (by omega), if_neg (by omega), if_neg (by omega), if_neg (by omega), if_neg (by omega), if_neg (by omega)])), ⟨by rw [ht]; exact hP, hD⟩⟩, hS.F ht⟩) hS.2.2 dX11_most_17
  · have c4 : ¬ nb.toInt = 0 := z6 rfl (by decide) c4
    refine lv_iload_n hx hb dX11_most_7 rfl (lv_at hl 1 rfl) ?_
    refine lv_iconst (v := 0) hx hb dX11_most_8 (by decide) ?_
    refine lv_iconst (v := 4) hx hb dX11_most_9 (by decide) ?_
    have hPc : va_P (dC, dI) vwCl [] H := zP0
    have hDc : va_D (fun _ => True) [] := zD0
    have hFc := zfr hS hA
    refine va_calli (va_runS (As := [.int p0, .int 0, .int 4]) (rest := []) ⟨hx, hb, hml, hown, hts⟩ (g_X11_in l dC dI cI cJ p0 0 4 H.size) (cwS 3 hts (zgS qw1305 qw1306 qw108 qw1307) rfl rfl rfl hd_X11_in ⟨by rw [hR]; exact Nat.le_of_ble_eq_true rfl, by rw [hR]; exact Nat.le_of_ble_eq_true rfl⟩) (zPS hPc hK hDc) rfl rfl hl.1 rfl (lv_room (Nat.le_of_ble_eq_true rfl)) dX11_most_10 ⟨Nat.zero_le _, Nat.zero_le _⟩) hS (fun q _ h => hFc q h) hFc (fun v10 u10 t H locs ht hvm hw hB hz1 hk1 hS9 => ?_)
    replace hP := zkeep hP hk1
    replace hS := hS9
    clear hPc hDc hFc hk1 hz1 hvm hS9
    have zn10_0 : (0 : Int32).toInt = 0 := by decide
    have zn10_4 : (4 : Int32).toInt = 4 := by decide
    obtain ⟨f10_0, f10_1, f10_2, f10_3⟩ : (0 ≤ v10.toInt) ∧ (v10.toInt ≤ 1) ∧ (¬ v10.toInt = 0 → ((0 : Int32).toInt ≤ p0.toInt ∧ p0.toInt ≤ (4 : Int32).toInt)) ∧ (v10.toInt = 0 → (p0.toInt < (0 : Int32).toInt ∨ (4 : Int32).toInt < p0.toInt)) := hw
    refine lv_if_ne (tgt := 18) hx hb dX11_most_13 (by decide) (fun c13 => ?_) (fun c13 => ?_)
    · have c13 : ¬ v10.toInt = 0 := z6 rfl (by decide) c13
      refine lv_iconst (v := 0) hx hb dX11_most_18 (by decide) ?_
      refine lv_istore_n (lv' := [(2, .int 0), (0, .ref h0), (1, .int p0)]) hx hb dX11_most_19 rfl hl (by decide) rfl (fun ls hl => ?_)
      refine lv_iconst (v := 0) hx hb dX11_most_20 (by decide) ?_
      have J22 : ∀ (n : Nat) (m22_A_aE : Nat → Int32) (m22_A_rL : Nat → Int32) (m22_A_rX : Nat → Int32) (m22_L_2 : Int32) (m22_L_3 : Int32), (0 ≤ m22_L_3.toInt ∧ m22_L_3.toInt ≤ 6) → (∀ (kc : zK3) (kT : zT) (q_fR : Nat → Int32) (kl : Option ((Int → Int) × Int)), zCn q_fR fBr fPa nb.toInt np.toInt kc → zKo nb.toInt np.toInt kc kT → zSr nb.toInt np.toInt kT.1 fN → zLwR ho fC fV fK fT fS fU kl → m22_L_2 = sPl kc kT.1 kl m22_L_3.toInt.toNat) → (m22_L_3.toInt ≤ nb.toInt) → (7 - m22_L_3.toInt).toNat = n → ∀ (H : Heap) (locs : List Loc) (ls : Array Slot), va_P (dC, dI) vwCl [(h0, .inr (11, [.int th, .ref tB, .int tsz, .int tat, .int wr, .int dp, .ref rC, .ref rV, .ref rD, .ref rK, .ref rT, .ref rS, .ref rU, .int lw, .int tx, .ref rL, .ref rX, .ref qR, .ref qB, .ref qP, .int qnb, .int qnp, .ref aR, .ref aB, .ref aP, .int nb, .int np, .ref aN, .ref rf, .int ho, .int br, .ref aK, .int ac, .long dw, .ref aE, .int sr, .int sf, .ref aA, .ref aH, .ref aI, .int hi])), (rC, .inl (cI, 2600, .inl fC)), (rV, .inl (cI, 2600, .inl fV)), (rK, .inl (cI, 5, .inl fK)), (rT, .inl (cI, 700, .inl fT)), (rS, .inl (cI, 700, .inl fS)), (rU, .inl (cI, 700, .inl fU)), (rL, .inl (cI, 6, .inl m22_A_rL)), (rX, .inl (cI, 80, .inl m22_A_rX)), (aB, .inl (cI, 24, .inl fBr)), (aP, .inl (cI, 20, .inl fPa)), (aN, .inl (cI, 97, .inl fN)), (aE, .inl (cI, 10, .inl m22_A_aE))] H → va_D A [(h0, .inr (11, [.int th, .ref tB, .int tsz, .int tat, .int wr, .int dp, .ref rC, .ref rV, .ref rD, .ref rK, .ref rT, .ref rS, .ref rU, .int lw, .int tx, .ref rL, .ref rX, .ref qR, .ref qB, .ref qP, .int qnb, .int qnp, .ref aR, .ref aB, .ref aP, .int nb, .int np, .ref aN, .ref rf, .int ho, .int br, .ref aK, .int ac, .long dw, .ref aE, .int sr, .int sf, .ref aA, .ref aH, .ref aI, .int hi])), (rC, .inl (cI, 2600, .inl fC)), (rV, .inl (cI, 2600, .inl fV)), (rK, .inl (cI, 5, .inl fK)), (rT, .inl (cI, 700, .inl fT)), (rS, .inl (cI, 700, .inl fS)), (rU, .inl (cI, 700, .inl fU)), (rL, .inl (cI, 6, .inl m22_A_rL)), (rX, .inl (cI, 80, .inl m22_A_rX)), (aB, .inl (cI, 24, .inl fBr)), (aP, .inl (cI, 20, .inl fPa)), (aN, .inl (cI, 97, .inl fN)), (aE, .inl (cI, 10, .inl m22_A_aE))] → va_S A s.heap H locs → lv_has ls 5 [(3, .int m22_L_3), (2, .int m22_L_2), (0, .ref h0), (1, .int p0)] → W p l e R s m args below meth c H locs 0 0 Q (F0 m 22 ls []) := by
        intro n22
        induction n22 using Nat.strongRecOn with
        | _ n22 ih22 =>
          intro m22_A_aE m22_A_rL m22_A_rX m22_L_2 m22_L_3 jf22_0 jv22_0 jf22_2 hmu22 H locs ls hP hD hS hl
          refine lv_iload_n hx hb dX11_most_22 rfl (lv_at hl 0 rfl) ?_
          refine lv_aload_n hx hb dX11_most_23 rfl (lv_at hl 2 rfl) ?_
          refine va_get (D := (dC, dI)) (ci := 11) (v := .int nb) (C := RX11) (T := TX11) (N := 41) hx hb hts iX11 hown hK hP 0 rfl rfl 25 (by decide) (hts _ qw1152) (fun _ h9 => h9) rfl dX11_most_24 ?_
          refine lv_icmp_ge (tgt := 55) hx hb dX11_most_27 (by decide) (fun c27 => ?_) (fun c27 => ?_)
          · have c27 : nb.toInt ≤ m22_L_3.toInt := z3 rfl rfl c27
            refine lv_iconst (v := 0) hx hb dX11_most_55 (by decide) ?_
            refine lv_istore_n (lv' := [(3, .int 0), (2, .int m22_L_2), (0, .ref h0), (1, .int p0)]) hx hb dX11_most_56 rfl hl (by decide) rfl (fun ls hl => ?_)
            refine lv_iconst (v := 1) hx hb dX11_most_57 (by decide) ?_
            have J60 : ∀ (n : Nat) (m60_L_3 : Int32) (m60_L_4 : Int32), (0 ≤ m60_L_3.toInt ∧ m60_L_3.toInt ≤ 4) → (1 ≤ m60_L_4.toInt ∧ m60_L_4.toInt ≤ 5) → (m60_L_4.toInt ≤ np.toInt ∨ m60_L_4.toInt = 1) → (m60_L_3 = zAn (fun j => fPa (4 * j + 1)) (m60_L_4.toInt.toNat - 1)) → (6 - m60_L_4.toInt).toNat = n → ∀ (H : Heap) (locs : List Loc) (ls : Array Slot), va_P (dC, dI) vwCl [(h0, .inr (11, [.int th, .ref tB, .int tsz, .int tat, .int wr, .int dp, .ref rC, .ref rV, .ref rD, .ref rK, .ref rT, .ref rS, .ref rU, .int lw, .int tx, .ref rL, .ref rX, .ref qR, .ref qB, .ref qP, .int qnb, .int qnp, .ref aR, .ref aB, .ref aP, .int nb, .int np, .ref aN, .ref rf, .int ho, .int br, .ref aK, .int ac, .long dw, .ref aE, .int sr, .int sf, .ref aA, .ref aH, .ref aI, .int hi])), (rC, .inl (cI, 2600, .inl fC)), (rV, .inl (cI, 2600, .inl fV)), (rK, .inl (cI, 5, .inl fK)), (rT, .inl (cI, 700, .inl fT)), (rS, .inl (cI, 700, .inl fS)), (rU, .inl (cI, 700, .inl fU)), (rL, .inl (cI, 6, .inl m22_A_rL)), (rX, .inl (cI, 80, .inl m22_A_rX)), (aB, .inl (cI, 24, .inl fBr)), (aP, .inl (cI, 20, .inl fPa)), (aN, .inl (cI, 97, .inl fN)), (aE, .inl (cI, 10, .inl m22_A_aE))] H → va_D A [(h0, .inr (11, [.int th, .ref tB, .int tsz, .int tat, .int wr, .int dp, .ref rC, .ref rV, .ref rD, .ref rK, .ref rT, .ref rS, .ref rU, .int lw, .int tx, .ref rL, .ref rX, .ref qR, .ref qB, .ref qP, .int qnb, .int qnp, .ref aR, .ref aB, .ref aP, .int nb, .int np, .ref aN, .ref rf, .int ho, .int br, .ref aK, .int ac, .long dw, .ref aE, .int sr, .int sf, .ref aA, .ref aH, .ref aI, .int hi])), (rC, .inl (cI, 2600, .inl fC)), (rV, .inl (cI, 2600, .inl fV)), (rK, .inl (cI, 5, .inl fK)), (rT, .inl (cI, 700, .inl fT)), (rS, .inl (cI, 700, .inl fS)), (rU, .inl (cI, 700, .inl fU)), (rL, .inl (cI, 6, .inl m22_A_rL)), (rX, .inl (cI, 80, .inl m22_A_rX)), (aB, .inl (cI, 24, .inl fBr)), (aP, .inl (cI, 20, .inl fPa)), (aN, .inl (cI, 97, .inl fN)), (aE, .inl (cI, 10, .inl m22_A_aE))] → va_S A s.heap H locs → lv_has ls 5 [(4, .int m60_L_4), (3, .int m60_L_3), (2, .int m22_L_2), (0, .ref h0), (1, .int p0)] → W p l e R s m args below meth c H locs 0 0 Q (F0 m 60 ls []) := by
              intro n60
              induction n60 using Nat.strongRecOn with
              | _ n60 ih60 =>
                intro m60_L_3 m60_L_4 jf60_0 jf60_1 jf60_2 jv60_0 hmu60 H locs ls hP hD hS hl
                refine lv_iload hx hb dX11_most_60 (lv_at hl 0 rfl) ?_
                refine lv_aload_n hx hb dX11_most_62 rfl (lv_at hl 3 rfl) ?_
                refine va_get (D := (dC, dI)) (ci := 11) (v := .int np) (C := RX11) (T := TX11) (N := 41) hx hb hts iX11 hown hK hP 0 rfl rfl 26 (by decide) (hts _ qw1153) (fun _ h9 => h9) rfl dX11_most_63 ?_
                refine lv_icmp_ge (tgt := 98) hx hb dX11_most_66 (by decide) (fun c66 => ?_) (fun c66 => ?_)
                · have c66 : np.toInt ≤ m60_L_4.toInt := z3 rfl rfl c66
                  refine lv_iload_n hx hb dX11_most_98 rfl (lv_at hl 4 rfl) ?_
                  rcases (show (p0.toInt < 0 ∨ 3 < p0.toInt) ∨ p0.toInt = 0 ∨ p0.toInt = 1 ∨ p0.toInt = 2 ∨ p0.toInt = 3 by omega) with c99 | c99 | c99 | c99 | c99
                  · refine lv_tableOut (tgt := 144) hx hb dX11_most_99 c99 (by decide) ?_
                    refine lv_aload_n hx hb dX11_most_144 rfl (lv_at hl 3 rfl) ?_
                    obtain ⟨hPc, hDc⟩ := zc2 (wc := [(h0, .inr (11, [.int th, .ref tB, .int tsz, .int tat, .int wr, .int dp, .ref rC, .ref rV, .ref rD, .ref rK, .ref rT, .ref rS, .ref rU, .int lw, .int tx, .ref rL, .ref rX, .ref qR, .ref qB, .ref qP, .int qnb, .int qnp, .ref aR, .ref aB, .ref aP, .int nb, .int np, .ref aN, .ref rf, .int ho, .int br, .ref aK, .int ac, .long dw, .ref aE, .int sr, .int sf, .ref aA, .ref aH, .ref aI, .int hi])), (aB, .inl (cI, 24, .inl fBr)), (aN, .inl (cI, 97, .inl fN))]) hP hD [0, 9, 11] (by decide +kernel) rfl
                    have hFc := zfr hS hA
                    refine va_calli (va_runV (As := []) (rest := []) ⟨hx, hb, hml, hown, hts⟩ (g_X11_lies l dC dI cI cJ h0 th tB tsz tat wr dp rC rV rD rK rT rS rU lw tx rL rX qR qB qP qnb qnp aR aB aP nb np aN rf ho br aK ac dw aE sr sf aA aH aI hi fBr fN H.size y_ac y_hi y_ho y_lw n_nb n_np y_qnb y_qnp y_tat y_tsz y_wr ci_fBr_zBr_nb ci_fN_zNw_np) (cwV 0 hts (zgV qw1725 qw1727 qw96 qw108 qw1728) rfl rfl rfl hd_X11_lies ⟨by rw [hR]; exact Nat.le_of_ble_eq_true rfl, by rw [hR]; exact Nat.le_of_ble_eq_true rfl⟩) (zPV hPc hK hDc (va_recv (q := (RX11, TX11, 41)) hK hP (ci := 11) (q0 := 0) rfl rfl)) rfl rfl hl.1 rfl (lv_room (Nat.le_of_ble_eq_true rfl)) dX11_most_145 ⟨Nat.zero_le _, Nat.zero_le _⟩) hS (fun q _ h => hFc q h) hFc (fun v145 u145 t H locs ht hvm hw hB hz1 hk1 hS9 => ?_)
                    replace hP := zkeep hP hk1
                    replace hS := hS9
                    clear hPc hDc hFc hk1 hz1 hvm hS9
                    have f145_0 : (v145 = zLie fBr (fun i => fN (17 + i)) (fN 16).toInt.toNat) := hw
                    have F145 := f145_0
                    rw [hQ]
                    exact W.iret (v := v145) hx hb hr (fun t ht hW => ⟨⟨v145, (m22_A_rL, m22_A_rX, m22_A_aE), rfl, (by (try dsimp only); exact fun kc kT q_fR q_fKp q_frf kl hc hb h hL => by unfold sV_mos; rw [if_neg (by omega), if_neg (by omega), if_neg (by omega), if_neg (by omega), if_neg (by omega), if_pos (by omega)]; exact F145.trans (zLie_s (P := fun i => fN (17 + i)) hc hb.2.2.2.1 (zSr_pn h.1) (zSr_P h.1))), ⟨by rw [ht]; exact hP, hD⟩⟩, hS.F ht⟩) hS.2.2 dX11_most_148
                  · refine lv_tableIn (off := 29) (tgt := 128) hx hb dX11_most_99 (by omega) (by omega) (by rw [c99]; rfl) (by decide) ?_
                    refine lv_iload_n hx hb dX11_most_128 rfl (lv_at hl 2 rfl) ?_
                    rw [hQ]
                    exact W.iret (v := m22_L_2) hx hb hr (fun t ht hW => ⟨⟨m22_L_2, (m22_A_rL, m22_A_rX, m22_A_aE), rfl, (by (try dsimp only); exact fun kc kT q_fR q_fKp q_frf kl hc hb h hL => by unfold sV_mos; rw [if_neg (by omega), if_pos (by omega)]; exact (jv22_0 kc kT _ kl hc hb h.1 hL).trans (by rw [show m22_L_3.toInt.toNat = nb.toInt.toNat by omega])), ⟨by rw [ht]; exact hP, hD⟩⟩, hS.F ht⟩) hS.2.2 dX11_most_129
                  · refine lv_tableIn (off := 31) (tgt := 130) hx hb dX11_most_99 (by omega) (by omega) (by rw [c99]; rfl) (by decide) ?_
                    refine lv_aload_n hx hb dX11_most_130 rfl (lv_at hl 3 rfl) ?_
                    refine lv_iconst (v := 1) hx hb dX11_most_131 (by decide) ?_
                    obtain ⟨hPc, hDc⟩ := zc2 (wc := [(h0, .inr (11, [.int th, .ref tB, .int tsz, .int tat, .int wr, .int dp, .ref rC, .ref rV, .ref rD, .ref rK, .ref rT, .ref rS, .ref rU, .int lw, .int tx, .ref rL, .ref rX, .ref qR, .ref qB, .ref qP, .int qnb, .int qnp, .ref aR, .ref aB, .ref aP, .int nb, .int np, .ref aN, .ref rf, .int ho, .int br, .ref aK, .int ac, .long dw, .ref aE, .int sr, .int sf, .ref aA, .ref aH, .ref aI, .int hi])), (aB, .inl (cI, 24, .inl fBr))]) hP hD [0, 9] (by decide +kernel) rfl
                    have hFc := zfr hS hA
                    refine va_calli (va_runV (As := [.int 1]) (rest := []) ⟨hx, hb, hml, hown, hts⟩ (g_X11_mostOf l dC dI cI cJ h0 1 th tB tsz tat wr dp rC rV rD rK rT rS rU lw tx rL rX qR qB qP qnb qnp aR aB aP nb np aN rf ho br aK ac dw aE sr sf aA aH aI hi fBr H.size y_ac y_hi y_ho y_lw n_nb n_np (by decide) y_qnb y_qnp y_tat y_tsz y_wr ci_fBr_zBr_nb) (cwV 1 hts (zgV qw1721 qw1723 qw95 qw108 qw1724) rfl rfl rfl hd_X11_mostOf ⟨by rw [hR]; exact Nat.le_of_ble_eq_true rfl, by rw [hR]; exact Nat.le_of_ble_eq_true rfl⟩) (zPV hPc hK hDc (va_recv (q := (RX11, TX11, 41)) hK hP (ci := 11) (q0 := 0) rfl rfl)) rfl rfl hl.1 rfl (lv_room (Nat.le_of_ble_eq_true rfl)) dX11_most_132 ⟨Nat.zero_le _, Nat.zero_le _⟩) hS (fun q _ h => hFc q h) hFc (fun v132 u132 t H locs ht hvm hw hB hz1 hk1 hS9 => ?_)
                    replace hP := zkeep hP hk1
                    replace hS := hS9
                    clear hPc hDc hFc hk1 hz1 hvm hS9
                    have zn132_1 : (1 : Int32).toInt = 1 := by decide
                    obtain ⟨f132_0, f132_1, f132_2⟩ : (0 ≤ v132.toInt) ∧ (v132.toInt ≤ 5) ∧ (v132 = zXm (fun j => fBr (4 * j + (1 : Int32).toInt.toNat)) (nb.toInt.toNat - 1)) := hw
                    have F132 := f132_2
                    rw [hQ]
                    exact W.iret (v := v132) hx hb hr (fun t ht hW => ⟨⟨v132, (m22_A_rL, m22_A_rX, m22_A_aE), rfl, (by (try dsimp only); exact fun kc kT q_fR q_fKp q_frf kl hc hb h hL => by unfold sV_mos; rw [if_neg (by omega), if_neg (by omega), if_pos (by omega)]; exact F132.trans (zXm_c _ (by omega) (fun j hj => by (try dsimp only); rw [show (4 * j + (1 : Int32).toInt.toNat : Nat) = 4 * j + 1 by have : (1 : Int32).toInt = 1 := (by decide); omega]; exact hc.2.1 _ (by omega)))), ⟨by rw [ht]; exact hP, hD⟩⟩, hS.F ht⟩) hS.2.2 dX11_most_135
                  · refine lv_tableIn (off := 37) (tgt := 136) hx hb dX11_most_99 (by omega) (by omega) (by rw [c99]; rfl) (by decide) ?_
                    refine lv_aload_n hx hb dX11_most_136 rfl (lv_at hl 3 rfl) ?_
                    refine lv_iconst (v := 0) hx hb dX11_most_137 (by decide) ?_
                    obtain ⟨hPc, hDc⟩ := zc2 (wc := [(h0, .inr (11, [.int th, .ref tB, .int tsz, .int tat, .int wr, .int dp, .ref rC, .ref rV, .ref rD, .ref rK, .ref rT, .ref rS, .ref rU, .int lw, .int tx, .ref rL, .ref rX, .ref qR, .ref qB, .ref qP, .int qnb, .int qnp, .ref aR, .ref aB, .ref aP, .int nb, .int np, .ref aN, .ref rf, .int ho, .int br, .ref aK, .int ac, .long dw, .ref aE, .int sr, .int sf, .ref aA, .ref aH, .ref aI, .int hi])), (aB, .inl (cI, 24, .inl fBr))]) hP hD [0, 9] (by decide +kernel) rfl
                    have hFc := zfr hS hA
                    refine va_calli (va_runV (As := [.int 0]) (rest := []) ⟨hx, hb, hml, hown, hts⟩ (g_X11_mostOf l dC dI cI cJ h0 0 th tB tsz tat wr dp rC rV rD rK rT rS rU lw tx rL rX qR qB qP qnb qnp aR aB aP nb np aN rf ho br aK ac dw aE sr sf aA aH aI hi fBr H.size y_ac y_hi y_ho y_lw n_nb n_np (by decide) y_qnb y_qnp y_tat y_tsz y_wr ci_fBr_zBr_nb) (cwV 1 hts (zgV qw1721 qw1723 qw95 qw108 qw1724) rfl rfl rfl hd_X11_mostOf ⟨by rw [hR]; exact Nat.le_of_ble_eq_true rfl, by rw [hR]; exact Nat.le_of_ble_eq_true rfl⟩) (zPV hPc hK hDc (va_recv (q := (RX11, TX11, 41)) hK hP (ci := 11) (q0 := 0) rfl rfl)) rfl rfl hl.1 rfl (lv_room (Nat.le_of_ble_eq_true rfl)) dX11_most_138 ⟨Nat.zero_le _, Nat.zero_le _⟩) hS (fun q _ h => hFc q h) hFc (fun v138 u138 t H locs ht hvm hw hB hz1 hk1 hS9 => ?_)
                    replace hP := zkeep hP hk1
                    replace hS := hS9
                    clear hPc hDc hFc hk1 hz1 hvm hS9
                    have zn138_0 : (0 : Int32).toInt = 0 := by decide
                    obtain ⟨f138_0, f138_1, f138_2⟩ : (0 ≤ v138.toInt) ∧ (v138.toInt ≤ 5) ∧ (v138 = zXm (fun j => fBr (4 * j + (0 : Int32).toInt.toNat)) (nb.toInt.toNat - 1)) := hw
                    have F138 := f138_2
                    rw [hQ]
                    exact W.iret (v := v138) hx hb hr (fun t ht hW => ⟨⟨v138, (m22_A_rL, m22_A_rX, m22_A_aE), rfl, (by (try dsimp only); exact fun kc kT q_fR q_fKp q_frf kl hc hb h hL => by unfold sV_mos; rw [if_neg (by omega), if_neg (by omega), if_neg (by omega), if_pos (by omega)]; exact F138.trans (zXm_c _ (by omega) (fun j hj => by (try dsimp only); rw [show (4 * j + (0 : Int32).toInt.toNat : Nat) = 4 * j by have : (0 : Int32).toInt = 0 := (by decide); omega]; exact hc.2.1 _ (by omega)))), ⟨by rw [ht]; exact hP, hD⟩⟩, hS.F ht⟩) hS.2.2 dX11_most_141
                  · refine lv_tableIn (off := 43) (tgt := 142) hx hb dX11_most_99 (by omega) (by omega) (by rw [c99]; rfl) (by decide) ?_
                    refine lv_iload_n hx hb dX11_most_142 rfl (lv_at hl 1 rfl) ?_
                    rw [hQ]
                    exact W.iret (v := m60_L_3) hx hb hr (fun t ht hW => ⟨⟨m60_L_3, (m22_A_rL, m22_A_rX, m22_A_aE), rfl, (by (try dsimp only); exact fun kc kT q_fR q_fKp q_frf kl hc hb h hL => by unfold sV_mos; rw [if_neg (by omega), if_neg (by omega), if_neg (by omega), if_neg (by omega), if_pos (by omega)]; exact (jv60_0.trans (by rw [show m60_L_4.toInt.toNat - 1 = np.toInt.toNat - 1 by omega])).trans (zAn_c _ (by omega) (fun j hj => hc.2.2 _ (by have := hb.1.2; omega)))), ⟨by rw [ht]; exact hP, hD⟩⟩, hS.F ht⟩) hS.2.2 dX11_most_143
                · have c66 : m60_L_4.toInt < np.toInt := z4 rfl rfl c66
                  refine lv_aload_n hx hb dX11_most_69 rfl (lv_at hl 3 rfl) ?_
                  refine lv_iload hx hb dX11_most_70 (lv_at hl 0 rfl) ?_
                  refine lv_iconst (v := 1) hx hb dX11_most_72 (by decide) ?_
                  obtain ⟨hPc, hDc⟩ := zc2 (wc := [(h0, .inr (11, [.int th, .ref tB, .int tsz, .int tat, .int wr, .int dp, .ref rC, .ref rV, .ref rD, .ref rK, .ref rT, .ref rS, .ref rU, .int lw, .int tx, .ref rL, .ref rX, .ref qR, .ref qB, .ref qP, .int qnb, .int qnp, .ref aR, .ref aB, .ref aP, .int nb, .int np, .ref aN, .ref rf, .int ho, .int br, .ref aK, .int ac, .long dw, .ref aE, .int sr, .int sf, .ref aA, .ref aH, .ref aI, .int hi])), (aP, .inl (cI, 20, .inl fPa))]) hP hD [0, 10] (by decide +kernel) rfl
                  have hFc := zfr hS hA
                  refine va_calli (va_runV (As := [.int m60_L_4, .int 1]) (rest := []) ⟨hx, hb, hml, hown, hts⟩ (g_X11_by_1 l dC dI cI cJ h0 m60_L_4 th tB tsz tat wr dp rC rV rD rK rT rS rU lw tx rL rX qR qB qP qnb qnp aR aB aP nb np aN rf ho br aK ac dw aE sr sf aA aH aI hi fPa H.size y_ac y_hi y_ho y_lw n_nb n_np (by omega) y_qnb y_qnp y_tat y_tsz y_wr) (cwV 2 hts (zgV qw1390 qw1392 qw55 qw108 qw1393) rfl rfl rfl hd_X11_by ⟨by rw [hR]; exact Nat.le_of_ble_eq_true rfl, by rw [hR]; exact Nat.le_of_ble_eq_true rfl⟩) (zPV hPc hK hDc (va_recv (q := (RX11, TX11, 41)) hK hP (ci := 11) (q0 := 0) rfl rfl)) rfl rfl hl.1 rfl (lv_room (Nat.le_of_ble_eq_true rfl)) dX11_most_73 ⟨Nat.zero_le _, Nat.zero_le _⟩) hS (fun q _ h => hFc q h) hFc (fun v73 u73 t H locs ht hvm hw hB hz1 hk1 hS9 => ?_)
                  replace hP := zkeep hP hk1
                  replace hS := hS9
                  clear hPc hDc hFc hk1 hz1 hvm hS9
                  obtain ⟨f73_0, f73_1⟩ : (v73.toInt = (fPa (4 * m60_L_4.toInt.toNat + 1)).toInt) ∧ (v73 = fPa (4 * m60_L_4.toInt.toNat + 1)) := hw
                  have F73 := f73_1
                  refine lv_aload_n hx hb dX11_most_76 rfl (lv_at hl 3 rfl) ?_
                  refine lv_iload_n hx hb dX11_most_77 rfl (lv_at hl 1 rfl) ?_
                  refine lv_iconst (v := 1) hx hb dX11_most_78 (by decide) ?_
                  obtain ⟨hPc, hDc⟩ := zc2 (wc := [(h0, .inr (11, [.int th, .ref tB, .int tsz, .int tat, .int wr, .int dp, .ref rC, .ref rV, .ref rD, .ref rK, .ref rT, .ref rS, .ref rU, .int lw, .int tx, .ref rL, .ref rX, .ref qR, .ref qB, .ref qP, .int qnb, .int qnp, .ref aR, .ref aB, .ref aP, .int nb, .int np, .ref aN, .ref rf, .int ho, .int br, .ref aK, .int ac, .long dw, .ref aE, .int sr, .int sf, .ref aA, .ref aH, .ref aI, .int hi])), (aP, .inl (cI, 20, .inl fPa))]) hP hD [0, 10] (by decide +kernel) rfl
                  have hFc := zfr hS hA
                  refine va_calli (va_runV (As := [.int m60_L_3, .int 1]) (rest := [.int v73]) ⟨hx, hb, hml, hown, hts⟩ (g_X11_by_1 l dC dI cI cJ h0 m60_L_3 th tB tsz tat wr dp rC rV rD rK rT rS rU lw tx rL rX qR qB qP qnb qnp aR aB aP nb np aN rf ho br aK ac dw aE sr sf aA aH aI hi fPa H.size y_ac y_hi y_ho y_lw n_nb n_np jf60_0 y_qnb y_qnp y_tat y_tsz y_wr) (cwV 2 hts (zgV qw1390 qw1392 qw55 qw108 qw1393) rfl rfl rfl hd_X11_by ⟨by rw [hR]; exact Nat.le_of_ble_eq_true rfl, by rw [hR]; exact Nat.le_of_ble_eq_true rfl⟩) (zPV hPc hK hDc (va_recv (q := (RX11, TX11, 41)) hK hP (ci := 11) (q0 := 0) rfl rfl)) rfl rfl hl.1 rfl (lv_room (Nat.le_of_ble_eq_true rfl)) dX11_most_79 ⟨Nat.zero_le _, Nat.zero_le _⟩) hS (fun q _ h => hFc q h) hFc (fun v79 u79 t H locs ht hvm hw hB hz1 hk1 hS9 => ?_)
                  replace hP := zkeep hP hk1
                  replace hS := hS9
                  clear hPc hDc hFc hk1 hz1 hvm hS9
                  obtain ⟨f79_0, f79_1⟩ : (v79.toInt = (fPa (4 * m60_L_3.toInt.toNat + 1)).toInt) ∧ (v79 = fPa (4 * m60_L_3.toInt.toNat + 1)) := hw
                  have F79 := f79_1
                  refine lv_icmp_ge (tgt := 90) hx hb dX11_most_82 (by decide) (fun c82 => ?_) (fun c82 => ?_)
                  · have c82 : v79.toInt ≤ v73.toInt := z3 rfl rfl c82
                    refine lv_iload_n hx hb dX11_most_90 rfl (lv_at hl 1 rfl) ?_
                    refine lv_istore_n (lv' := [(3, .int m60_L_3), (4, .int m60_L_4), (2, .int m22_L_2), (0, .ref h0), (1, .int p0)]) hx hb dX11_most_91 rfl hl (by decide) rfl (fun ls hl => ?_)
                    obtain ⟨v92, e92⟩ : ∃ y : Int32, y = m60_L_4 + Int32.ofInt (1) := ⟨_, rfl⟩
                    refine lv_iinc (v := v92) (lv' := [(4, .int v92), (3, .int m60_L_3), (2, .int m22_L_2), (0, .ref h0), (1, .int p0)]) hx hb dX11_most_92 hl (k := 1) rfl e92.symm (by decide) rfl (fun ls hl => ?_)
                    have i92 : v92.toInt = m60_L_4.toInt + 1 := zaddI e92 (by decide) (by omega) (by omega)
                    refine lv_goto (tgt := 60) hx hb dX11_most_95 (by decide) ?_
                    exact ih60 _ (by omega) m60_L_3 v92 jf60_0 (by omega) (by omega) (by first | exact zAnS (B := (fun j => fPa (4 * j + 1))) jv60_0 (by omega) i92 F73 F79 (Or.inl ⟨by omega, rfl⟩) | exact zAnS (B := (fun j => fPa (4 * j + 1))) jv60_0 (by omega) i92 F73 F79 (Or.inr ⟨by omega, rfl⟩)) rfl H locs ls hP hD hS (lv_sub hl [0, 1, 2, 3, 4] rfl)
                  · have c82 : v73.toInt < v79.toInt := z4 rfl rfl c82
                    refine lv_iload hx hb dX11_most_85 (lv_at hl 0 rfl) ?_
                    refine lv_goto (tgt := 91) hx hb dX11_most_87 (by decide) ?_
                    refine lv_istore_n (lv' := [(3, .int m60_L_4), (4, .int m60_L_4), (2, .int m22_L_2), (0, .ref h0), (1, .int p0)]) hx hb dX11_most_91 rfl hl (by decide) rfl (fun ls hl => ?_)
                    obtain ⟨v92, e92⟩ : ∃ y : Int32, y = m60_L_4 + Int32.ofInt (1) := ⟨_, rfl⟩
                    refine lv_iinc (v := v92) (lv' := [(4, .int v92), (3, .int m60_L_4), (2, .int m22_L_2), (0, .ref h0), (1, .int p0)]) hx hb dX11_most_92 hl (k := 1) rfl e92.symm (by decide) rfl (fun ls hl => ?_)
                    have i92 : v92.toInt = m60_L_4.toInt + 1 := zaddI e92 (by decide) (by omega) (by omega)
                    refine lv_goto (tgt := 60) hx hb dX11_most_95 (by decide) ?_
                    exact ih60 _ (by omega) m60_L_4 v92 (by omega) (by omega) (by omega) (by first | exact zAnS (B := (fun j => fPa (4 * j + 1))) jv60_0 (by omega) i92 F73 F79 (Or.inl ⟨by omega, rfl⟩) | exact zAnS (B := (fun j => fPa (4 * j + 1))) jv60_0 (by omega) i92 F73 F79 (Or.inr ⟨by omega, rfl⟩)) rfl H locs ls hP hD hS (lv_sub hl [0, 1, 2, 3, 4] rfl)
            refine lv_istore (lv' := [(4, .int 1), (3, .int 0), (2, .int m22_L_2), (0, .ref h0), (1, .int p0)]) hx hb dX11_most_58 hl (by decide) rfl (fun ls hl => ?_)
            have zj60_m60_L_3 : (0 : Int32).toInt = 0 := by decide
            have zj60_m60_L_4 : (1 : Int32).toInt = 1 := by decide
            exact J60 _ 0 1 (by decide) (by decide) (by omega) (rfl) rfl H locs ls hP hD hS (lv_sub hl [0, 1, 2, 3, 4] rfl)
          · have c27 : m22_L_3.toInt < nb.toInt := z4 rfl rfl c27
            refine lv_iload_n hx hb dX11_most_30 rfl (lv_at hl 1 rfl) ?_
            refine lv_aload_n hx hb dX11_most_31 rfl (lv_at hl 2 rfl) ?_
            refine lv_iload_n hx hb dX11_most_32 rfl (lv_at hl 0 rfl) ?_
            obtain ⟨hPc, hDc, hFc⟩ := zc3 (wc := [(h0, .inr (11, [.int th, .ref tB, .int tsz, .int tat, .int wr, .int dp, .ref rC, .ref rV, .ref rD, .ref rK, .ref rT, .ref rS, .ref rU, .int lw, .int tx, .ref rL, .ref rX, .ref qR, .ref qB, .ref qP, .int qnb, .int qnp, .ref aR, .ref aB, .ref aP, .int nb, .int np, .ref aN, .ref rf, .int ho, .int br, .ref aK, .int ac, .long dw, .ref aE, .int sr, .int sf, .ref aA, .ref aH, .ref aI, .int hi])), (rC, .inl (cI, 2600, .inl fC)), (rV, .inl (cI, 2600, .inl fV)), (rK, .inl (cI, 5, .inl fK)), (rT, .inl (cI, 700, .inl fT)), (rS, .inl (cI, 700, .inl fS)), (rU, .inl (cI, 700, .inl fU)), (rL, .inl (cI, 6, .inl m22_A_rL)), (rX, .inl (cI, 80, .inl m22_A_rX)), (aB, .inl (cI, 24, .inl fBr)), (aP, .inl (cI, 20, .inl fPa)), (aN, .inl (cI, 97, .inl fN)), (aE, .inl (cI, 10, .inl m22_A_aE))]) hP hD hS hA [0, 1, 2, 3, 4, 5, 6, 7, 8, 9, 10, 11, 12] (by decide +kernel) rfl
            refine va_calli (va_runV (As := [.int m22_L_3]) (rest := [.int m22_L_2]) ⟨hx, hb, hml, hown, hts⟩ (g_X11_likelyOf l dC dI cI cJ h0 m22_L_3 th tB tsz tat wr dp rC rV rD rK rT rS rU lw tx rL rX qR qB qP qnb qnp aR aB aP nb np aN rf ho br aK ac dw aE sr sf aA aH aI hi fC fV fK fT fS fU m22_A_rL m22_A_rX fBr fPa fN m22_A_aE H.size y_ac y_hi y_ho y_lw n_nb n_np (by omega) y_qnb y_qnp y_tat y_tsz y_wr (hls) (by omega) ci_fBr_zBr_nb ci_fN_zNw_np ci_fPa_zBr_np) (cwV 1 hts (zgV qw1600 qw1602 qw80 qw108 qw1603) rfl rfl rfl hd_X11_likelyOf ⟨by rw [hR]; exact Nat.le_of_ble_eq_true rfl, by rw [hR]; exact Nat.le_of_ble_eq_true rfl⟩) (zPV hPc hK hDc (va_recv (q := (RX11, TX11, 41)) hK hP (ci := 11) (q0 := 0) rfl rfl)) rfl rfl hl.1 rfl (lv_room (Nat.le_of_ble_eq_true rfl)) dX11_most_33 ⟨Nat.zero_le _, Nat.zero_le _⟩) hS (fun q _ h => hFc q h) hFc (fun v33 u33 t H locs ht hvm hw hB hz1 hk1 hS9 => ?_)
            obtain ⟨u33_0, u33_1, u33_2⟩ := u33
            obtain ⟨hP9, hD9⟩ := zj2 (wX := [(h0, .inr (11, [.int th, .ref tB, .int tsz, .int tat, .int wr, .int dp, .ref rC, .ref rV, .ref rD, .ref rK, .ref rT, .ref rS, .ref rU, .int lw, .int tx, .ref rL, .ref rX, .ref qR, .ref qB, .ref qP, .int qnb, .int qnp, .ref aR, .ref aB, .ref aP, .int nb, .int np, .ref aN, .ref rf, .int ho, .int br, .ref aK, .int ac, .long dw, .ref aE, .int sr, .int sf, .ref aA, .ref aH, .ref aI, .int hi])), (rC, .inl (cI, 2600, .inl fC)), (rV, .inl (cI, 2600, .inl fV)), (rK, .inl (cI, 5, .inl fK)), (rT, .inl (cI, 700, .inl fT)), (rS, .inl (cI, 700, .inl fS)), (rU, .inl (cI, 700, .inl fU)), (rL, .inl (cI, 6, .inl u33_0)), (rX, .inl (cI, 80, .inl u33_1)), (aB, .inl (cI, 24, .inl fBr)), (aP, .inl (cI, 20, .inl fPa)), (aN, .inl (cI, 97, .inl fN)), (aE, .inl (cI, 10, .inl u33_2))]) hP hD hk1 hFc ht hB [0, 1, 2, 3, 4, 5, 6, 7, 8, 9, 10, 11, 12] [(true, 0), (true, 1), (true, 2), (true, 3), (true, 4), (true, 5), (true, 6), (true, 7), (true, 8), (true, 9), (true, 10), (true, 11), (true, 12)] rfl (by decide +kernel) (by decide +kernel) rfl
            clear hP hD hS hPc hDc hFc hB hk1 hz1 hvm
            have hP := hP9
            have hD := hD9
            have hS := hS9
            clear hP9 hD9 hS9
            obtain ⟨f33_0, f33_1, f33_2⟩ : (0 ≤ v33.toInt) ∧ (v33.toInt ≤ 9) ∧ (∀ (kc : zK3) (kT : zT) (q_fR : Nat → Int32) (kl : Option ((Int → Int) × Int)), zCn q_fR fBr fPa nb.toInt np.toInt kc → zKo nb.toInt np.toInt kc kT → zSr nb.toInt np.toInt kT.1 fN → zLwR ho fC fV fK fT fS fU kl → v33 = sLi kc kT.1 kl m22_L_3 ∧ ∀ j : Nat, j < 10 → u33_2 j = sBl kc kT.1 kl m22_L_3 j) := hw
            have F33 := f33_2
            refine lv_iconst (v := 5) hx hb dX11_most_36 (by decide) ?_
            refine lv_icmp_ge (tgt := 46) hx hb dX11_most_37 (by decide) (fun c37 => ?_) (fun c37 => ?_)
            · have c37 : 5 ≤ v33.toInt := z3 (by decide) rfl c37
              refine lv_iconst (v := 0) hx hb dX11_most_46 (by decide) ?_
              refine lv_ior hx hb dX11_most_47 ?_
              refine lv_topi (fun v47 e47 => ?_)
              refine lv_istore_n (lv' := [(2, .int v47), (3, .int m22_L_3), (0, .ref h0), (1, .int p0)]) hx hb dX11_most_48 rfl hl (by decide) rfl (fun ls hl => ?_)
              obtain ⟨v49, e49⟩ : ∃ y : Int32, y = m22_L_3 + Int32.ofInt (1) := ⟨_, rfl⟩
              refine lv_iinc (v := v49) (lv' := [(3, .int v49), (2, .int v47), (0, .ref h0), (1, .int p0)]) hx hb dX11_most_49 hl (k := 1) rfl e49.symm (by decide) rfl (fun ls hl => ?_)
              have i49 : v49.toInt = m22_L_3.toInt + 1 := zaddI e49 (by decide) (by omega) (by omega)
              refine lv_goto (tgt := 22) hx hb dX11_most_52 (by decide) ?_
              exact ih22 _ (by omega) u33_2 u33_0 u33_1 v47 v49 (by omega) (fun kc kT q_fR kl hc hb h hL => by first | exact zPlY (jv22_0 kc kT _ kl hc hb h hL) (by omega) i49 (F33 kc kT _ kl hc hb h hL).1 (by omega) e42 e47 | exact (zor0 e47 rfl).trans (zPlN (jv22_0 kc kT _ kl hc hb h hL) (by omega) i49 (F33 kc kT _ kl hc hb h hL).1 (by omega))) (by omega) rfl H locs ls hP hD hS (lv_sub hl [0, 1, 2, 3] rfl)
            · have c37 : v33.toInt < 5 := z4 (by decide) rfl c37
              refine lv_iconst (v := 1) hx hb dX11_most_40 (by decide) ?_
              refine lv_iload_n hx hb dX11_most_41 rfl (lv_at hl 0 rfl) ?_
              refine lv_ishl hx hb dX11_most_42 ?_
              refine lv_topi (fun v42 e42 => ?_)
              have i42 : 1 ≤ v42.toInt ∧ v42.toInt ≤ 32 := zshl1 e42 (by omega) (by omega)
              refine lv_goto (tgt := 47) hx hb dX11_most_43 (by decide) ?_
              refine lv_ior hx hb dX11_most_47 ?_
              refine lv_topi (fun v47 e47 => ?_)
              refine lv_istore_n (lv' := [(2, .int v47), (3, .int m22_L_3), (0, .ref h0), (1, .int p0)]) hx hb dX11_most_48 rfl hl (by decide) rfl (fun ls hl => ?_)
              obtain ⟨v49, e49⟩ : ∃ y : Int32, y = m22_L_3 + Int32.ofInt (1) := ⟨_, rfl⟩
              refine lv_iinc (v := v49) (lv' := [(3, .int v49), (2, .int v47), (0, .ref h0), (1, .int p0)]) hx hb dX11_most_49 hl (k := 1) rfl e49.symm (by decide) rfl (fun ls hl => ?_)
              have i49 : v49.toInt = m22_L_3.toInt + 1 := zaddI e49 (by decide) (by omega) (by omega)
              refine lv_goto (tgt := 22) hx hb dX11_most_52 (by decide) ?_
              exact ih22 _ (by omega) u33_2 u33_0 u33_1 v47 v49 (by omega) (fun kc kT q_fR kl hc hb h hL => by first | exact zPlY (jv22_0 kc kT _ kl hc hb h hL) (by omega) i49 (F33 kc kT _ kl hc hb h hL).1 (by omega) e42 e47 | exact (zor0 e47 rfl).trans (zPlN (jv22_0 kc kT _ kl hc hb h hL) (by omega) i49 (F33 kc kT _ kl hc hb h hL).1 (by omega))) (by omega) rfl H locs ls hP hD hS (lv_sub hl [0, 1, 2, 3] rfl)
      refine lv_istore_n (lv' := [(3, .int 0), (2, .int 0), (0, .ref h0), (1, .int p0)]) hx hb dX11_most_21 rfl hl (by decide) rfl (fun ls hl => ?_)
      have zj22_m22_L_2 : (0 : Int32).toInt = 0 := by decide
      have zj22_m22_L_3 : (0 : Int32).toInt = 0 := by decide
      exact J22 _ fE fL fX 0 0 (by decide) (fun kc kT q_fR kl hc hb h hL => rfl) (by omega) rfl H locs ls hP hD hS (lv_sub hl [0, 1, 2, 3] rfl)
    · have c13 : v10.toInt = 0 := z5 rfl (by decide) c13
      refine lv_iconst (v := (-1)) hx hb dX11_most_16 (by decide) ?_
      have zr0 : ((-1) : Int32).toInt = (-1) := by decide
      rw [hQ]
      exact W.iret (v := ((-1))) hx hb hr (fun t ht hW => ⟨⟨(-1), (fL, fX, fE), rfl, (by (try dsimp only); exact fun kc kT q_fR q_fKp q_frf kl hc hb h hL => by first | (unfold sV_mos; rw [if_pos (by omega)]) | (unfold sV_mos; rw [if_neg (by omega), if_neg (by omega), if_neg (by omega), if_neg (by omega), if_neg (by omega), if_neg (by omega)])), ⟨by rw [ht]; exact hP, hD⟩⟩, hS.F ht⟩) hS.2.2 dX11_most_17
