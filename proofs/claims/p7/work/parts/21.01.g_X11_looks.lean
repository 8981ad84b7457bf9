set_option maxHeartbeats 4000000 in
set_option maxRecDepth 100000 in
theorem g_X11_truth (l : Launch) (dC : Nat → ClassId) (dI : Nat → Nat → Nat) (cI cJ : ClassId) (h0 : Nat) (p0 : Int32) (p1 : Int32) (th : Int32) (tB : Nat) (tsz : Int32) (tat : Int32) (wr : Int32) (dp : Int32) (rC : Nat) (rV : Nat) (rD : Nat) (rK : Nat) (rT : Nat) (rS : Nat) (rU : Nat) (lw : Int32) (tx : Int32) (rL : Nat) (rX : Nat) (qR : Nat) (qB : Nat) (qP : Nat) (qnb : Int32) (qnp : Int32) (aR : Nat) (aB : Nat) (aP : Nat) (nb : Int32) (np : Int32) (aN : Nat) (rf : Nat) (ho : Int32) (br : Int32) (aK : Nat) (ac : Int32) (dw : Int64) (aE : Nat) (sr : Int32) (sf : Int32) (aA : Nat) (aH : Nat) (aI : Nat) (hi : Int32) (fN : Nat → Int32) (sz : Nat) (n_ac : 0 ≤ ac.toInt ∧ ac.toInt ≤ 40) (n_hi : 0 ≤ hi.toInt ∧ hi.toInt ≤ 1) (n_ho : (-1) ≤ ho.toInt ∧ ho.toInt ≤ 3) (n_lw : 0 ≤ lw.toInt ∧ lw.toInt ≤ 4) (n_nb : 0 ≤ nb.toInt ∧ nb.toInt ≤ 6) (n_np : 0 ≤ np.toInt ∧ np.toInt ≤ 5) (n_qnb : 0 ≤ qnb.toInt ∧ qnb.toInt ≤ 6) (n_qnp : 0 ≤ qnp.toInt ∧ qnp.toInt ≤ 5) (n_tat : 0 ≤ tat.toInt ∧ tat.toInt ≤ 260) (n_tsz : 0 ≤ tsz.toInt ∧ tsz.toInt ≤ 240) (n_wr : (-1) ≤ wr.toInt ∧ wr.toInt ≤ 260)  (ci_fN_zNw_np : zNw np fN)  : Met l yX11_truth (.code yX11_truth cX11_truth 3 (some .int) :: wA) ({ frames := 3, cells := 0, slots := 0, locals := 65 }) (zP (dC, dI) [(cI, .int), (cJ, .long)] [.ref h0, .int p0, .int p1] sz [(h0, .inr (11, [.int th, .ref tB, .int tsz, .int tat, .int wr, .int dp, .ref rC, .ref rV, .ref rD, .ref rK, .ref rT, .ref rS, .ref rU, .int lw, .int tx, .ref rL, .ref rX, .ref qR, .ref qB, .ref qP, .int qnb, .int qnp, .ref aR, .ref aB, .ref aP, .int nb, .int np, .ref aN, .ref rf, .int ho, .int br, .ref aK, .int ac, .long dw, .ref aE, .int sr, .int sf, .ref aA, .ref aH, .ref aI, .int hi])), (aN, .inl (cI, 97, .inl fN))]) (va_Qi (fun (r : Int32) (u : Unit) => ((-1) ≤ r.toInt) ∧ (r.toInt ≤ 1) ∧ (∀ (kc : zK3) (kT : zT) (q_fR : Nat → Int32) (q_fBr : Nat → Int32) (q_fPa : Nat → Int32) (q_fKp : Nat → Int32) (q_frf : Nat → Int32), zCn q_fR q_fBr q_fPa nb.toInt np.toInt kc → zKo nb.toInt np.toInt kc kT → zTr nb.toInt np.toInt kT fN q_fKp ac q_frf → r = sV_tru nb.toInt np.toInt kT.1 p0 p1)) (fun (_ : Unit) (_ : State) => True) (va_A [] sz)) 0 0 (va_A [] sz) := by
  refine Met.ofW (cc := cX11_truth) (maxL := 3) (ret := (some .int)) (by decide) rfl ?_
  intro p e s m args below meth c s₁ B hml hv
  obtain ⟨hargs, hsz, hP, hK, hT⟩ := hv
  have hx := B.exec
  have hb := B.bytes
  have hr := B.returns
  have hts : ∀ w ∈ wA, w.before args s = true := fun w h => atoms_spec (ws := .code yX11_truth cX11_truth 3 (some .int) :: wA) B.pre w (List.mem_cons_of_mem _ h)
  have hown : s.vm.findClass RX11 = some m.cls := findClass_of_methodNamed B.named
  have hlocks := B.notSynchronized
  subst hsz
  have hD : va_D (va_A [] s.heap.size) [] := zD0
  generalize hAe : va_A [] s.heap.size = A at hD ⊢
  have hA : ∀ q : Nat, s.heap.size ≤ q → A q := fun q h => by rw [← hAe]; exact Or.inr h
  have hl := lv_entry ([.ref h0, .int p0, .int p1]) (n := 3) (Nat.le_of_ble_eq_true rfl)
  rw [show entryFrame m args 3 = entryFrame m ([.ref h0, .int p0, .int p1] : List Value).toArray 3 by rw [hargs], lg_entry_eq]
  generalize (lg_sl ([.ref h0, .int p0, .int p1]) ++ List.replicate (3 - (lg_sl ([.ref h0, .int p0, .int p1])).length) Slot.unset).toArray = ls at hl ⊢
  have hl : lv_has ls 3 [(0, .ref h0), (1, .int p0), (2, .int p1)] := hl
  refine zstart (fun H hH => ?_)
  rw [← hH] at hP
  have hS : va_S A s.heap H [] := by rw [hH]; exact va_S.rf
  generalize ([] : List Loc) = locs at hS ⊢
  refine zgen (fun R Q hR hQ => ?_)
  refine lv_aload_n hx hb dX11_truth_0 rfl (lv_at hl 0 rfl) ?_
  refine lv_iload_n hx hb dX11_truth_1 rfl (lv_at hl 1 rfl) ?_
  refine lv_iload_n hx hb dX11_truth_2 rfl (lv_at hl 2 rfl) ?_
  have hPc := hP.sub (ws' := [(h0, .inr (11, [.int th, .ref tB, .int tsz, .int tat, .int wr, .int dp, .ref rC, .ref rV, .ref rD, .ref rK, .ref rT, .ref rS, .ref rU, .int lw, .int tx, .ref rL, .ref rX, .ref qR, .ref qB, .ref qP, .int qnb, .int qnp, .ref aR, .ref aB, .ref aP, .int nb, .int np, .ref aN, .ref rf, .int ho, .int br, .ref aK, .int ac, .long dw, .ref aE, .int sr, .int sf, .ref aA, .ref aH, .ref aI, .int hi]))]) [0] rfl
  have hDc := hT.sub (ws' := [(h0, .inr (11, [.int th, .ref tB, .int tsz, .int tat, .int wr, .int dp, .ref rC, .ref rV, .ref rD, .ref rK, .ref rT, .ref rS, .ref rU, .int lw, .int tx, .ref rL, .ref rX, .ref qR, .ref qB, .ref qP, .int qnb, .int qnp, .ref aR, .ref aB, .ref aP, .int nb, .int np, .ref aN, .ref rf, .int ho, .int br, .ref aK, .int ac, .long dw, .ref aE, .int sr, .int sf, .ref aA, .ref aH, .ref aI, .int hi]))]) [0] (by decide) rfl
  have hFc := zfr hS hA
  refine va_calli (va_runV (As := [.int p0, .int p1]) (rest := []) ⟨hx, hb, hml, hown, hts⟩ (g_X11_areBoth l dC dI cI cJ h0 p0 p1 th tB tsz tat wr dp rC rV rD rK rT rS rU lw tx rL rX qR qB qP qnb qnp aR aB aP nb np aN rf ho br aK ac dw aE sr sf aA aH aI hi H.size n_ac n_hi n_ho n_lw n_nb n_np n_qnb n_qnp n_tat n_tsz n_wr) (cwV 2 hts (zgV qw1426 qw1428 qw58 qw108 qw1429) rfl rfl rfl hd_X11_areBoth ⟨by rw [hR]; exact Nat.le_of_ble_eq_true rfl, by rw [hR]; exact Nat.le_of_ble_eq_true rfl⟩) (zPV hPc hK hDc (va_recv hK hP (ci := 11) (q0 := 0) rfl rfl)) rfl rfl hl.1 rfl (lv_room (Nat.le_of_ble_eq_true rfl)) dX11_truth_3 ⟨Nat.zero_le _, Nat.zero_le _⟩) hS (fun q _ h => hFc q h) hFc (fun v3 u3 t H locs ht hvm hw hB hz1 hk1 hS => ?_)
  have hP := zkeep hP hk1
  obtain ⟨f3_0, f3_1, f3_2, f3_3⟩ : (0 ≤ v3.toInt) ∧ (v3.toInt ≤ 1) ∧ (¬ v3.toInt = 0 → (0 ≤ p0.toInt ∧ p0.toInt < np.toInt ∧ 0 ≤ p1.toInt ∧ p1.toInt < nb.toInt)) ∧ (v3.toInt = 0 → ¬ ((0 ≤ p0.toInt ∧ p0.toInt < np.toInt) ∧ 0 ≤ p1.toInt ∧ p1.toInt < nb.toInt)) := hw
  refine lv_if_ne (tgt := 13) hx hb dX11_truth_6 (by decide) (fun c6 => ?_) (fun c6 => ?_)
  · have c6 : ¬ v3.toInt = 0 := z6 rfl (by decide) c6
    refine lv_aload_n hx hb dX11_truth_13 rfl (lv_at hl 0 rfl) ?_
    refine va_get (D := (dC, dI)) (ci := 11) (v := .ref aN) (C := RX11) (T := TX11) (N := 41) hx hb hts iX11 hown hK hP 0 rfl rfl 27 (by decide) (hts _ qw1154) (fun _ h9 => h9) rfl dX11_truth_14 ?_
    refine lv_iconst (v := 0) hx hb dX11_truth_17 (by decide) ?_
    refine lv_iload_n hx hb dX11_truth_18 rfl (lv_at hl 2 rfl) ?_
    refine lv_iadd hx hb dX11_truth_19 ?_
    refine lv_topi (fun v19 e19 => ?_)
    have i19 : v19.toInt = 0 + p1.toInt := zadd e19 (by decide) rfl (by omega) (by omega)
    refine va_iald hx hb hK hP 1 0 rfl rfl (vp_in_iff.mpr ⟨by omega, by omega⟩) dX11_truth_20 ?_
    refine lv_topi (fun v20 e20 => ?_)
    refine lv_aload_n hx hb dX11_truth_21 rfl (lv_at hl 0 rfl) ?_
    refine va_get (D := (dC, dI)) (ci := 11) (v := .ref aN) (C := RX11) (T := TX11) (N := 41) hx hb hts iX11 hown hK hP 0 rfl rfl 27 (by decide) (hts _ qw1154) (fun _ h9 => h9) rfl dX11_truth_22 ?_
    refine lv_bipush (v := 6) hx hb dX11_truth_25 (by decide) ?_
    refine lv_iload_n hx hb dX11_truth_27 rfl (lv_at hl 1 rfl) ?_
    refine lv_iadd hx hb dX11_truth_28 ?_
    refine lv_topi (fun v28 e28 => ?_)
    have i28 : v28.toInt = 6 + p0.toInt := zadd e28 (by decide) rfl (by omega) (by omega)
    refine va_iald hx hb hK hP 1 0 rfl rfl (vp_in_iff.mpr ⟨by omega, by omega⟩) dX11_truth_29 ?_
    refine lv_topi (fun v29 e29 => ?_)
    refine lv_aload_n hx hb dX11_truth_30 rfl (lv_at hl 0 rfl) ?_
    refine lv_iload_n hx hb dX11_truth_31 rfl (lv_at hl 1 rfl) ?_
    refine lv_aload_n hx hb dX11_truth_32 rfl (lv_at hl 0 rfl) ?_
    refine va_get (D := (dC, dI)) (ci := 11) (v := .ref aN) (C := RX11) (T := TX11) (N := 41) hx hb hts iX11 hown hK hP 0 rfl rfl 27 (by decide) (hts _ qw1154) (fun _ h9 => h9) rfl dX11_truth_33 ?_
    refine lv_iconst (v := 0) hx hb dX11_truth_36 (by decide) ?_
    refine lv_iload_n hx hb dX11_truth_37 rfl (lv_at hl 2 rfl) ?_
    refine lv_iadd hx hb dX11_truth_38 ?_
    refine lv_topi (fun v38 e38 => ?_)
    have i38 : v38.toInt = 0 + p1.toInt := zadd e38 (by decide) rfl (by omega) (by omega)
    refine va_iald hx hb hK hP 1 0 rfl rfl (vp_in_iff.mpr ⟨by omega, by omega⟩) dX11_truth_39 ?_
    refine lv_topi (fun v39 e39 => ?_)
    have hPc := hP.sub (ws' := [(h0, .inr (11, [.int th, .ref tB, .int tsz, .int tat, .int wr, .int dp, .ref rC, .ref rV, .ref rD, .ref rK, .ref rT, .ref rS, .ref rU, .int lw, .int tx, .ref rL, .ref rX, .ref qR, .ref qB, .ref qP, .int qnb, .int qnp, .ref aR, .ref aB, .ref aP, .int nb, .int np, .ref aN, .ref rf, .int ho, .int br, .ref aK, .int ac, .long dw, .ref aE, .int sr, .int sf, .ref aA, .ref aH, .ref aI, .int hi])), (aN, .inl (cI, 97, .inl fN))]) [0, 1] rfl
    have hDc := hT.sub (ws' := [(h0, .inr (11, [.int th, .ref tB, .int tsz, .int tat, .int wr, .int dp, .ref rC, .ref rV, .ref rD, .ref rK, .ref rT, .ref rS, .ref rU, .int lw, .int tx, .ref rL, .ref rX, .ref qR, .ref qB, .ref qP, .int qnb, .int qnp, .ref aR, .ref aB, .ref aP, .int nb, .int np, .ref aN, .ref rf, .int ho, .int br, .ref aK, .int ac, .long dw, .ref aE, .int sr, .int sf, .ref aA, .ref aH, .ref aI, .int hi])), (aN, .inl (cI, 97, .inl fN))]) [0, 1] (by decide) rfl
    have hFc := zfr hS hA
    refine va_calli (va_runV (As := [.int p0, .int v39]) (rest := [.int v29, .int v20]) ⟨hx, hb, hml, hown, hts⟩ (g_X11_flatteryBy l dC dI cI cJ h0 p0 v39 th tB tsz tat wr dp rC rV rD rK rT rS rU lw tx rL rX qR qB qP qnb qnp aR aB aP nb np aN rf ho br aK ac dw aE sr sf aA aH aI hi fN H.size n_ac n_hi n_ho n_lw n_nb n_np (by omega) n_qnb n_qnp n_tat n_tsz n_wr) (cwV 2 hts (zgV qw1430 qw1432 qw59 qw108 qw1433) rfl rfl rfl hd_X11_flatteryBy ⟨by rw [hR]; exact Nat.le_of_ble_eq_true rfl, by rw [hR]; exact Nat.le_of_ble_eq_true rfl⟩) (zPV hPc hK hDc (va_recv hK hP (ci := 11) (q0 := 0) rfl rfl)) rfl rfl hl.1 rfl (lv_room (Nat.le_of_ble_eq_true rfl)) dX11_truth_40 ⟨Nat.zero_le _, Nat.zero_le _⟩) hS (fun q _ h => hFc q h) hFc (fun v40 u40 t H locs ht hvm hw hB hz1 hk1 hS => ?_)
    have hP := zkeep hP hk1
    obtain ⟨f40_0, f40_1⟩ : (0 ≤ v40.toInt) ∧ (v40 = zFl (fN (6 + p0.toInt.toNat)) v39) := hw
    have F40 := f40_1
    refine lv_imul hx hb dX11_truth_43 ?_
    refine lv_topi (fun v43 e43 => ?_)
    refine lv_iconst (v := 3) hx hb dX11_truth_44 (by decide) ?_
    refine lv_idiv hx hb dX11_truth_45 (by decide) ?_
    refine lv_topi (fun v45 e45 => ?_)
    refine lv_icmp_gt (tgt := 53) hx hb dX11_truth_46 (by decide) (fun c46 => ?_) (fun c46 => ?_)
    · have c46 : v45.toInt < v20.toInt := z1 rfl rfl c46
      refine lv_iconst (v := 0) hx hb dX11_truth_53 (by decide) ?_
      have zr0 : (0 : Int32).toInt = 0 := by decide
      rw [hQ]
      exact W.iret (v := 0) hx hb hr (fun t ht hW => ⟨⟨0, (), rfl, ⟨by (try dsimp only); omega, by (try dsimp only); omega, by (try dsimp only); exact fun kc kT q_fR q_fBr q_fPa q_fKp q_frf hc hb h => by have y20 : v20 = kT.1.1 p1.toInt.toNat := (zIxN (n := p1.toInt.toNat) e20 (by omega)).trans (h.1.1 _ (by omega)); have y29 : v29 = kT.1.2.1 p0.toInt.toNat := (zIxN (n := 6 + p0.toInt.toNat) e29 (by omega)).trans (h.1.2.1 _ (by omega)); have y39 : v39 = kT.1.1 p1.toInt.toNat := (zIxN (n := p1.toInt.toNat) e39 (by omega)).trans (h.1.1 _ (by omega)); have y40 : v40 = zFl (kT.1.2.1 p0.toInt.toNat) (kT.1.1 p1.toInt.toNat) := (by rw [F40, y39, h.1.2.1 _ (by omega)]); have y45 : kT.1.2.1 p0.toInt.toNat * zFl (kT.1.2.1 p0.toInt.toNat) (kT.1.1 p1.toInt.toNat) / 3 = v45 := (by rw [e45, e43, y29, y40]); have z45 := congrArg Int32.toInt y45; have z20 := congrArg Int32.toInt y20; unfold sV_tru; rw [if_pos (by omega)]; exact (if_neg (by omega)).symm⟩, trivial⟩, hS.F ht⟩) hS.2.2 dX11_truth_54
    · have c46 : v20.toInt ≤ v45.toInt := z2 rfl rfl c46
      refine lv_iconst (v := 1) hx hb dX11_truth_49 (by decide) ?_
      refine lv_goto (tgt := 54) hx hb dX11_truth_50 (by decide) ?_
      have zr0 : (1 : Int32).toInt = 1 := by decide
      rw [hQ]
      exact W.iret (v := 1) hx hb hr (fun t ht hW => ⟨⟨1, (), rfl, ⟨by (try dsimp only); omega, by (try dsimp only); omega, by (try dsimp only); exact fun kc kT q_fR q_fBr q_fPa q_fKp q_frf hc hb h => by have y20 : v20 = kT.1.1 p1.toInt.toNat := (zIxN (n := p1.toInt.toNat) e20 (by omega)).trans (h.1.1 _ (by omega)); have y29 : v29 = kT.1.2.1 p0.toInt.toNat := (zIxN (n := 6 + p0.toInt.toNat) e29 (by omega)).trans (h.1.2.1 _ (by omega)); have y39 : v39 = kT.1.1 p1.toInt.toNat := (zIxN (n := p1.toInt.toNat) e39 (by omega)).trans (h.1.1 _ (by omega)); have y40 : v40 = zFl (kT.1.2.1 p0.toInt.toNat) (kT.1.1 p1.toInt.toNat) := (by rw [F40, y39, h.1.2.1 _ (by omega)]); have y45 : kT.1.2.1 p0.toInt.toNat * zFl (kT.1.2.1 p0.toInt.toNat) (kT.1.1 p1.toInt.toNat) / 3 = v45 := (by rw [e45, e43, y29, y40]); have z45 := congrArg Int32.toInt y45; have z20 := congrArg Int32.toInt y20; unfold sV_tru; rw [if_pos (by omega)]; exact (if_pos (by omega)).symm⟩, trivial⟩, hS.F ht⟩) hS.2.2 dX11_truth_54
  · have c6 : v3.toInt = 0 := z5 rfl (by decide) c6
    refine lv_iconst (v := (-1)) hx hb dX11_truth_9 (by decide) ?_
    refine lv_goto (tgt := 54) hx hb dX11_truth_10 (by decide) ?_
    have zr0 : ((-1) : Int32).toInt = (-1) := by decide
    rw [hQ]
    exact W.iret (v := ((-1))) hx hb hr (fun t ht hW => ⟨⟨(-1), (), rfl, ⟨by (try dsimp only); omega, by (try dsimp only); omega, by (try dsimp only); exact fun kc kT q_fR q_fBr q_fPa q_fKp q_frf hc hb h => by unfold sV_tru; rw [if_neg (by omega)]; ⟩, trivial⟩, hS.F ht⟩) hS.2.2 dX11_truth_54
set_option maxHeartbeats 4000000 in
set_option maxRecDepth 100000 in
theorem g_X11_looks (l : Launch) (dC : Nat → ClassId) (dI : Nat → Nat → Nat) (cI cJ : ClassId) (h0 : Nat) (p0 : Int32) (th : Int32) (tB : Nat) (tsz : Int32) (tat : Int32) (wr : Int32) (dp : Int32) (rC : Nat) (rV : Nat) (rD : Nat) (rK : Nat) (rT : Nat) (rS : Nat) (rU : Nat) (lw : Int32) (tx : Int32) (rL : Nat) (rX : Nat) (qR : Nat) (qB : Nat) (qP : Nat) (qnb : Int32) (qnp : Int32) (aR : Nat) (aB : Nat) (aP : Nat) (nb : Int32) (np : Int32) (aN : Nat) (rf : Nat) (ho : Int32) (br : Int32) (aK : Nat) (ac : Int32) (dw : Int64) (aE : Nat) (sr : Int32) (sf : Int32) (aA : Nat) (aH : Nat) (aI : Nat) (hi : Int32) (fBr : Nat → Int32) (fN : Nat → Int32) (sz : Nat) (n_ac : 0 ≤ ac.toInt ∧ ac.toInt ≤ 40) (n_hi : 0 ≤ hi.toInt ∧ hi.toInt ≤ 1) (n_ho : (-1) ≤ ho.toInt ∧ ho.toInt ≤ 3) (n_lw : 0 ≤ lw.toInt ∧ lw.toInt ≤ 4) (n_nb : 0 ≤ nb.toInt ∧ nb.toInt ≤ 6) (n_np : 0 ≤ np.toInt ∧ np.toInt ≤ 5) (n_qnb : 0 ≤ qnb.toInt ∧ qnb.toInt ≤ 6) (n_qnp : 0 ≤ qnp.toInt ∧ qnp.toInt ≤ 5) (n_tat : 0 ≤ tat.toInt ∧ tat.toInt ≤ 260) (n_tsz : 0 ≤ tsz.toInt ∧ tsz.toInt ≤ 240) (n_wr : (-1) ≤ wr.toInt ∧ wr.toInt ≤ 260)  (ci_fBr_zBr_nb : zBr nb fBr) (ci_fN_zNw_np : zNw np fN)  : Met l yX11_looks (.code yX11_looks cX11_looks 2 (some .int) :: wA) ({ frames := 3, cells := 0, slots := 0, locals := 68 }) (zP (dC, dI) [(cI, .int), (cJ, .long)] [.ref h0, .int p0] sz [(h0, .inr (11, [.int th, .ref tB, .int tsz, .int tat, .int wr, .int dp, .ref rC, .ref rV, .ref rD, .ref rK, .ref rT, .ref rS, .ref rU, .int lw, .int tx, .ref rL, .ref rX, .ref qR, .ref qB, .ref qP, .int qnb, .int qnp, .ref aR, .ref aB, .ref aP, .int nb, .int np, .ref aN, .ref rf, .int ho, .int br, .ref aK, .int ac, .long dw, .ref aE, .int sr, .int sf, .ref aA, .ref aH, .ref aI, .int hi])), (aB, .inl (cI, 24, .inl fBr)), (aN, .inl (cI, 97, .inl fN))]) (va_Qi (fun (r : Int32) (u : Unit) => (∀ (kc : zK3) (kT : zT) (q_fR : Nat → Int32) (q_fPa : Nat → Int32) (q_fKp : Nat → Int32) (q_frf : Nat → Int32), zCn q_fR fBr q_fPa nb.toInt np.toInt kc → zKo nb.toInt np.toInt kc kT → zTr nb.toInt np.toInt kT fN q_fKp ac q_frf → r = sV_loo nb.toInt kc kT.1 p0)) (fun (_ : Unit) (_ : State) => True) (va_A [] sz)) 0 0 (va_A [] sz) := by
  refine Met.ofW (cc := cX11_looks) (maxL := 2) (ret := (some .int)) (by decide) rfl ?_
  intro p e s m args below meth c s₁ B hml hv
  obtain ⟨hargs, hsz, hP, hK, hT⟩ := hv
  have hx := B.exec
  have hb := B.bytes
  have hr := B.returns
  have hts : ∀ w ∈ wA, w.before args s = true := fun w h => atoms_spec (ws := .code yX11_looks cX11_looks 2 (some .int) :: wA) B.pre w (List.mem_cons_of_mem _ h)
  have hown : s.vm.findClass RX11 = some m.cls := findClass_of_methodNamed B.named
  have hlocks := B.notSynchronized
  subst hsz
  have hD : va_D (va_A [] s.heap.size) [] := zD0
  generalize hAe : va_A [] s.heap.size = A at hD ⊢
  have hA : ∀ q : Nat, s.heap.size ≤ q → A q := fun q h => by rw [← hAe]; exact Or.inr h
  have hl := lv_entry ([.ref h0, .int p0]) (n := 2) (Nat.le_of_ble_eq_true rfl)
  rw [show entryFrame m args 2 = entryFrame m ([.ref h0, .int p0] : List Value).toArray 2 by rw [hargs], lg_entry_eq]
  generalize (lg_sl ([.ref h0, .int p0]) ++ List.replicate (2 - (lg_sl ([.ref h0, .int p0])).length) Slot.unset).toArray = ls at hl ⊢
  have hl : lv_has ls 2 [(0, .ref h0), (1, .int p0)] := hl
  refine zstart (fun H hH => ?_)
  rw [← hH] at hP
  have hS : va_S A s.heap H [] := by rw [hH]; exact va_S.rf
  generalize ([] : List Loc) = locs at hS ⊢
  refine zgen (fun R Q hR hQ => ?_)
  refine lv_aload_n hx hb dX11_looks_0 rfl (lv_at hl 0 rfl) ?_
  refine lv_iload_n hx hb dX11_looks_1 rfl (lv_at hl 1 rfl) ?_
  have hPc := hP.sub (ws' := [(h0, .inr (11, [.int th, .ref tB, .int tsz, .int tat, .int wr, .int dp, .ref rC, .ref rV, .ref rD, .ref rK, .ref rT, .ref rS, .ref rU, .int lw, .int tx, .ref rL, .ref rX, .ref qR, .ref qB, .ref qP, .int qnb, .int qnp, .ref aR, .ref aB, .ref aP, .int nb, .int np, .ref aN, .ref rf, .int ho, .int br, .ref aK, .int ac, .long dw, .ref aE, .int sr, .int sf, .ref aA, .ref aH, .ref aI, .int hi]))]) [0] rfl
  have hDc := hT.sub (ws' := [(h0, .inr (11, [.int th, .ref tB, .int tsz, .int tat, .int wr, .int dp, .ref rC, .ref rV, .ref rD, .ref rK, .ref rT, .ref rS, .ref rU, .int lw, .int tx, .ref rL, .ref rX, .ref qR, .ref qB, .ref qP, .int qnb, .int qnp, .ref aR, .ref aB, .ref aP, .int nb, .int np, .ref aN, .ref rf, .int ho, .int br, .ref aK, .int ac, .long dw, .ref aE, .int sr, .int sf, .ref aA, .ref aH, .ref aI, .int hi]))]) [0] (by decide) rfl
  have hFc := zfr hS hA
  refine va_calli (va_runV (As := [.int p0]) (rest := []) ⟨hx, hb, hml, hown, hts⟩ (g_X11_isBride l dC dI cI cJ h0 p0 th tB tsz tat wr dp rC rV rD rK rT rS rU lw tx rL rX qR qB qP qnb qnp aR aB aP nb np aN rf ho br aK ac dw aE sr sf aA aH aI hi H.size n_ac n_hi n_ho n_lw n_nb n_np n_qnb n_qnp n_tat n_tsz n_wr) (cwV 1 hts (zgV qw1406 qw1408 qw56 qw108 qw1409) rfl rfl rfl hd_X11_isBride ⟨by rw [hR]; exact Nat.le_of_ble_eq_true rfl, by rw [hR]; exact Nat.le_of_ble_eq_true rfl⟩) (zPV hPc hK hDc (va_recv hK hP (ci := 11) (q0 := 0) rfl rfl)) rfl rfl hl.1 rfl (lv_room (Nat.le_of_ble_eq_true rfl)) dX11_looks_2 ⟨Nat.zero_le _, Nat.zero_le _⟩) hS (fun q _ h => hFc q h) hFc (fun v2 u2 t H locs ht hvm hw hB hz1 hk1 hS => ?_)
  have hP := zkeep hP hk1
  obtain ⟨f2_0, f2_1, f2_2, f2_3⟩ : (0 ≤ v2.toInt) ∧ (v2.toInt ≤ 1) ∧ (¬ v2.toInt = 0 → (0 ≤ p0.toInt ∧ p0.toInt < nb.toInt)) ∧ (v2.toInt = 0 → ¬ (0 ≤ p0.toInt ∧ p0.toInt < nb.toInt)) := hw
  refine lv_if_eq (tgt := 31) hx hb dX11_looks_5 (by decide) (fun c5 => ?_) (fun c5 => ?_)
  · have c5 : v2.toInt = 0 := z5 rfl (by decide) c5
    refine lv_ldcw (v := (-1000000)) hx hb hown (hts _ qw1666) dX11_looks_31 ?_
    have zr0 : ((-1000000) : Int32).toInt = (-1000000) := by decide
    rw [hQ]
    exact W.iret (v := ((-1000000))) hx hb hr (fun t ht hW => ⟨⟨(-1000000), (), rfl, (by (try dsimp only); exact fun kc kT q_fR q_fPa q_fKp q_frf hc hb h => by unfold sV_loo; rw [if_neg (by omega)]; ), trivial⟩, hS.F ht⟩) hS.2.2 dX11_looks_34
  · have c5 : ¬ v2.toInt = 0 := z6 rfl (by decide) c5
    refine lv_aload_n hx hb dX11_looks_8 rfl (lv_at hl 0 rfl) ?_
    refine lv_iload_n hx hb dX11_looks_9 rfl (lv_at hl 1 rfl) ?_
    have hPc := hP.sub (ws' := [(h0, .inr (11, [.int th, .ref tB, .int tsz, .int tat, .int wr, .int dp, .ref rC, .ref rV, .ref rD, .ref rK, .ref rT, .ref rS, .ref rU, .int lw, .int tx, .ref rL, .ref rX, .ref qR, .ref qB, .ref qP, .int qnb, .int qnp, .ref aR, .ref aB, .ref aP, .int nb, .int np, .ref aN, .ref rf, .int ho, .int br, .ref aK, .int ac, .long dw, .ref aE, .int sr, .int sf, .ref aA, .ref aH, .ref aI, .int hi])), (aN, .inl (cI, 97, .inl fN))]) [0, 2] rfl
    have hDc := hT.sub (ws' := [(h0, .inr (11, [.int th, .ref tB, .int tsz, .int tat, .int wr, .int dp, .ref rC, .ref rV, .ref rD, .ref rK, .ref rT, .ref rS, .ref rU, .int lw, .int tx, .ref rL, .ref rX, .ref qR, .ref qB, .ref qP, .int qnb, .int qnp, .ref aR, .ref aB, .ref aP, .int nb, .int np, .ref aN, .ref rf, .int ho, .int br, .ref aK, .int ac, .long dw, .ref aE, .int sr, .int sf, .ref aA, .ref aH, .ref aI, .int hi])), (aN, .inl (cI, 97, .inl fN))]) [0, 2] (by decide) rfl
    have hFc := zfr hS hA
    refine va_calli (va_runV (As := [.int p0]) (rest := []) ⟨hx, hb, hml, hown, hts⟩ (g_X11_seenOf l dC dI cI cJ h0 p0 th tB tsz tat wr dp rC rV rD rK rT rS rU lw tx rL rX qR qB qP qnb qnp aR aB aP nb np aN rf ho br aK ac dw aE sr sf aA aH aI hi fN H.size n_ac n_hi n_ho n_lw n_nb n_np n_qnb n_qnp n_tat n_tsz n_wr ci_fN_zNw_np) (cwV 1 hts (zgV qw1529 qw1531 qw71 qw108 qw1532) rfl rfl rfl hd_X11_seenOf ⟨by rw [hR]; exact Nat.le_of_ble_eq_true rfl, by rw [hR]; exact Nat.le_of_ble_eq_true rfl⟩) (zPV hPc hK hDc (va_recv hK hP (ci := 11) (q0 := 0) rfl rfl)) rfl rfl hl.1 rfl (lv_room (Nat.le_of_ble_eq_true rfl)) dX11_looks_10 ⟨Nat.zero_le _, Nat.zero_le _⟩) hS (fun q _ h => hFc q h) hFc (fun v10 u10 t H locs ht hvm hw hB hz1 hk1 hS => ?_)
    have hP := zkeep hP hk1
    obtain ⟨f10_0, f10_1, f10_2, f10_3⟩ : (0 ≤ v10.toInt) ∧ (v10.toInt ≤ 20) ∧ (v10.toInt = (zCt fN p0 (fN 16).toInt.toNat : Int)) ∧ (v10 = zCnt (fun i => fN (17 + i)) p0 (fN 16).toInt.toNat) := hw
    have F10 := f10_3
    refine lv_if_le (tgt := 31) hx hb dX11_looks_13 (by decide) (fun c13 => ?_) (fun c13 => ?_)
    · have c13 : v10.toInt ≤ 0 := z3 rfl (by decide) c13
      refine lv_ldcw (v := (-1000000)) hx hb hown (hts _ qw1666) dX11_looks_31 ?_
      have zr0 : ((-1000000) : Int32).toInt = (-1000000) := by decide
      rw [hQ]
      exact W.iret (v := ((-1000000))) hx hb hr (fun t ht hW => ⟨⟨(-1000000), (), rfl, (by (try dsimp only); exact fun kc kT q_fR q_fPa q_fKp q_frf hc hb h => by have y10 : zCnt kT.1.2.2.2.2 p0 kT.1.2.2.2.1.2.2.toInt.toNat = v10 := (by rw [zSr_pn h.1, ← zCnt_c (P := fun i => fN (17 + i)) (zSr_P h.1), ← F10]); have z10 := congrArg Int32.toInt y10; unfold sV_loo; rw [if_neg (by omega)]; ), trivial⟩, hS.F ht⟩) hS.2.2 dX11_looks_34
    · have c13 : 0 < v10.toInt := z4 rfl (by decide) c13
      refine lv_aload_n hx hb dX11_looks_16 rfl (lv_at hl 0 rfl) ?_
      refine lv_iload_n hx hb dX11_looks_17 rfl (lv_at hl 1 rfl) ?_
      have hPc := hP.sub (ws' := [(h0, .inr (11, [.int th, .ref tB, .int tsz, .int tat, .int wr, .int dp, .ref rC, .ref rV, .ref rD, .ref rK, .ref rT, .ref rS, .ref rU, .int lw, .int tx, .ref rL, .ref rX, .ref qR, .ref qB, .ref qP, .int qnb, .int qnp, .ref aR, .ref aB, .ref aP, .int nb, .int np, .ref aN, .ref rf, .int ho, .int br, .ref aK, .int ac, .long dw, .ref aE, .int sr, .int sf, .ref aA, .ref aH, .ref aI, .int hi])), (aN, .inl (cI, 97, .inl fN))]) [0, 2] rfl
      have hDc := hT.sub (ws' := [(h0, .inr (11, [.int th, .ref tB, .int tsz, .int tat, .int wr, .int dp, .ref rC, .ref rV, .ref rD, .ref rK, .ref rT, .ref rS, .ref rU, .int lw, .int tx, .ref rL, .ref rX, .ref qR, .ref qB, .ref qP, .int qnb, .int qnp, .ref aR, .ref aB, .ref aP, .int nb, .int np, .ref aN, .ref rf, .int ho, .int br, .ref aK, .int ac, .long dw, .ref aE, .int sr, .int sf, .ref aA, .ref aH, .ref aI, .int hi])), (aN, .inl (cI, 97, .inl fN))]) [0, 2] (by decide) rfl
      have hFc := zfr hS hA
      refine va_calli (va_runV (As := [.int p0]) (rest := []) ⟨hx, hb, hml, hown, hts⟩ (g_X11_lookedOf l dC dI cI cJ h0 p0 th tB tsz tat wr dp rC rV rD rK rT rS rU lw tx rL rX qR qB qP qnb qnp aR aB aP nb np aN rf ho br aK ac dw aE sr sf aA aH aI hi fN H.size n_ac n_hi n_ho n_lw n_nb n_np n_qnb n_qnp n_tat n_tsz n_wr ci_fN_zNw_np) (cwV 1 hts (zgV qw1525 qw1527 qw70 qw108 qw1528) rfl rfl rfl hd_X11_lookedOf ⟨by rw [hR]; exact Nat.le_of_ble_eq_true rfl, by rw [hR]; exact Nat.le_of_ble_eq_true rfl⟩) (zPV hPc hK hDc (va_recv hK hP (ci := 11) (q0 := 0) rfl rfl)) rfl rfl hl.1 rfl (lv_room (Nat.le_of_ble_eq_true rfl)) dX11_looks_18 ⟨Nat.zero_le _, Nat.zero_le _⟩) hS (fun q _ h => hFc q h) hFc (fun v18 u18 t H locs ht hvm hw hB hz1 hk1 hS => ?_)
      have hP := zkeep hP hk1
      have f18_0 : (v18 = zLkd (fun i => fN (17 + i)) p0 (fN 16).toInt.toNat) := hw
      have F18 := f18_0
      refine lv_aload_n hx hb dX11_looks_21 rfl (lv_at hl 0 rfl) ?_
      refine lv_iload_n hx hb dX11_looks_22 rfl (lv_at hl 1 rfl) ?_
      refine lv_iconst (v := 0) hx hb dX11_looks_23 (by decide) ?_
      have hPc := hP.sub (ws' := [(h0, .inr (11, [.int th, .ref tB, .int tsz, .int tat, .int wr, .int dp, .ref rC, .ref rV, .ref rD, .ref rK, .ref rT, .ref rS, .ref rU, .int lw, .int tx, .ref rL, .ref rX, .ref qR, .ref qB, .ref qP, .int qnb, .int qnp, .ref aR, .ref aB, .ref aP, .int nb, .int np, .ref aN, .ref rf, .int ho, .int br, .ref aK, .int ac, .long dw, .ref aE, .int sr, .int sf, .ref aA, .ref aH, .ref aI, .int hi])), (aB, .inl (cI, 24, .inl fBr))]) [0, 1] rfl
      have hDc := hT.sub (ws' := [(h0, .inr (11, [.int th, .ref tB, .int tsz, .int tat, .int wr, .int dp, .ref rC, .ref rV, .ref rD, .ref rK, .ref rT, .ref rS, .ref rU, .int lw, .int tx, .ref rL, .ref rX, .ref qR, .ref qB, .ref qP, .int qnb, .int qnp, .ref aR, .ref aB, .ref aP, .int nb, .int np, .ref aN, .ref rf, .int ho, .int br, .ref aK, .int ac, .long dw, .ref aE, .int sr, .int sf, .ref aA, .ref aH, .ref aI, .int hi])), (aB, .inl (cI, 24, .inl fBr))]) [0, 1] (by decide) rfl
      have hFc := zfr hS hA
      refine va_calli (va_runV (As := [.int p0, .int 0]) (rest := [.int v18]) ⟨hx, hb, hml, hown, hts⟩ (g_X11_of l dC dI cI cJ h0 p0 0 th tB tsz tat wr dp rC rV rD rK rT rS rU lw tx rL rX qR qB qP qnb qnp aR aB aP nb np aN rf ho br aK ac dw aE sr sf aA aH aI hi fBr H.size n_ac n_hi n_ho n_lw n_nb n_np (by omega) (by decide) n_qnb n_qnp n_tat n_tsz n_wr) (cwV 2 hts (zgV qw1390 qw1392 qw54 qw108 qw1393) rfl rfl rfl hd_X11_of ⟨by rw [hR]; exact Nat.le_of_ble_eq_true rfl, by rw [hR]; exact Nat.le_of_ble_eq_true rfl⟩) (zPV hPc hK hDc (va_recv hK hP (ci := 11) (q0 := 0) rfl rfl)) rfl rfl hl.1 rfl (lv_room (Nat.le_of_ble_eq_true rfl)) dX11_looks_24 ⟨Nat.zero_le _, Nat.zero_le _⟩) hS (fun q _ h => hFc q h) hFc (fun v24 u24 t H locs ht hvm hw hB hz1 hk1 hS => ?_)
      have hP := zkeep hP hk1
      have zn24_0 : (0 : Int32).toInt = 0 := by decide
      have f24_0 : (v24 = fBr (4 * p0.toInt.toNat + (0 : Int32).toInt.toNat)) := hw
      have F24 := f24_0
      refine lv_isub hx hb dX11_looks_27 ?_
      refine lv_topi (fun v27 e27 => ?_)
      refine lv_goto (tgt := 34) hx hb dX11_looks_28 (by decide) ?_
      rw [hQ]
      exact W.iret (v := v27) hx hb hr (fun t ht hW => ⟨⟨v27, (), rfl, (by (try dsimp only); exact fun kc kT q_fR q_fPa q_fKp q_frf hc hb h => by have y10 : zCnt kT.1.2.2.2.2 p0 kT.1.2.2.2.1.2.2.toInt.toNat = v10 := (by rw [zSr_pn h.1, ← zCnt_c (P := fun i => fN (17 + i)) (zSr_P h.1), ← F10]); have z10 := congrArg Int32.toInt y10; have y24 : v24 = kc.2.1 (4 * p0.toInt.toNat) := (F24.trans (congrArg fBr (show 4 * p0.toInt.toNat + (0 : Int32).toInt.toNat = 4 * p0.toInt.toNat by have : (0 : Int32).toInt = 0 := (by decide); omega))).trans (hc.2.1 _ (by omega)); unfold sV_loo; rw [if_pos (by omega)]; rw [zSr_pn h.1, ← zLkd_c (P := fun i => fN (17 + i)) (zSr_P h.1), ← F18, ← y24]; exact e27), trivial⟩, hS.F ht⟩) hS.2.2 dX11_looks_34
