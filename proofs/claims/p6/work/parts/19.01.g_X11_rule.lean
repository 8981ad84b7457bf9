set_option maxHeartbeats 4000000 in
set_option maxRecDepth 100000 in
theorem g_X11_fits (l : Launch) (dC : Nat → ClassId) (dI : Nat → Nat → Nat) (cI cJ : ClassId) (h0 : Nat) (p0 : Int32) (th : Int32) (tB : Nat) (tsz : Int32) (tat : Int32) (wr : Int32) (dp : Int32) (rC : Nat) (rV : Nat) (rD : Nat) (rK : Nat) (rT : Nat) (rS : Nat) (rU : Nat) (lw : Int32) (tx : Int32) (rL : Nat) (rX : Nat) (qR : Nat) (qB : Nat) (qP : Nat) (qnb : Int32) (qnp : Int32) (aR : Nat) (aB : Nat) (aP : Nat) (nb : Int32) (np : Int32) (aN : Nat) (rf : Nat) (ho : Int32) (br : Int32) (aK : Nat) (ac : Int32) (dw : Int64) (aE : Nat) (sr : Int32) (sf : Int32) (aA : Nat) (aH : Nat) (aI : Nat) (hi : Int32) (fBr : Nat → Int32) (fN : Nat → Int32) (sz : Nat) (n_ac : 0 ≤ ac.toInt ∧ ac.toInt ≤ 40) (n_hi : 0 ≤ hi.toInt ∧ hi.toInt ≤ 1) (n_ho : (-1) ≤ ho.toInt ∧ ho.toInt ≤ 3) (n_lw : 0 ≤ lw.toInt ∧ lw.toInt ≤ 4) (n_nb : 0 ≤ nb.toInt ∧ nb.toInt ≤ 6) (n_np : 0 ≤ np.toInt ∧ np.toInt ≤ 5) (n_qnb : 0 ≤ qnb.toInt ∧ qnb.toInt ≤ 6) (n_qnp : 0 ≤ qnp.toInt ∧ qnp.toInt ≤ 5) (n_tat : 0 ≤ tat.toInt ∧ tat.toInt ≤ 260) (n_tsz : 0 ≤ tsz.toInt ∧ tsz.toInt ≤ 240) (n_wr : (-1) ≤ wr.toInt ∧ wr.toInt ≤ 260)  (ci_fBr_zBr_nb : zBr nb fBr) (ci_fN_zNw_np : zNw np fN)  : Met l yX11_fits (.code yX11_fits cX11_fits 2 (some .int) :: wA) ({ frames := 3, cells := 0, slots := 0, locals := 68 }) (zP (dC, dI) [(cI, .int), (cJ, .long)] [.ref h0, .int p0] sz [(h0, .inr (11, [.int th, .ref tB, .int tsz, .int tat, .int wr, .int dp, .ref rC, .ref rV, .ref rD, .ref rK, .ref rT, .ref rS, .ref rU, .int lw, .int tx, .ref rL, .ref rX, .ref qR, .ref qB, .ref qP, .int qnb, .int qnp, .ref aR, .ref aB, .ref aP, .int nb, .int np, .ref aN, .ref rf, .int ho, .int br, .ref aK, .int ac, .long dw, .ref aE, .int sr, .int sf, .ref aA, .ref aH, .ref aI, .int hi])), (aB, .inl (cI, 24, .inl fBr)), (aN, .inl (cI, 97, .inl fN))]) (va_Qi (fun (r : Int32) (u : Unit) => (∀ (kc : zK3) (kT : zT) (q_fR : Nat → Int32) (q_fPa : Nat → Int32) (q_fKp : Nat → Int32) (q_frf : Nat → Int32), zCn q_fR fBr q_fPa nb.toInt np.toInt kc → zKo nb.toInt np.toInt kc kT → zTr nb.toInt np.toInt kT fN q_fKp ac q_frf → r = sV_fit nb.toInt kc kT.1 p0)) (fun (_ : Unit) (_ : State) => True) (va_A [] sz)) 0 0 (va_A [] sz) := by
  refine Met.ofW (cc := cX11_fits) (maxL := 2) (ret := (some .int)) (by decide) rfl ?_
  intro p e s m args below meth c s₁ B hml hv
  obtain ⟨hargs, hsz, hP, hK, hT⟩ := hv
  have hx := B.exec
  have hb := B.bytes
  have hr := B.returns
  have hts : ∀ w ∈ wA, w.before args s = true := fun w h => atoms_spec (ws := .code yX11_fits cX11_fits 2 (some .int) :: wA) B.pre w (List.mem_cons_of_mem _ h)
  have hown : s.vm.findClass RX11 = some m.cls := findClass_of_methodNamed B.named
  have hlocks := B.notSynchronized
  subst hsz
  have hD : va_D (va_A [] s.heap.size) [] := zD0
  generalize hAe : va_A [] s.heap.size = A at hD ⊢
  have hA : ∀ q : Nat, s.heap.size ≤ q → A q := fun q h => by rw [← hAe]; exact Or.inr h
  have hl := lv_entry ([.ref h0, .int p0]) (n := 2) (Nat.le_of_ble_eq_true rfl)
  rw [show entryFrame m args 2 = entryFrame m ([.ref h0, .int p0] : List Value).toArray 2 by rw [hargs], lg_entry_eq]
  generalize (lg_sl ([.ref h0, .int p0]) ++ List.replicate (2 - (lg_sl ([.ref h0, .int p0])).length) Slot.unset).toArray = ls at hl ⊢
  have hl : lv_has ls 2 [(0, .ref h0), (1, .int p0)] := hl
  refine zstart (fun H hH => ?_)
  rw [← hH] at hP
  have hS : va_S A s.heap H [] := by rw [hH]; exact va_S.rf
  generalize ([] : List Loc) = locs at hS ⊢
  refine zgen (fun R Q hR hQ => ?_)
  refine lv_aload_n hx hb dX11_fits_0 rfl (lv_at hl 0 rfl) ?_
  refine lv_iload_n hx hb dX11_fits_1 rfl (lv_at hl 1 rfl) ?_
  have hPc := hP.sub (ws' := [(h0, .inr (11, [.int th, .ref tB, .int tsz, .int tat, .int wr, .int dp, .ref rC, .ref rV, .ref rD, .ref rK, .ref rT, .ref rS, .ref rU, .int lw, .int tx, .ref rL, .ref rX, .ref qR, .ref qB, .ref qP, .int qnb, .int qnp, .ref aR, .ref aB, .ref aP, .int nb, .int np, .ref aN, .ref rf, .int ho, .int br, .ref aK, .int ac, .long dw, .ref aE, .int sr, .int sf, .ref aA, .ref aH, .ref aI, .int hi]))]) [0] rfl
  have hDc := hT.sub (ws' := [(h0, .inr (11, [.int th, .ref tB, .int tsz, .int tat, .int wr, .int dp, .ref rC, .ref rV, .ref rD, .ref rK, .ref rT, .ref rS, .ref rU, .int lw, .int tx, .ref rL, .ref rX, .ref qR, .ref qB, .ref qP, .int qnb, .int qnp, .ref aR, .ref aB, .ref aP, .int nb, .int np, .ref aN, .ref rf, .int ho, .int br, .ref aK, .int ac, .long dw, .ref aE, .int sr, .int sf, .ref aA, .ref aH, .ref aI, .int hi]))]) [0] (by decide) rfl
  have hFc := zfr hS hA
  refine va_calli (va_runV (As := [.int p0]) (rest := []) ⟨hx, hb, hml, hown, hts⟩ (g_X11_isBride l dC dI cI cJ h0 p0 th tB tsz tat wr dp rC rV rD rK rT rS rU lw tx rL rX qR qB qP qnb qnp aR aB aP nb np aN rf ho br aK ac dw aE sr sf aA aH aI hi H.size (by omega) (by omega) (by omega) (by omega) (by omega) (by omega) (by omega) (by omega) (by omega) (by omega) (by omega)) (cwV 1 hts (zgV qw1402 qw1404 qw56 qw108 qw1405) rfl rfl rfl hd_X11_isBride ⟨by rw [hR]; exact Nat.le_of_ble_eq_true rfl, by rw [hR]; exact Nat.le_of_ble_eq_true rfl⟩) (zPV hPc hK hDc (va_recv hK hP (ci := 11) (q0 := 0) rfl rfl)) rfl rfl hl.1 rfl (lv_room (Nat.le_of_ble_eq_true rfl)) dX11_fits_2 ⟨Nat.zero_le _, Nat.zero_le _⟩) hS (fun q _ h => hFc q h) hFc (fun v2 u2 t H locs ht hvm hw hB hz1 hk1 hS => ?_)
  have hP := zkeep hP hk1
  obtain ⟨f2_0, f2_1, f2_2, f2_3⟩ : (0 ≤ v2.toInt) ∧ (v2.toInt ≤ 1) ∧ (¬ v2.toInt = 0 → (0 ≤ p0.toInt ∧ p0.toInt < nb.toInt)) ∧ (v2.toInt = 0 → ¬ (0 ≤ p0.toInt ∧ p0.toInt < nb.toInt)) := hw
  refine lv_if_eq (tgt := 16) hx hb dX11_fits_5 (by decide) (fun c5 => ?_) (fun c5 => ?_)
  · have c5 : v2.toInt = 0 := z5 rfl (by decide) c5
    refine lv_iconst (v := (-1)) hx hb dX11_fits_16 (by decide) ?_
    have zr0 : ((-1) : Int32).toInt = (-1) := by decide
    rw [hQ]
    exact W.iret (v := ((-1))) hx hb hr (fun t ht hW => ⟨⟨(-1), (), rfl, (by (try dsimp only); exact fun kc kT q_fR q_fPa q_fKp q_frf hc hb h => by unfold sV_fit; rw [if_neg (by omega)]; ), trivial⟩, hS.F ht⟩) hS.2.2 dX11_fits_17
  · have c5 : ¬ v2.toInt = 0 := z6 rfl (by decide) c5
    refine lv_aload_n hx hb dX11_fits_8 rfl (lv_at hl 0 rfl) ?_
    refine lv_iload_n hx hb dX11_fits_9 rfl (lv_at hl 1 rfl) ?_
    have hPc := hP.sub (ws' := [(h0, .inr (11, [.int th, .ref tB, .int tsz, .int tat, .int wr, .int dp, .ref rC, .ref rV, .ref rD, .ref rK, .ref rT, .ref rS, .ref rU, .int lw, .int tx, .ref rL, .ref rX, .ref qR, .ref qB, .ref qP, .int qnb, .int qnp, .ref aR, .ref aB, .ref aP, .int nb, .int np, .ref aN, .ref rf, .int ho, .int br, .ref aK, .int ac, .long dw, .ref aE, .int sr, .int sf, .ref aA, .ref aH, .ref aI, .int hi])), (aB, .inl (cI, 24, .inl fBr)), (aN, .inl (cI, 97, .inl fN))]) [0, 1, 2] rfl
    have hDc := hT.sub (ws' := [(h0, .inr (11, [.int th, .ref tB, .int tsz, .int tat, .int wr, .int dp, .ref rC, .ref rV, .ref rD, .ref rK, .ref rT, .ref rS, .ref rU, .int lw, .int tx, .ref rL, .ref rX, .ref qR, .ref qB, .ref qP, .int qnb, .int qnp, .ref aR, .ref aB, .ref aP, .int nb, .int np, .ref aN, .ref rf, .int ho, .int br, .ref aK, .int ac, .long dw, .ref aE, .int sr, .int sf, .ref aA, .ref aH, .ref aI, .int hi])), (aB, .inl (cI, 24, .inl fBr)), (aN, .inl (cI, 97, .inl fN))]) [0, 1, 2] (by decide) rfl
    have hFc := zfr hS hA
    refine va_calli (va_runV (As := [.int p0]) (rest := []) ⟨hx, hb, hml, hown, hts⟩ (g_X11_fitsOf l dC dI cI cJ h0 p0 th tB tsz tat wr dp rC rV rD rK rT rS rU lw tx rL rX qR qB qP qnb qnp aR aB aP nb np aN rf ho br aK ac dw aE sr sf aA aH aI hi fBr fN H.size (by omega) (by omega) (by omega) (by omega) (by omega) (by omega) (by omega) (by omega) (by omega) (by omega) (by omega) (by omega) (by omega) ci_fBr_zBr_nb ci_fN_zNw_np) (cwV 1 hts (zgV qw1575 qw1577 qw76 qw108 qw1578) rfl rfl rfl hd_X11_fitsOf ⟨by rw [hR]; exact Nat.le_of_ble_eq_true rfl, by rw [hR]; exact Nat.le_of_ble_eq_true rfl⟩) (zPV hPc hK hDc (va_recv hK hP (ci := 11) (q0 := 0) rfl rfl)) rfl rfl hl.1 rfl (lv_room (Nat.le_of_ble_eq_true rfl)) dX11_fits_10 ⟨Nat.zero_le _, Nat.zero_le _⟩) hS (fun q _ h => hFc q h) hFc (fun v10 u10 t H locs ht hvm hw hB hz1 hk1 hS => ?_)
    have hP := zkeep hP hk1
    have f10_0 : (v10 = zFts (cBt (fN 11) p0) (cBt (fN 12) p0) (fBr (4 * p0.toInt.toNat)) 10) := hw
    have F10 := f10_0
    refine lv_goto (tgt := 17) hx hb dX11_fits_13 (by decide) ?_
    rw [hQ]
    exact W.iret (v := v10) hx hb hr (fun t ht hW => ⟨⟨v10, (), rfl, (by (try dsimp only); exact fun kc kT q_fR q_fPa q_fKp q_frf hc hb h => by have fb := zFace_b hb (show 0 ≤ p0.toInt ∧ p0.toInt < nb.toInt by omega); unfold sV_fit; rw [if_pos (by omega)]; rw [zSr_lt h.1, zSr_sh h.1, ← zFts_e cBt_b cBt_b fb.1 fb.2, ← hc.2.1 _ (by omega)]; exact F10), trivial⟩, hS.F ht⟩) hS.2.2 dX11_fits_17
set_option maxHeartbeats 4000000 in
set_option maxRecDepth 100000 in
theorem g_X11_flattery (l : Launch) (dC : Nat → ClassId) (dI : Nat → Nat → Nat) (cI cJ : ClassId) (h0 : Nat) (p0 : Int32) (p1 : Int32) (th : Int32) (tB : Nat) (tsz : Int32) (tat : Int32) (wr : Int32) (dp : Int32) (rC : Nat) (rV : Nat) (rD : Nat) (rK : Nat) (rT : Nat) (rS : Nat) (rU : Nat) (lw : Int32) (tx : Int32) (rL : Nat) (rX : Nat) (qR : Nat) (qB : Nat) (qP : Nat) (qnb : Int32) (qnp : Int32) (aR : Nat) (aB : Nat) (aP : Nat) (nb : Int32) (np : Int32) (aN : Nat) (rf : Nat) (ho : Int32) (br : Int32) (aK : Nat) (ac : Int32) (dw : Int64) (aE : Nat) (sr : Int32) (sf : Int32) (aA : Nat) (aH : Nat) (aI : Nat) (hi : Int32) (fN : Nat → Int32) (sz : Nat) (n_ac : 0 ≤ ac.toInt ∧ ac.toInt ≤ 40) (n_hi : 0 ≤ hi.toInt ∧ hi.toInt ≤ 1) (n_ho : (-1) ≤ ho.toInt ∧ ho.toInt ≤ 3) (n_lw : 0 ≤ lw.toInt ∧ lw.toInt ≤ 4) (n_nb : 0 ≤ nb.toInt ∧ nb.toInt ≤ 6) (n_np : 0 ≤ np.toInt ∧ np.toInt ≤ 5) (n_qnb : 0 ≤ qnb.toInt ∧ qnb.toInt ≤ 6) (n_qnp : 0 ≤ qnp.toInt ∧ qnp.toInt ≤ 5) (n_tat : 0 ≤ tat.toInt ∧ tat.toInt ≤ 260) (n_tsz : 0 ≤ tsz.toInt ∧ tsz.toInt ≤ 240) (n_wr : (-1) ≤ wr.toInt ∧ wr.toInt ≤ 260)  (ci_fN_zNw_np : zNw np fN)  : Met l yX11_flattery (.code yX11_flattery cX11_flattery 3 (some .int) :: wA) ({ frames := 3, cells := 0, slots := 0, locals := 65 }) (zP (dC, dI) [(cI, .int), (cJ, .long)] [.ref h0, .int p0, .int p1] sz [(h0, .inr (11, [.int th, .ref tB, .int tsz, .int tat, .int wr, .int dp, .ref rC, .ref rV, .ref rD, .ref rK, .ref rT, .ref rS, .ref rU, .int lw, .int tx, .ref rL, .ref rX, .ref qR, .ref qB, .ref qP, .int qnb, .int qnp, .ref aR, .ref aB, .ref aP, .int nb, .int np, .ref aN, .ref rf, .int ho, .int br, .ref aK, .int ac, .long dw, .ref aE, .int sr, .int sf, .ref aA, .ref aH, .ref aI, .int hi])), (aN, .inl (cI, 97, .inl fN))]) (va_Qi (fun (r : Int32) (u : Unit) => ((-1) ≤ r.toInt) ∧ (∀ (kc : zK3) (kT : zT) (q_fR : Nat → Int32) (q_fBr : Nat → Int32) (q_fPa : Nat → Int32) (q_fKp : Nat → Int32) (q_frf : Nat → Int32), zCn q_fR q_fBr q_fPa nb.toInt np.toInt kc → zKo nb.toInt np.toInt kc kT → zTr nb.toInt np.toInt kT fN q_fKp ac q_frf → r = sV_fla nb.toInt np.toInt kT.1 p0 p1)) (fun (_ : Unit) (_ : State) => True) (va_A [] sz)) 0 0 (va_A [] sz) := by
  refine Met.ofW (cc := cX11_flattery) (maxL := 3) (ret := (some .int)) (by decide) rfl ?_
  intro p e s m args below meth c s₁ B hml hv
  obtain ⟨hargs, hsz, hP, hK, hT⟩ := hv
  have hx := B.exec
  have hb := B.bytes
  have hr := B.returns
  have hts : ∀ w ∈ wA, w.before args s = true := fun w h => atoms_spec (ws := .code yX11_flattery cX11_flattery 3 (some .int) :: wA) B.pre w (List.mem_cons_of_mem _ h)
  have hown : s.vm.findClass RX11 = some m.cls := findClass_of_methodNamed B.named
  have hlocks := B.notSynchronized
  subst hsz
  have hD : va_D (va_A [] s.heap.size) [] := zD0
  generalize hAe : va_A [] s.heap.size = A at hD ⊢
  have hA : ∀ q : Nat, s.heap.size ≤ q → A q := fun q h => by rw [← hAe]; exact Or.inr h
  have hl := lv_entry ([.ref h0, .int p0, .int p1]) (n := 3) (Nat.le_of_ble_eq_true rfl)
  rw [show entryFrame m args 3 = entryFrame m ([.ref h0, .int p0, .int p1] : List Value).toArray 3 by rw [hargs], lg_entry_eq]
  generalize (lg_sl ([.ref h0, .int p0, .int p1]) ++ List.replicate (3 - (lg_sl ([.ref h0, .int p0, .int p1])).length) Slot.unset).toArray = ls at hl ⊢
  have hl : lv_has ls 3 [(0, .ref h0), (1, .int p0), (2, .int p1)] := hl
  refine zstart (fun H hH => ?_)
  rw [← hH] at hP
  have hS : va_S A s.heap H [] := by rw [hH]; exact va_S.rf
  generalize ([] : List Loc) = locs at hS ⊢
  refine zgen (fun R Q hR hQ => ?_)
  refine lv_aload_n hx hb dX11_flattery_0 rfl (lv_at hl 0 rfl) ?_
  refine lv_iload_n hx hb dX11_flattery_1 rfl (lv_at hl 1 rfl) ?_
  refine lv_iload_n hx hb dX11_flattery_2 rfl (lv_at hl 2 rfl) ?_
  have hPc := hP.sub (ws' := [(h0, .inr (11, [.int th, .ref tB, .int tsz, .int tat, .int wr, .int dp, .ref rC, .ref rV, .ref rD, .ref rK, .ref rT, .ref rS, .ref rU, .int lw, .int tx, .ref rL, .ref rX, .ref qR, .ref qB, .ref qP, .int qnb, .int qnp, .ref aR, .ref aB, .ref aP, .int nb, .int np, .ref aN, .ref rf, .int ho, .int br, .ref aK, .int ac, .long dw, .ref aE, .int sr, .int sf, .ref aA, .ref aH, .ref aI, .int hi]))]) [0] rfl
  have hDc := hT.sub (ws' := [(h0, .inr (11, [.int th, .ref tB, .int tsz, .int tat, .int wr, .int dp, .ref rC, .ref rV, .ref rD, .ref rK, .ref rT, .ref rS, .ref rU, .int lw, .int tx, .ref rL, .ref rX, .ref qR, .ref qB, .ref qP, .int qnb, .int qnp, .ref aR, .ref aB, .ref aP, .int nb, .int np, .ref aN, .ref rf, .int ho, .int br, .ref aK, .int ac, .long dw, .ref aE, .int sr, .int sf, .ref aA, .ref aH, .ref aI, .int hi]))]) [0] (by decide) rfl
  have hFc := zfr hS hA
  refine va_calli (va_runV (As := [.int p0, .int p1]) (rest := []) ⟨hx, hb, hml, hown, hts⟩ (g_X11_areBoth l dC dI cI cJ h0 p0 p1 th tB tsz tat wr dp rC rV rD rK rT rS rU lw tx rL rX qR qB qP qnb qnp aR aB aP nb np aN rf ho br aK ac dw aE sr sf aA aH aI hi H.size (by omega) (by omega) (by omega) (by omega) (by omega) (by omega) (by omega) (by omega) (by omega) (by omega) (by omega)) (cwV 2 hts (zgV qw1422 qw1424 qw58 qw108 qw1425) rfl rfl rfl hd_X11_areBoth ⟨by rw [hR]; exact Nat.le_of_ble_eq_true rfl, by rw [hR]; exact Nat.le_of_ble_eq_true rfl⟩) (zPV hPc hK hDc (va_recv hK hP (ci := 11) (q0 := 0) rfl rfl)) rfl rfl hl.1 rfl (lv_room (Nat.le_of_ble_eq_true rfl)) dX11_flattery_3 ⟨Nat.zero_le _, Nat.zero_le _⟩) hS (fun q _ h => hFc q h) hFc (fun v3 u3 t H locs ht hvm hw hB hz1 hk1 hS => ?_)
  have hP := zkeep hP hk1
  obtain ⟨f3_0, f3_1, f3_2, f3_3⟩ : (0 ≤ v3.toInt) ∧ (v3.toInt ≤ 1) ∧ (¬ v3.toInt = 0 → (0 ≤ p0.toInt ∧ p0.toInt < np.toInt ∧ 0 ≤ p1.toInt ∧ p1.toInt < nb.toInt)) ∧ (v3.toInt = 0 → ¬ ((0 ≤ p0.toInt ∧ p0.toInt < np.toInt) ∧ 0 ≤ p1.toInt ∧ p1.toInt < nb.toInt)) := hw
  refine lv_if_eq (tgt := 25) hx hb dX11_flattery_6 (by decide) (fun c6 => ?_) (fun c6 => ?_)
  · have c6 : v3.toInt = 0 := z5 rfl (by decide) c6
    refine lv_iconst (v := (-1)) hx hb dX11_flattery_25 (by decide) ?_
    have zr0 : ((-1) : Int32).toInt = (-1) := by decide
    rw [hQ]
    exact W.iret (v := ((-1))) hx hb hr (fun t ht hW => ⟨⟨(-1), (), rfl, ⟨by (try dsimp only); omega, by (try dsimp only); exact fun kc kT q_fR q_fBr q_fPa q_fKp q_frf hc hb h => by unfold sV_fla; rw [if_neg (by omega)]; ⟩, trivial⟩, hS.F ht⟩) hS.2.2 dX11_flattery_26
  · have c6 : ¬ v3.toInt = 0 := z6 rfl (by decide) c6
    refine lv_aload_n hx hb dX11_flattery_9 rfl (lv_at hl 0 rfl) ?_
    refine lv_iload_n hx hb dX11_flattery_10 rfl (lv_at hl 1 rfl) ?_
    refine lv_aload_n hx hb dX11_flattery_11 rfl (lv_at hl 0 rfl) ?_
    refine va_get (D := (dC, dI)) (ci := 11) (v := .ref aN) (C := RX11) (T := TX11) (N := 41) hx hb hts iX11 hown hK hP 0 rfl rfl 27 (by decide) (hts _ qw1154) (fun _ h9 => h9) rfl dX11_flattery_12 ?_
    refine lv_iconst (v := 0) hx hb dX11_flattery_15 (by decide) ?_
    refine lv_iload_n hx hb dX11_flattery_16 rfl (lv_at hl 2 rfl) ?_
    refine lv_iadd hx hb dX11_flattery_17 ?_
    refine lv_topi (fun v17 e17 => ?_)
    have i17 : v17.toInt = 0 + p1.toInt := zadd e17 (by decide) rfl (by omega) (by omega)
    refine va_iald hx hb hK hP 1 0 rfl rfl (vp_in_iff.mpr ⟨by omega, by omega⟩) dX11_flattery_18 ?_
    refine lv_topi (fun v18 e18 => ?_)
    have hPc := hP.sub (ws' := [(h0, .inr (11, [.int th, .ref tB, .int tsz, .int tat, .int wr, .int dp, .ref rC, .ref rV, .ref rD, .ref rK, .ref rT, .ref rS, .ref rU, .int lw, .int tx, .ref rL, .ref rX, .ref qR, .ref qB, .ref qP, .int qnb, .int qnp, .ref aR, .ref aB, .ref aP, .int nb, .int np, .ref aN, .ref rf, .int ho, .int br, .ref aK, .int ac, .long dw, .ref aE, .int sr, .int sf, .ref aA, .ref aH, .ref aI, .int hi])), (aN, .inl (cI, 97, .inl fN))]) [0, 1] rfl
    have hDc := hT.sub (ws' := [(h0, .inr (11, [.int th, .ref tB, .int tsz, .int tat, .int wr, .int dp, .ref rC, .ref rV, .ref rD, .ref rK, .ref rT, .ref rS, .ref rU, .int lw, .int tx, .ref rL, .ref rX, .ref qR, .ref qB, .ref qP, .int qnb, .int qnp, .ref aR, .ref aB, .ref aP, .int nb, .int np, .ref aN, .ref rf, .int ho, .int br, .ref aK, .int ac, .long dw, .ref aE, .int sr, .int sf, .ref aA, .ref aH, .ref aI, .int hi])), (aN, .inl (cI, 97, .inl fN))]) [0, 1] (by decide) rfl
    have hFc := zfr hS hA
    refine va_calli (va_runV (As := [.int p0, .int v18]) (rest := []) ⟨hx, hb, hml, hown, hts⟩ (g_X11_flatteryBy l dC dI cI cJ h0 p0 v18 th tB tsz tat wr dp rC rV rD rK rT rS rU lw tx rL rX qR qB qP qnb qnp aR aB aP nb np aN rf ho br aK ac dw aE sr sf aA aH aI hi fN H.size (by omega) (by omega) (by omega) (by omega) (by omega) (by omega) (by omega) (by omega) (by omega) (by omega) (by omega) (by omega)) (cwV 2 hts (zgV qw1426 qw1428 qw59 qw108 qw1429) rfl rfl rfl hd_X11_flatteryBy ⟨by rw [hR]; exact Nat.le_of_ble_eq_true rfl, by rw [hR]; exact Nat.le_of_ble_eq_true rfl⟩) (zPV hPc hK hDc (va_recv hK hP (ci := 11) (q0 := 0) rfl rfl)) rfl rfl hl.1 rfl (lv_room (Nat.le_of_ble_eq_true rfl)) dX11_flattery_19 ⟨Nat.zero_le _, Nat.zero_le _⟩) hS (fun q _ h => hFc q h) hFc (fun v19 u19 t H locs ht hvm hw hB hz1 hk1 hS => ?_)
    have hP := zkeep hP hk1
    obtain ⟨f19_0, f19_1⟩ : (0 ≤ v19.toInt) ∧ (v19 = zFl (fN (6 + p0.toInt.toNat)) v18) := hw
    have F19 := f19_1
    refine lv_goto (tgt := 26) hx hb dX11_flattery_22 (by decide) ?_
    rw [hQ]
    exact W.iret (v := v19) hx hb hr (fun t ht hW => ⟨⟨v19, (), rfl, ⟨by (try dsimp only); omega, by (try dsimp only); exact fun kc kT q_fR q_fBr q_fPa q_fKp q_frf hc hb h => by have y18 : v18 = kT.1.1 p1.toInt.toNat := (zIxN (n := p1.toInt.toNat) e18 (by omega)).trans (h.1.1 _ (by omega)); unfold sV_fla; rw [if_pos (by omega)]; rw [F19, y18, h.1.2.1 _ (by omega)]⟩, trivial⟩, hS.F ht⟩) hS.2.2 dX11_flattery_26
set_option maxHeartbeats 4000000 in
set_option maxRecDepth 100000 in
theorem g_X11_shown (l : Launch) (dC : Nat → ClassId) (dI : Nat → Nat → Nat) (cI cJ : ClassId) (h0 : Nat) (p0 : Int32) (p1 : Int32) (p2 : Int32) (th : Int32) (tB : Nat) (tsz : Int32) (tat : Int32) (wr : Int32) (dp : Int32) (rC : Nat) (rV : Nat) (rD : Nat) (rK : Nat) (rT : Nat) (rS : Nat) (rU : Nat) (lw : Int32) (tx : Int32) (rL : Nat) (rX : Nat) (qR : Nat) (qB : Nat) (qP : Nat) (qnb : Int32) (qnp : Int32) (aR : Nat) (aB : Nat) (aP : Nat) (nb : Int32) (np : Int32) (aN : Nat) (rf : Nat) (ho : Int32) (br : Int32) (aK : Nat) (ac : Int32) (dw : Int64) (aE : Nat) (sr : Int32) (sf : Int32) (aA : Nat) (aH : Nat) (aI : Nat) (hi : Int32) (fC : Nat → Int32) (fV : Nat → Int32) (fK : Nat → Int32) (fT : Nat → Int32) (fS : Nat → Int32) (fU : Nat → Int32) (fL : Nat → Int32) (fX : Nat → Int32) (fBr : Nat → Int32) (fPa : Nat → Int32) (fN : Nat → Int32) (sz : Nat) (n_ac : 0 ≤ ac.toInt ∧ ac.toInt ≤ 40) (n_hi : 0 ≤ hi.toInt ∧ hi.toInt ≤ 1) (n_ho : (-1) ≤ ho.toInt ∧ ho.toInt ≤ 3) (n_lw : 0 ≤ lw.toInt ∧ lw.toInt ≤ 4) (n_nb : 0 ≤ nb.toInt ∧ nb.toInt ≤ 6) (n_np : 0 ≤ np.toInt ∧ np.toInt ≤ 5) (n_qnb : 0 ≤ qnb.toInt ∧ qnb.toInt ≤ 6) (n_qnp : 0 ≤ qnp.toInt ∧ qnp.toInt ≤ 5) (n_tat : 0 ≤ tat.toInt ∧ tat.toInt ≤ 260) (n_tsz : 0 ≤ tsz.toInt ∧ tsz.toInt ≤ 240) (n_wr : (-1) ≤ wr.toInt ∧ wr.toInt ≤ 260) (hls : zLs ho fC fV fK fT fS fU) (ci_fBr_zBr_nb : zBr nb fBr) (ci_fN_zNw_np : zNw np fN) (ci_fPa_zBr_np : zBr np fPa)  : Met l yX11_shown (.code yX11_shown cX11_shown 4 (some .int) :: wA) ({ frames := 7, cells := 0, slots := 0, locals := 171 }) (zP (dC, dI) [(cI, .int), (cJ, .long)] [.ref h0, .int p0, .int p1, .int p2] sz [(h0, .inr (11, [.int th, .ref tB, .int tsz, .int tat, .int wr, .int dp, .ref rC, .ref rV, .ref rD, .ref rK, .ref rT, .ref rS, .ref rU, .int lw, .int tx, .ref rL, .ref rX, .ref qR, .ref qB, .ref qP, .int qnb, .int qnp, .ref aR, .ref aB, .ref aP, .int nb, .int np, .ref aN, .ref rf, .int ho, .int br, .ref aK, .int ac, .long dw, .ref aE, .int sr, .int sf, .ref aA, .ref aH, .ref aI, .int hi])), (rC, .inl (cI, 2600, .inl fC)), (rV, .inl (cI, 2600, .inl fV)), (rK, .inl (cI, 5, .inl fK)), (rT, .inl (cI, 700, .inl fT)), (rS, .inl (cI, 700, .inl fS)), (rU, .inl (cI, 700, .inl fU)), (rL, .inl (cI, 6, .inl fL)), (rX, .inl (cI, 80, .inl fX)), (aB, .inl (cI, 24, .inl fBr)), (aP, .inl (cI, 20, .inl fPa)), (aN, .inl (cI, 97, .inl fN))]) (va_Qi (fun (r : Int32) (u : (Nat → Int32) × (Nat → Int32)) => ((-1) ≤ r.toInt) ∧ (r.toInt ≤ 9) ∧ (∀ (kc : zK3) (kT : zT) (q_fR : Nat → Int32) (q_fKp : Nat → Int32) (q_frf : Nat → Int32) (kl : Option ((Int → Int) × Int)), zCn q_fR fBr fPa nb.toInt np.toInt kc → zKo nb.toInt np.toInt kc kT → zTr nb.toInt np.toInt kT fN q_fKp ac q_frf → zLwR ho fC fV fK fT fS fU kl → r = sV_sho nb.toInt np.toInt kc kT.1 kl p0 p1 p2)) (fun (u : (Nat → Int32) × (Nat → Int32)) (t : State) => va_P (dC, dI) vwCl [(h0, .inr (11, [.int th, .ref tB, .int tsz, .int tat, .int wr, .int dp, .ref rC, .ref rV, .ref rD, .ref rK, .ref rT, .ref rS, .ref rU, .int lw, .int tx, .ref rL, .ref rX, .ref qR, .ref qB, .ref qP, .int qnb, .int qnp, .ref aR, .ref aB, .ref aP, .int nb, .int np, .ref aN, .ref rf, .int ho, .int br, .ref aK, .int ac, .long dw, .ref aE, .int sr, .int sf, .ref aA, .ref aH, .ref aI, .int hi])), (rC, .inl (cI, 2600, .inl fC)), (rV, .inl (cI, 2600, .inl fV)), (rK, .inl (cI, 5, .inl fK)), (rT, .inl (cI, 700, .inl fT)), (rS, .inl (cI, 700, .inl fS)), (rU, .inl (cI, 700, .inl fU)), (rL, .inl (cI, 6, .inl u.1)), (rX, .inl (cI, 80, .inl u.2)), (aB, .inl (cI, 24, .inl fBr)), (aP, .inl (cI, 20, .inl fPa)), (aN, .inl (cI, 97, .inl fN))] t.heap ∧ va_D (va_A [(h0, .inr (11, [.int th, .ref tB, .int tsz, .int tat, .int wr, .int dp, .ref rC, .ref rV, .ref rD, .ref rK, .ref rT, .ref rS, .ref rU, .int lw, .int tx, .ref rL, .ref rX, .ref qR, .ref qB, .ref qP, .int qnb, .int qnp, .ref aR, .ref aB, .ref aP, .int nb, .int np, .ref aN, .ref rf, .int ho, .int br, .ref aK, .int ac, .long dw, .ref aE, .int sr, .int sf, .ref aA, .ref aH, .ref aI, .int hi])), (rC, .inl (cI, 2600, .inl fC)), (rV, .inl (cI, 2600, .inl fV)), (rK, .inl (cI, 5, .inl fK)), (rT, .inl (cI, 700, .inl fT)), (rS, .inl (cI, 700, .inl fS)), (rU, .inl (cI, 700, .inl fU)), (rL, .inl (cI, 6, .inl fL)), (rX, .inl (cI, 80, .inl fX)), (aB, .inl (cI, 24, .inl fBr)), (aP, .inl (cI, 20, .inl fPa)), (aN, .inl (cI, 97, .inl fN))] sz) [(h0, .inr (11, [.int th, .ref tB, .int tsz, .int tat, .int wr, .int dp, .ref rC, .ref rV, .ref rD, .ref rK, .ref rT, .ref rS, .ref rU, .int lw, .int tx, .ref rL, .ref rX, .ref qR, .ref qB, .ref qP, .int qnb, .int qnp, .ref aR, .ref aB, .ref aP, .int nb, .int np, .ref aN, .ref rf, .int ho, .int br, .ref aK, .int ac, .long dw, .ref aE, .int sr, .int sf, .ref aA, .ref aH, .ref aI, .int hi])), (rC, .inl (cI, 2600, .inl fC)), (rV, .inl (cI, 2600, .inl fV)), (rK, .inl (cI, 5, .inl fK)), (rT, .inl (cI, 700, .inl fT)), (rS, .inl (cI, 700, .inl fS)), (rU, .inl (cI, 700, .inl fU)), (rL, .inl (cI, 6, .inl u.1)), (rX, .inl (cI, 80, .inl u.2)), (aB, .inl (cI, 24, .inl fBr)), (aP, .inl (cI, 20, .inl fPa)), (aN, .inl (cI, 97, .inl fN))]) (va_A [(h0, .inr (11, [.int th, .ref tB, .int tsz, .int tat, .int wr, .int dp, .ref rC, .ref rV, .ref rD, .ref rK, .ref rT, .ref rS, .ref rU, .int lw, .int tx, .ref rL, .ref rX, .ref qR, .ref qB, .ref qP, .int qnb, .int qnp, .ref aR, .ref aB, .ref aP, .int nb, .int np, .ref aN, .ref rf, .int ho, .int br, .ref aK, .int ac, .long dw, .ref aE, .int sr, .int sf, .ref aA, .ref aH, .ref aI, .int hi])), (rC, .inl (cI, 2600, .inl fC)), (rV, .inl (cI, 2600, .inl fV)), (rK, .inl (cI, 5, .inl fK)), (rT, .inl (cI, 700, .inl fT)), (rS, .inl (cI, 700, .inl fS)), (rU, .inl (cI, 700, .inl fU)), (rL, .inl (cI, 6, .inl fL)), (rX, .inl (cI, 80, .inl fX)), (aB, .inl (cI, 24, .inl fBr)), (aP, .inl (cI, 20, .inl fPa)), (aN, .inl (cI, 97, .inl fN))] sz)) 0 0 (va_A [(h0, .inr (11, [.int th, .ref tB, .int tsz, .int tat, .int wr, .int dp, .ref rC, .ref rV, .ref rD, .ref rK, .ref rT, .ref rS, .ref rU, .int lw, .int tx, .ref rL, .ref rX, .ref qR, .ref qB, .ref qP, .int qnb, .int qnp, .ref aR, .ref aB, .ref aP, .int nb, .int np, .ref aN, .ref rf, .int ho, .int br, .ref aK, .int ac, .long dw, .ref aE, .int sr, .int sf, .ref aA, .ref aH, .ref aI, .int hi])), (rC, .inl (cI, 2600, .inl fC)), (rV, .inl (cI, 2600, .inl fV)), (rK, .inl (cI, 5, .inl fK)), (rT, .inl (cI, 700, .inl fT)), (rS, .inl (cI, 700, .inl fS)), (rU, .inl (cI, 700, .inl fU)), (rL, .inl (cI, 6, .inl fL)), (rX, .inl (cI, 80, .inl fX)), (aB, .inl (cI, 24, .inl fBr)), (aP, .inl (cI, 20, .inl fPa)), (aN, .inl (cI, 97, .inl fN))] sz) := by
  refine Met.ofW (cc := cX11_shown) (maxL := 4) (ret := (some .int)) (by decide) rfl ?_
  intro p e s m args below meth c s₁ B hml hv
  obtain ⟨hargs, hsz, hP, hK, hT⟩ := hv
  have hx := B.exec
  have hb := B.bytes
  have hr := B.returns
  have hts : ∀ w ∈ wA, w.before args s = true := fun w h => atoms_spec (ws := .code yX11_shown cX11_shown 4 (some .int) :: wA) B.pre w (List.mem_cons_of_mem _ h)
  have hown : s.vm.findClass RX11 = some m.cls := findClass_of_methodNamed B.named
  have hlocks := B.notSynchronized
  subst hsz
  have hD := hT.self (sz := s.heap.size)
  generalize hAe : va_A [(h0, .inr (11, [.int th, .ref tB, .int tsz, .int tat, .int wr, .int dp, .ref rC, .ref rV, .ref rD, .ref rK, .ref rT, .ref rS, .ref rU, .int lw, .int tx, .ref rL, .ref rX, .ref qR, .ref qB, .ref qP, .int qnb, .int qnp, .ref aR, .ref aB, .ref aP, .int nb, .int np, .ref aN, .ref rf, .int ho, .int br, .ref aK, .int ac, .long dw, .ref aE, .int sr, .int sf, .ref aA, .ref aH, .ref aI, .int hi])), (rC, .inl (cI, 2600, .inl fC)), (rV, .inl (cI, 2600, .inl fV)), (rK, .inl (cI, 5, .inl fK)), (rT, .inl (cI, 700, .inl fT)), (rS, .inl (cI, 700, .inl fS)), (rU, .inl (cI, 700, .inl fU)), (rL, .inl (cI, 6, .inl fL)), (rX, .inl (cI, 80, .inl fX)), (aB, .inl (cI, 24, .inl fBr)), (aP, .inl (cI, 20, .inl fPa)), (aN, .inl (cI, 97, .inl fN))] s.heap.size = A at hD ⊢
  have hA : ∀ q : Nat, s.heap.size ≤ q → A q := fun q h => by rw [← hAe]; exact Or.inr h
  have hl := lv_entry ([.ref h0, .int p0, .int p1, .int p2]) (n := 4) (Nat.le_of_ble_eq_true rfl)
  rw [show entryFrame m args 4 = entryFrame m ([.ref h0, .int p0, .int p1, .int p2] : List Value).toArray 4 by rw [hargs], lg_entry_eq]
  generalize (lg_sl ([.ref h0, .int p0, .int p1, .int p2]) ++ List.replicate (4 - (lg_sl ([.ref h0, .int p0, .int p1, .int p2])).length) Slot.unset).toArray = ls at hl ⊢
  have hl : lv_has ls 4 [(0, .ref h0), (1, .int p0), (2, .int p1), (3, .int p2)] := hl
  refine zstart (fun H hH => ?_)
  rw [← hH] at hP
  have hS : va_S A s.heap H [] := by rw [hH]; exact va_S.rf
  generalize ([] : List Loc) = locs at hS ⊢
  refine zgen (fun R Q hR hQ => ?_)
  refine lv_aload_n hx hb dX11_shown_0 rfl (lv_at hl 0 rfl) ?_
  refine lv_iload_n hx hb dX11_shown_1 rfl (lv_at hl 1 rfl) ?_
  refine lv_iload_n hx hb dX11_shown_2 rfl (lv_at hl 2 rfl) ?_
  have hPc := hP.sub (ws' := [(h0, .inr (11, [.int th, .ref tB, .int tsz, .int tat, .int wr, .int dp, .ref rC, .ref rV, .ref rD, .ref rK, .ref rT, .ref rS, .ref rU, .int lw, .int tx, .ref rL, .ref rX, .ref qR, .ref qB, .ref qP, .int qnb, .int qnp, .ref aR, .ref aB, .ref aP, .int nb, .int np, .ref aN, .ref rf, .int ho, .int br, .ref aK, .int ac, .long dw, .ref aE, .int sr, .int sf, .ref aA, .ref aH, .ref aI, .int hi]))]) [0] rfl
  have hDc := hD.sub (ws' := [(h0, .inr (11, [.int th, .ref tB, .int tsz, .int tat, .int wr, .int dp, .ref rC, .ref rV, .ref rD, .ref rK, .ref rT, .ref rS, .ref rU, .int lw, .int tx, .ref rL, .ref rX, .ref qR, .ref qB, .ref qP, .int qnb, .int qnp, .ref aR, .ref aB, .ref aP, .int nb, .int np, .ref aN, .ref rf, .int ho, .int br, .ref aK, .int ac, .long dw, .ref aE, .int sr, .int sf, .ref aA, .ref aH, .ref aI, .int hi]))]) [0] (by decide) rfl
  have hFc := zfr hS hA
  refine va_calli (va_runV (As := [.int p0, .int p1]) (rest := []) ⟨hx, hb, hml, hown, hts⟩ (g_X11_areBoth l dC dI cI cJ h0 p0 p1 th tB tsz tat wr dp rC rV rD rK rT rS rU lw tx rL rX qR qB qP qnb qnp aR aB aP nb np aN rf ho br aK ac dw aE sr sf aA aH aI hi H.size (by omega) (by omega) (by omega) (by omega) (by omega) (by omega) (by omega) (by omega) (by omega) (by omega) (by omega)) (cwV 2 hts (zgV qw1422 qw1424 qw58 qw108 qw1425) rfl rfl rfl hd_X11_areBoth ⟨by rw [hR]; exact Nat.le_of_ble_eq_true rfl, by rw [hR]; exact Nat.le_of_ble_eq_true rfl⟩) (zPV hPc hK hDc (va_recv hK hP (ci := 11) (q0 := 0) rfl rfl)) rfl rfl hl.1 rfl (lv_room (Nat.le_of_ble_eq_true rfl)) dX11_shown_3 ⟨Nat.zero_le _, Nat.zero_le _⟩) hS (fun q _ h => hFc q h) hFc (fun v3 u3 t H locs ht hvm hw hB hz1 hk1 hS => ?_)
  have hP := zkeep hP hk1
  obtain ⟨f3_0, f3_1, f3_2, f3_3⟩ : (0 ≤ v3.toInt) ∧ (v3.toInt ≤ 1) ∧ (¬ v3.toInt = 0 → (0 ≤ p0.toInt ∧ p0.toInt < np.toInt ∧ 0 ≤ p1.toInt ∧ p1.toInt < nb.toInt)) ∧ (v3.toInt = 0 → ¬ ((0 ≤ p0.toInt ∧ p0.toInt < np.toInt) ∧ 0 ≤ p1.toInt ∧ p1.toInt < nb.toInt)) := hw
  refine lv_if_eq (tgt := 26) hx hb dX11_shown_6 (by decide) (fun c6 => ?_) (fun c6 => ?_)
  · have c6 : v3.toInt = 0 := z5 rfl (by decide) c6
    refine lv_iconst (v := (-1)) hx hb dX11_shown_26 (by decide) ?_
    have zr0 : ((-1) : Int32).toInt = (-1) := by decide
    rw [hQ]
    exact W.iret (v := ((-1))) hx hb hr (fun t ht hW => ⟨⟨(-1), (fL, fX), rfl, ⟨by (try dsimp only); omega, by (try dsimp only); omega, by (try dsimp only); exact fun kc kT q_fR q_fKp q_frf kl hc hb h hL => by unfold sV_sho; rw [if_neg (by omega)]; ⟩, ⟨by rw [ht]; exact hP, hD⟩⟩, hS.F ht⟩) hS.2.2 dX11_shown_27
  · have c6 : ¬ v3.toInt = 0 := z6 rfl (by decide) c6
    refine lv_iload_n hx hb dX11_shown_9 rfl (lv_at hl 3 rfl) ?_
    have hPc : va_P (dC, dI) vwCl [] H := zP0
    have hDc : va_D (fun _ => True) [] := zD0
    have hFc := zfr hS hA
    refine va_calli (va_runS (As := [.int p2]) (rest := []) ⟨hx, hb, hml, hown, hts⟩ (g_X11_isFace l dC dI cI cJ p2 H.size) (cwS 1 hts (zgS qw1435 qw1436 qw108 qw1437) rfl rfl rfl hd_X11_isFace ⟨by rw [hR]; exact Nat.le_of_ble_eq_true rfl, by rw [hR]; exact Nat.le_of_ble_eq_true rfl⟩) (zPS hPc hK hDc) rfl rfl hl.1 rfl (lv_room (Nat.le_of_ble_eq_true rfl)) dX11_shown_10 ⟨Nat.zero_le _, Nat.zero_le _⟩) hS (fun q _ h => hFc q h) hFc (fun v10 u10 t H locs ht hvm hw hB hz1 hk1 hS => ?_)
    have hP := zkeep hP hk1
    obtain ⟨f10_0, f10_1, f10_2, f10_3⟩ : (0 ≤ v10.toInt) ∧ (v10.toInt ≤ 1) ∧ (¬ v10.toInt = 0 → (0 ≤ p2.toInt ∧ p2.toInt ≤ 9)) ∧ (v10.toInt = 0 → ¬ (0 ≤ p2.toInt ∧ p2.toInt ≤ 9)) := hw
    refine lv_if_eq (tgt := 26) hx hb dX11_shown_13 (by decide) (fun c13 => ?_) (fun c13 => ?_)
    · have c13 : v10.toInt = 0 := z5 rfl (by decide) c13
      refine lv_iconst (v := (-1)) hx hb dX11_shown_26 (by decide) ?_
      have zr0 : ((-1) : Int32).toInt = (-1) := by decide
      rw [hQ]
      exact W.iret (v := ((-1))) hx hb hr (fun t ht hW => ⟨⟨(-1), (fL, fX), rfl, ⟨by (try dsimp only); omega, by (try dsimp only); omega, by (try dsimp only); exact fun kc kT q_fR q_fKp q_frf kl hc hb h hL => by unfold sV_sho; rw [if_neg (by omega)]; ⟩, ⟨by rw [ht]; exact hP, hD⟩⟩, hS.F ht⟩) hS.2.2 dX11_shown_27
    · have c13 : ¬ v10.toInt = 0 := z6 rfl (by decide) c13
      refine lv_aload_n hx hb dX11_shown_16 rfl (lv_at hl 0 rfl) ?_
      refine lv_iload_n hx hb dX11_shown_17 rfl (lv_at hl 1 rfl) ?_
      refine lv_iload_n hx hb dX11_shown_18 rfl (lv_at hl 2 rfl) ?_
      refine lv_iload_n hx hb dX11_shown_19 rfl (lv_at hl 3 rfl) ?_
      have hPc := hP.sub (ws' := [(h0, .inr (11, [.int th, .ref tB, .int tsz, .int tat, .int wr, .int dp, .ref rC, .ref rV, .ref rD, .ref rK, .ref rT, .ref rS, .ref rU, .int lw, .int tx, .ref rL, .ref rX, .ref qR, .ref qB, .ref qP, .int qnb, .int qnp, .ref aR, .ref aB, .ref aP, .int nb, .int np, .ref aN, .ref rf, .int ho, .int br, .ref aK, .int ac, .long dw, .ref aE, .int sr, .int sf, .ref aA, .ref aH, .ref aI, .int hi])), (rC, .inl (cI, 2600, .inl fC)), (rV, .inl (cI, 2600, .inl fV)), (rK, .inl (cI, 5, .inl fK)), (rT, .inl (cI, 700, .inl fT)), (rS, .inl (cI, 700, .inl fS)), (rU, .inl (cI, 700, .inl fU)), (rL, .inl (cI, 6, .inl fL)), (rX, .inl (cI, 80, .inl fX)), (aB, .inl (cI, 24, .inl fBr)), (aP, .inl (cI, 20, .inl fPa)), (aN, .inl (cI, 97, .inl fN))]) [0, 1, 2, 3, 4, 5, 6, 7, 8, 9, 10, 11] rfl
      have hDc := hD.sub (ws' := [(h0, .inr (11, [.int th, .ref tB, .int tsz, .int tat, .int wr, .int dp, .ref rC, .ref rV, .ref rD, .ref rK, .ref rT, .ref rS, .ref rU, .int lw, .int tx, .ref rL, .ref rX, .ref qR, .ref qB, .ref qP, .int qnb, .int qnp, .ref aR, .ref aB, .ref aP, .int nb, .int np, .ref aN, .ref rf, .int ho, .int br, .ref aK, .int ac, .long dw, .ref aE, .int sr, .int sf, .ref aA, .ref aH, .ref aI, .int hi])), (rC, .inl (cI, 2600, .inl fC)), (rV, .inl (cI, 2600, .inl fV)), (rK, .inl (cI, 5, .inl fK)), (rT, .inl (cI, 700, .inl fT)), (rS, .inl (cI, 700, .inl fS)), (rU, .inl (cI, 700, .inl fU)), (rL, .inl (cI, 6, .inl fL)), (rX, .inl (cI, 80, .inl fX)), (aB, .inl (cI, 24, .inl fBr)), (aP, .inl (cI, 20, .inl fPa)), (aN, .inl (cI, 97, .inl fN))]) [0, 1, 2, 3, 4, 5, 6, 7, 8, 9, 10, 11] (by decide) rfl
      have hFc := va_free (wc := [(h0, .inr (11, [.int th, .ref tB, .int tsz, .int tat, .int wr, .int dp, .ref rC, .ref rV, .ref rD, .ref rK, .ref rT, .ref rS, .ref rU, .int lw, .int tx, .ref rL, .ref rX, .ref qR, .ref qB, .ref qP, .int qnb, .int qnp, .ref aR, .ref aB, .ref aP, .int nb, .int np, .ref aN, .ref rf, .int ho, .int br, .ref aK, .int ac, .long dw, .ref aE, .int sr, .int sf, .ref aA, .ref aH, .ref aI, .int hi])), (rC, .inl (cI, 2600, .inl fC)), (rV, .inl (cI, 2600, .inl fV)), (rK, .inl (cI, 5, .inl fK)), (rT, .inl (cI, 700, .inl fT)), (rS, .inl (cI, 700, .inl fS)), (rU, .inl (cI, 700, .inl fU)), (rL, .inl (cI, 6, .inl fL)), (rX, .inl (cI, 80, .inl fX)), (aB, .inl (cI, 24, .inl fBr)), (aP, .inl (cI, 20, .inl fPa)), (aN, .inl (cI, 97, .inl fN))]) hD hS hA [0, 1, 2, 3, 4, 5, 6, 7, 8, 9, 10, 11] rfl
      refine va_calli (va_runV (As := [.int p0, .int p1, .int p2]) (rest := []) ⟨hx, hb, hml, hown, hts⟩ (g_X11_shownOf l dC dI cI cJ h0 p0 p1 p2 th tB tsz tat wr dp rC rV rD rK rT rS rU lw tx rL rX qR qB qP qnb qnp aR aB aP nb np aN rf ho br aK ac dw aE sr sf aA aH aI hi fC fV fK fT fS fU fL fX fBr fPa fN H.size (by omega) (by omega) (by omega) (by omega) (by omega) (by omega) (by omega) (by omega) (by omega) (by omega) (by omega) (by omega) (by omega) (hls) ci_fBr_zBr_nb ci_fN_zNw_np ci_fPa_zBr_np) (cwV 3 hts (zgV qw1438 qw1440 qw60 qw108 qw1441) rfl rfl rfl hd_X11_shownOf ⟨by rw [hR]; exact Nat.le_of_ble_eq_true rfl, by rw [hR]; exact Nat.le_of_ble_eq_true rfl⟩) (zPV hPc hK hDc (va_recv hK hP (ci := 11) (q0 := 0) rfl rfl)) rfl rfl hl.1 rfl (lv_room (Nat.le_of_ble_eq_true rfl)) dX11_shown_20 ⟨Nat.zero_le _, Nat.zero_le _⟩) hS (fun q _ h => hFc q h) hFc (fun v20 u20 t H locs ht hvm hw hB hz1 hk1 hS => ?_)
      obtain ⟨u20_0, u20_1⟩ := u20
      obtain ⟨hP1, hD1⟩ := hB
      rw [ht] at hP1
      obtain ⟨hP, hD⟩ := va_join (wr := []) (w1 := [(h0, .inr (11, [.int th, .ref tB, .int tsz, .int tat, .int wr, .int dp, .ref rC, .ref rV, .ref rD, .ref rK, .ref rT, .ref rS, .ref rU, .int lw, .int tx, .ref rL, .ref rX, .ref qR, .ref qB, .ref qP, .int qnb, .int qnp, .ref aR, .ref aB, .ref aP, .int nb, .int np, .ref aN, .ref rf, .int ho, .int br, .ref aK, .int ac, .long dw, .ref aE, .int sr, .int sf, .ref aA, .ref aH, .ref aI, .int hi])), (rC, .inl (cI, 2600, .inl fC)), (rV, .inl (cI, 2600, .inl fV)), (rK, .inl (cI, 5, .inl fK)), (rT, .inl (cI, 700, .inl fT)), (rS, .inl (cI, 700, .inl fS)), (rU, .inl (cI, 700, .inl fU)), (rL, .inl (cI, 6, .inl u20_0)), (rX, .inl (cI, 80, .inl u20_1)), (aB, .inl (cI, 24, .inl fBr)), (aP, .inl (cI, 20, .inl fPa)), (aN, .inl (cI, 97, .inl fN))]) hP hD [0, 1, 2, 3, 4, 5, 6, 7, 8, 9, 10, 11] [] rfl rfl (by decide) (by decide) hk1 hFc hP1 hD1
      have hP : va_P (dC, dI) vwCl [(h0, .inr (11, [.int th, .ref tB, .int tsz, .int tat, .int wr, .int dp, .ref rC, .ref rV, .ref rD, .ref rK, .ref rT, .ref rS, .ref rU, .int lw, .int tx, .ref rL, .ref rX, .ref qR, .ref qB, .ref qP, .int qnb, .int qnp, .ref aR, .ref aB, .ref aP, .int nb, .int np, .ref aN, .ref rf, .int ho, .int br, .ref aK, .int ac, .long dw, .ref aE, .int sr, .int sf, .ref aA, .ref aH, .ref aI, .int hi])), (rC, .inl (cI, 2600, .inl fC)), (rV, .inl (cI, 2600, .inl fV)), (rK, .inl (cI, 5, .inl fK)), (rT, .inl (cI, 700, .inl fT)), (rS, .inl (cI, 700, .inl fS)), (rU, .inl (cI, 700, .inl fU)), (rL, .inl (cI, 6, .inl u20_0)), (rX, .inl (cI, 80, .inl u20_1)), (aB, .inl (cI, 24, .inl fBr)), (aP, .inl (cI, 20, .inl fPa)), (aN, .inl (cI, 97, .inl fN))] H := hP.sub [0, 1, 2, 3, 4, 5, 6, 7, 8, 9, 10, 11] rfl
      have hD : va_D A [(h0, .inr (11, [.int th, .ref tB, .int tsz, .int tat, .int wr, .int dp, .ref rC, .ref rV, .ref rD, .ref rK, .ref rT, .ref rS, .ref rU, .int lw, .int tx, .ref rL, .ref rX, .ref qR, .ref qB, .ref qP, .int qnb, .int qnp, .ref aR, .ref aB, .ref aP, .int nb, .int np, .ref aN, .ref rf, .int ho, .int br, .ref aK, .int ac, .long dw, .ref aE, .int sr, .int sf, .ref aA, .ref aH, .ref aI, .int hi])), (rC, .inl (cI, 2600, .inl fC)), (rV, .inl (cI, 2600, .inl fV)), (rK, .inl (cI, 5, .inl fK)), (rT, .inl (cI, 700, .inl fT)), (rS, .inl (cI, 700, .inl fS)), (rU, .inl (cI, 700, .inl fU)), (rL, .inl (cI, 6, .inl u20_0)), (rX, .inl (cI, 80, .inl u20_1)), (aB, .inl (cI, 24, .inl fBr)), (aP, .inl (cI, 20, .inl fPa)), (aN, .inl (cI, 97, .inl fN))] := hD.sub [0, 1, 2, 3, 4, 5, 6, 7, 8, 9, 10, 11] (by decide) rfl
      obtain ⟨f20_0, f20_1, f20_2⟩ : ((-1) ≤ v20.toInt) ∧ (v20.toInt ≤ 9) ∧ (∀ lw : Option ((Int → Int) × Int), zLwR ho fC fV fK fT fS fU lw → zB5 p2 (fBr (4 * p1.toInt.toNat + 2)) (fN p1.toInt.toNat) (fPa (4 * p0.toInt.toNat)) (fN (6 + p0.toInt.toNat)) (fN 15) → v20 = zSh (fPa (4 * p0.toInt.toNat + 3)) (zLat (fun i => fN (17 + i)) p0 (fN 16).toInt.toNat) (zLkv lw p2 (fBr (4 * p1.toInt.toNat + 2)) (fN p1.toInt.toNat) (fPa (4 * p0.toInt.toNat)) (fN (6 + p0.toInt.toNat)) (fN 15))) := hw
      have F20 := f20_2
      refine lv_goto (tgt := 27) hx hb dX11_shown_23 (by decide) ?_
      rw [hQ]
      exact W.iret (v := v20) hx hb hr (fun t ht hW => ⟨⟨v20, (u20_0, u20_1), rfl, ⟨by (try dsimp only); omega, by (try dsimp only); omega, by (try dsimp only); exact fun kc kT q_fR q_fKp q_frf kl hc hb h hL => by unfold sV_sho; rw [if_pos (by omega)]; exact sShow_r hc hb h.1 (by omega) (by omega) (by omega) hL F20⟩, ⟨by rw [ht]; exact hP, hD⟩⟩, hS.F ht⟩) hS.2.2 dX11_shown_27
set_option maxHeartbeats 4000000 in
set_option maxRecDepth 100000 in
theorem g_X11_rule (l : Launch) (dC : Nat → ClassId) (dI : Nat → Nat → Nat) (cI cJ : ClassId) (h0 : Nat) (p0 : Int32) (th : Int32) (tB : Nat) (tsz : Int32) (tat : Int32) (wr : Int32) (dp : Int32) (rC : Nat) (rV : Nat) (rD : Nat) (rK : Nat) (rT : Nat) (rS : Nat) (rU : Nat) (lw : Int32) (tx : Int32) (rL : Nat) (rX : Nat) (qR : Nat) (qB : Nat) (qP : Nat) (qnb : Int32) (qnp : Int32) (aR : Nat) (aB : Nat) (aP : Nat) (nb : Int32) (np : Int32) (aN : Nat) (rf : Nat) (ho : Int32) (br : Int32) (aK : Nat) (ac : Int32) (dw : Int64) (aE : Nat) (sr : Int32) (sf : Int32) (aA : Nat) (aH : Nat) (aI : Nat) (hi : Int32) (fR : Nat → Int32) (fN : Nat → Int32) (sz : Nat) (n_ac : 0 ≤ ac.toInt ∧ ac.toInt ≤ 40) (n_hi : 0 ≤ hi.toInt ∧ hi.toInt ≤ 1) (n_ho : (-1) ≤ ho.toInt ∧ ho.toInt ≤ 3) (n_lw : 0 ≤ lw.toInt ∧ lw.toInt ≤ 4) (n_nb : 0 ≤ nb.toInt ∧ nb.toInt ≤ 6) (n_np : 0 ≤ np.toInt ∧ np.toInt ≤ 5) (n_qnb : 0 ≤ qnb.toInt ∧ qnb.toInt ≤ 6) (n_qnp : 0 ≤ qnp.toInt ∧ qnp.toInt ≤ 5) (n_tat : 0 ≤ tat.toInt ∧ tat.toInt ≤ 260) (n_tsz : 0 ≤ tsz.toInt ∧ tsz.toInt ≤ 240) (n_wr : (-1) ≤ wr.toInt ∧ wr.toInt ≤ 260)  (ci_fN_zNw_np : zNw np fN)  : Met l yX11_rule (.code yX11_rule cX11_rule 2 (some .int) :: wA) ({ frames := 1, cells := 0, slots := 0, locals := 22 }) (zP (dC, dI) [(cI, .int), (cJ, .long)] [.ref h0, .int p0] sz [(h0, .inr (11, [.int th, .ref tB, .int tsz, .int tat, .int wr, .int dp, .ref rC, .ref rV, .ref rD, .ref rK, .ref rT, .ref rS, .ref rU, .int lw, .int tx, .ref rL, .ref rX, .ref qR, .ref qB, .ref qP, .int qnb, .int qnp, .ref aR, .ref aB, .ref aP, .int nb, .int np, .ref aN, .ref rf, .int ho, .int br, .ref aK, .int ac, .long dw, .ref aE, .int sr, .int sf, .ref aA, .ref aH, .ref aI, .int hi])), (aR, .inl (cI, 3, .inl fR)), (aN, .inl (cI, 97, .inl fN))]) (va_Qi (fun (r : Int32) (u : Unit) => (∀ (kc : zK3) (kT : zT) (q_fBr : Nat → Int32) (q_fPa : Nat → Int32) (q_fKp : Nat → Int32) (q_frf : Nat → Int32), zCn fR q_fBr q_fPa nb.toInt np.toInt kc → zKo nb.toInt np.toInt kc kT → zTr nb.toInt np.toInt kT fN q_fKp ac q_frf → r = sV_rul nb.toInt kc kT.1 p0)) (fun (_ : Unit) (_ : State) => True) (va_A [] sz)) 0 0 (va_A [] sz) := by
  refine Met.ofW (cc := cX11_rule) (maxL := 2) (ret := (some .int)) (by decide) rfl ?_
  intro p e s m args below meth c s₁ B hml hv
  obtain ⟨hargs, hsz, hP, hK, hT⟩ := hv
  have hx := B.exec
  have hb := B.bytes
  have hr := B.returns
  have hts : ∀ w ∈ wA, w.before args s = true := fun w h => atoms_spec (ws := .code yX11_rule cX11_rule 2 (some .int) :: wA) B.pre w (List.mem_cons_of_mem _ h)
  have hown : s.vm.findClass RX11 = some m.cls := findClass_of_methodNamed B.named
  have hlocks := B.notSynchronized
  subst hsz
  have hD : va_D (va_A [] s.heap.size) [] := zD0
  generalize hAe : va_A [] s.heap.size = A at hD ⊢
  have hA : ∀ q : Nat, s.heap.size ≤ q → A q := fun q h => by rw [← hAe]; exact Or.inr h
  have hl := lv_entry ([.ref h0, .int p0]) (n := 2) (Nat.le_of_ble_eq_true rfl)
  rw [show entryFrame m args 2 = entryFrame m ([.ref h0, .int p0] : List Value).toArray 2 by rw [hargs], lg_entry_eq]
  generalize (lg_sl ([.ref h0, .int p0]) ++ List.replicate (2 - (lg_sl ([.ref h0, .int p0])).length) Slot.unset).toArray = ls at hl ⊢
  have hl : lv_has ls 2 [(0, .ref h0), (1, .int p0)] := hl
  refine zstart (fun H hH => ?_)
  rw [← hH] at hP
  have hS : va_S A s.heap H [] := by rw [hH]; exact va_S.rf
  generalize ([] : List Loc) = locs at hS ⊢
  refine zgen (fun R Q hR hQ => ?_)
  refine lv_aload_n hx hb dX11_rule_0 rfl (lv_at hl 0 rfl) ?_
  refine va_get (D := (dC, dI)) (ci := 11) (v := .int nb) (C := RX11) (T := TX11) (N := 41) hx hb hts iX11 hown hK hP 0 rfl rfl 25 (by decide) (hts _ qw1152) (fun _ h9 => h9) rfl dX11_rule_1 ?_
  refine lv_if_eq (tgt := 16) hx hb dX11_rule_4 (by decide) (fun c4 => ?_) (fun c4 => ?_)
  · have c4 : nb.toInt = 0 := z5 rfl (by decide) c4
    refine lv_iconst (v := (-1)) hx hb dX11_rule_16 (by decide) ?_
    refine lv_goto (tgt := 40) hx hb dX11_rule_17 (by decide) ?_
    have zr0 : ((-1) : Int32).toInt = (-1) := by decide
    rw [hQ]
    exact W.iret (v := ((-1))) hx hb hr (fun t ht hW => ⟨⟨(-1), (), rfl, (by (try dsimp only); exact fun kc kT q_fBr q_fPa q_fKp q_frf hc hb h => by rcases (show nb.toInt = 0 ∨ ¬ nb.toInt = 0 by omega) with z | z; (unfold sV_rul; rw [if_pos (by omega)]); unfold sV_rul; rw [if_neg (by omega), if_neg (by omega), if_neg (by omega), if_neg (by omega)]; ), trivial⟩, hS.F ht⟩) hS.2.2 dX11_rule_40
  · have c4 : ¬ nb.toInt = 0 := z6 rfl (by decide) c4
    refine lv_iload_n hx hb dX11_rule_7 rfl (lv_at hl 1 rfl) ?_
    refine lv_iconst (v := 0) hx hb dX11_rule_8 (by decide) ?_
    refine lv_iconst (v := 2) hx hb dX11_rule_9 (by decide) ?_
    have hPc : va_P (dC, dI) vwCl [] H := zP0
    have hDc : va_D (fun _ => True) [] := zD0
    have hFc := zfr hS hA
    refine va_calli (va_runS (As := [.int p0, .int 0, .int 2]) (rest := []) ⟨hx, hb, hml, hown, hts⟩ (g_X11_in l dC dI cI cJ p0 0 2 H.size) (cwS 3 hts (zgS qw1305 qw1306 qw108 qw1307) rfl rfl rfl hd_X11_in ⟨by rw [hR]; exact Nat.le_of_ble_eq_true rfl, by rw [hR]; exact Nat.le_of_ble_eq_true rfl⟩) (zPS hPc hK hDc) rfl rfl hl.1 rfl (lv_room (Nat.le_of_ble_eq_true rfl)) dX11_rule_10 ⟨Nat.zero_le _, Nat.zero_le _⟩) hS (fun q _ h => hFc q h) hFc (fun v10 u10 t H locs ht hvm hw hB hz1 hk1 hS => ?_)
    have hP := zkeep hP hk1
    have zn10_0 : (0 : Int32).toInt = 0 := by decide
    have zn10_2 : (2 : Int32).toInt = 2 := by decide
    obtain ⟨f10_0, f10_1, f10_2, f10_3⟩ : (0 ≤ v10.toInt) ∧ (v10.toInt ≤ 1) ∧ (¬ v10.toInt = 0 → ((0 : Int32).toInt ≤ p0.toInt ∧ p0.toInt ≤ (2 : Int32).toInt)) ∧ (v10.toInt = 0 → (p0.toInt < (0 : Int32).toInt ∨ (2 : Int32).toInt < p0.toInt)) := hw
    refine lv_if_ne (tgt := 20) hx hb dX11_rule_13 (by decide) (fun c13 => ?_) (fun c13 => ?_)
    · have c13 : ¬ v10.toInt = 0 := z6 rfl (by decide) c13
      refine lv_iload_n hx hb dX11_rule_20 rfl (lv_at hl 1 rfl) ?_
      refine lv_if_ne (tgt := 34) hx hb dX11_rule_21 (by decide) (fun c21 => ?_) (fun c21 => ?_)
      · have c21 : ¬ p0.toInt = 0 := z6 rfl (by decide) c21
        refine lv_aload_n hx hb dX11_rule_34 rfl (lv_at hl 0 rfl) ?_
        refine va_get (D := (dC, dI)) (ci := 11) (v := .ref aR) (C := RX11) (T := TX11) (N := 41) hx hb hts iX11 hown hK hP 0 rfl rfl 22 (by decide) (hts _ qw1149) (fun _ h9 => h9) rfl dX11_rule_35 ?_
        refine lv_iload_n hx hb dX11_rule_38 rfl (lv_at hl 1 rfl) ?_
        refine va_iald hx hb hK hP 1 0 rfl rfl (vp_in_iff.mpr ⟨by omega, by omega⟩) dX11_rule_39 ?_
        refine lv_topi (fun v39 e39 => ?_)
        rw [hQ]
        exact W.iret (v := v39) hx hb hr (fun t ht hW => ⟨⟨v39, (), rfl, (by (try dsimp only); exact fun kc kT q_fBr q_fPa q_fKp q_frf hc hb h => by rcases (show p0.toInt = 1 ∨ p0.toInt = 2 by omega) with z | z; (unfold sV_rul; rw [if_neg (by omega), if_neg (by omega), if_pos (by omega)]; exact (zIxN (n := 1) e39 (by omega)).trans (hc.1 1 (by decide))); (unfold sV_rul; rw [if_neg (by omega), if_neg (by omega), if_neg (by omega), if_pos (by omega)]; exact (zIxN (n := 2) e39 (by omega)).trans (hc.1 2 (by decide)))), trivial⟩, hS.F ht⟩) hS.2.2 dX11_rule_40
      · have c21 : p0.toInt = 0 := z5 rfl (by decide) c21
        refine lv_aload_n hx hb dX11_rule_24 rfl (lv_at hl 0 rfl) ?_
        refine va_get (D := (dC, dI)) (ci := 11) (v := .ref aN) (C := RX11) (T := TX11) (N := 41) hx hb hts iX11 hown hK hP 0 rfl rfl 27 (by decide) (hts _ qw1154) (fun _ h9 => h9) rfl dX11_rule_25 ?_
        refine lv_bipush (v := 14) hx hb dX11_rule_28 (by decide) ?_
        refine va_iald hx hb hK hP 2 0 rfl rfl (by unfold vp_in; decide) dX11_rule_30 ?_
        refine lv_topi (fun v30 e30 => ?_)
        refine lv_goto (tgt := 40) hx hb dX11_rule_31 (by decide) ?_
        rw [hQ]
        exact W.iret (v := v30) hx hb hr (fun t ht hW => ⟨⟨v30, (), rfl, (by (try dsimp only); exact fun kc kT q_fBr q_fPa q_fKp q_frf hc hb h => by have y30 : v30 = kT.1.2.2.2.1.1 := (zIxN (n := 14) e30 (by decide)).trans (zSr_pu h.1).symm; unfold sV_rul; rw [if_neg (by omega), if_pos (by omega)]; exact y30), trivial⟩, hS.F ht⟩) hS.2.2 dX11_rule_40
    · have c13 : v10.toInt = 0 := z5 rfl (by decide) c13
      refine lv_iconst (v := (-1)) hx hb dX11_rule_16 (by decide) ?_
      refine lv_goto (tgt := 40) hx hb dX11_rule_17 (by decide) ?_
      have zr0 : ((-1) : Int32).toInt = (-1) := by decide
      rw [hQ]
      exact W.iret (v := ((-1))) hx hb hr (fun t ht hW => ⟨⟨(-1), (), rfl, (by (try dsimp only); exact fun kc kT q_fBr q_fPa q_fKp q_frf hc hb h => by rcases (show nb.toInt = 0 ∨ ¬ nb.toInt = 0 by omega) with z | z; (unfold sV_rul; rw [if_pos (by omega)]); unfold sV_rul; rw [if_neg (by omega), if_neg (by omega), if_neg (by omega), if_neg (by omega)]; ), trivial⟩, hS.F ht⟩) hS.2.2 dX11_rule_40
