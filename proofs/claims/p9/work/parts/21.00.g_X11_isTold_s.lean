set_option maxHeartbeats 4000000 in
set_option maxRecDepth 100000 in
theorem g_X11_seen (l : Launch) (dC : Nat → ClassId) (dI : Nat → Nat → Nat) (cI cJ : ClassId) (h0 : Nat) (p0 : Int32) (th : Int32) (tB : Nat) (tsz : Int32) (tat : Int32) (wr : Int32) (dp : Int32) (rC : Nat) (rV : Nat) (rD : Nat) (rK : Nat) (rT : Nat) (rS : Nat) (rU : Nat) (lw : Int32) (tx : Int32) (rL : Nat) (rX : Nat) (qR : Nat) (qB : Nat) (qP : Nat) (qnb : Int32) (qnp : Int32) (aR : Nat) (aB : Nat) (aP : Nat) (nb : Int32) (np : Int32) (aN : Nat) (rf : Nat) (ho : Int32) (br : Int32) (aK : Nat) (ac : Int32) (dw : Int64) (aE : Nat) (sr : Int32) (sf : Int32) (aA : Nat) (aH : Nat) (aI : Nat) (hi : Int32) (fN : Nat → Int32) (sz : Nat) (n_ac : 0 ≤ ac.toInt ∧ ac.toInt ≤ 40) (n_hi : 0 ≤ hi.toInt ∧ hi.toInt ≤ 1) (n_ho : (-1) ≤ ho.toInt ∧ ho.toInt ≤ 3) (n_lw : 0 ≤ lw.toInt ∧ lw.toInt ≤ 4) (n_nb : 0 ≤ nb.toInt ∧ nb.toInt ≤ 6) (n_np : 0 ≤ np.toInt ∧ np.toInt ≤ 5) (n_qnb : 0 ≤ qnb.toInt ∧ qnb.toInt ≤ 6) (n_qnp : 0 ≤ qnp.toInt ∧ qnp.toInt ≤ 5) (n_tat : 0 ≤ tat.toInt ∧ tat.toInt ≤ 260) (n_tsz : 0 ≤ tsz.toInt ∧ tsz.toInt ≤ 240) (n_wr : (-1) ≤ wr.toInt ∧ wr.toInt ≤ 260)  (ci_fN_zNw_np : zNw np fN)  : Met l yX11_seen (.code yX11_seen cX11_seen 2 (some .int) :: wA) ({ frames := 2, cells := 0, slots := 0, locals := 45 }) (zP (dC, dI) [(cI, .int), (cJ, .long)] [.ref h0, .int p0] sz [(h0, .inr (11, [.int th, .ref tB, .int tsz, .int tat, .int wr, .int dp, .ref rC, .ref rV, .ref rD, .ref rK, .ref rT, .ref rS, .ref rU, .int lw, .int tx, .ref rL, .ref rX, .ref qR, .ref qB, .ref qP, .int qnb, .int qnp, .ref aR, .ref aB, .ref aP, .int nb, .int np, .ref aN, .ref rf, .int ho, .int br, .ref aK, .int ac, .long dw, .ref aE, .int sr, .int sf, .ref aA, .ref aH, .ref aI, .int hi])), (aN, .inl (cI, 97, .inl fN))]) (va_Qi (fun (r : Int32) (u : Unit) => ((-1) ≤ r.toInt) ∧ (r.toInt ≤ 20) ∧ (∀ (kc : zK3) (kT : zT) (q_fR : Nat → Int32) (q_fBr : Nat → Int32) (q_fPa : Nat → Int32) (q_fKp : Nat → Int32) (q_frf : Nat → Int32), zCn q_fR q_fBr q_fPa nb.toInt np.toInt kc → zKo nb.toInt np.toInt kc kT → zTr nb.toInt np.toInt kT fN q_fKp ac q_frf → r = sV_see nb.toInt kT.1 p0)) (fun (_ : Unit) (_ : State) => True) (va_A [] sz)) 0 0 (va_A [] sz) := by
  refine Met.ofW (cc := cX11_seen) (maxL := 2) (ret := (some .int)) (by decide) rfl ?_
  intro p e s m args below meth c s₁ B hml hv
  have y_ac : zHid (0 ≤ ac.toInt ∧ ac.toInt ≤ 40) := n_ac
  have y_hi : zHid (0 ≤ hi.toInt ∧ hi.toInt ≤ 1) := n_hi
  have y_ho : zHid ((-1) ≤ ho.toInt ∧ ho.toInt ≤ 3) := n_ho
  have y_lw : zHid (0 ≤ lw.toInt ∧ lw.toInt ≤ 4) := n_lw
  have y_qnb : zHid (0 ≤ qnb.toInt ∧ qnb.toInt ≤ 6) := n_qnb
  have y_qnp : zHid (0 ≤ qnp.toInt ∧ qnp.toInt ≤ 5) := n_qnp
  have y_tat : zHid (0 ≤ tat.toInt ∧ tat.toInt ≤ 260) := n_tat
  have y_tsz : zHid (0 ≤ tsz.toInt ∧ tsz.toInt ≤ 240) := n_tsz
  have y_wr : zHid ((-1) ≤ wr.toInt ∧ wr.toInt ≤ 260) := n_wr
  clear n_ac n_hi n_ho n_lw n_qnb n_qnp n_tat n_tsz n_wr
  obtain ⟨hargs, hsz, hP, hK, hT⟩ := hv
  have hx := B.exec
  have hb := B.bytes
  have hr := B.returns
  have hts : ∀ w ∈ wA, w.before args s = true := fun w h => atoms_spec (ws := .code yX11_seen cX11_seen 2 (some .int) :: wA) B.pre w (List.mem_cons_of_mem _ h)
  have hown : s.vm.findClass RX11 = some m.cls := findClass_of_methodNamed B.named
  have hlocks := B.notSynchronized
  subst hsz
  have hD : va_D (va_A [] s.heap.size) [] := zD0
  generalize hAe : va_A [] s.heap.size = A at hD ⊢
  have hA : ∀ q : Nat, s.heap.size ≤ q → A q := fun q h => by rw [← hAe]; exact Or.inr h
  have hl := lv_entry ([.ref h0, .int p0]) (n := 2) (Nat.le_of_ble_eq_true rfl)
  rw [show entryFrame m args 2 = entryFrame m ([.ref h0, .int p0] : List Value).toArray 2 by rw [hargs], lg_entry_eq]
  generalize (lg_sl ([.ref h0, .int p0]) ++ List.replicate (2 - (lg_sl ([.ref h0, .int p0])).length) Slot.unset).toArray = ls at hl ⊢
  have hl : lv_has ls 2 [(0, .ref h0), (1, .int p0)] := hl
  refine zstart (fun H hH => ?_)
  rw [← hH] at hP
  have hS : va_S A s.heap H [] := by rw [hH]; exact va_S.rf
  generalize ([] : List Loc) = locs at hS ⊢
  refine zgen (fun R Q hR hQ => ?_)
  refine lv_aload_n hx hb dX11_seen_0 rfl (lv_at hl 0 rfl) ?_
  refine lv_iload_n hx hb dX11_seen_1 rfl (lv_at hl 1 rfl) ?_
  obtain ⟨hPc, hDc⟩ := zc2 (wc := [(h0, .inr (11, [.int th, .ref tB, .int tsz, .int tat, .int wr, .int dp, .ref rC, .ref rV, .ref rD, .ref rK, .ref rT, .ref rS, .ref rU, .int lw, .int tx, .ref rL, .ref rX, .ref qR, .ref qB, .ref qP, .int qnb, .int qnp, .ref aR, .ref aB, .ref aP, .int nb, .int np, .ref aN, .ref rf, .int ho, .int br, .ref aK, .int ac, .long dw, .ref aE, .int sr, .int sf, .ref aA, .ref aH, .ref aI, .int hi]))]) hP hT [0] (by decide +kernel) rfl
  have hFc := zfr hS hA
  refine va_calli (va_runV (As := [.int p0]) (rest := []) ⟨hx, hb, hml, hown, hts⟩ (g_X11_isBride l dC dI cI cJ h0 p0 th tB tsz tat wr dp rC rV rD rK rT rS rU lw tx rL rX qR qB qP qnb qnp aR aB aP nb np aN rf ho br aK ac dw aE sr sf aA aH aI hi H.size y_ac y_hi y_ho y_lw n_nb n_np y_qnb y_qnp y_tat y_tsz y_wr) (cwV 1 hts (zgV qw1402 qw1404 qw56 qw108 qw1405) rfl rfl rfl hd_X11_isBride ⟨by rw [hR]; exact Nat.le_of_ble_eq_true rfl, by rw [hR]; exact Nat.le_of_ble_eq_true rfl⟩) (zPV hPc hK hDc (va_recv (q := (RX11, TX11, 41)) hK hP (ci := 11) (q0 := 0) rfl rfl)) rfl rfl hl.1 rfl (lv_room (Nat.le_of_ble_eq_true rfl)) dX11_seen_2 ⟨Nat.zero_le _, Nat.zero_le _⟩) hS (fun q _ h => hFc q h) hFc (fun v2 u2 t H locs ht hvm hw hB hz1 hk1 hS9 => ?_)
  replace hP := zkeep hP hk1
  replace hS := hS9
  clear hPc hDc hFc hk1 hz1 hvm hS9
  obtain ⟨f2_0, f2_1, f2_2, f2_3⟩ : (0 ≤ v2.toInt) ∧ (v2.toInt ≤ 1) ∧ (¬ v2.toInt = 0 → (0 ≤ p0.toInt ∧ p0.toInt < nb.toInt)) ∧ (v2.toInt = 0 → ¬ (0 ≤ p0.toInt ∧ p0.toInt < nb.toInt)) := hw
  refine lv_if_eq (tgt := 16) hx hb dX11_seen_5 (by decide) (fun c5 => ?_) (fun c5 => ?_)
  · have c5 : v2.toInt = 0 := z5 rfl (by decide) c5
    refine lv_iconst (v := (-1)) hx hb dX11_seen_16 (by decide) ?_
    have zr0 : ((-1) : Int32).toInt = (-1) := by decide
    rw [hQ]
    exact W.iret (v := ((-1))) hx hb hr (fun t ht hW => ⟨⟨(-1), (), rfl, ⟨by (try dsimp only); omega, by (try dsimp only); omega, by (try dsimp only); exact fun kc kT q_fR q_fBr q_fPa q_fKp q_frf hc hb h => by unfold sV_see; rw [if_neg (by omega)]; ⟩, trivial⟩, hS.F ht⟩) hS.2.2 dX11_seen_17
  · have c5 : ¬ v2.toInt = 0 := z6 rfl (by decide) c5
    refine lv_aload_n hx hb dX11_seen_8 rfl (lv_at hl 0 rfl) ?_
    refine lv_iload_n hx hb dX11_seen_9 rfl (lv_at hl 1 rfl) ?_
    obtain ⟨hPc, hDc⟩ := zc2 (wc := [(h0, .inr (11, [.int th, .ref tB, .int tsz, .int tat, .int wr, .int dp, .ref rC, .ref rV, .ref rD, .ref rK, .ref rT, .ref rS, .ref rU, .int lw, .int tx, .ref rL, .ref rX, .ref qR, .ref qB, .ref qP, .int qnb, .int qnp, .ref aR, .ref aB, .ref aP, .int nb, .int np, .ref aN, .ref rf, .int ho, .int br, .ref aK, .int ac, .long dw, .ref aE, .int sr, .int sf, .ref aA, .ref aH, .ref aI, .int hi])), (aN, .inl (cI, 97, .inl fN))]) hP hT [0, 1] (by decide +kernel) rfl
    have hFc := zfr hS hA
    refine va_calli (va_runV (As := [.int p0]) (rest := []) ⟨hx, hb, hml, hown, hts⟩ (g_X11_seenOf l dC dI cI cJ h0 p0 th tB tsz tat wr dp rC rV rD rK rT rS rU lw tx rL rX qR qB qP qnb qnp aR aB aP nb np aN rf ho br aK ac dw aE sr sf aA aH aI hi fN H.size y_ac y_hi y_ho y_lw n_nb n_np y_qnb y_qnp y_tat y_tsz y_wr ci_fN_zNw_np) (cwV 1 hts (zgV qw1525 qw1527 qw71 qw108 qw1528) rfl rfl rfl hd_X11_seenOf ⟨by rw [hR]; exact Nat.le_of_ble_eq_true rfl, by rw [hR]; exact Nat.le_of_ble_eq_true rfl⟩) (zPV hPc hK hDc (va_recv (q := (RX11, TX11, 41)) hK hP (ci := 11) (q0 := 0) rfl rfl)) rfl rfl hl.1 rfl (lv_room (Nat.le_of_ble_eq_true rfl)) dX11_seen_10 ⟨Nat.zero_le _, Nat.zero_le _⟩) hS (fun q _ h => hFc q h) hFc (fun v10 u10 t H locs ht hvm hw hB hz1 hk1 hS9 => ?_)
    replace hP := zkeep hP hk1
    replace hS := hS9
    clear hPc hDc hFc hk1 hz1 hvm hS9
    obtain ⟨f10_0, f10_1, f10_2, f10_3⟩ : (0 ≤ v10.toInt) ∧ (v10.toInt ≤ 20) ∧ (v10.toInt = (zCt fN p0 (fN 16).toInt.toNat : Int)) ∧ (v10 = zCnt (fun i => fN (17 + i)) p0 (fN 16).toInt.toNat) := hw
    have F10 := f10_3
    refine lv_goto (tgt := 17) hx hb dX11_seen_13 (by decide) ?_
    rw [hQ]
    exact W.iret (v := v10) hx hb hr (fun t ht hW => ⟨⟨v10, (), rfl, ⟨by (try dsimp only); omega, by (try dsimp only); omega, by (try dsimp only); exact fun kc kT q_fR q_fBr q_fPa q_fKp q_frf hc hb h => by unfold sV_see; rw [if_pos (by omega)]; rw [zSr_pn h.1, ← zCnt_c (P := fun i => fN (17 + i)) (zSr_P h.1), ← F10]⟩, trivial⟩, hS.F ht⟩) hS.2.2 dX11_seen_17
set_option maxHeartbeats 4000000 in
set_option maxRecDepth 100000 in
theorem g_X11_saves (l : Launch) (dC : Nat → ClassId) (dI : Nat → Nat → Nat) (cI cJ : ClassId) (h0 : Nat) (p0 : Int32) (th : Int32) (tB : Nat) (tsz : Int32) (tat : Int32) (wr : Int32) (dp : Int32) (rC : Nat) (rV : Nat) (rD : Nat) (rK : Nat) (rT : Nat) (rS : Nat) (rU : Nat) (lw : Int32) (tx : Int32) (rL : Nat) (rX : Nat) (qR : Nat) (qB : Nat) (qP : Nat) (qnb : Int32) (qnp : Int32) (aR : Nat) (aB : Nat) (aP : Nat) (nb : Int32) (np : Int32) (aN : Nat) (rf : Nat) (ho : Int32) (br : Int32) (aK : Nat) (ac : Int32) (dw : Int64) (aE : Nat) (sr : Int32) (sf : Int32) (aA : Nat) (aH : Nat) (aI : Nat) (hi : Int32) (fN : Nat → Int32) (sz : Nat) (n_ac : 0 ≤ ac.toInt ∧ ac.toInt ≤ 40) (n_hi : 0 ≤ hi.toInt ∧ hi.toInt ≤ 1) (n_ho : (-1) ≤ ho.toInt ∧ ho.toInt ≤ 3) (n_lw : 0 ≤ lw.toInt ∧ lw.toInt ≤ 4) (n_nb : 0 ≤ nb.toInt ∧ nb.toInt ≤ 6) (n_np : 0 ≤ np.toInt ∧ np.toInt ≤ 5) (n_qnb : 0 ≤ qnb.toInt ∧ qnb.toInt ≤ 6) (n_qnp : 0 ≤ qnp.toInt ∧ qnp.toInt ≤ 5) (n_tat : 0 ≤ tat.toInt ∧ tat.toInt ≤ 260) (n_tsz : 0 ≤ tsz.toInt ∧ tsz.toInt ≤ 240) (n_wr : (-1) ≤ wr.toInt ∧ wr.toInt ≤ 260)  (ci_fN_zNw_np : zNw np fN)  : Met l yX11_saves (.code yX11_saves cX11_saves 2 (some .int) :: wA) ({ frames := 1, cells := 0, slots := 0, locals := 30 }) (zP (dC, dI) [(cI, .int), (cJ, .long)] [.ref h0, .int p0] sz [(h0, .inr (11, [.int th, .ref tB, .int tsz, .int tat, .int wr, .int dp, .ref rC, .ref rV, .ref rD, .ref rK, .ref rT, .ref rS, .ref rU, .int lw, .int tx, .ref rL, .ref rX, .ref qR, .ref qB, .ref qP, .int qnb, .int qnp, .ref aR, .ref aB, .ref aP, .int nb, .int np, .ref aN, .ref rf, .int ho, .int br, .ref aK, .int ac, .long dw, .ref aE, .int sr, .int sf, .ref aA, .ref aH, .ref aI, .int hi])), (aN, .inl (cI, 97, .inl fN))]) (va_Qi (fun (r : Int32) (u : Unit) => ((-1) ≤ r.toInt) ∧ (∀ (kc : zK3) (kT : zT) (q_fR : Nat → Int32) (q_fBr : Nat → Int32) (q_fPa : Nat → Int32) (q_fKp : Nat → Int32) (q_frf : Nat → Int32), zCn q_fR q_fBr q_fPa nb.toInt np.toInt kc → zKo nb.toInt np.toInt kc kT → zTr nb.toInt np.toInt kT fN q_fKp ac q_frf → r = sV_sav nb.toInt kT.1 p0)) (fun (_ : Unit) (_ : State) => True) (va_A [] sz)) 0 0 (va_A [] sz) := by
  refine Met.ofW (cc := cX11_saves) (maxL := 2) (ret := (some .int)) (by decide) rfl ?_
  intro p e s m args below meth c s₁ B hml hv
  have y_ac : zHid (0 ≤ ac.toInt ∧ ac.toInt ≤ 40) := n_ac
  have y_hi : zHid (0 ≤ hi.toInt ∧ hi.toInt ≤ 1) := n_hi
  have y_ho : zHid ((-1) ≤ ho.toInt ∧ ho.toInt ≤ 3) := n_ho
  have y_lw : zHid (0 ≤ lw.toInt ∧ lw.toInt ≤ 4) := n_lw
  have y_qnb : zHid (0 ≤ qnb.toInt ∧ qnb.toInt ≤ 6) := n_qnb
  have y_qnp : zHid (0 ≤ qnp.toInt ∧ qnp.toInt ≤ 5) := n_qnp
  have y_tat : zHid (0 ≤ tat.toInt ∧ tat.toInt ≤ 260) := n_tat
  have y_tsz : zHid (0 ≤ tsz.toInt ∧ tsz.toInt ≤ 240) := n_tsz
  have y_wr : zHid ((-1) ≤ wr.toInt ∧ wr.toInt ≤ 260) := n_wr
  clear n_ac n_hi n_ho n_lw n_qnb n_qnp n_tat n_tsz n_wr
  obtain ⟨hargs, hsz, hP, hK, hT⟩ := hv
  have hx := B.exec
  have hb := B.bytes
  have hr := B.returns
  have hts : ∀ w ∈ wA, w.before args s = true := fun w h => atoms_spec (ws := .code yX11_saves cX11_saves 2 (some .int) :: wA) B.pre w (List.mem_cons_of_mem _ h)
  have hown : s.vm.findClass RX11 = some m.cls := findClass_of_methodNamed B.named
  have hlocks := B.notSynchronized
  subst hsz
  have hD : va_D (va_A [] s.heap.size) [] := zD0
  generalize hAe : va_A [] s.heap.size = A at hD ⊢
  have hA : ∀ q : Nat, s.heap.size ≤ q → A q := fun q h => by rw [← hAe]; exact Or.inr h
  have hl := lv_entry ([.ref h0, .int p0]) (n := 2) (Nat.le_of_ble_eq_true rfl)
  rw [show entryFrame m args 2 = entryFrame m ([.ref h0, .int p0] : List Value).toArray 2 by rw [hargs], lg_entry_eq]
  generalize (lg_sl ([.ref h0, .int p0]) ++ List.replicate (2 - (lg_sl ([.ref h0, .int p0])).length) Slot.unset).toArray = ls at hl ⊢
  have hl : lv_has ls 2 [(0, .ref h0), (1, .int p0)] := hl
  refine zstart (fun H hH => ?_)
  rw [← hH] at hP
  have hS : va_S A s.heap H [] := by rw [hH]; exact va_S.rf
  generalize ([] : List Loc) = locs at hS ⊢
  refine zgen (fun R Q hR hQ => ?_)
  refine lv_aload_n hx hb dX11_saves_0 rfl (lv_at hl 0 rfl) ?_
  refine va_get (D := (dC, dI)) (ci := 11) (v := .int nb) (C := RX11) (T := TX11) (N := 41) hx hb hts iX11 hown hK hP 0 rfl rfl 25 (by decide) (hts _ qw1152) (fun _ h9 => h9) rfl dX11_saves_1 ?_
  refine lv_if_le (tgt := 34) hx hb dX11_saves_4 (by decide) (fun c4 => ?_) (fun c4 => ?_)
  · have c4 : nb.toInt ≤ 0 := z3 rfl (by decide) c4
    refine lv_iconst (v := (-1)) hx hb dX11_saves_34 (by decide) ?_
    have zr0 : ((-1) : Int32).toInt = (-1) := by decide
    rw [hQ]
    exact W.iret (v := ((-1))) hx hb hr (fun t ht hW => ⟨⟨(-1), (), rfl, ⟨by (try dsimp only); omega, by (try dsimp only); exact fun kc kT q_fR q_fBr q_fPa q_fKp q_frf hc hb h => by unfold sV_sav; rw [if_neg (by omega)]; ⟩, trivial⟩, hS.F ht⟩) hS.2.2 dX11_saves_35
  · have c4 : 0 < nb.toInt := z4 rfl (by decide) c4
    refine lv_iload_n hx hb dX11_saves_7 rfl (lv_at hl 1 rfl) ?_
    refine lv_iconst (v := 1) hx hb dX11_saves_8 (by decide) ?_
    refine lv_sipush (v := 999) hx hb dX11_saves_9 (by decide) ?_
    have hPc : va_P (dC, dI) vwCl [] H := zP0
    have hDc : va_D (fun _ => True) [] := zD0
    have hFc := zfr hS hA
    refine va_calli (va_runS (As := [.int p0, .int 1, .int 999]) (rest := []) ⟨hx, hb, hml, hown, hts⟩ (g_X11_in l dC dI cI cJ p0 1 999 H.size) (cwS 3 hts (zgS qw1305 qw1306 qw108 qw1307) rfl rfl rfl hd_X11_in ⟨by rw [hR]; exact Nat.le_of_ble_eq_true rfl, by rw [hR]; exact Nat.le_of_ble_eq_true rfl⟩) (zPS hPc hK hDc) rfl rfl hl.1 rfl (lv_room (Nat.le_of_ble_eq_true rfl)) dX11_saves_12 ⟨Nat.zero_le _, Nat.zero_le _⟩) hS (fun q _ h => hFc q h) hFc (fun v12 u12 t H locs ht hvm hw hB hz1 hk1 hS9 => ?_)
    replace hP := zkeep hP hk1
    replace hS := hS9
    clear hPc hDc hFc hk1 hz1 hvm hS9
    have zn12_1 : (1 : Int32).toInt = 1 := by decide
    have zn12_999 : (999 : Int32).toInt = 999 := by decide
    obtain ⟨f12_0, f12_1, f12_2, f12_3⟩ : (0 ≤ v12.toInt) ∧ (v12.toInt ≤ 1) ∧ (¬ v12.toInt = 0 → ((1 : Int32).toInt ≤ p0.toInt ∧ p0.toInt ≤ (999 : Int32).toInt)) ∧ (v12.toInt = 0 → (p0.toInt < (1 : Int32).toInt ∨ (999 : Int32).toInt < p0.toInt)) := hw
    refine lv_if_eq (tgt := 34) hx hb dX11_saves_15 (by decide) (fun c15 => ?_) (fun c15 => ?_)
    · have c15 : v12.toInt = 0 := z5 rfl (by decide) c15
      refine lv_iconst (v := (-1)) hx hb dX11_saves_34 (by decide) ?_
      have zr0 : ((-1) : Int32).toInt = (-1) := by decide
      rw [hQ]
      exact W.iret (v := ((-1))) hx hb hr (fun t ht hW => ⟨⟨(-1), (), rfl, ⟨by (try dsimp only); omega, by (try dsimp only); exact fun kc kT q_fR q_fBr q_fPa q_fKp q_frf hc hb h => by unfold sV_sav; rw [if_neg (by omega)]; ⟩, trivial⟩, hS.F ht⟩) hS.2.2 dX11_saves_35
    · have c15 : ¬ v12.toInt = 0 := z6 rfl (by decide) c15
      refine lv_iconst (v := 0) hx hb dX11_saves_18 (by decide) ?_
      refine lv_iload_n hx hb dX11_saves_19 rfl (lv_at hl 1 rfl) ?_
      refine lv_aload_n hx hb dX11_saves_20 rfl (lv_at hl 0 rfl) ?_
      refine va_get (D := (dC, dI)) (ci := 11) (v := .ref aN) (C := RX11) (T := TX11) (N := 41) hx hb hts iX11 hown hK hP 0 rfl rfl 27 (by decide) (hts _ qw1154) (fun _ h9 => h9) rfl dX11_saves_21 ?_
      refine lv_bipush (v := 14) hx hb dX11_saves_24 (by decide) ?_
      refine va_iald hx hb hK hP 1 0 rfl rfl (by unfold vp_in; decide) dX11_saves_26 ?_
      refine lv_topi (fun v26 e26 => ?_)
      refine lv_isub hx hb dX11_saves_27 ?_
      refine lv_topi (fun v27 e27 => ?_)
      refine va_mmax hx hb (by rw [hml]; exact hl.1.symm) hown (hts _ qw1430) (hts _ qw634) (hts _ qw112) (hts _ qw635) (by rw [hR]; exact Nat.le_of_ble_eq_true rfl) (by rw [hR]; exact Nat.le_of_ble_eq_true rfl) (Nat.zero_le _) (Nat.zero_le _) dX11_saves_28 ?_
      refine lv_topi (fun v28 e28 => ?_)
      have zc28_0 : (0 : Int32).toInt = 0 := by decide
      have i28 := zmmax e28
      refine lv_goto (tgt := 35) hx hb dX11_saves_31 (by decide) ?_
      rw [hQ]
      exact W.iret (v := v28) hx hb hr (fun t ht hW => ⟨⟨v28, (), rfl, ⟨by (try dsimp only); omega, by (try dsimp only); exact fun kc kT q_fR q_fBr q_fPa q_fKp q_frf hc hb h => by have y26 : v26 = kT.1.2.2.2.1.1 := (zIxN (n := 14) e26 (by decide)).trans (zSr_pu h.1).symm; unfold sV_sav; rw [if_pos (by omega)]; rw [← y26, ← e27]; exact e28⟩, trivial⟩, hS.F ht⟩) hS.2.2 dX11_saves_35
set_option maxHeartbeats 4000000 in
set_option maxRecDepth 100000 in
theorem g_X11_rivals (l : Launch) (dC : Nat → ClassId) (dI : Nat → Nat → Nat) (cI cJ : ClassId) (h0 : Nat) (p0 : Int32) (th : Int32) (tB : Nat) (tsz : Int32) (tat : Int32) (wr : Int32) (dp : Int32) (rC : Nat) (rV : Nat) (rD : Nat) (rK : Nat) (rT : Nat) (rS : Nat) (rU : Nat) (lw : Int32) (tx : Int32) (rL : Nat) (rX : Nat) (qR : Nat) (qB : Nat) (qP : Nat) (qnb : Int32) (qnp : Int32) (aR : Nat) (aB : Nat) (aP : Nat) (nb : Int32) (np : Int32) (aN : Nat) (rf : Nat) (ho : Int32) (br : Int32) (aK : Nat) (ac : Int32) (dw : Int64) (aE : Nat) (sr : Int32) (sf : Int32) (aA : Nat) (aH : Nat) (aI : Nat) (hi : Int32) (fR : Nat → Int32) (fBr : Nat → Int32) (sz : Nat) (n_ac : 0 ≤ ac.toInt ∧ ac.toInt ≤ 40) (n_hi : 0 ≤ hi.toInt ∧ hi.toInt ≤ 1) (n_ho : (-1) ≤ ho.toInt ∧ ho.toInt ≤ 3) (n_lw : 0 ≤ lw.toInt ∧ lw.toInt ≤ 4) (n_nb : 0 ≤ nb.toInt ∧ nb.toInt ≤ 6) (n_np : 0 ≤ np.toInt ∧ np.toInt ≤ 5) (n_qnb : 0 ≤ qnb.toInt ∧ qnb.toInt ≤ 6) (n_qnp : 0 ≤ qnp.toInt ∧ qnp.toInt ≤ 5) (n_tat : 0 ≤ tat.toInt ∧ tat.toInt ≤ 260) (n_tsz : 0 ≤ tsz.toInt ∧ tsz.toInt ≤ 240) (n_wr : (-1) ≤ wr.toInt ∧ wr.toInt ≤ 260)    : Met l yX11_rivals (.code yX11_rivals cX11_rivals 4 (some .int) :: wA) ({ frames := 3, cells := 0, slots := 0, locals := 66 }) (zP (dC, dI) [(cI, .int), (cJ, .long)] [.ref h0, .int p0] sz [(h0, .inr (11, [.int th, .ref tB, .int tsz, .int tat, .int wr, .int dp, .ref rC, .ref rV, .ref rD, .ref rK, .ref rT, .ref rS, .ref rU, .int lw, .int tx, .ref rL, .ref rX, .ref qR, .ref qB, .ref qP, .int qnb, .int qnp, .ref aR, .ref aB, .ref aP, .int nb, .int np, .ref aN, .ref rf, .int ho, .int br, .ref aK, .int ac, .long dw, .ref aE, .int sr, .int sf, .ref aA, .ref aH, .ref aI, .int hi])), (aR, .inl (cI, 3, .inl fR)), (aB, .inl (cI, 24, .inl fBr))]) (va_Qi (fun (r : Int32) (u : Unit) => (((0 ≤ p0.toInt ∧ p0.toInt < nb.toInt) → r = zRv (zTw fR fBr) p0.toInt.toNat nb.toInt.toNat) ∧ (¬ (0 ≤ p0.toInt ∧ p0.toInt < nb.toInt) → r = -1))) (fun (_ : Unit) (_ : State) => True) (va_A [] sz)) 0 0 (va_A [] sz) := by
  refine Met.ofW (cc := cX11_rivals) (maxL := 4) (ret := (some .int)) (by decide) rfl ?_
  intro p e s m args below meth c s₁ B hml hv
  have y_ac : zHid (0 ≤ ac.toInt ∧ ac.toInt ≤ 40) := n_ac
  have y_hi : zHid (0 ≤ hi.toInt ∧ hi.toInt ≤ 1) := n_hi
  have y_ho : zHid ((-1) ≤ ho.toInt ∧ ho.toInt ≤ 3) := n_ho
  have y_lw : zHid (0 ≤ lw.toInt ∧ lw.toInt ≤ 4) := n_lw
  have y_np : zHid (0 ≤ np.toInt ∧ np.toInt ≤ 5) := n_np
  have y_qnb : zHid (0 ≤ qnb.toInt ∧ qnb.toInt ≤ 6) := n_qnb
  have y_qnp : zHid (0 ≤ qnp.toInt ∧ qnp.toInt ≤ 5) := n_qnp
  have y_tat : zHid (0 ≤ tat.toInt ∧ tat.toInt ≤ 260) := n_tat
  have y_tsz : zHid (0 ≤ tsz.toInt ∧ tsz.toInt ≤ 240) := n_tsz
  have y_wr : zHid ((-1) ≤ wr.toInt ∧ wr.toInt ≤ 260) := n_wr
  clear n_ac n_hi n_ho n_lw n_np n_qnb n_qnp n_tat n_tsz n_wr
  obtain ⟨hargs, hsz, hP, hK, hT⟩ := hv
  have hx := B.exec
  have hb := B.bytes
  have hr := B.returns
  have hts : ∀ w ∈ wA, w.before args s = true := fun w h => atoms_spec (ws := .code yX11_rivals cX11_rivals 4 (some .int) :: wA) B.pre w (List.mem_cons_of_mem _ h)
  have hown : s.vm.findClass RX11 = some m.cls := findClass_of_methodNamed B.named
  have hlocks := B.notSynchronized
  subst hsz
  have hD : va_D (va_A [] s.heap.size) [] := zD0
  generalize hAe : va_A [] s.heap.size = A at hD ⊢
  have hA : ∀ q : Nat, s.heap.size ≤ q → A q := fun q h => by rw [← hAe]; exact Or.inr h
  have hl := lv_entry ([.ref h0, .int p0]) (n := 4) (Nat.le_of_ble_eq_true rfl)
  rw [show entryFrame m args 4 = entryFrame m ([.ref h0, .int p0] : List Value).toArray 4 by rw [hargs], lg_entry_eq]
  generalize (lg_sl ([.ref h0, .int p0]) ++ List.replicate (4 - (lg_sl ([.ref h0, .int p0])).length) Slot.unset).toArray = ls at hl ⊢
  have hl : lv_has ls 4 [(0, .ref h0), (1, .int p0)] := hl
  refine zstart (fun H hH => ?_)
  rw [← hH] at hP
  have hS : va_S A s.heap H [] := by rw [hH]; exact va_S.rf
  generalize ([] : List Loc) = locs at hS ⊢
  refine zgen (fun R Q hR hQ => ?_)
  refine lv_aload_n hx hb dX11_rivals_0 rfl (lv_at hl 0 rfl) ?_
  refine lv_iload_n hx hb dX11_rivals_1 rfl (lv_at hl 1 rfl) ?_
  obtain ⟨hPc, hDc⟩ := zc2 (wc := [(h0, .inr (11, [.int th, .ref tB, .int tsz, .int tat, .int wr, .int dp, .ref rC, .ref rV, .ref rD, .ref rK, .ref rT, .ref rS, .ref rU, .int lw, .int tx, .ref rL, .ref rX, .ref qR, .ref qB, .ref qP, .int qnb, .int qnp, .ref aR, .ref aB, .ref aP, .int nb, .int np, .ref aN, .ref rf, .int ho, .int br, .ref aK, .int ac, .long dw, .ref aE, .int sr, .int sf, .ref aA, .ref aH, .ref aI, .int hi]))]) hP hT [0] (by decide +kernel) rfl
  have hFc := zfr hS hA
  refine va_calli (va_runV (As := [.int p0]) (rest := []) ⟨hx, hb, hml, hown, hts⟩ (g_X11_isBride l dC dI cI cJ h0 p0 th tB tsz tat wr dp rC rV rD rK rT rS rU lw tx rL rX qR qB qP qnb qnp aR aB aP nb np aN rf ho br aK ac dw aE sr sf aA aH aI hi H.size y_ac y_hi y_ho y_lw n_nb y_np y_qnb y_qnp y_tat y_tsz y_wr) (cwV 1 hts (zgV qw1402 qw1404 qw56 qw108 qw1405) rfl rfl rfl hd_X11_isBride ⟨by rw [hR]; exact Nat.le_of_ble_eq_true rfl, by rw [hR]; exact Nat.le_of_ble_eq_true rfl⟩) (zPV hPc hK hDc (va_recv (q := (RX11, TX11, 41)) hK hP (ci := 11) (q0 := 0) rfl rfl)) rfl rfl hl.1 rfl (lv_room (Nat.le_of_ble_eq_true rfl)) dX11_rivals_2 ⟨Nat.zero_le _, Nat.zero_le _⟩) hS (fun q _ h => hFc q h) hFc (fun v2 u2 t H locs ht hvm hw hB hz1 hk1 hS9 => ?_)
  replace hP := zkeep hP hk1
  replace hS := hS9
  clear hPc hDc hFc hk1 hz1 hvm hS9
  obtain ⟨f2_0, f2_1, f2_2, f2_3⟩ : (0 ≤ v2.toInt) ∧ (v2.toInt ≤ 1) ∧ (¬ v2.toInt = 0 → (0 ≤ p0.toInt ∧ p0.toInt < nb.toInt)) ∧ (v2.toInt = 0 → ¬ (0 ≤ p0.toInt ∧ p0.toInt < nb.toInt)) := hw
  refine lv_if_ne (tgt := 10) hx hb dX11_rivals_5 (by decide) (fun c5 => ?_) (fun c5 => ?_)
  · have c5 : ¬ v2.toInt = 0 := z6 rfl (by decide) c5
    refine lv_iconst (v := 0) hx hb dX11_rivals_10 (by decide) ?_
    refine lv_istore_n (lv' := [(2, .int 0), (0, .ref h0), (1, .int p0)]) hx hb dX11_rivals_11 rfl hl (by decide) rfl (fun ls hl => ?_)
    refine lv_iconst (v := 0) hx hb dX11_rivals_12 (by decide) ?_
    have J14 : ∀ (n : Nat) (m14_L_2 : Int32) (m14_L_3 : Int32), (0 ≤ m14_L_3.toInt ∧ m14_L_3.toInt ≤ 6) → (m14_L_2 = zRv (zTw fR fBr) p0.toInt.toNat m14_L_3.toInt.toNat) → (m14_L_3.toInt ≤ nb.toInt) → (7 - m14_L_3.toInt).toNat = n → ∀ (H : Heap) (locs : List Loc) (ls : Array Slot), va_P (dC, dI) vwCl [(h0, .inr (11, [.int th, .ref tB, .int tsz, .int tat, .int wr, .int dp, .ref rC, .ref rV, .ref rD, .ref rK, .ref rT, .ref rS, .ref rU, .int lw, .int tx, .ref rL, .ref rX, .ref qR, .ref qB, .ref qP, .int qnb, .int qnp, .ref aR, .ref aB, .ref aP, .int nb, .int np, .ref aN, .ref rf, .int ho, .int br, .ref aK, .int ac, .long dw, .ref aE, .int sr, .int sf, .ref aA, .ref aH, .ref aI, .int hi])), (aR, .inl (cI, 3, .inl fR)), (aB, .inl (cI, 24, .inl fBr))] H → va_S A s.heap H locs → lv_has ls 4 [(3, .int m14_L_3), (2, .int m14_L_2), (0, .ref h0), (1, .int p0)] → W p l e R s m args below meth c H locs 0 0 Q (F0 m 14 ls []) := by
      intro n14
      induction n14 using Nat.strongRecOn with
      | _ n14 ih14 =>
        intro m14_L_2 m14_L_3 jf14_0 jv14_0 jf14_2 hmu14 H locs ls hP hS hl
        refine lv_iload_n hx hb dX11_rivals_14 rfl (lv_at hl 0 rfl) ?_
        refine lv_aload_n hx hb dX11_rivals_15 rfl (lv_at hl 2 rfl) ?_
        refine va_get (D := (dC, dI)) (ci := 11) (v := .int nb) (C := RX11) (T := TX11) (N := 41) hx hb hts iX11 hown hK hP 0 rfl rfl 25 (by decide) (hts _ qw1152) (fun _ h9 => h9) rfl dX11_rivals_16 ?_
        refine lv_icmp_ge (tgt := 53) hx hb dX11_rivals_19 (by decide) (fun c19 => ?_) (fun c19 => ?_)
        · have c19 : nb.toInt ≤ m14_L_3.toInt := z3 rfl rfl c19
          refine lv_iload_n hx hb dX11_rivals_53 rfl (lv_at hl 1 rfl) ?_
          rw [hQ]
          exact W.iret (v := m14_L_2) hx hb hr (fun t ht hW => ⟨⟨m14_L_2, (), rfl, (by (try dsimp only); exact ⟨fun _ => by rw [jv14_0, show m14_L_3.toInt.toNat = nb.toInt.toNat by omega], fun z => absurd (by omega) z⟩), trivial⟩, hS.F ht⟩) hS.2.2 dX11_rivals_54
        · have c19 : m14_L_3.toInt < nb.toInt := z4 rfl rfl c19
          refine lv_iload_n hx hb dX11_rivals_22 rfl (lv_at hl 1 rfl) ?_
          refine lv_aload_n hx hb dX11_rivals_23 rfl (lv_at hl 2 rfl) ?_
          refine lv_iload_n hx hb dX11_rivals_24 rfl (lv_at hl 0 rfl) ?_
          refine lv_iconst (v := 1) hx hb dX11_rivals_25 (by decide) ?_
          obtain ⟨hPc, hDc⟩ := zc2 (wc := [(h0, .inr (11, [.int th, .ref tB, .int tsz, .int tat, .int wr, .int dp, .ref rC, .ref rV, .ref rD, .ref rK, .ref rT, .ref rS, .ref rU, .int lw, .int tx, .ref rL, .ref rX, .ref qR, .ref qB, .ref qP, .int qnb, .int qnp, .ref aR, .ref aB, .ref aP, .int nb, .int np, .ref aN, .ref rf, .int ho, .int br, .ref aK, .int ac, .long dw, .ref aE, .int sr, .int sf, .ref aA, .ref aH, .ref aI, .int hi])), (aR, .inl (cI, 3, .inl fR)), (aB, .inl (cI, 24, .inl fBr))]) hP hT [0, 1, 2] (by decide +kernel) rfl
          have hFc := zfr hS hA
          refine va_calli (va_runV (As := [.int m14_L_3, .int 1]) (rest := [.int m14_L_2]) ⟨hx, hb, hml, hown, hts⟩ (g_X11_worthAs_1 l dC dI cI cJ h0 m14_L_3 th tB tsz tat wr dp rC rV rD rK rT rS rU lw tx rL rX qR qB qP qnb qnp aR aB aP nb np aN rf ho br aK ac dw aE sr sf aA aH aI hi fR fBr H.size y_ac y_hi y_ho y_lw n_nb y_np (by omega) y_qnb y_qnp y_tat y_tsz y_wr) (cwV 2 hts (zgV qw1650 qw1652 qw87 qw108 qw1653) rfl rfl rfl hd_X11_worthAs ⟨by rw [hR]; exact Nat.le_of_ble_eq_true rfl, by rw [hR]; exact Nat.le_of_ble_eq_true rfl⟩) (zPV hPc hK hDc (va_recv (q := (RX11, TX11, 41)) hK hP (ci := 11) (q0 := 0) rfl rfl)) rfl rfl hl.1 rfl (lv_room (Nat.le_of_ble_eq_true rfl)) dX11_rivals_26 ⟨Nat.zero_le _, Nat.zero_le _⟩) hS (fun q _ h => hFc q h) hFc (fun v26 u26 t H locs ht hvm hw hB hz1 hk1 hS9 => ?_)
          replace hP := zkeep hP hk1
          replace hS := hS9
          clear hPc hDc hFc hk1 hz1 hvm hS9
          have f26_0 : (v26 = zTw fR fBr m14_L_3.toInt.toNat) := hw
          have F26 := f26_0
          refine lv_aload_n hx hb dX11_rivals_29 rfl (lv_at hl 2 rfl) ?_
          refine lv_iload_n hx hb dX11_rivals_30 rfl (lv_at hl 3 rfl) ?_
          refine lv_iconst (v := 1) hx hb dX11_rivals_31 (by decide) ?_
          obtain ⟨hPc, hDc⟩ := zc2 (wc := [(h0, .inr (11, [.int th, .ref tB, .int tsz, .int tat, .int wr, .int dp, .ref rC, .ref rV, .ref rD, .ref rK, .ref rT, .ref rS, .ref rU, .int lw, .int tx, .ref rL, .ref rX, .ref qR, .ref qB, .ref qP, .int qnb, .int qnp, .ref aR, .ref aB, .ref aP, .int nb, .int np, .ref aN, .ref rf, .int ho, .int br, .ref aK, .int ac, .long dw, .ref aE, .int sr, .int sf, .ref aA, .ref aH, .ref aI, .int hi])), (aR, .inl (cI, 3, .inl fR)), (aB, .inl (cI, 24, .inl fBr))]) hP hT [0, 1, 2] (by decide +kernel) rfl
          have hFc := zfr hS hA
          refine va_calli (va_runV (As := [.int p0, .int 1]) (rest := [.int v26, .int m14_L_2]) ⟨hx, hb, hml, hown, hts⟩ (g_X11_worthAs_1 l dC dI cI cJ h0 p0 th tB tsz tat wr dp rC rV rD rK rT rS rU lw tx rL rX qR qB qP qnb qnp aR aB aP nb np aN rf ho br aK ac dw aE sr sf aA aH aI hi fR fBr H.size y_ac y_hi y_ho y_lw n_nb y_np (by omega) y_qnb y_qnp y_tat y_tsz y_wr) (cwV 2 hts (zgV qw1650 qw1652 qw87 qw108 qw1653) rfl rfl rfl hd_X11_worthAs ⟨by rw [hR]; exact Nat.le_of_ble_eq_true rfl, by rw [hR]; exact Nat.le_of_ble_eq_true rfl⟩) (zPV hPc hK hDc (va_recv (q := (RX11, TX11, 41)) hK hP (ci := 11) (q0 := 0) rfl rfl)) rfl rfl hl.1 rfl (lv_room (Nat.le_of_ble_eq_true rfl)) dX11_rivals_32 ⟨Nat.zero_le _, Nat.zero_le _⟩) hS (fun q _ h => hFc q h) hFc (fun v32 u32 t H locs ht hvm hw hB hz1 hk1 hS9 => ?_)
          replace hP := zkeep hP hk1
          replace hS := hS9
          clear hPc hDc hFc hk1 hz1 hvm hS9
          have f32_0 : (v32 = zTw fR fBr p0.toInt.toNat) := hw
          have F32 := f32_0
          refine lv_icmp_le (tgt := 44) hx hb dX11_rivals_35 (by decide) (fun c35 => ?_) (fun c35 => ?_)
          · have c35 : v26.toInt ≤ v32.toInt := z3 rfl rfl c35
            refine lv_iconst (v := 0) hx hb dX11_rivals_44 (by decide) ?_
            refine lv_ior hx hb dX11_rivals_45 ?_
            refine lv_topi (fun v45 e45 => ?_)
            refine lv_istore_n (lv' := [(2, .int v45), (3, .int m14_L_3), (0, .ref h0), (1, .int p0)]) hx hb dX11_rivals_46 rfl hl (by decide) rfl (fun ls hl => ?_)
            obtain ⟨v47, e47⟩ : ∃ y : Int32, y = m14_L_3 + Int32.ofInt (1) := ⟨_, rfl⟩
            refine lv_iinc (v := v47) (lv' := [(3, .int v47), (2, .int v45), (0, .ref h0), (1, .int p0)]) hx hb dX11_rivals_47 hl (k := 1) rfl e47.symm (by decide) rfl (fun ls hl => ?_)
            have i47 : v47.toInt = m14_L_3.toInt + 1 := zaddI e47 (by decide) (by omega) (by omega)
            refine lv_goto (tgt := 14) hx hb dX11_rivals_50 (by decide) ?_
            exact ih14 _ (by omega) v45 v47 (by omega) (by first | exact zRvS jv14_0 (by omega) i47 F26 F32 (by omega) e40 e45 | exact (zor0 e45 rfl).trans (zRvN jv14_0 (by omega) i47 F26 F32 (by omega))) (by omega) rfl H locs ls hP hS (lv_sub hl [0, 1, 2, 3] rfl)
          · have c35 : v32.toInt < v26.toInt := z4 rfl rfl c35
            refine lv_iconst (v := 1) hx hb dX11_rivals_38 (by decide) ?_
            refine lv_iload_n hx hb dX11_rivals_39 rfl (lv_at hl 0 rfl) ?_
            refine lv_ishl hx hb dX11_rivals_40 ?_
            refine lv_topi (fun v40 e40 => ?_)
            have i40 : 1 ≤ v40.toInt ∧ v40.toInt ≤ 32 := zshl1 e40 (by omega) (by omega)
            refine lv_goto (tgt := 45) hx hb dX11_rivals_41 (by decide) ?_
            refine lv_ior hx hb dX11_rivals_45 ?_
            refine lv_topi (fun v45 e45 => ?_)
            refine lv_istore_n (lv' := [(2, .int v45), (3, .int m14_L_3), (0, .ref h0), (1, .int p0)]) hx hb dX11_rivals_46 rfl hl (by decide) rfl (fun ls hl => ?_)
            obtain ⟨v47, e47⟩ : ∃ y : Int32, y = m14_L_3 + Int32.ofInt (1) := ⟨_, rfl⟩
            refine lv_iinc (v := v47) (lv' := [(3, .int v47), (2, .int v45), (0, .ref h0), (1, .int p0)]) hx hb dX11_rivals_47 hl (k := 1) rfl e47.symm (by decide) rfl (fun ls hl => ?_)
            have i47 : v47.toInt = m14_L_3.toInt + 1 := zaddI e47 (by decide) (by omega) (by omega)
            refine lv_goto (tgt := 14) hx hb dX11_rivals_50 (by decide) ?_
            exact ih14 _ (by omega) v45 v47 (by omega) (by first | exact zRvS jv14_0 (by omega) i47 F26 F32 (by omega) e40 e45 | exact (zor0 e45 rfl).trans (zRvN jv14_0 (by omega) i47 F26 F32 (by omega))) (by omega) rfl H locs ls hP hS (lv_sub hl [0, 1, 2, 3] rfl)
    refine lv_istore_n (lv' := [(3, .int 0), (2, .int 0), (0, .ref h0), (1, .int p0)]) hx hb dX11_rivals_13 rfl hl (by decide) rfl (fun ls hl => ?_)
    have zj14_m14_L_2 : (0 : Int32).toInt = 0 := by decide
    have zj14_m14_L_3 : (0 : Int32).toInt = 0 := by decide
    exact J14 _ 0 0 (by decide) (rfl) (by omega) rfl H locs ls hP hS (lv_sub hl [0, 1, 2, 3] rfl)
  · have c5 : v2.toInt = 0 := z5 rfl (by decide) c5
    refine lv_iconst (v := (-1)) hx hb dX11_rivals_8 (by decide) ?_
    have zr0 : ((-1) : Int32).toInt = (-1) := by decide
    rw [hQ]
    exact W.iret (v := ((-1))) hx hb hr (fun t ht hW => ⟨⟨(-1), (), rfl, (by (try dsimp only); exact ⟨fun z => absurd z (by omega), fun _ => rfl⟩), trivial⟩, hS.F ht⟩) hS.2.2 dX11_rivals_9
set_option maxHeartbeats 4000000 in
set_option maxRecDepth 100000 in
theorem g_X11_affords (l : Launch) (dC : Nat → ClassId) (dI : Nat → Nat → Nat) (cI cJ : ClassId) (h0 : Nat) (p0 : Int32) (th : Int32) (tB : Nat) (tsz : Int32) (tat : Int32) (wr : Int32) (dp : Int32) (rC : Nat) (rV : Nat) (rD : Nat) (rK : Nat) (rT : Nat) (rS : Nat) (rU : Nat) (lw : Int32) (tx : Int32) (rL : Nat) (rX : Nat) (qR : Nat) (qB : Nat) (qP : Nat) (qnb : Int32) (qnp : Int32) (aR : Nat) (aB : Nat) (aP : Nat) (nb : Int32) (np : Int32) (aN : Nat) (rf : Nat) (ho : Int32) (br : Int32) (aK : Nat) (ac : Int32) (dw : Int64) (aE : Nat) (sr : Int32) (sf : Int32) (aA : Nat) (aH : Nat) (aI : Nat) (hi : Int32) (fPa : Nat → Int32) (fN : Nat → Int32) (sz : Nat) (n_ac : 0 ≤ ac.toInt ∧ ac.toInt ≤ 40) (n_hi : 0 ≤ hi.toInt ∧ hi.toInt ≤ 1) (n_ho : (-1) ≤ ho.toInt ∧ ho.toInt ≤ 3) (n_lw : 0 ≤ lw.toInt ∧ lw.toInt ≤ 4) (n_nb : 0 ≤ nb.toInt ∧ nb.toInt ≤ 6) (n_np : 0 ≤ np.toInt ∧ np.toInt ≤ 5) (n_qnb : 0 ≤ qnb.toInt ∧ qnb.toInt ≤ 6) (n_qnp : 0 ≤ qnp.toInt ∧ qnp.toInt ≤ 5) (n_tat : 0 ≤ tat.toInt ∧ tat.toInt ≤ 260) (n_tsz : 0 ≤ tsz.toInt ∧ tsz.toInt ≤ 240) (n_wr : (-1) ≤ wr.toInt ∧ wr.toInt ≤ 260)  (ci_fN_zNw_np : zNw np fN) (ci_fPa_zBr_np : zBr np fPa)  : Met l yX11_affords (.code yX11_affords cX11_affords 3 (some .int) :: wA) ({ frames := 2, cells := 0, slots := 0, locals := 43 }) (zP (dC, dI) [(cI, .int), (cJ, .long)] [.ref h0, .int p0] sz [(h0, .inr (11, [.int th, .ref tB, .int tsz, .int tat, .int wr, .int dp, .ref rC, .ref rV, .ref rD, .ref rK, .ref rT, .ref rS, .ref rU, .int lw, .int tx, .ref rL, .ref rX, .ref qR, .ref qB, .ref qP, .int qnb, .int qnp, .ref aR, .ref aB, .ref aP, .int nb, .int np, .ref aN, .ref rf, .int ho, .int br, .ref aK, .int ac, .long dw, .ref aE, .int sr, .int sf, .ref aA, .ref aH, .ref aI, .int hi])), (aP, .inl (cI, 20, .inl fPa)), (aN, .inl (cI, 97, .inl fN))]) (va_Qi (fun (r : Int32) (u : Unit) => (r.toInt ≤ 20) ∧ (∀ (kc : zK3) (kT : zT) (q_fR : Nat → Int32) (q_fBr : Nat → Int32) (q_fKp : Nat → Int32) (q_frf : Nat → Int32), zCn q_fR q_fBr fPa nb.toInt np.toInt kc → zKo nb.toInt np.toInt kc kT → zTr nb.toInt np.toInt kT fN q_fKp ac q_frf → r = sV_aff np.toInt kc kT.1 p0)) (fun (_ : Unit) (_ : State) => True) (va_A [] sz)) 0 0 (va_A [] sz) := by
  refine Met.ofW (cc := cX11_affords) (maxL := 3) (ret := (some .int)) (by decide) rfl ?_
  intro p e s m args below meth c s₁ B hml hv
  have y_ac : zHid (0 ≤ ac.toInt ∧ ac.toInt ≤ 40) := n_ac
  have y_hi : zHid (0 ≤ hi.toInt ∧ hi.toInt ≤ 1) := n_hi
  have y_ho : zHid ((-1) ≤ ho.toInt ∧ ho.toInt ≤ 3) := n_ho
  have y_lw : zHid (0 ≤ lw.toInt ∧ lw.toInt ≤ 4) := n_lw
  have y_qnb : zHid (0 ≤ qnb.toInt ∧ qnb.toInt ≤ 6) := n_qnb
  have y_qnp : zHid (0 ≤ qnp.toInt ∧ qnp.toInt ≤ 5) := n_qnp
  have y_tat : zHid (0 ≤ tat.toInt ∧ tat.toInt ≤ 260) := n_tat
  have y_tsz : zHid (0 ≤ tsz.toInt ∧ tsz.toInt ≤ 240) := n_tsz
  have y_wr : zHid ((-1) ≤ wr.toInt ∧ wr.toInt ≤ 260) := n_wr
  clear n_ac n_hi n_ho n_lw n_qnb n_qnp n_tat n_tsz n_wr
  obtain ⟨hargs, hsz, hP, hK, hT⟩ := hv
  have hx := B.exec
  have hb := B.bytes
  have hr := B.returns
  have hts : ∀ w ∈ wA, w.before args s = true := fun w h => atoms_spec (ws := .code yX11_affords cX11_affords 3 (some .int) :: wA) B.pre w (List.mem_cons_of_mem _ h)
  have hown : s.vm.findClass RX11 = some m.cls := findClass_of_methodNamed B.named
  have hlocks := B.notSynchronized
  subst hsz
  have hD : va_D (va_A [] s.heap.size) [] := zD0
  generalize hAe : va_A [] s.heap.size = A at hD ⊢
  have hA : ∀ q : Nat, s.heap.size ≤ q → A q := fun q h => by rw [← hAe]; exact Or.inr h
  have hl := lv_entry ([.ref h0, .int p0]) (n := 3) (Nat.le_of_ble_eq_true rfl)
  rw [show entryFrame m args 3 = entryFrame m ([.ref h0, .int p0] : List Value).toArray 3 by rw [hargs], lg_entry_eq]
  generalize (lg_sl ([.ref h0, .int p0]) ++ List.replicate (3 - (lg_sl ([.ref h0, .int p0])).length) Slot.unset).toArray = ls at hl ⊢
  have hl : lv_has ls 3 [(0, .ref h0), (1, .int p0)] := hl
  refine zstart (fun H hH => ?_)
  rw [← hH] at hP
  have hS : va_S A s.heap H [] := by rw [hH]; exact va_S.rf
  generalize ([] : List Loc) = locs at hS ⊢
  refine zgen (fun R Q hR hQ => ?_)
  refine lv_aload_n hx hb dX11_affords_0 rfl (lv_at hl 0 rfl) ?_
  refine lv_iload_n hx hb dX11_affords_1 rfl (lv_at hl 1 rfl) ?_
  obtain ⟨hPc, hDc⟩ := zc2 (wc := [(h0, .inr (11, [.int th, .ref tB, .int tsz, .int tat, .int wr, .int dp, .ref rC, .ref rV, .ref rD, .ref rK, .ref rT, .ref rS, .ref rU, .int lw, .int tx, .ref rL, .ref rX, .ref qR, .ref qB, .ref qP, .int qnb, .int qnp, .ref aR, .ref aB, .ref aP, .int nb, .int np, .ref aN, .ref rf, .int ho, .int br, .ref aK, .int ac, .long dw, .ref aE, .int sr, .int sf, .ref aA, .ref aH, .ref aI, .int hi]))]) hP hT [0] (by decide +kernel) rfl
  have hFc := zfr hS hA
  refine va_calli (va_runV (As := [.int p0]) (rest := []) ⟨hx, hb, hml, hown, hts⟩ (g_X11_isPainter l dC dI cI cJ h0 p0 th tB tsz tat wr dp rC rV rD rK rT rS rU lw tx rL rX qR qB qP qnb qnp aR aB aP nb np aN rf ho br aK ac dw aE sr sf aA aH aI hi H.size y_ac y_hi y_ho y_lw n_nb n_np y_qnb y_qnp y_tat y_tsz y_wr) (cwV 1 hts (zgV qw1410 qw1412 qw57 qw108 qw1413) rfl rfl rfl hd_X11_isPainter ⟨by rw [hR]; exact Nat.le_of_ble_eq_true rfl, by rw [hR]; exact Nat.le_of_ble_eq_true rfl⟩) (zPV hPc hK hDc (va_recv (q := (RX11, TX11, 41)) hK hP (ci := 11) (q0 := 0) rfl rfl)) rfl rfl hl.1 rfl (lv_room (Nat.le_of_ble_eq_true rfl)) dX11_affords_2 ⟨Nat.zero_le _, Nat.zero_le _⟩) hS (fun q _ h => hFc q h) hFc (fun v2 u2 t H locs ht hvm hw hB hz1 hk1 hS9 => ?_)
  replace hP := zkeep hP hk1
  replace hS := hS9
  clear hPc hDc hFc hk1 hz1 hvm hS9
  obtain ⟨f2_0, f2_1, f2_2, f2_3⟩ : (0 ≤ v2.toInt) ∧ (v2.toInt ≤ 1) ∧ (¬ v2.toInt = 0 → (0 ≤ p0.toInt ∧ p0.toInt < np.toInt)) ∧ (v2.toInt = 0 → ¬ (0 ≤ p0.toInt ∧ p0.toInt < np.toInt)) := hw
  refine lv_if_ne (tgt := 10) hx hb dX11_affords_5 (by decide) (fun c5 => ?_) (fun c5 => ?_)
  · have c5 : ¬ v2.toInt = 0 := z6 rfl (by decide) c5
    refine lv_bipush (v := 20) hx hb dX11_affords_10 (by decide) ?_
    refine lv_aload_n hx hb dX11_affords_12 rfl (lv_at hl 0 rfl) ?_
    refine va_get (D := (dC, dI)) (ci := 11) (v := .ref aN) (C := RX11) (T := TX11) (N := 41) hx hb hts iX11 hown hK hP 0 rfl rfl 27 (by decide) (hts _ qw1154) (fun _ h9 => h9) rfl dX11_affords_13 ?_
    refine lv_bipush (v := 16) hx hb dX11_affords_16 (by decide) ?_
    refine va_iald hx hb hK hP 2 0 rfl rfl (by unfold vp_in; decide) dX11_affords_18 ?_
    refine lv_topi (fun v18 e18 => ?_)
    have i18 : v18.toInt = (fN 16).toInt ∧ 0 ≤ v18.toInt ∧ v18.toInt ≤ 20 := zNw_16 ci_fN_zNw_np e18
    refine lv_isub hx hb dX11_affords_19 ?_
    refine lv_topi (fun v19 e19 => ?_)
    have i19 : v19.toInt = 20 - v18.toInt := zsub e19 (by decide) rfl (by omega) (by omega)
    refine lv_istore_n (lv' := [(2, .int v19), (0, .ref h0), (1, .int p0)]) hx hb dX11_affords_20 rfl hl (by decide) rfl (fun ls hl => ?_)
    refine lv_aload_n hx hb dX11_affords_21 rfl (lv_at hl 1 rfl) ?_
    refine lv_iload_n hx hb dX11_affords_22 rfl (lv_at hl 2 rfl) ?_
    refine lv_iconst (v := 1) hx hb dX11_affords_23 (by decide) ?_
    obtain ⟨hPc, hDc⟩ := zc2 (wc := [(h0, .inr (11, [.int th, .ref tB, .int tsz, .int tat, .int wr, .int dp, .ref rC, .ref rV, .ref rD, .ref rK, .ref rT, .ref rS, .ref rU, .int lw, .int tx, .ref rL, .ref rX, .ref qR, .ref qB, .ref qP, .int qnb, .int qnp, .ref aR, .ref aB, .ref aP, .int nb, .int np, .ref aN, .ref rf, .int ho, .int br, .ref aK, .int ac, .long dw, .ref aE, .int sr, .int sf, .ref aA, .ref aH, .ref aI, .int hi])), (aP, .inl (cI, 20, .inl fPa))]) hP hT [0, 1] (by decide +kernel) rfl
    have hFc := zfr hS hA
    refine va_calli (va_runV (As := [.int p0, .int 1]) (rest := []) ⟨hx, hb, hml, hown, hts⟩ (g_X11_by_1 l dC dI cI cJ h0 p0 th tB tsz tat wr dp rC rV rD rK rT rS rU lw tx rL rX qR qB qP qnb qnp aR aB aP nb np aN rf ho br aK ac dw aE sr sf aA aH aI hi fPa H.size y_ac y_hi y_ho y_lw n_nb n_np (by omega) y_qnb y_qnp y_tat y_tsz y_wr) (cwV 2 hts (zgV qw1390 qw1392 qw55 qw108 qw1393) rfl rfl rfl hd_X11_by ⟨by rw [hR]; exact Nat.le_of_ble_eq_true rfl, by rw [hR]; exact Nat.le_of_ble_eq_true rfl⟩) (zPV hPc hK hDc (va_recv (q := (RX11, TX11, 41)) hK hP (ci := 11) (q0 := 0) rfl rfl)) rfl rfl hl.1 rfl (lv_room (Nat.le_of_ble_eq_true rfl)) dX11_affords_24 ⟨Nat.zero_le _, Nat.zero_le _⟩) hS (fun q _ h => hFc q h) hFc (fun v24 u24 t H locs ht hvm hw hB hz1 hk1 hS9 => ?_)
    replace hP := zkeep hP hk1
    replace hS := hS9
    clear hPc hDc hFc hk1 hz1 hvm hS9
    obtain ⟨f24_0, f24_1⟩ : (v24.toInt = (fPa (4 * p0.toInt.toNat + 1)).toInt) ∧ (v24 = fPa (4 * p0.toInt.toNat + 1)) := hw
    have F24 := f24_1
    refine lv_if_ne (tgt := 34) hx hb dX11_affords_27 (by decide) (fun c27 => ?_) (fun c27 => ?_)
    · have c27 : ¬ v24.toInt = 0 := z6 rfl (by decide) c27
      refine lv_iload_n hx hb dX11_affords_34 rfl (lv_at hl 0 rfl) ?_
      refine lv_aload_n hx hb dX11_affords_35 rfl (lv_at hl 1 rfl) ?_
      refine va_get (D := (dC, dI)) (ci := 11) (v := .ref aN) (C := RX11) (T := TX11) (N := 41) hx hb hts iX11 hown hK hP 0 rfl rfl 27 (by decide) (hts _ qw1154) (fun _ h9 => h9) rfl dX11_affords_36 ?_
      refine lv_bipush (v := 14) hx hb dX11_affords_39 (by decide) ?_
      refine va_iald hx hb hK hP 2 0 rfl rfl (by unfold vp_in; decide) dX11_affords_41 ?_
      refine lv_topi (fun v41 e41 => ?_)
      refine lv_aload_n hx hb dX11_affords_42 rfl (lv_at hl 1 rfl) ?_
      refine lv_iload_n hx hb dX11_affords_43 rfl (lv_at hl 2 rfl) ?_
      refine lv_iconst (v := 1) hx hb dX11_affords_44 (by decide) ?_
      obtain ⟨hPc, hDc⟩ := zc2 (wc := [(h0, .inr (11, [.int th, .ref tB, .int tsz, .int tat, .int wr, .int dp, .ref rC, .ref rV, .ref rD, .ref rK, .ref rT, .ref rS, .ref rU, .int lw, .int tx, .ref rL, .ref rX, .ref qR, .ref qB, .ref qP, .int qnb, .int qnp, .ref aR, .ref aB, .ref aP, .int nb, .int np, .ref aN, .ref rf, .int ho, .int br, .ref aK, .int ac, .long dw, .ref aE, .int sr, .int sf, .ref aA, .ref aH, .ref aI, .int hi])), (aP, .inl (cI, 20, .inl fPa))]) hP hT [0, 1] (by decide +kernel) rfl
      have hFc := zfr hS hA
      refine va_calli (va_runV (As := [.int p0, .int 1]) (rest := [.int v41, .int v19]) ⟨hx, hb, hml, hown, hts⟩ (g_X11_by_1 l dC dI cI cJ h0 p0 th tB tsz tat wr dp rC rV rD rK rT rS rU lw tx rL rX qR qB qP qnb qnp aR aB aP nb np aN rf ho br aK ac dw aE sr sf aA aH aI hi fPa H.size y_ac y_hi y_ho y_lw n_nb n_np (by omega) y_qnb y_qnp y_tat y_tsz y_wr) (cwV 2 hts (zgV qw1390 qw1392 qw55 qw108 qw1393) rfl rfl rfl hd_X11_by ⟨by rw [hR]; exact Nat.le_of_ble_eq_true rfl, by rw [hR]; exact Nat.le_of_ble_eq_true rfl⟩) (zPV hPc hK hDc (va_recv (q := (RX11, TX11, 41)) hK hP (ci := 11) (q0 := 0) rfl rfl)) rfl rfl hl.1 rfl (lv_room (Nat.le_of_ble_eq_true rfl)) dX11_affords_45 ⟨Nat.zero_le _, Nat.zero_le _⟩) hS (fun q _ h => hFc q h) hFc (fun v45 u45 t H locs ht hvm hw hB hz1 hk1 hS9 => ?_)
      replace hP := zkeep hP hk1
      replace hS := hS9
      clear hPc hDc hFc hk1 hz1 hvm hS9
      obtain ⟨f45_0, f45_1⟩ : (v45.toInt = (fPa (4 * p0.toInt.toNat + 1)).toInt) ∧ (v45 = fPa (4 * p0.toInt.toNat + 1)) := hw
      have F45 := f45_1
      refine lv_idiv hx hb dX11_affords_48 (z0 (by omega)) ?_
      refine lv_topi (fun v48 e48 => ?_)
      refine va_mmin hx hb (by rw [hml]; exact hl.1.symm) hown (hts _ qw1468) (hts _ qw569) (hts _ qw112) (hts _ qw570) (by rw [hR]; exact Nat.le_of_ble_eq_true rfl) (by rw [hR]; exact Nat.le_of_ble_eq_true rfl) (Nat.zero_le _) (Nat.zero_le _) dX11_affords_49 ?_
      refine lv_topi (fun v49 e49 => ?_)
      have i49 := zmmin e49
      rw [hQ]
      exact W.iret (v := v49) hx hb hr (fun t ht hW => ⟨⟨v49, (), rfl, ⟨by (try dsimp only); omega, by (try dsimp only); exact fun kc kT q_fR q_fBr q_fKp q_frf hc hb h => by have y24 : v24 = kc.2.2 (4 * p0.toInt.toNat + 1) := F24.trans (hc.2.2 _ (by omega)); have z24 := congrArg Int32.toInt y24; have y18 : v18 = kT.1.2.2.2.1.2.2 := (zIxN (n := 16) e18 (by decide)).trans (zSr_pn h.1).symm; unfold sV_aff; rw [if_pos (by omega)]; rw [← y18, ← e19]; have y45 : v45 = kc.2.2 (4 * p0.toInt.toNat + 1) := F45.trans (hc.2.2 _ (by omega)); have y41 : v41 = kT.1.2.2.2.1.1 := (zIxN (n := 14) e41 (by decide)).trans (zSr_pu h.1).symm; rw [if_neg (by omega), ← y41, ← y45, ← e48]; unfold sMin; exact e49⟩, trivial⟩, hS.F ht⟩) hS.2.2 dX11_affords_52
    · have c27 : v24.toInt = 0 := z5 rfl (by decide) c27
      refine lv_iload_n hx hb dX11_affords_30 rfl (lv_at hl 0 rfl) ?_
      refine lv_goto (tgt := 52) hx hb dX11_affords_31 (by decide) ?_
      rw [hQ]
      exact W.iret (v := v19) hx hb hr (fun t ht hW => ⟨⟨v19, (), rfl, ⟨by (try dsimp only); omega, by (try dsimp only); exact fun kc kT q_fR q_fBr q_fKp q_frf hc hb h => by have y24 : v24 = kc.2.2 (4 * p0.toInt.toNat + 1) := F24.trans (hc.2.2 _ (by omega)); have z24 := congrArg Int32.toInt y24; have y18 : v18 = kT.1.2.2.2.1.2.2 := (zIxN (n := 16) e18 (by decide)).trans (zSr_pn h.1).symm; unfold sV_aff; rw [if_pos (by omega)]; rw [← y18, ← e19]; exact (if_pos (by omega)).symm⟩, trivial⟩, hS.F ht⟩) hS.2.2 dX11_affords_52
  · have c5 : v2.toInt = 0 := z5 rfl (by decide) c5
    refine lv_iconst (v := (-1)) hx hb dX11_affords_8 (by decide) ?_
    have zr0 : ((-1) : Int32).toInt = (-1) := by decide
    rw [hQ]
    exact W.iret (v := ((-1))) hx hb hr (fun t ht hW => ⟨⟨(-1), (), rfl, ⟨by (try dsimp only); omega, by (try dsimp only); exact fun kc kT q_fR q_fBr q_fKp q_frf hc hb h => by unfold sV_aff; rw [if_neg (by omega)]; ⟩, trivial⟩, hS.F ht⟩) hS.2.2 dX11_affords_9
set_option maxHeartbeats 4000000 in
set_option maxRecDepth 100000 in
theorem g_X11_told (l : Launch) (dC : Nat → ClassId) (dI : Nat → Nat → Nat) (cI cJ : ClassId) (h0 : Nat) (p0 : Int32) (th : Int32) (tB : Nat) (tsz : Int32) (tat : Int32) (wr : Int32) (dp : Int32) (rC : Nat) (rV : Nat) (rD : Nat) (rK : Nat) (rT : Nat) (rS : Nat) (rU : Nat) (lw : Int32) (tx : Int32) (rL : Nat) (rX : Nat) (qR : Nat) (qB : Nat) (qP : Nat) (qnb : Int32) (qnp : Int32) (aR : Nat) (aB : Nat) (aP : Nat) (nb : Int32) (np : Int32) (aN : Nat) (rf : Nat) (ho : Int32) (br : Int32) (aK : Nat) (ac : Int32) (dw : Int64) (aE : Nat) (sr : Int32) (sf : Int32) (aA : Nat) (aH : Nat) (aI : Nat) (hi : Int32) (fBr : Nat → Int32) (fN : Nat → Int32) (sz : Nat) (n_ac : 0 ≤ ac.toInt ∧ ac.toInt ≤ 40) (n_hi : 0 ≤ hi.toInt ∧ hi.toInt ≤ 1) (n_ho : (-1) ≤ ho.toInt ∧ ho.toInt ≤ 3) (n_lw : 0 ≤ lw.toInt ∧ lw.toInt ≤ 4) (n_nb : 0 ≤ nb.toInt ∧ nb.toInt ≤ 6) (n_np : 0 ≤ np.toInt ∧ np.toInt ≤ 5) (n_qnb : 0 ≤ qnb.toInt ∧ qnb.toInt ≤ 6) (n_qnp : 0 ≤ qnp.toInt ∧ qnp.toInt ≤ 5) (n_tat : 0 ≤ tat.toInt ∧ tat.toInt ≤ 260) (n_tsz : 0 ≤ tsz.toInt ∧ tsz.toInt ≤ 240) (n_wr : (-1) ≤ wr.toInt ∧ wr.toInt ≤ 260)  (ci_fBr_zBr_nb : zBr nb fBr) (ci_fN_zNw_np : zNw np fN)  : Met l yX11_told (.code yX11_told cX11_told 5 (some .int) :: wA) ({ frames := 2, cells := 0, slots := 0, locals := 43 }) (zP (dC, dI) [(cI, .int), (cJ, .long)] [.ref h0, .int p0] sz [(h0, .inr (11, [.int th, .ref tB, .int tsz, .int tat, .int wr, .int dp, .ref rC, .ref rV, .ref rD, .ref rK, .ref rT, .ref rS, .ref rU, .int lw, .int tx, .ref rL, .ref rX, .ref qR, .ref qB, .ref qP, .int qnb, .int qnp, .ref aR, .ref aB, .ref aP, .int nb, .int np, .ref aN, .ref rf, .int ho, .int br, .ref aK, .int ac, .long dw, .ref aE, .int sr, .int sf, .ref aA, .ref aH, .ref aI, .int hi])), (aB, .inl (cI, 24, .inl fBr)), (aN, .inl (cI, 97, .inl fN))]) (va_Qi (fun (r : Int32) (u : Unit) => (∀ (kc : zK3) (kT : zT) (q_fR : Nat → Int32) (q_fPa : Nat → Int32) (q_fKp : Nat → Int32) (q_frf : Nat → Int32), zCn q_fR fBr q_fPa nb.toInt np.toInt kc → zKo nb.toInt np.toInt kc kT → zTr nb.toInt np.toInt kT fN q_fKp ac q_frf → r = sV_tol np.toInt kc kT.1 p0)) (fun (_ : Unit) (_ : State) => True) (va_A [] sz)) 0 0 (va_A [] sz) := by
  refine Met.ofW (cc := cX11_told) (maxL := 5) (ret := (some .int)) (by decide) rfl ?_
  intro p e s m args below meth c s₁ B hml hv
  have y_ac : zHid (0 ≤ ac.toInt ∧ ac.toInt ≤ 40) := n_ac
  have y_hi : zHid (0 ≤ hi.toInt ∧ hi.toInt ≤ 1) := n_hi
  have y_ho : zHid ((-1) ≤ ho.toInt ∧ ho.toInt ≤ 3) := n_ho
  have y_lw : zHid (0 ≤ lw.toInt ∧ lw.toInt ≤ 4) := n_lw
  have y_qnb : zHid (0 ≤ qnb.toInt ∧ qnb.toInt ≤ 6) := n_qnb
  have y_qnp : zHid (0 ≤ qnp.toInt ∧ qnp.toInt ≤ 5) := n_qnp
  have y_tat : zHid (0 ≤ tat.toInt ∧ tat.toInt ≤ 260) := n_tat
  have y_tsz : zHid (0 ≤ tsz.toInt ∧ tsz.toInt ≤ 240) := n_tsz
  have y_wr : zHid ((-1) ≤ wr.toInt ∧ wr.toInt ≤ 260) := n_wr
  clear n_ac n_hi n_ho n_lw n_qnb n_qnp n_tat n_tsz n_wr
  obtain ⟨hargs, hsz, hP, hK, hT⟩ := hv
  have hx := B.exec
  have hb := B.bytes
  have hr := B.returns
  have hts : ∀ w ∈ wA, w.before args s = true := fun w h => atoms_spec (ws := .code yX11_told cX11_told 5 (some .int) :: wA) B.pre w (List.mem_cons_of_mem _ h)
  have hown : s.vm.findClass RX11 = some m.cls := findClass_of_methodNamed B.named
  have hlocks := B.notSynchronized
  subst hsz
  have hD : va_D (va_A [] s.heap.size) [] := zD0
  generalize hAe : va_A [] s.heap.size = A at hD ⊢
  have hA : ∀ q : Nat, s.heap.size ≤ q → A q := fun q h => by rw [← hAe]; exact Or.inr h
  have hl := lv_entry ([.ref h0, .int p0]) (n := 5) (Nat.le_of_ble_eq_true rfl)
  rw [show entryFrame m args 5 = entryFrame m ([.ref h0, .int p0] : List Value).toArray 5 by rw [hargs], lg_entry_eq]
  generalize (lg_sl ([.ref h0, .int p0]) ++ List.replicate (5 - (lg_sl ([.ref h0, .int p0])).length) Slot.unset).toArray = ls at hl ⊢
  have hl : lv_has ls 5 [(0, .ref h0), (1, .int p0)] := hl
  refine zstart (fun H hH => ?_)
  rw [← hH] at hP
  have hS : va_S A s.heap H [] := by rw [hH]; exact va_S.rf
  generalize ([] : List Loc) = locs at hS ⊢
  refine zgen (fun R Q hR hQ => ?_)
  refine lv_iconst (v := 0) hx hb dX11_told_0 (by decide) ?_
  refine lv_istore_n (lv' := [(2, .int 0), (0, .ref h0), (1, .int p0)]) hx hb dX11_told_1 rfl hl (by decide) rfl (fun ls hl => ?_)
  refine lv_iconst (v := 0) hx hb dX11_told_2 (by decide) ?_
  refine lv_istore_n (lv' := [(3, .int 0), (2, .int 0), (0, .ref h0), (1, .int p0)]) hx hb dX11_told_3 rfl hl (by decide) rfl (fun ls hl => ?_)
  refine lv_iconst (v := 0) hx hb dX11_told_4 (by decide) ?_
  have J7 : ∀ (n : Nat) (m7_L_2 : Int32) (m7_L_3 : Int32) (m7_L_4 : Int32), (0 ≤ m7_L_3.toInt ∧ m7_L_3.toInt ≤ 21) → (0 ≤ m7_L_4.toInt ∧ m7_L_4.toInt ≤ 20) → (m7_L_4.toInt ≤ (fN 16).toInt ∨ m7_L_4.toInt = 0) → (m7_L_2 = zTld fBr (fun i => fN (17 + i)) p0 m7_L_4.toInt.toNat) → (zTlc (fun i => fN (17 + i)) p0 m7_L_4 m7_L_3) → (21 - m7_L_4.toInt).toNat = n → ∀ (H : Heap) (locs : List Loc) (ls : Array Slot), va_P (dC, dI) vwCl [(h0, .inr (11, [.int th, .ref tB, .int tsz, .int tat, .int wr, .int dp, .ref rC, .ref rV, .ref rD, .ref rK, .ref rT, .ref rS, .ref rU, .int lw, .int tx, .ref rL, .ref rX, .ref qR, .ref qB, .ref qP, .int qnb, .int qnp, .ref aR, .ref aB, .ref aP, .int nb, .int np, .ref aN, .ref rf, .int ho, .int br, .ref aK, .int ac, .long dw, .ref aE, .int sr, .int sf, .ref aA, .ref aH, .ref aI, .int hi])), (aB, .inl (cI, 24, .inl fBr)), (aN, .inl (cI, 97, .inl fN))] H → va_S A s.heap H locs → lv_has ls 5 [(4, .int m7_L_4), (3, .int m7_L_3), (2, .int m7_L_2), (0, .ref h0), (1, .int p0)] → W p l e R s m args below meth c H locs 0 0 Q (F0 m 7 ls []) := by
    intro n7
    induction n7 using Nat.strongRecOn with
    | _ n7 ih7 =>
      intro m7_L_2 m7_L_3 m7_L_4 jf7_0 jf7_1 jv7_0 jv7_1 jv7_2 hmu7 H locs ls hP hS hl
      refine lv_iload hx hb dX11_told_7 (lv_at hl 0 rfl) ?_
      refine lv_aload_n hx hb dX11_told_9 rfl (lv_at hl 3 rfl) ?_
      refine va_get (D := (dC, dI)) (ci := 11) (v := .ref aN) (C := RX11) (T := TX11) (N := 41) hx hb hts iX11 hown hK hP 0 rfl rfl 27 (by decide) (hts _ qw1154) (fun _ h9 => h9) rfl dX11_told_10 ?_
      refine lv_bipush (v := 16) hx hb dX11_told_13 (by decide) ?_
      refine va_iald hx hb hK hP 2 0 rfl rfl (by unfold vp_in; decide) dX11_told_15 ?_
      refine lv_topi (fun v15 e15 => ?_)
      have i15 : v15.toInt = (fN 16).toInt ∧ 0 ≤ v15.toInt ∧ v15.toInt ≤ 20 := zNw_16 ci_fN_zNw_np e15
      refine lv_icmp_ge (tgt := 62) hx hb dX11_told_16 (by decide) (fun c16 => ?_) (fun c16 => ?_)
      · have c16 : v15.toInt ≤ m7_L_4.toInt := z3 rfl rfl c16
        refine lv_aload_n hx hb dX11_told_62 rfl (lv_at hl 3 rfl) ?_
        refine lv_iload_n hx hb dX11_told_63 rfl (lv_at hl 4 rfl) ?_
        obtain ⟨hPc, hDc⟩ := zc2 (wc := [(h0, .inr (11, [.int th, .ref tB, .int tsz, .int tat, .int wr, .int dp, .ref rC, .ref rV, .ref rD, .ref rK, .ref rT, .ref rS, .ref rU, .int lw, .int tx, .ref rL, .ref rX, .ref qR, .ref qB, .ref qP, .int qnb, .int qnp, .ref aR, .ref aB, .ref aP, .int nb, .int np, .ref aN, .ref rf, .int ho, .int br, .ref aK, .int ac, .long dw, .ref aE, .int sr, .int sf, .ref aA, .ref aH, .ref aI, .int hi]))]) hP hT [0] (by decide +kernel) rfl
        have hFc := zfr hS hA
        refine va_calli (va_runV (As := [.int p0]) (rest := []) ⟨hx, hb, hml, hown, hts⟩ (g_X11_isPainter l dC dI cI cJ h0 p0 th tB tsz tat wr dp rC rV rD rK rT rS rU lw tx rL rX qR qB qP qnb qnp aR aB aP nb np aN rf ho br aK ac dw aE sr sf aA aH aI hi H.size y_ac y_hi y_ho y_lw n_nb n_np y_qnb y_qnp y_tat y_tsz y_wr) (cwV 1 hts (zgV qw1410 qw1412 qw57 qw108 qw1413) rfl rfl rfl hd_X11_isPainter ⟨by rw [hR]; exact Nat.le_of_ble_eq_true rfl, by rw [hR]; exact Nat.le_of_ble_eq_true rfl⟩) (zPV hPc hK hDc (va_recv (q := (RX11, TX11, 41)) hK hP (ci := 11) (q0 := 0) rfl rfl)) rfl rfl hl.1 rfl (lv_room (Nat.le_of_ble_eq_true rfl)) dX11_told_64 ⟨Nat.zero_le _, Nat.zero_le _⟩) hS (fun q _ h => hFc q h) hFc (fun v64 u64 t H locs ht hvm hw hB hz1 hk1 hS9 => ?_)
        replace hP := zkeep hP hk1
        replace hS := hS9
        clear hPc hDc hFc hk1 hz1 hvm hS9
        obtain ⟨f64_0, f64_1, f64_2, f64_3⟩ : (0 ≤ v64.toInt) ∧ (v64.toInt ≤ 1) ∧ (¬ v64.toInt = 0 → (0 ≤ p0.toInt ∧ p0.toInt < np.toInt)) ∧ (v64.toInt = 0 → ¬ (0 ≤ p0.toInt ∧ p0.toInt < np.toInt)) := hw
        refine lv_if_eq (tgt := 74) hx hb dX11_told_67 (by decide) (fun c67 => ?_) (fun c67 => ?_)
        · have c67 : v64.toInt = 0 := z5 rfl (by decide) c67
          refine lv_ldcw (v := (-1000000)) hx hb hown (hts _ qw1662) dX11_told_74 ?_
          refine lv_goto (tgt := 81) hx hb dX11_told_77 (by decide) ?_
          have zr0 : ((-1000000) : Int32).toInt = (-1000000) := by decide
          rw [hQ]
          exact W.iret (v := ((-1000000))) hx hb hr (fun t ht hW => ⟨⟨(-1000000), (), rfl, (by (try dsimp only); exact fun kc kT q_fR q_fPa q_fKp q_frf hc hb h => by have zl := zTlcE (P := fun i => fN (17 + i)) jv7_2 hb.2.2.2.1 (zSr_pn h.1) (by omega) (zSr_P h.1); unfold sV_tol; exact (if_neg (fun y => by first | (have y1 := y.1; omega) | exact y.2 (zl.mpr (by omega)))).symm), trivial⟩, hS.F ht⟩) hS.2.2 dX11_told_81
        · have c67 : ¬ v64.toInt = 0 := z6 rfl (by decide) c67
          refine lv_iload_n hx hb dX11_told_70 rfl (lv_at hl 1 rfl) ?_
          refine lv_if_ne (tgt := 80) hx hb dX11_told_71 (by decide) (fun c71 => ?_) (fun c71 => ?_)
          · have c71 : ¬ m7_L_3.toInt = 0 := z6 rfl (by decide) c71
            refine lv_iload_n hx hb dX11_told_80 rfl (lv_at hl 2 rfl) ?_
            rw [hQ]
            exact W.iret (v := m7_L_2) hx hb hr (fun t ht hW => ⟨⟨m7_L_2, (), rfl, (by (try dsimp only); exact fun kc kT q_fR q_fPa q_fKp q_frf hc hb h => by have zl := zTlcE (P := fun i => fN (17 + i)) jv7_2 hb.2.2.2.1 (zSr_pn h.1) (by omega) (zSr_P h.1); unfold sV_tol; rw [if_pos ⟨by omega, fun y => absurd (zl.mp y) (by omega)⟩, ← zTld_s (P := fun i => fN (17 + i)) hc hb.2.2.2.1 (zSr_pn h.1) (zSr_P h.1)]; exact jv7_1.trans (by rw [show m7_L_4.toInt.toNat = (fN 16).toInt.toNat by omega])), trivial⟩, hS.F ht⟩) hS.2.2 dX11_told_81
          · have c71 : m7_L_3.toInt = 0 := z5 rfl (by decide) c71
            refine lv_ldcw (v := (-1000000)) hx hb hown (hts _ qw1662) dX11_told_74 ?_
            refine lv_goto (tgt := 81) hx hb dX11_told_77 (by decide) ?_
            have zr0 : ((-1000000) : Int32).toInt = (-1000000) := by decide
            rw [hQ]
            exact W.iret (v := ((-1000000))) hx hb hr (fun t ht hW => ⟨⟨(-1000000), (), rfl, (by (try dsimp only); exact fun kc kT q_fR q_fPa q_fKp q_frf hc hb h => by have zl := zTlcE (P := fun i => fN (17 + i)) jv7_2 hb.2.2.2.1 (zSr_pn h.1) (by omega) (zSr_P h.1); unfold sV_tol; exact (if_neg (fun y => by first | (have y1 := y.1; omega) | exact y.2 (zl.mpr (by omega)))).symm), trivial⟩, hS.F ht⟩) hS.2.2 dX11_told_81
      · have c16 : m7_L_4.toInt < v15.toInt := z4 rfl rfl c16
        refine lv_aload_n hx hb dX11_told_19 rfl (lv_at hl 3 rfl) ?_
        refine lv_iload hx hb dX11_told_20 (lv_at hl 0 rfl) ?_
        refine lv_iconst (v := 1) hx hb dX11_told_22 (by decide) ?_
        obtain ⟨hPc, hDc⟩ := zc2 (wc := [(h0, .inr (11, [.int th, .ref tB, .int tsz, .int tat, .int wr, .int dp, .ref rC, .ref rV, .ref rD, .ref rK, .ref rT, .ref rS, .ref rU, .int lw, .int tx, .ref rL, .ref rX, .ref qR, .ref qB, .ref qP, .int qnb, .int qnp, .ref aR, .ref aB, .ref aP, .int nb, .int np, .ref aN, .ref rf, .int ho, .int br, .ref aK, .int ac, .long dw, .ref aE, .int sr, .int sf, .ref aA, .ref aH, .ref aI, .int hi])), (aN, .inl (cI, 97, .inl fN))]) hP hT [0, 2] (by decide +kernel) rfl
        have hFc := zfr hS hA
        refine va_calli (va_runV (As := [.int m7_L_4, .int 1]) (rest := []) ⟨hx, hb, hml, hown, hts⟩ (g_X11_shot_1 l dC dI cI cJ h0 m7_L_4 th tB tsz tat wr dp rC rV rD rK rT rS rU lw tx rL rX qR qB qP qnb qnp aR aB aP nb np aN rf ho br aK ac dw aE sr sf aA aH aI hi fN H.size y_ac y_hi y_ho y_lw n_nb n_np (by omega) y_qnb y_qnp y_tat y_tsz y_wr (by omega) ci_fN_zNw_np) (cwV 2 hts (zgV qw1473 qw1475 qw65 qw108 qw1476) rfl rfl rfl hd_X11_shot ⟨by rw [hR]; exact Nat.le_of_ble_eq_true rfl, by rw [hR]; exact Nat.le_of_ble_eq_true rfl⟩) (zPV hPc hK hDc (va_recv (q := (RX11, TX11, 41)) hK hP (ci := 11) (q0 := 0) rfl rfl)) rfl rfl hl.1 rfl (lv_room (Nat.le_of_ble_eq_true rfl)) dX11_told_23 ⟨Nat.zero_le _, Nat.zero_le _⟩) hS (fun q _ h => hFc q h) hFc (fun v23 u23 t H locs ht hvm hw hB hz1 hk1 hS9 => ?_)
        replace hP := zkeep hP hk1
        replace hS := hS9
        clear hPc hDc hFc hk1 hz1 hvm hS9
        obtain ⟨f23_0, f23_1, f23_2, f23_3⟩ : (0 ≤ v23.toInt) ∧ (v23.toInt ≤ 4) ∧ (v23.toInt < np.toInt) ∧ (v23 = fN (17 + (4 * m7_L_4.toInt.toNat + 1))) := hw
        have F23 := f23_3
        refine lv_iload_n hx hb dX11_told_26 rfl (lv_at hl 4 rfl) ?_
        refine lv_icmp_ne (tgt := 56) hx hb dX11_told_27 (by decide) (fun c27 => ?_) (fun c27 => ?_)
        · have c27 : ¬ v23.toInt = p0.toInt := z6 rfl rfl c27
          obtain ⟨v56, e56⟩ : ∃ y : Int32, y = m7_L_4 + Int32.ofInt (1) := ⟨_, rfl⟩
          refine lv_iinc (v := v56) (lv' := [(4, .int v56), (3, .int m7_L_3), (2, .int m7_L_2), (0, .ref h0), (1, .int p0)]) hx hb dX11_told_56 hl (k := 0) rfl e56.symm (by decide) rfl (fun ls hl => ?_)
          have i56 : v56.toInt = m7_L_4.toInt + 1 := zaddI e56 (by decide) (by omega) (by omega)
          refine lv_goto (tgt := 7) hx hb dX11_told_59 (by decide) ?_
          exact ih7 _ (by omega) m7_L_2 m7_L_3 v56 jf7_0 (by omega) (by omega) (by first | exact zTldY (P := fun i => fN (17 + i)) jv7_1 (by omega) i56 F23 (by omega) (show v50 = fN (17 + (4 * m7_L_4.toInt.toNat + 2)) - fBr (4 * (fN (17 + 4 * m7_L_4.toInt.toNat)).toInt.toNat) by rw [e50, F35, F47.trans (congrArg fBr (show 4 * v43.toInt.toNat + (0 : Int32).toInt.toNat = 4 * v43.toInt.toNat by have : (0 : Int32).toInt = 0 := (by decide); omega)), F43]) e51 | exact zTldN (P := fun i => fN (17 + i)) jv7_1 (by omega) i56 F23 (by omega)) (by first | exact zTlcY (P := fun i => fN (17 + i)) jv7_2 (by omega) i56 F23 (by omega) i53 | exact zTlcN (P := fun i => fN (17 + i)) jv7_2 (by omega) i56 F23 (by omega)) rfl H locs ls hP hS (lv_sub hl [0, 1, 2, 3, 4] rfl)
        · have c27 : v23.toInt = p0.toInt := z5 rfl rfl c27
          refine lv_iload_n hx hb dX11_told_30 rfl (lv_at hl 2 rfl) ?_
          refine lv_aload_n hx hb dX11_told_31 rfl (lv_at hl 3 rfl) ?_
          refine lv_iload hx hb dX11_told_32 (lv_at hl 0 rfl) ?_
          refine lv_iconst (v := 2) hx hb dX11_told_34 (by decide) ?_
          obtain ⟨hPc, hDc⟩ := zc2 (wc := [(h0, .inr (11, [.int th, .ref tB, .int tsz, .int tat, .int wr, .int dp, .ref rC, .ref rV, .ref rD, .ref rK, .ref rT, .ref rS, .ref rU, .int lw, .int tx, .ref rL, .ref rX, .ref qR, .ref qB, .ref qP, .int qnb, .int qnp, .ref aR, .ref aB, .ref aP, .int nb, .int np, .ref aN, .ref rf, .int ho, .int br, .ref aK, .int ac, .long dw, .ref aE, .int sr, .int sf, .ref aA, .ref aH, .ref aI, .int hi])), (aN, .inl (cI, 97, .inl fN))]) hP hT [0, 2] (by decide +kernel) rfl
          have hFc := zfr hS hA
          refine va_calli (va_runV (As := [.int m7_L_4, .int 2]) (rest := [.int m7_L_2]) ⟨hx, hb, hml, hown, hts⟩ (g_X11_shot_2 l dC dI cI cJ h0 m7_L_4 th tB tsz tat wr dp rC rV rD rK rT rS rU lw tx rL rX qR qB qP qnb qnp aR aB aP nb np aN rf ho br aK ac dw aE sr sf aA aH aI hi fN H.size y_ac y_hi y_ho y_lw n_nb n_np (by omega) y_qnb y_qnp y_tat y_tsz y_wr (by omega) ci_fN_zNw_np) (cwV 2 hts (zgV qw1473 qw1475 qw65 qw108 qw1476) rfl rfl rfl hd_X11_shot ⟨by rw [hR]; exact Nat.le_of_ble_eq_true rfl, by rw [hR]; exact Nat.le_of_ble_eq_true rfl⟩) (zPV hPc hK hDc (va_recv (q := (RX11, TX11, 41)) hK hP (ci := 11) (q0 := 0) rfl rfl)) rfl rfl hl.1 rfl (lv_room (Nat.le_of_ble_eq_true rfl)) dX11_told_35 ⟨Nat.zero_le _, Nat.zero_le _⟩) hS (fun q _ h => hFc q h) hFc (fun v35 u35 t H locs ht hvm hw hB hz1 hk1 hS9 => ?_)
          replace hP := zkeep hP hk1
          replace hS := hS9
          clear hPc hDc hFc hk1 hz1 hvm hS9
          obtain ⟨f35_0, f35_1, f35_2⟩ : ((-1) ≤ v35.toInt) ∧ (v35.toInt ≤ 9) ∧ (v35 = fN (17 + (4 * m7_L_4.toInt.toNat + 2))) := hw
          have F35 := f35_2
          refine lv_aload_n hx hb dX11_told_38 rfl (lv_at hl 3 rfl) ?_
          refine lv_aload_n hx hb dX11_told_39 rfl (lv_at hl 3 rfl) ?_
          refine lv_iload hx hb dX11_told_40 (lv_at hl 0 rfl) ?_
          refine lv_iconst (v := 0) hx hb dX11_told_42 (by decide) ?_
          obtain ⟨hPc, hDc⟩ := zc2 (wc := [(h0, .inr (11, [.int th, .ref tB, .int tsz, .int tat, .int wr, .int dp, .ref rC, .ref rV, .ref rD, .ref rK, .ref rT, .ref rS, .ref rU, .int lw, .int tx, .ref rL, .ref rX, .ref qR, .ref qB, .ref qP, .int qnb, .int qnp, .ref aR, .ref aB, .ref aP, .int nb, .int np, .ref aN, .ref rf, .int ho, .int br, .ref aK, .int ac, .long dw, .ref aE, .int sr, .int sf, .ref aA, .ref aH, .ref aI, .int hi])), (aN, .inl (cI, 97, .inl fN))]) hP hT [0, 2] (by decide +kernel) rfl
          have hFc := zfr hS hA
          refine va_calli (va_runV (As := [.int m7_L_4, .int 0]) (rest := [.ref h0, .int v35, .int m7_L_2]) ⟨hx, hb, hml, hown, hts⟩ (g_X11_shot_0 l dC dI cI cJ h0 m7_L_4 th tB tsz tat wr dp rC rV rD rK rT rS rU lw tx rL rX qR qB qP qnb qnp aR aB aP nb np aN rf ho br aK ac dw aE sr sf aA aH aI hi fN H.size y_ac y_hi y_ho y_lw n_nb n_np (by omega) y_qnb y_qnp y_tat y_tsz y_wr (by omega) ci_fN_zNw_np) (cwV 2 hts (zgV qw1473 qw1475 qw65 qw108 qw1476) rfl rfl rfl hd_X11_shot ⟨by rw [hR]; exact Nat.le_of_ble_eq_true rfl, by rw [hR]; exact Nat.le_of_ble_eq_true rfl⟩) (zPV hPc hK hDc (va_recv (q := (RX11, TX11, 41)) hK hP (ci := 11) (q0 := 0) rfl rfl)) rfl rfl hl.1 rfl (lv_room (Nat.le_of_ble_eq_true rfl)) dX11_told_43 ⟨Nat.zero_le _, Nat.zero_le _⟩) hS (fun q _ h => hFc q h) hFc (fun v43 u43 t H locs ht hvm hw hB hz1 hk1 hS9 => ?_)
          replace hP := zkeep hP hk1
          replace hS := hS9
          clear hPc hDc hFc hk1 hz1 hvm hS9
          obtain ⟨f43_0, f43_1, f43_2, f43_3⟩ : (0 ≤ v43.toInt) ∧ (v43.toInt ≤ 5) ∧ (v43.toInt = (fN (17 + 4 * m7_L_4.toInt.toNat)).toInt) ∧ (v43 = fN (17 + 4 * m7_L_4.toInt.toNat)) := hw
          have F43 := f43_3
          refine lv_iconst (v := 0) hx hb dX11_told_46 (by decide) ?_
          obtain ⟨hPc, hDc⟩ := zc2 (wc := [(h0, .inr (11, [.int th, .ref tB, .int tsz, .int tat, .int wr, .int dp, .ref rC, .ref rV, .ref rD, .ref rK, .ref rT, .ref rS, .ref rU, .int lw, .int tx, .ref rL, .ref rX, .ref qR, .ref qB, .ref qP, .int qnb, .int qnp, .ref aR, .ref aB, .ref aP, .int nb, .int np, .ref aN, .ref rf, .int ho, .int br, .ref aK, .int ac, .long dw, .ref aE, .int sr, .int sf, .ref aA, .ref aH, .ref aI, .int hi])), (aB, .inl (cI, 24, .inl fBr))]) hP hT [0, 1] (by decide +kernel) rfl
          have hFc := zfr hS hA
          refine va_calli (va_runV (As := [.int v43, .int 0]) (rest := [.int v35, .int m7_L_2]) ⟨hx, hb, hml, hown, hts⟩ (g_X11_of l dC dI cI cJ h0 v43 0 th tB tsz tat wr dp rC rV rD rK rT rS rU lw tx rL rX qR qB qP qnb qnp aR aB aP nb np aN rf ho br aK ac dw aE sr sf aA aH aI hi fBr H.size y_ac y_hi y_ho y_lw n_nb n_np ⟨f43_0, f43_1⟩ (by decide) y_qnb y_qnp y_tat y_tsz y_wr) (cwV 2 hts (zgV qw1386 qw1388 qw54 qw108 qw1389) rfl rfl rfl hd_X11_of ⟨by rw [hR]; exact Nat.le_of_ble_eq_true rfl, by rw [hR]; exact Nat.le_of_ble_eq_true rfl⟩) (zPV hPc hK hDc (va_recv (q := (RX11, TX11, 41)) hK hP (ci := 11) (q0 := 0) rfl rfl)) rfl rfl hl.1 rfl (lv_room (Nat.le_of_ble_eq_true rfl)) dX11_told_47 ⟨Nat.zero_le _, Nat.zero_le _⟩) hS (fun q _ h => hFc q h) hFc (fun v47 u47 t H locs ht hvm hw hB hz1 hk1 hS9 => ?_)
          replace hP := zkeep hP hk1
          replace hS := hS9
          clear hPc hDc hFc hk1 hz1 hvm hS9
          have zn47_0 : (0 : Int32).toInt = 0 := by decide
          have f47_0 : (v47 = fBr (4 * v43.toInt.toNat + (0 : Int32).toInt.toNat)) := hw
          have F47 := f47_0
          refine lv_isub hx hb dX11_told_50 ?_
          refine lv_topi (fun v50 e50 => ?_)
          refine lv_iadd hx hb dX11_told_51 ?_
          refine lv_topi (fun v51 e51 => ?_)
          refine lv_istore_n (lv' := [(2, .int v51), (4, .int m7_L_4), (3, .int m7_L_3), (0, .ref h0), (1, .int p0)]) hx hb dX11_told_52 rfl hl (by decide) rfl (fun ls hl => ?_)
          have q53 := jv7_2.2.1
          have q53b := jv7_2.1
          obtain ⟨v53, e53⟩ : ∃ y : Int32, y = m7_L_3 + Int32.ofInt (1) := ⟨_, rfl⟩
          refine lv_iinc (v := v53) (lv' := [(3, .int v53), (2, .int v51), (4, .int m7_L_4), (0, .ref h0), (1, .int p0)]) hx hb dX11_told_53 hl (k := 2) rfl e53.symm (by decide) rfl (fun ls hl => ?_)
          have i53 : v53.toInt = m7_L_3.toInt + 1 := zaddI e53 (by decide) (by omega) (by omega)
          obtain ⟨v56, e56⟩ : ∃ y : Int32, y = m7_L_4 + Int32.ofInt (1) := ⟨_, rfl⟩
          refine lv_iinc (v := v56) (lv' := [(4, .int v56), (3, .int v53), (2, .int v51), (0, .ref h0), (1, .int p0)]) hx hb dX11_told_56 hl (k := 2) rfl e56.symm (by decide) rfl (fun ls hl => ?_)
          have i56 : v56.toInt = m7_L_4.toInt + 1 := zaddI e56 (by decide) (by omega) (by omega)
          refine lv_goto (tgt := 7) hx hb dX11_told_59 (by decide) ?_
          exact ih7 _ (by omega) v51 v53 v56 (by omega) (by omega) (by omega) (by first | exact zTldY (P := fun i => fN (17 + i)) jv7_1 (by omega) i56 F23 (by omega) (show v50 = fN (17 + (4 * m7_L_4.toInt.toNat + 2)) - fBr (4 * (fN (17 + 4 * m7_L_4.toInt.toNat)).toInt.toNat) by rw [e50, F35, F47.trans (congrArg fBr (show 4 * v43.toInt.toNat + (0 : Int32).toInt.toNat = 4 * v43.toInt.toNat by have : (0 : Int32).toInt = 0 := (by decide); omega)), F43]) e51 | exact zTldN (P := fun i => fN (17 + i)) jv7_1 (by omega) i56 F23 (by omega)) (by first | exact zTlcY (P := fun i => fN (17 + i)) jv7_2 (by omega) i56 F23 (by omega) i53 | exact zTlcN (P := fun i => fN (17 + i)) jv7_2 (by omega) i56 F23 (by omega)) rfl H locs ls hP hS (lv_sub hl [0, 1, 2, 3, 4] rfl)
  refine lv_istore (lv' := [(4, .int 0), (3, .int 0), (2, .int 0), (0, .ref h0), (1, .int p0)]) hx hb dX11_told_5 hl (by decide) rfl (fun ls hl => ?_)
  have zj7_m7_L_2 : (0 : Int32).toInt = 0 := by decide
  have zj7_m7_L_3 : (0 : Int32).toInt = 0 := by decide
  have zj7_m7_L_4 : (0 : Int32).toInt = 0 := by decide
  exact J7 _ 0 0 0 (by decide) (by decide) (Or.inr (by decide)) (rfl) (zTlc_0) rfl H locs ls hP hS (lv_sub hl [0, 1, 2, 3, 4] rfl)
set_option maxHeartbeats 4000000 in
set_option maxRecDepth 100000 in
theorem g_X11_count (l : Launch) (dC : Nat → ClassId) (dI : Nat → Nat → Nat) (cI cJ : ClassId) (h0 : Nat) (p0 : Int32) (th : Int32) (tB : Nat) (tsz : Int32) (tat : Int32) (wr : Int32) (dp : Int32) (rC : Nat) (rV : Nat) (rD : Nat) (rK : Nat) (rT : Nat) (rS : Nat) (rU : Nat) (lw : Int32) (tx : Int32) (rL : Nat) (rX : Nat) (qR : Nat) (qB : Nat) (qP : Nat) (qnb : Int32) (qnp : Int32) (aR : Nat) (aB : Nat) (aP : Nat) (nb : Int32) (np : Int32) (aN : Nat) (rf : Nat) (ho : Int32) (br : Int32) (aK : Nat) (ac : Int32) (dw : Int64) (aE : Nat) (sr : Int32) (sf : Int32) (aA : Nat) (aH : Nat) (aI : Nat) (hi : Int32) (fN : Nat → Int32) (sz : Nat) (n_ac : 0 ≤ ac.toInt ∧ ac.toInt ≤ 40) (n_hi : 0 ≤ hi.toInt ∧ hi.toInt ≤ 1) (n_ho : (-1) ≤ ho.toInt ∧ ho.toInt ≤ 3) (n_lw : 0 ≤ lw.toInt ∧ lw.toInt ≤ 4) (n_nb : 0 ≤ nb.toInt ∧ nb.toInt ≤ 6) (n_np : 0 ≤ np.toInt ∧ np.toInt ≤ 5) (n_qnb : 0 ≤ qnb.toInt ∧ qnb.toInt ≤ 6) (n_qnp : 0 ≤ qnp.toInt ∧ qnp.toInt ≤ 5) (n_tat : 0 ≤ tat.toInt ∧ tat.toInt ≤ 260) (n_tsz : 0 ≤ tsz.toInt ∧ tsz.toInt ≤ 240) (n_wr : (-1) ≤ wr.toInt ∧ wr.toInt ≤ 260)  (ci_fN_zNw_np : zNw np fN)  : Met l yX11_count (.code yX11_count cX11_count 2 (some .int) :: wA) ({ frames := 0, cells := 0, slots := 0, locals := 0 }) (zP (dC, dI) [(cI, .int), (cJ, .long)] [.ref h0, .int p0] sz [(h0, .inr (11, [.int th, .ref tB, .int tsz, .int tat, .int wr, .int dp, .ref rC, .ref rV, .ref rD, .ref rK, .ref rT, .ref rS, .ref rU, .int lw, .int tx, .ref rL, .ref rX, .ref qR, .ref qB, .ref qP, .int qnb, .int qnp, .ref aR, .ref aB, .ref aP, .int nb, .int np, .ref aN, .ref rf, .int ho, .int br, .ref aK, .int ac, .long dw, .ref aE, .int sr, .int sf, .ref aA, .ref aH, .ref aI, .int hi])), (aN, .inl (cI, 97, .inl fN))]) (va_Qi (fun (r : Int32) (u : Unit) => (∀ (kc : zK3) (kT : zT) (q_fR : Nat → Int32) (q_fBr : Nat → Int32) (q_fPa : Nat → Int32) (q_fKp : Nat → Int32) (q_frf : Nat → Int32), zCn q_fR q_fBr q_fPa nb.toInt np.toInt kc → zKo nb.toInt np.toInt kc kT → zTr nb.toInt np.toInt kT fN q_fKp ac q_frf → r.toInt = sV_cou nb np lw br ho tsz.toInt kT p0)) (fun (_ : Unit) (_ : State) => True) (va_A [] sz)) 0 0 (va_A [] sz) := by
  refine Met.ofW (cc := cX11_count) (maxL := 2) (ret := (some .int)) (by decide) rfl ?_
  intro p e s m args below meth c s₁ B hml hv
  have y_hi : zHid (0 ≤ hi.toInt ∧ hi.toInt ≤ 1) := n_hi
  have y_qnb : zHid (0 ≤ qnb.toInt ∧ qnb.toInt ≤ 6) := n_qnb
  have y_qnp : zHid (0 ≤ qnp.toInt ∧ qnp.toInt ≤ 5) := n_qnp
  have y_tat : zHid (0 ≤ tat.toInt ∧ tat.toInt ≤ 260) := n_tat
  have y_wr : zHid ((-1) ≤ wr.toInt ∧ wr.toInt ≤ 260) := n_wr
  clear n_hi n_qnb n_qnp n_tat n_wr
  obtain ⟨hargs, hsz, hP, hK, hT⟩ := hv
  have hx := B.exec
  have hb := B.bytes
  have hr := B.returns
  have hts : ∀ w ∈ wA, w.before args s = true := fun w h => atoms_spec (ws := .code yX11_count cX11_count 2 (some .int) :: wA) B.pre w (List.mem_cons_of_mem _ h)
  have hown : s.vm.findClass RX11 = some m.cls := findClass_of_methodNamed B.named
  have hlocks := B.notSynchronized
  subst hsz
  have hD : va_D (va_A [] s.heap.size) [] := zD0
  generalize hAe : va_A [] s.heap.size = A at hD ⊢
  have hA : ∀ q : Nat, s.heap.size ≤ q → A q := fun q h => by rw [← hAe]; exact Or.inr h
  have hl := lv_entry ([.ref h0, .int p0]) (n := 2) (Nat.le_of_ble_eq_true rfl)
  rw [show entryFrame m args 2 = entryFrame m ([.ref h0, .int p0] : List Value).toArray 2 by rw [hargs], lg_entry_eq]
  generalize (lg_sl ([.ref h0, .int p0]) ++ List.replicate (2 - (lg_sl ([.ref h0, .int p0])).length) Slot.unset).toArray = ls at hl ⊢
  have hl : lv_has ls 2 [(0, .ref h0), (1, .int p0)] := hl
  refine zstart (fun H hH => ?_)
  rw [← hH] at hP
  have hS : va_S A s.heap H [] := by rw [hH]; exact va_S.rf
  generalize ([] : List Loc) = locs at hS ⊢
  refine zgen (fun R Q hR hQ => ?_)
  refine lv_iload_n hx hb dX11_count_0 rfl (lv_at hl 1 rfl) ?_
  rcases (show (p0.toInt < 0 ∨ 9 < p0.toInt) ∨ p0.toInt = 0 ∨ p0.toInt = 1 ∨ p0.toInt = 2 ∨ p0.toInt = 3 ∨ p0.toInt = 4 ∨ p0.toInt = 5 ∨ p0.toInt = 6 ∨ p0.toInt = 7 ∨ p0.toInt = 8 ∨ p0.toInt = 9 by omega) with c1 | c1 | c1 | c1 | c1 | c1 | c1 | c1 | c1 | c1 | c1
  · refine lv_tableOut (tgt := 128) hx hb dX11_count_1 c1 (by decide) ?_
    refine lv_ldcw (v := (-1000000)) hx hb hown (hts _ qw1662) dX11_count_128 ?_
    have zr0 : ((-1000000) : Int32).toInt = (-1000000) := by decide
    rw [hQ]
    exact W.iret (v := ((-1000000))) hx hb hr (fun t ht hW => ⟨⟨(-1000000), (), rfl, (by (try dsimp only); exact fun kc kT q_fR q_fBr q_fPa q_fKp q_frf hc hb h => by unfold sV_cou; rw [if_neg (by omega), if_neg (by omega), if_neg (by omega), if_neg (by omega), if_neg (by omega), if_neg (by omega), if_neg (by omega), if_neg (by omega), if_neg (by omega), if_neg (by omega)]; decide), trivial⟩, hS.F ht⟩) hS.2.2 dX11_count_131
  · refine lv_tableIn (off := 55) (tgt := 56) hx hb dX11_count_1 (by omega) (by omega) (by rw [c1]; rfl) (by decide) ?_
    refine lv_aload_n hx hb dX11_count_56 rfl (lv_at hl 0 rfl) ?_
    refine va_get (D := (dC, dI)) (ci := 11) (v := .int nb) (C := RX11) (T := TX11) (N := 41) hx hb hts iX11 hown hK hP 0 rfl rfl 25 (by decide) (hts _ qw1152) (fun _ h9 => h9) rfl dX11_count_57 ?_
    rw [hQ]
    exact W.iret (v := nb) hx hb hr (fun t ht hW => ⟨⟨nb, (), rfl, (by (try dsimp only); exact fun kc kT q_fR q_fBr q_fPa q_fKp q_frf hc hb h => by unfold sV_cou; rw [if_pos (by omega)]; ), trivial⟩, hS.F ht⟩) hS.2.2 dX11_count_60
  · refine lv_tableIn (off := 60) (tgt := 61) hx hb dX11_count_1 (by omega) (by omega) (by rw [c1]; rfl) (by decide) ?_
    refine lv_aload_n hx hb dX11_count_61 rfl (lv_at hl 0 rfl) ?_
    refine va_get (D := (dC, dI)) (ci := 11) (v := .int np) (C := RX11) (T := TX11) (N := 41) hx hb hts iX11 hown hK hP 0 rfl rfl 26 (by decide) (hts _ qw1153) (fun _ h9 => h9) rfl dX11_count_62 ?_
    rw [hQ]
    exact W.iret (v := np) hx hb hr (fun t ht hW => ⟨⟨np, (), rfl, (by (try dsimp only); exact fun kc kT q_fR q_fBr q_fPa q_fKp q_frf hc hb h => by unfold sV_cou; rw [if_neg (by omega), if_pos (by omega)]; ), trivial⟩, hS.F ht⟩) hS.2.2 dX11_count_65
  · refine lv_tableIn (off := 65) (tgt := 66) hx hb dX11_count_1 (by omega) (by omega) (by rw [c1]; rfl) (by decide) ?_
    refine lv_aload_n hx hb dX11_count_66 rfl (lv_at hl 0 rfl) ?_
    refine va_get (D := (dC, dI)) (ci := 11) (v := .int lw) (C := RX11) (T := TX11) (N := 41) hx hb hts iX11 hown hK hP 0 rfl rfl 13 (by decide) (hts _ qw1140) (fun _ h9 => h9) rfl dX11_count_67 ?_
    rw [hQ]
    exact W.iret (v := lw) hx hb hr (fun t ht hW => ⟨⟨lw, (), rfl, (by (try dsimp only); exact fun kc kT q_fR q_fBr q_fPa q_fKp q_frf hc hb h => by unfold sV_cou; rw [if_neg (by omega), if_neg (by omega), if_pos (by omega)]; ), trivial⟩, hS.F ht⟩) hS.2.2 dX11_count_70
  · refine lv_tableIn (off := 70) (tgt := 71) hx hb dX11_count_1 (by omega) (by omega) (by rw [c1]; rfl) (by decide) ?_
    refine lv_aload_n hx hb dX11_count_71 rfl (lv_at hl 0 rfl) ?_
    refine va_get (D := (dC, dI)) (ci := 11) (v := .int tsz) (C := RX11) (T := TX11) (N := 41) hx hb hts iX11 hown hK hP 0 rfl rfl 2 (by decide) (hts _ qw1129) (fun _ h9 => h9) rfl dX11_count_72 ?_
    rw [hQ]
    exact W.iret (v := tsz) hx hb hr (fun t ht hW => ⟨⟨tsz, (), rfl, (by (try dsimp only); exact fun kc kT q_fR q_fBr q_fPa q_fKp q_frf hc hb h => by unfold sV_cou; rw [if_neg (by omega), if_neg (by omega), if_neg (by omega), if_pos (by omega)]; ), trivial⟩, hS.F ht⟩) hS.2.2 dX11_count_75
  · refine lv_tableIn (off := 75) (tgt := 76) hx hb dX11_count_1 (by omega) (by omega) (by rw [c1]; rfl) (by decide) ?_
    refine lv_aload_n hx hb dX11_count_76 rfl (lv_at hl 0 rfl) ?_
    refine va_get (D := (dC, dI)) (ci := 11) (v := .int ho) (C := RX11) (T := TX11) (N := 41) hx hb hts iX11 hown hK hP 0 rfl rfl 29 (by decide) (hts _ qw1156) (fun _ h9 => h9) rfl dX11_count_77 ?_
    rw [hQ]
    exact W.iret (v := ho) hx hb hr (fun t ht hW => ⟨⟨ho, (), rfl, (by (try dsimp only); exact fun kc kT q_fR q_fBr q_fPa q_fKp q_frf hc hb h => by unfold sV_cou; rw [if_neg (by omega), if_neg (by omega), if_neg (by omega), if_neg (by omega), if_pos (by omega)]; ), trivial⟩, hS.F ht⟩) hS.2.2 dX11_count_80
  · refine lv_tableIn (off := 80) (tgt := 81) hx hb dX11_count_1 (by omega) (by omega) (by rw [c1]; rfl) (by decide) ?_
    refine lv_aload_n hx hb dX11_count_81 rfl (lv_at hl 0 rfl) ?_
    refine va_get (D := (dC, dI)) (ci := 11) (v := .ref aN) (C := RX11) (T := TX11) (N := 41) hx hb hts iX11 hown hK hP 0 rfl rfl 27 (by decide) (hts _ qw1154) (fun _ h9 => h9) rfl dX11_count_82 ?_
    refine lv_bipush (v := 15) hx hb dX11_count_85 (by decide) ?_
    refine va_iald hx hb hK hP 1 0 rfl rfl (by unfold vp_in; decide) dX11_count_87 ?_
    refine lv_topi (fun v87 e87 => ?_)
    rw [hQ]
    exact W.iret (v := v87) hx hb hr (fun t ht hW => ⟨⟨v87, (), rfl, (by (try dsimp only); exact fun kc kT q_fR q_fBr q_fPa q_fKp q_frf hc hb h => by unfold sV_cou; rw [if_neg (by omega), if_neg (by omega), if_neg (by omega), if_neg (by omega), if_neg (by omega), if_pos (by omega)]; exact congrArg Int32.toInt ((zIxN (n := 15) e87 (by decide)).trans (zSr_mo h.1).symm)), trivial⟩, hS.F ht⟩) hS.2.2 dX11_count_88
  · refine lv_tableIn (off := 88) (tgt := 89) hx hb dX11_count_1 (by omega) (by omega) (by rw [c1]; rfl) (by decide) ?_
    refine lv_aload_n hx hb dX11_count_89 rfl (lv_at hl 0 rfl) ?_
    refine va_get (D := (dC, dI)) (ci := 11) (v := .int nb) (C := RX11) (T := TX11) (N := 41) hx hb hts iX11 hown hK hP 0 rfl rfl 25 (by decide) (hts _ qw1152) (fun _ h9 => h9) rfl dX11_count_90 ?_
    refine lv_if_ne (tgt := 100) hx hb dX11_count_93 (by decide) (fun c93 => ?_) (fun c93 => ?_)
    · have c93 : ¬ nb.toInt = 0 := z6 rfl (by decide) c93
      refine lv_aload_n hx hb dX11_count_100 rfl (lv_at hl 0 rfl) ?_
      refine va_get (D := (dC, dI)) (ci := 11) (v := .ref aN) (C := RX11) (T := TX11) (N := 41) hx hb hts iX11 hown hK hP 0 rfl rfl 27 (by decide) (hts _ qw1154) (fun _ h9 => h9) rfl dX11_count_101 ?_
      refine lv_bipush (v := 13) hx hb dX11_count_104 (by decide) ?_
      refine va_iald hx hb hK hP 1 0 rfl rfl (by unfold vp_in; decide) dX11_count_106 ?_
      refine lv_topi (fun v106 e106 => ?_)
      have i106 : v106.toInt = (fN 13).toInt ∧ 0 ≤ v106.toInt ∧ v106.toInt ≤ 6 := zNw_13 ci_fN_zNw_np e106
      refine lv_iconst (v := 1) hx hb dX11_count_107 (by decide) ?_
      refine lv_isub hx hb dX11_count_108 ?_
      refine lv_topi (fun v108 e108 => ?_)
      have i108 : v108.toInt = v106.toInt - 1 := zsub e108 rfl (by decide) (by omega) (by omega)
      rw [hQ]
      exact W.iret (v := v108) hx hb hr (fun t ht hW => ⟨⟨v108, (), rfl, (by (try dsimp only); exact fun kc kT q_fR q_fBr q_fPa q_fKp q_frf hc hb h => by unfold sV_cou; rw [if_neg (by omega), if_neg (by omega), if_neg (by omega), if_neg (by omega), if_neg (by omega), if_neg (by omega), if_pos (by omega)]; rw [zSr_wd h.1, ← zIxN (n := 13) e106 (by decide), ← e108]), trivial⟩, hS.F ht⟩) hS.2.2 dX11_count_109
    · have c93 : nb.toInt = 0 := z5 rfl (by decide) c93
      refine lv_iconst (v := (-1)) hx hb dX11_count_96 (by decide) ?_
      refine lv_goto (tgt := 109) hx hb dX11_count_97 (by decide) ?_
      have zr0 : ((-1) : Int32).toInt = (-1) := by decide
      rw [hQ]
      exact W.iret (v := ((-1))) hx hb hr (fun t ht hW => ⟨⟨(-1), (), rfl, (by (try dsimp only); exact fun kc kT q_fR q_fBr q_fPa q_fKp q_frf hc hb h => by have zb := hb.2.2.2.1.2.2.1; unfold sV_cou; rw [if_neg (by omega), if_neg (by omega), if_neg (by omega), if_neg (by omega), if_neg (by omega), if_neg (by omega), if_pos (by omega)]; (have zk : (-1 : Int32).toInt = -1 := (by decide)); omega), trivial⟩, hS.F ht⟩) hS.2.2 dX11_count_109
  · refine lv_tableIn (off := 109) (tgt := 110) hx hb dX11_count_1 (by omega) (by omega) (by rw [c1]; rfl) (by decide) ?_
    refine lv_aload_n hx hb dX11_count_110 rfl (lv_at hl 0 rfl) ?_
    refine va_get (D := (dC, dI)) (ci := 11) (v := .ref aN) (C := RX11) (T := TX11) (N := 41) hx hb hts iX11 hown hK hP 0 rfl rfl 27 (by decide) (hts _ qw1154) (fun _ h9 => h9) rfl dX11_count_111 ?_
    refine lv_bipush (v := 16) hx hb dX11_count_114 (by decide) ?_
    refine va_iald hx hb hK hP 1 0 rfl rfl (by unfold vp_in; decide) dX11_count_116 ?_
    refine lv_topi (fun v116 e116 => ?_)
    have i116 : v116.toInt = (fN 16).toInt ∧ 0 ≤ v116.toInt ∧ v116.toInt ≤ 20 := zNw_16 ci_fN_zNw_np e116
    rw [hQ]
    exact W.iret (v := v116) hx hb hr (fun t ht hW => ⟨⟨v116, (), rfl, (by (try dsimp only); exact fun kc kT q_fR q_fBr q_fPa q_fKp q_frf hc hb h => by unfold sV_cou; rw [if_neg (by omega), if_neg (by omega), if_neg (by omega), if_neg (by omega), if_neg (by omega), if_neg (by omega), if_neg (by omega), if_pos (by omega)]; exact congrArg Int32.toInt ((zIxN (n := 16) e116 (by decide)).trans (zSr_pn h.1).symm)), trivial⟩, hS.F ht⟩) hS.2.2 dX11_count_117
  · refine lv_tableIn (off := 117) (tgt := 118) hx hb dX11_count_1 (by omega) (by omega) (by rw [c1]; rfl) (by decide) ?_
    refine lv_aload_n hx hb dX11_count_118 rfl (lv_at hl 0 rfl) ?_
    refine va_get (D := (dC, dI)) (ci := 11) (v := .int br) (C := RX11) (T := TX11) (N := 41) hx hb hts iX11 hown hK hP 0 rfl rfl 30 (by decide) (hts _ qw1157) (fun _ h9 => h9) rfl dX11_count_119 ?_
    rw [hQ]
    exact W.iret (v := br) hx hb hr (fun t ht hW => ⟨⟨br, (), rfl, (by (try dsimp only); exact fun kc kT q_fR q_fBr q_fPa q_fKp q_frf hc hb h => by unfold sV_cou; rw [if_neg (by omega), if_neg (by omega), if_neg (by omega), if_neg (by omega), if_neg (by omega), if_neg (by omega), if_neg (by omega), if_neg (by omega), if_pos (by omega)]; ), trivial⟩, hS.F ht⟩) hS.2.2 dX11_count_122
  · refine lv_tableIn (off := 122) (tgt := 123) hx hb dX11_count_1 (by omega) (by omega) (by rw [c1]; rfl) (by decide) ?_
    refine lv_aload_n hx hb dX11_count_123 rfl (lv_at hl 0 rfl) ?_
    refine va_get (D := (dC, dI)) (ci := 11) (v := .int ac) (C := RX11) (T := TX11) (N := 41) hx hb hts iX11 hown hK hP 0 rfl rfl 32 (by decide) (hts _ qw1159) (fun _ h9 => h9) rfl dX11_count_124 ?_
    rw [hQ]
    exact W.iret (v := ac) hx hb hr (fun t ht hW => ⟨⟨ac, (), rfl, (by (try dsimp only); exact fun kc kT q_fR q_fBr q_fPa q_fKp q_frf hc hb h => by unfold sV_cou; rw [if_neg (by omega), if_neg (by omega), if_neg (by omega), if_neg (by omega), if_neg (by omega), if_neg (by omega), if_neg (by omega), if_neg (by omega), if_neg (by omega), if_pos (by omega)]; exact h.2.1.1), trivial⟩, hS.F ht⟩) hS.2.2 dX11_count_127
set_option maxHeartbeats 4000000 in
set_option maxRecDepth 100000 in
theorem g_X11_paintNow (l : Launch) (dC : Nat → ClassId) (dI : Nat → Nat → Nat) (cI cJ : ClassId) (h0 : Nat) (p0 : Int32) (p1 : Int32) (th : Int32) (tB : Nat) (tsz : Int32) (tat : Int32) (wr : Int32) (dp : Int32) (rC : Nat) (rV : Nat) (rD : Nat) (rK : Nat) (rT : Nat) (rS : Nat) (rU : Nat) (lw : Int32) (tx : Int32) (rL : Nat) (rX : Nat) (qR : Nat) (qB : Nat) (qP : Nat) (qnb : Int32) (qnp : Int32) (aR : Nat) (aB : Nat) (aP : Nat) (nb : Int32) (np : Int32) (aN : Nat) (rf : Nat) (ho : Int32) (br : Int32) (aK : Nat) (ac : Int32) (dw : Int64) (aE : Nat) (sr : Int32) (sf : Int32) (aA : Nat) (aH : Nat) (aI : Nat) (hi : Int32) (fC : Nat → Int32) (fV : Nat → Int32) (fK : Nat → Int32) (fT : Nat → Int32) (fS : Nat → Int32) (fU : Nat → Int32) (fL : Nat → Int32) (fX : Nat → Int32) (fBr : Nat → Int32) (fPa : Nat → Int32) (fN : Nat → Int32) (sz : Nat) (n_ac : 0 ≤ ac.toInt ∧ ac.toInt ≤ 40) (n_hi : 0 ≤ hi.toInt ∧ hi.toInt ≤ 1) (n_ho : (-1) ≤ ho.toInt ∧ ho.toInt ≤ 3) (n_lw : 0 ≤ lw.toInt ∧ lw.toInt ≤ 4) (n_nb : 0 ≤ nb.toInt ∧ nb.toInt ≤ 6) (n_np : 0 ≤ np.toInt ∧ np.toInt ≤ 5) (n_p0 : 0 ≤ p0.toInt ∧ p0.toInt ≤ 4) (n_p1 : 0 ≤ p1.toInt ∧ p1.toInt ≤ 5) (n_qnb : 0 ≤ qnb.toInt ∧ qnb.toInt ≤ 6) (n_qnp : 0 ≤ qnp.toInt ∧ qnp.toInt ≤ 5) (n_tat : 0 ≤ tat.toInt ∧ tat.toInt ≤ 260) (n_tsz : 0 ≤ tsz.toInt ∧ tsz.toInt ≤ 240) (n_wr : (-1) ≤ wr.toInt ∧ wr.toInt ≤ 260) (hls : zLs ho fC fV fK fT fS fU) (hp0 : p0.toInt < np.toInt) (hmn : (fN 16).toInt ≤ 19) (ci_fBr_zBr_nb : zBr nb fBr) (ci_fN_zNw_np : zNw np fN) (ci_fPa_zBr_np : zBr np fPa)  : Met l yX11_paintNow (.code yX11_paintNow cX11_paintNow 5 (some .int) :: wA) ({ frames := 7, cells := 0, slots := 0, locals := 171 }) (zP (dC, dI) [(cI, .int), (cJ, .long)] [.ref h0, .int p0, .int p1] sz [(h0, .inr (11, [.int th, .ref tB, .int tsz, .int tat, .int wr, .int dp, .ref rC, .ref rV, .ref rD, .ref rK, .ref rT, .ref rS, .ref rU, .int lw, .int tx, .ref rL, .ref rX, .ref qR, .ref qB, .ref qP, .int qnb, .int qnp, .ref aR, .ref aB, .ref aP, .int nb, .int np, .ref aN, .ref rf, .int ho, .int br, .ref aK, .int ac, .long dw, .ref aE, .int sr, .int sf, .ref aA, .ref aH, .ref aI, .int hi])), (rC, .inl (cI, 2600, .inl fC)), (rV, .inl (cI, 2600, .inl fV)), (rK, .inl (cI, 5, .inl fK)), (rT, .inl (cI, 700, .inl fT)), (rS, .inl (cI, 700, .inl fS)), (rU, .inl (cI, 700, .inl fU)), (rL, .inl (cI, 6, .inl fL)), (rX, .inl (cI, 80, .inl fX)), (aB, .inl (cI, 24, .inl fBr)), (aP, .inl (cI, 20, .inl fPa)), (aN, .inl (cI, 97, .inl fN))]) (va_Qi (fun (r : Int32) (u : (Nat → Int32) × (Nat → Int32) × (Nat → Int32)) => ((-1) ≤ r.toInt) ∧ (r.toInt ≤ 9) ∧ (∀ (kc : zK3) (kT : zT) (q_fR : Nat → Int32) (kl : Option ((Int → Int) × Int)), zCn q_fR fBr fPa nb.toInt np.toInt kc → zKo nb.toInt np.toInt kc kT → zSr nb.toInt np.toInt kT.1 fN → zLwR ho fC fV fK fT fS fU kl → (0 ≤ p0.toInt ∧ p0.toInt < np.toInt) → (0 ≤ p1.toInt ∧ p1.toInt < nb.toInt) → r = sV_pnt kc kT.1 kl p0 p1 ∧ zSr nb.toInt np.toInt (sN_pnt kc kT.1 kl p0 p1) u.2.2) ∧ (zNw np u.2.2)) (fun (u : (Nat → Int32) × (Nat → Int32) × (Nat → Int32)) (t : State) => va_P (dC, dI) vwCl [(h0, .inr (11, [.int th, .ref tB, .int tsz, .int tat, .int wr, .int dp, .ref rC, .ref rV, .ref rD, .ref rK, .ref rT, .ref rS, .ref rU, .int lw, .int tx, .ref rL, .ref rX, .ref qR, .ref qB, .ref qP, .int qnb, .int qnp, .ref aR, .ref aB, .ref aP, .int nb, .int np, .ref aN, .ref rf, .int ho, .int br, .ref aK, .int ac, .long dw, .ref aE, .int sr, .int sf, .ref aA, .ref aH, .ref aI, .int hi])), (rC, .inl (cI, 2600, .inl fC)), (rV, .inl (cI, 2600, .inl fV)), (rK, .inl (cI, 5, .inl fK)), (rT, .inl (cI, 700, .inl fT)), (rS, .inl (cI, 700, .inl fS)), (rU, .inl (cI, 700, .inl fU)), (rL, .inl (cI, 6, .inl u.1)), (rX, .inl (cI, 80, .inl u.2.1)), (aB, .inl (cI, 24, .inl fBr)), (aP, .inl (cI, 20, .inl fPa)), (aN, .inl (cI, 97, .inl u.2.2))] t.heap ∧ va_D (va_A [(h0, .inr (11, [.int th, .ref tB, .int tsz, .int tat, .int wr, .int dp, .ref rC, .ref rV, .ref rD, .ref rK, .ref rT, .ref rS, .ref rU, .int lw, .int tx, .ref rL, .ref rX, .ref qR, .ref qB, .ref qP, .int qnb, .int qnp, .ref aR, .ref aB, .ref aP, .int nb, .int np, .ref aN, .ref rf, .int ho, .int br, .ref aK, .int ac, .long dw, .ref aE, .int sr, .int sf, .ref aA, .ref aH, .ref aI, .int hi])), (rC, .inl (cI, 2600, .inl fC)), (rV, .inl (cI, 2600, .inl fV)), (rK, .inl (cI, 5, .inl fK)), (rT, .inl (cI, 700, .inl fT)), (rS, .inl (cI, 700, .inl fS)), (rU, .inl (cI, 700, .inl fU)), (rL, .inl (cI, 6, .inl fL)), (rX, .inl (cI, 80, .inl fX)), (aB, .inl (cI, 24, .inl fBr)), (aP, .inl (cI, 20, .inl fPa)), (aN, .inl (cI, 97, .inl fN))] sz) [(h0, .inr (11, [.int th, .ref tB, .int tsz, .int tat, .int wr, .int dp, .ref rC, .ref rV, .ref rD, .ref rK, .ref rT, .ref rS, .ref rU, .int lw, .int tx, .ref rL, .ref rX, .ref qR, .ref qB, .ref qP, .int qnb, .int qnp, .ref aR, .ref aB, .ref aP, .int nb, .int np, .ref aN, .ref rf, .int ho, .int br, .ref aK, .int ac, .long dw, .ref aE, .int sr, .int sf, .ref aA, .ref aH, .ref aI, .int hi])), (rC, .inl (cI, 2600, .inl fC)), (rV, .inl (cI, 2600, .inl fV)), (rK, .inl (cI, 5, .inl fK)), (rT, .inl (cI, 700, .inl fT)), (rS, .inl (cI, 700, .inl fS)), (rU, .inl (cI, 700, .inl fU)), (rL, .inl (cI, 6, .inl u.1)), (rX, .inl (cI, 80, .inl u.2.1)), (aB, .inl (cI, 24, .inl fBr)), (aP, .inl (cI, 20, .inl fPa)), (aN, .inl (cI, 97, .inl u.2.2))]) (va_A [(h0, .inr (11, [.int th, .ref tB, .int tsz, .int tat, .int wr, .int dp, .ref rC, .ref rV, .ref rD, .ref rK, .ref rT, .ref rS, .ref rU, .int lw, .int tx, .ref rL, .ref rX, .ref qR, .ref qB, .ref qP, .int qnb, .int qnp, .ref aR, .ref aB, .ref aP, .int nb, .int np, .ref aN, .ref rf, .int ho, .int br, .ref aK, .int ac, .long dw, .ref aE, .int sr, .int sf, .ref aA, .ref aH, .ref aI, .int hi])), (rC, .inl (cI, 2600, .inl fC)), (rV, .inl (cI, 2600, .inl fV)), (rK, .inl (cI, 5, .inl fK)), (rT, .inl (cI, 700, .inl fT)), (rS, .inl (cI, 700, .inl fS)), (rU, .inl (cI, 700, .inl fU)), (rL, .inl (cI, 6, .inl fL)), (rX, .inl (cI, 80, .inl fX)), (aB, .inl (cI, 24, .inl fBr)), (aP, .inl (cI, 20, .inl fPa)), (aN, .inl (cI, 97, .inl fN))] sz)) 0 0 (va_A [(h0, .inr (11, [.int th, .ref tB, .int tsz, .int tat, .int wr, .int dp, .ref rC, .ref rV, .ref rD, .ref rK, .ref rT, .ref rS, .ref rU, .int lw, .int tx, .ref rL, .ref rX, .ref qR, .ref qB, .ref qP, .int qnb, .int qnp, .ref aR, .ref aB, .ref aP, .int nb, .int np, .ref aN, .ref rf, .int ho, .int br, .ref aK, .int ac, .long dw, .ref aE, .int sr, .int sf, .ref aA, .ref aH, .ref aI, .int hi])), (rC, .inl (cI, 2600, .inl fC)), (rV, .inl (cI, 2600, .inl fV)), (rK, .inl (cI, 5, .inl fK)), (rT, .inl (cI, 700, .inl fT)), (rS, .inl (cI, 700, .inl fS)), (rU, .inl (cI, 700, .inl fU)), (rL, .inl (cI, 6, .inl fL)), (rX, .inl (cI, 80, .inl fX)), (aB, .inl (cI, 24, .inl fBr)), (aP, .inl (cI, 20, .inl fPa)), (aN, .inl (cI, 97, .inl fN))] sz) := by
  refine Met.ofW (cc := cX11_paintNow) (maxL := 5) (ret := (some .int)) (by decide) rfl ?_
  intro p e s m args below meth c s₁ B hml hv
  have y_ac : zHid (0 ≤ ac.toInt ∧ ac.toInt ≤ 40) := n_ac
  have y_hi : zHid (0 ≤ hi.toInt ∧ hi.toInt ≤ 1) := n_hi
  have y_ho : zHid ((-1) ≤ ho.toInt ∧ ho.toInt ≤ 3) := n_ho
  have y_lw : zHid (0 ≤ lw.toInt ∧ lw.toInt ≤ 4) := n_lw
  have y_qnb : zHid (0 ≤ qnb.toInt ∧ qnb.toInt ≤ 6) := n_qnb
  have y_qnp : zHid (0 ≤ qnp.toInt ∧ qnp.toInt ≤ 5) := n_qnp
  have y_tat : zHid (0 ≤ tat.toInt ∧ tat.toInt ≤ 260) := n_tat
  have y_tsz : zHid (0 ≤ tsz.toInt ∧ tsz.toInt ≤ 240) := n_tsz
  have y_wr : zHid ((-1) ≤ wr.toInt ∧ wr.toInt ≤ 260) := n_wr
  clear n_ac n_hi n_ho n_lw n_qnb n_qnp n_tat n_tsz n_wr
  obtain ⟨hargs, hsz, hP, hK, hT⟩ := hv
  have hx := B.exec
  have hb := B.bytes
  have hr := B.returns
  have hts : ∀ w ∈ wA, w.before args s = true := fun w h => atoms_spec (ws := .code yX11_paintNow cX11_paintNow 5 (some .int) :: wA) B.pre w (List.mem_cons_of_mem _ h)
  have hown : s.vm.findClass RX11 = some m.cls := findClass_of_methodNamed B.named
  have hlocks := B.notSynchronized
  subst hsz
  have hD := hT.self (sz := s.heap.size)
  generalize hAe : va_A [(h0, .inr (11, [.int th, .ref tB, .int tsz, .int tat, .int wr, .int dp, .ref rC, .ref rV, .ref rD, .ref rK, .ref rT, .ref rS, .ref rU, .int lw, .int tx, .ref rL, .ref rX, .ref qR, .ref qB, .ref qP, .int qnb, .int qnp, .ref aR, .ref aB, .ref aP, .int nb, .int np, .ref aN, .ref rf, .int ho, .int br, .ref aK, .int ac, .long dw, .ref aE, .int sr, .int sf, .ref aA, .ref aH, .ref aI, .int hi])), (rC, .inl (cI, 2600, .inl fC)), (rV, .inl (cI, 2600, .inl fV)), (rK, .inl (cI, 5, .inl fK)), (rT, .inl (cI, 700, .inl fT)), (rS, .inl (cI, 700, .inl fS)), (rU, .inl (cI, 700, .inl fU)), (rL, .inl (cI, 6, .inl fL)), (rX, .inl (cI, 80, .inl fX)), (aB, .inl (cI, 24, .inl fBr)), (aP, .inl (cI, 20, .inl fPa)), (aN, .inl (cI, 97, .inl fN))] s.heap.size = A at hD ⊢
  have hA : ∀ q : Nat, s.heap.size ≤ q → A q := fun q h => by rw [← hAe]; exact Or.inr h
  have hl := lv_entry ([.ref h0, .int p0, .int p1]) (n := 5) (Nat.le_of_ble_eq_true rfl)
  rw [show entryFrame m args 5 = entryFrame m ([.ref h0, .int p0, .int p1] : List Value).toArray 5 by rw [hargs], lg_entry_eq]
  generalize (lg_sl ([.ref h0, .int p0, .int p1]) ++ List.replicate (5 - (lg_sl ([.ref h0, .int p0, .int p1])).length) Slot.unset).toArray = ls at hl ⊢
  have hl : lv_has ls 5 [(0, .ref h0), (1, .int p0), (2, .int p1)] := hl
  refine zstart (fun H hH => ?_)
  rw [← hH] at hP
  have hS : va_S A s.heap H [] := by rw [hH]; exact va_S.rf
  generalize ([] : List Loc) = locs at hS ⊢
  refine zgen (fun R Q hR hQ => ?_)
  refine lv_aload_n hx hb dX11_paintNow_0 rfl (lv_at hl 0 rfl) ?_
  refine lv_iload_n hx hb dX11_paintNow_1 rfl (lv_at hl 1 rfl) ?_
  refine lv_iload_n hx hb dX11_paintNow_2 rfl (lv_at hl 2 rfl) ?_
  refine lv_aload_n hx hb dX11_paintNow_3 rfl (lv_at hl 0 rfl) ?_
  refine lv_iload_n hx hb dX11_paintNow_4 rfl (lv_at hl 2 rfl) ?_
  refine lv_iconst (v := 0) hx hb dX11_paintNow_5 (by decide) ?_
  obtain ⟨hPc, hDc⟩ := zc2 (wc := [(h0, .inr (11, [.int th, .ref tB, .int tsz, .int tat, .int wr, .int dp, .ref rC, .ref rV, .ref rD, .ref rK, .ref rT, .ref rS, .ref rU, .int lw, .int tx, .ref rL, .ref rX, .ref qR, .ref qB, .ref qP, .int qnb, .int qnp, .ref aR, .ref aB, .ref aP, .int nb, .int np, .ref aN, .ref rf, .int ho, .int br, .ref aK, .int ac, .long dw, .ref aE, .int sr, .int sf, .ref aA, .ref aH, .ref aI, .int hi])), (aB, .inl (cI, 24, .inl fBr))]) hP hD [0, 9] (by decide +kernel) rfl
  have hFc := zfr hS hA
  refine va_calli (va_runV (As := [.int p1, .int 0]) (rest := [.int p1, .int p0, .ref h0]) ⟨hx, hb, hml, hown, hts⟩ (g_X11_of l dC dI cI cJ h0 p1 0 th tB tsz tat wr dp rC rV rD rK rT rS rU lw tx rL rX qR qB qP qnb qnp aR aB aP nb np aN rf ho br aK ac dw aE sr sf aA aH aI hi fBr H.size y_ac y_hi y_ho y_lw n_nb n_np n_p1 (by decide) y_qnb y_qnp y_tat y_tsz y_wr) (cwV 2 hts (zgV qw1386 qw1388 qw54 qw108 qw1389) rfl rfl rfl hd_X11_of ⟨by rw [hR]; exact Nat.le_of_ble_eq_true rfl, by rw [hR]; exact Nat.le_of_ble_eq_true rfl⟩) (zPV hPc hK hDc (va_recv (q := (RX11, TX11, 41)) hK hP (ci := 11) (q0 := 0) rfl rfl)) rfl rfl hl.1 rfl (lv_room (Nat.le_of_ble_eq_true rfl)) dX11_paintNow_6 ⟨Nat.zero_le _, Nat.zero_le _⟩) hS (fun q _ h => hFc q h) hFc (fun v6 u6 t H locs ht hvm hw hB hz1 hk1 hS9 => ?_)
  replace hP := zkeep hP hk1
  replace hS := hS9
  clear hPc hDc hFc hk1 hz1 hvm hS9
  have zn6_0 : (0 : Int32).toInt = 0 := by decide
  have f6_0 : (v6 = fBr (4 * p1.toInt.toNat + (0 : Int32).toInt.toNat)) := hw
  have F6 := f6_0
  obtain ⟨hPc, hDc, hFc⟩ := zc3 (wc := [(h0, .inr (11, [.int th, .ref tB, .int tsz, .int tat, .int wr, .int dp, .ref rC, .ref rV, .ref rD, .ref rK, .ref rT, .ref rS, .ref rU, .int lw, .int tx, .ref rL, .ref rX, .ref qR, .ref qB, .ref qP, .int qnb, .int qnp, .ref aR, .ref aB, .ref aP, .int nb, .int np, .ref aN, .ref rf, .int ho, .int br, .ref aK, .int ac, .long dw, .ref aE, .int sr, .int sf, .ref aA, .ref aH, .ref aI, .int hi])), (rC, .inl (cI, 2600, .inl fC)), (rV, .inl (cI, 2600, .inl fV)), (rK, .inl (cI, 5, .inl fK)), (rT, .inl (cI, 700, .inl fT)), (rS, .inl (cI, 700, .inl fS)), (rU, .inl (cI, 700, .inl fU)), (rL, .inl (cI, 6, .inl fL)), (rX, .inl (cI, 80, .inl fX)), (aB, .inl (cI, 24, .inl fBr)), (aP, .inl (cI, 20, .inl fPa)), (aN, .inl (cI, 97, .inl fN))]) hP hD hS hA [0, 1, 2, 3, 4, 5, 6, 7, 8, 9, 10, 11] (by decide +kernel) rfl
  refine va_calli (va_runV (As := [.int p0, .int p1, .int v6]) (rest := []) ⟨hx, hb, hml, hown, hts⟩ (g_X11_shownOf l dC dI cI cJ h0 p0 p1 v6 th tB tsz tat wr dp rC rV rD rK rT rS rU lw tx rL rX qR qB qP qnb qnp aR aB aP nb np aN rf ho br aK ac dw aE sr sf aA aH aI hi fC fV fK fT fS fU fL fX fBr fPa fN H.size y_ac y_hi y_ho y_lw n_nb n_np n_p0 n_p1 y_qnb y_qnp y_tat y_tsz y_wr (hls) ci_fBr_zBr_nb ci_fN_zNw_np ci_fPa_zBr_np) (cwV 3 hts (zgV qw1438 qw1440 qw60 qw108 qw1441) rfl rfl rfl hd_X11_shownOf ⟨by rw [hR]; exact Nat.le_of_ble_eq_true rfl, by rw [hR]; exact Nat.le_of_ble_eq_true rfl⟩) (zPV hPc hK hDc (va_recv (q := (RX11, TX11, 41)) hK hP (ci := 11) (q0 := 0) rfl rfl)) rfl rfl hl.1 rfl (lv_room (Nat.le_of_ble_eq_true rfl)) dX11_paintNow_9 ⟨Nat.zero_le _, Nat.zero_le _⟩) hS (fun q _ h => hFc q h) hFc (fun v9 u9 t H locs ht hvm hw hB hz1 hk1 hS9 => ?_)
  obtain ⟨u9_0, u9_1⟩ := u9
  obtain ⟨hP9, hD9⟩ := zj2 (wX := [(h0, .inr (11, [.int th, .ref tB, .int tsz, .int tat, .int wr, .int dp, .ref rC, .ref rV, .ref rD, .ref rK, .ref rT, .ref rS, .ref rU, .int lw, .int tx, .ref rL, .ref rX, .ref qR, .ref qB, .ref qP, .int qnb, .int qnp, .ref aR, .ref aB, .ref aP, .int nb, .int np, .ref aN, .ref rf, .int ho, .int br, .ref aK, .int ac, .long dw, .ref aE, .int sr, .int sf, .ref aA, .ref aH, .ref aI, .int hi])), (rC, .inl (cI, 2600, .inl fC)), (rV, .inl (cI, 2600, .inl fV)), (rK, .inl (cI, 5, .inl fK)), (rT, .inl (cI, 700, .inl fT)), (rS, .inl (cI, 700, .inl fS)), (rU, .inl (cI, 700, .inl fU)), (rL, .inl (cI, 6, .inl u9_0)), (rX, .inl (cI, 80, .inl u9_1)), (aB, .inl (cI, 24, .inl fBr)), (aP, .inl (cI, 20, .inl fPa)), (aN, .inl (cI, 97, .inl fN))]) hP hD hk1 hFc ht hB [0, 1, 2, 3, 4, 5, 6, 7, 8, 9, 10, 11] [(true, 0), (true, 1), (true, 2), (true, 3), (true, 4), (true, 5), (true, 6), (true, 7), (true, 8), (true, 9), (true, 10), (true, 11)] rfl (by decide +kernel) (by decide +kernel) rfl
  clear hP hD hS hPc hDc hFc hB hk1 hz1 hvm
  have hP := hP9
  have hD := hD9
  have hS := hS9
  clear hP9 hD9 hS9
  obtain ⟨f9_0, f9_1, f9_2⟩ : ((-1) ≤ v9.toInt) ∧ (v9.toInt ≤ 9) ∧ (∀ lw : Option ((Int → Int) × Int), zLwR ho fC fV fK fT fS fU lw → zB5 v6 (fBr (4 * p1.toInt.toNat + 2)) (fN p1.toInt.toNat) (fPa (4 * p0.toInt.toNat)) (fN (6 + p0.toInt.toNat)) (fN 15) → v9 = zSh (fPa (4 * p0.toInt.toNat + 3)) (zLat (fun i => fN (17 + i)) p0 (fN 16).toInt.toNat) (zLkv lw v6 (fBr (4 * p1.toInt.toNat + 2)) (fN p1.toInt.toNat) (fPa (4 * p0.toInt.toNat)) (fN (6 + p0.toInt.toNat)) (fN 15))) := hw
  have F9 := f9_2
  refine lv_istore_n (lv' := [(3, .int v9), (0, .ref h0), (1, .int p0), (2, .int p1)]) hx hb dX11_paintNow_12 rfl hl (by decide) rfl (fun ls hl => ?_)
  refine lv_bipush (v := 17) hx hb dX11_paintNow_13 (by decide) ?_
  refine lv_iconst (v := 4) hx hb dX11_paintNow_15 (by decide) ?_
  refine lv_aload_n hx hb dX11_paintNow_16 rfl (lv_at hl 1 rfl) ?_
  refine va_get (D := (dC, dI)) (ci := 11) (v := .ref aN) (C := RX11) (T := TX11) (N := 41) hx hb hts iX11 hown hK hP 0 rfl rfl 27 (by decide) (hts _ qw1154) (fun _ h9 => h9) rfl dX11_paintNow_17 ?_
  refine lv_bipush (v := 16) hx hb dX11_paintNow_20 (by decide) ?_
  refine va_iald hx hb hK hP 11 0 rfl rfl (by unfold vp_in; decide) dX11_paintNow_22 ?_
  refine lv_topi (fun v22 e22 => ?_)
  have i22 : v22.toInt = (fN 16).toInt ∧ 0 ≤ v22.toInt ∧ v22.toInt ≤ 19 := by have := zNw_16 ci_fN_zNw_np e22; omega
  refine lv_imul hx hb dX11_paintNow_23 ?_
  refine lv_topi (fun v23 e23 => ?_)
  have i23 : v23.toInt = 4 * v22.toInt := zmul e23 (by decide) rfl (by omega) (by omega)
  refine lv_iadd hx hb dX11_paintNow_24 ?_
  refine lv_topi (fun v24 e24 => ?_)
  have i24 : v24.toInt = 17 + v23.toInt := zadd e24 (by decide) rfl (by omega) (by omega)
  refine lv_istore (lv' := [(4, .int v24), (3, .int v9), (0, .ref h0), (1, .int p0), (2, .int p1)]) hx hb dX11_paintNow_25 hl (by decide) rfl (fun ls hl => ?_)
  have q27 := zNw_16 ci_fN_zNw_np e22
  refine lv_aload_n hx hb dX11_paintNow_27 rfl (lv_at hl 2 rfl) ?_
  refine va_get (D := (dC, dI)) (ci := 11) (v := .ref aN) (C := RX11) (T := TX11) (N := 41) hx hb hts iX11 hown hK hP 0 rfl rfl 27 (by decide) (hts _ qw1154) (fun _ h9 => h9) rfl dX11_paintNow_28 ?_
  refine lv_iload hx hb dX11_paintNow_31 (lv_at hl 0 rfl) ?_
  refine lv_iload_n hx hb dX11_paintNow_33 rfl (lv_at hl 4 rfl) ?_
  refine va_iast hx hb hK hP hD hS 11 0 rfl rfl (vp_in_iff.mpr ⟨by omega, by omega⟩) dX11_paintNow_34 (fun H locs hP9 hD9 hS9 => ?_)
  clear hP hD hS
  obtain ⟨v34_f, e34⟩ : ∃ g : Nat → Int32, g = upd fN (v24).toNatClampNeg p1 := ⟨_, rfl⟩
  rw [← e34] at hP9 hD9
  obtain ⟨hP, hD⟩ := zst (wX := [(h0, .inr (11, [.int th, .ref tB, .int tsz, .int tat, .int wr, .int dp, .ref rC, .ref rV, .ref rD, .ref rK, .ref rT, .ref rS, .ref rU, .int lw, .int tx, .ref rL, .ref rX, .ref qR, .ref qB, .ref qP, .int qnb, .int qnp, .ref aR, .ref aB, .ref aP, .int nb, .int np, .ref aN, .ref rf, .int ho, .int br, .ref aK, .int ac, .long dw, .ref aE, .int sr, .int sf, .ref aA, .ref aH, .ref aI, .int hi])), (rC, .inl (cI, 2600, .inl fC)), (rV, .inl (cI, 2600, .inl fV)), (rK, .inl (cI, 5, .inl fK)), (rT, .inl (cI, 700, .inl fT)), (rS, .inl (cI, 700, .inl fS)), (rU, .inl (cI, 700, .inl fU)), (rL, .inl (cI, 6, .inl u9_0)), (rX, .inl (cI, 80, .inl u9_1)), (aB, .inl (cI, 24, .inl fBr)), (aP, .inl (cI, 20, .inl fPa)), (aN, .inl (cI, 97, .inl v34_f))]) hP9 hD9 rfl
  have hS := hS9
  clear hP9 hD9 hS9
  have cq34_zNw_np : zNw np v34_f := (zNw_out ci_fN_zNw_np e34 (by omega)).1
  have y34 := (zNw_out ci_fN_zNw_np e34 (by omega)).2
  have y34 := congrArg Int32.toInt y34
  refine lv_aload_n hx hb dX11_paintNow_35 rfl (lv_at hl 2 rfl) ?_
  refine va_get (D := (dC, dI)) (ci := 11) (v := .ref aN) (C := RX11) (T := TX11) (N := 41) hx hb hts iX11 hown hK hP 0 rfl rfl 27 (by decide) (hts _ qw1154) (fun _ h9 => h9) rfl dX11_paintNow_36 ?_
  refine lv_iload hx hb dX11_paintNow_39 (lv_at hl 0 rfl) ?_
  refine lv_iconst (v := 1) hx hb dX11_paintNow_41 (by decide) ?_
  refine lv_iadd hx hb dX11_paintNow_42 ?_
  refine lv_topi (fun v42 e42 => ?_)
  have i42 : v42.toInt = v24.toInt + 1 := zadd e42 rfl (by decide) (by omega) (by omega)
  refine lv_iload_n hx hb dX11_paintNow_43 rfl (lv_at hl 3 rfl) ?_
  refine va_iast hx hb hK hP hD hS 11 0 rfl rfl (vp_in_iff.mpr ⟨by omega, by omega⟩) dX11_paintNow_44 (fun H locs hP9 hD9 hS9 => ?_)
  clear hP hD hS
  obtain ⟨v44_f, e44⟩ : ∃ g : Nat → Int32, g = upd v34_f (v42).toNatClampNeg p0 := ⟨_, rfl⟩
  rw [← e44] at hP9 hD9
  obtain ⟨hP, hD⟩ := zst (wX := [(h0, .inr (11, [.int th, .ref tB, .int tsz, .int tat, .int wr, .int dp, .ref rC, .ref rV, .ref rD, .ref rK, .ref rT, .ref rS, .ref rU, .int lw, .int tx, .ref rL, .ref rX, .ref qR, .ref qB, .ref qP, .int qnb, .int qnp, .ref aR, .ref aB, .ref aP, .int nb, .int np, .ref aN, .ref rf, .int ho, .int br, .ref aK, .int ac, .long dw, .ref aE, .int sr, .int sf, .ref aA, .ref aH, .ref aI, .int hi])), (rC, .inl (cI, 2600, .inl fC)), (rV, .inl (cI, 2600, .inl fV)), (rK, .inl (cI, 5, .inl fK)), (rT, .inl (cI, 700, .inl fT)), (rS, .inl (cI, 700, .inl fS)), (rU, .inl (cI, 700, .inl fU)), (rL, .inl (cI, 6, .inl u9_0)), (rX, .inl (cI, 80, .inl u9_1)), (aB, .inl (cI, 24, .inl fBr)), (aP, .inl (cI, 20, .inl fPa)), (aN, .inl (cI, 97, .inl v44_f))]) hP9 hD9 rfl
  have hS := hS9
  clear hP9 hD9 hS9
  have cq44_zNw_np : zNw np v44_f := (zNw_out cq34_zNw_np e44 (by omega)).1
  have y44 := congrArg Int32.toInt (zNw_out cq34_zNw_np e44 (by omega)).2
  refine lv_aload_n hx hb dX11_paintNow_45 rfl (lv_at hl 2 rfl) ?_
  refine va_get (D := (dC, dI)) (ci := 11) (v := .ref aN) (C := RX11) (T := TX11) (N := 41) hx hb hts iX11 hown hK hP 0 rfl rfl 27 (by decide) (hts _ qw1154) (fun _ h9 => h9) rfl dX11_paintNow_46 ?_
  refine lv_iload hx hb dX11_paintNow_49 (lv_at hl 0 rfl) ?_
  refine lv_iconst (v := 2) hx hb dX11_paintNow_51 (by decide) ?_
  refine lv_iadd hx hb dX11_paintNow_52 ?_
  refine lv_topi (fun v52 e52 => ?_)
  have i52 : v52.toInt = v24.toInt + 2 := zadd e52 rfl (by decide) (by omega) (by omega)
  refine lv_iload_n hx hb dX11_paintNow_53 rfl (lv_at hl 1 rfl) ?_
  refine va_iast hx hb hK hP hD hS 11 0 rfl rfl (vp_in_iff.mpr ⟨by omega, by omega⟩) dX11_paintNow_54 (fun H locs hP9 hD9 hS9 => ?_)
  clear hP hD hS
  obtain ⟨v54_f, e54⟩ : ∃ g : Nat → Int32, g = upd v44_f (v52).toNatClampNeg v9 := ⟨_, rfl⟩
  rw [← e54] at hP9 hD9
  obtain ⟨hP, hD⟩ := zst (wX := [(h0, .inr (11, [.int th, .ref tB, .int tsz, .int tat, .int wr, .int dp, .ref rC, .ref rV, .ref rD, .ref rK, .ref rT, .ref rS, .ref rU, .int lw, .int tx, .ref rL, .ref rX, .ref qR, .ref qB, .ref qP, .int qnb, .int qnp, .ref aR, .ref aB, .ref aP, .int nb, .int np, .ref aN, .ref rf, .int ho, .int br, .ref aK, .int ac, .long dw, .ref aE, .int sr, .int sf, .ref aA, .ref aH, .ref aI, .int hi])), (rC, .inl (cI, 2600, .inl fC)), (rV, .inl (cI, 2600, .inl fV)), (rK, .inl (cI, 5, .inl fK)), (rT, .inl (cI, 700, .inl fT)), (rS, .inl (cI, 700, .inl fS)), (rU, .inl (cI, 700, .inl fU)), (rL, .inl (cI, 6, .inl u9_0)), (rX, .inl (cI, 80, .inl u9_1)), (aB, .inl (cI, 24, .inl fBr)), (aP, .inl (cI, 20, .inl fPa)), (aN, .inl (cI, 97, .inl v54_f))]) hP9 hD9 rfl
  have hS := hS9
  clear hP9 hD9 hS9
  have cq54_zNw_np : zNw np v54_f := (zNw_out cq44_zNw_np e54 (by omega)).1
  have y54 := congrArg Int32.toInt (zNw_out cq44_zNw_np e54 (by omega)).2
  refine lv_aload_n hx hb dX11_paintNow_55 rfl (lv_at hl 2 rfl) ?_
  refine va_get (D := (dC, dI)) (ci := 11) (v := .ref aN) (C := RX11) (T := TX11) (N := 41) hx hb hts iX11 hown hK hP 0 rfl rfl 27 (by decide) (hts _ qw1154) (fun _ h9 => h9) rfl dX11_paintNow_56 ?_
  refine lv_iload hx hb dX11_paintNow_59 (lv_at hl 0 rfl) ?_
  refine lv_iconst (v := 3) hx hb dX11_paintNow_61 (by decide) ?_
  refine lv_iadd hx hb dX11_paintNow_62 ?_
  refine lv_topi (fun v62 e62 => ?_)
  have i62 : v62.toInt = v24.toInt + 3 := zadd e62 rfl (by decide) (by omega) (by omega)
  refine lv_aload_n hx hb dX11_paintNow_63 rfl (lv_at hl 2 rfl) ?_
  refine va_get (D := (dC, dI)) (ci := 11) (v := .ref aN) (C := RX11) (T := TX11) (N := 41) hx hb hts iX11 hown hK hP 0 rfl rfl 27 (by decide) (hts _ qw1154) (fun _ h9 => h9) rfl dX11_paintNow_64 ?_
  refine lv_bipush (v := 15) hx hb dX11_paintNow_67 (by decide) ?_
  refine va_iald hx hb hK hP 11 0 rfl rfl (by unfold vp_in; decide) dX11_paintNow_69 ?_
  refine lv_topi (fun v69 e69 => ?_)
  refine va_iast hx hb hK hP hD hS 11 0 rfl rfl (vp_in_iff.mpr ⟨by omega, by omega⟩) dX11_paintNow_70 (fun H locs hP9 hD9 hS9 => ?_)
  clear hP hD hS
  obtain ⟨v70_f, e70⟩ : ∃ g : Nat → Int32, g = upd v54_f (v62).toNatClampNeg v69 := ⟨_, rfl⟩
  rw [← e70] at hP9 hD9
  obtain ⟨hP, hD⟩ := zst (wX := [(h0, .inr (11, [.int th, .ref tB, .int tsz, .int tat, .int wr, .int dp, .ref rC, .ref rV, .ref rD, .ref rK, .ref rT, .ref rS, .ref rU, .int lw, .int tx, .ref rL, .ref rX, .ref qR, .ref qB, .ref qP, .int qnb, .int qnp, .ref aR, .ref aB, .ref aP, .int nb, .int np, .ref aN, .ref rf, .int ho, .int br, .ref aK, .int ac, .long dw, .ref aE, .int sr, .int sf, .ref aA, .ref aH, .ref aI, .int hi])), (rC, .inl (cI, 2600, .inl fC)), (rV, .inl (cI, 2600, .inl fV)), (rK, .inl (cI, 5, .inl fK)), (rT, .inl (cI, 700, .inl fT)), (rS, .inl (cI, 700, .inl fS)), (rU, .inl (cI, 700, .inl fU)), (rL, .inl (cI, 6, .inl u9_0)), (rX, .inl (cI, 80, .inl u9_1)), (aB, .inl (cI, 24, .inl fBr)), (aP, .inl (cI, 20, .inl fPa)), (aN, .inl (cI, 97, .inl v70_f))]) hP9 hD9 rfl
  have hS := hS9
  clear hP9 hD9 hS9
  have cq70_zNw_np : zNw np v70_f := (zNw_out cq54_zNw_np e70 (by omega)).1
  have y70 := congrArg Int32.toInt (zNw_out cq54_zNw_np e70 (by omega)).2
  refine lv_aload_n hx hb dX11_paintNow_71 rfl (lv_at hl 2 rfl) ?_
  refine va_get (D := (dC, dI)) (ci := 11) (v := .ref aN) (C := RX11) (T := TX11) (N := 41) hx hb hts iX11 hown hK hP 0 rfl rfl 27 (by decide) (hts _ qw1154) (fun _ h9 => h9) rfl dX11_paintNow_72 ?_
  refine lv_bipush (v := 16) hx hb dX11_paintNow_75 (by decide) ?_
  refine lv_dup2_11 hx hb dX11_paintNow_77 rfl rfl ?_
  refine va_iald hx hb hK hP 11 0 rfl rfl (by unfold vp_in; decide) dX11_paintNow_78 ?_
  refine lv_topi (fun v78 e78 => ?_)
  have i78 : v78.toInt = (v70_f 16).toInt ∧ 0 ≤ v78.toInt ∧ v78.toInt ≤ 20 := zNw_16 cq70_zNw_np e78
  refine lv_iconst (v := 1) hx hb dX11_paintNow_79 (by decide) ?_
  refine lv_iadd hx hb dX11_paintNow_80 ?_
  refine lv_topi (fun v80 e80 => ?_)
  have i80 : v80.toInt = v78.toInt + 1 := zadd e80 rfl (by decide) (by omega) (by omega)
  refine va_iast hx hb hK hP hD hS 11 0 rfl rfl (by unfold vp_in; decide) dX11_paintNow_81 (fun H locs hP9 hD9 hS9 => ?_)
  clear hP hD hS
  obtain ⟨v81_f, e81⟩ : ∃ g : Nat → Int32, g = upd v70_f (16 : Int32).toNatClampNeg v80 := ⟨_, rfl⟩
  rw [← e81] at hP9 hD9
  obtain ⟨hP, hD⟩ := zst (wX := [(h0, .inr (11, [.int th, .ref tB, .int tsz, .int tat, .int wr, .int dp, .ref rC, .ref rV, .ref rD, .ref rK, .ref rT, .ref rS, .ref rU, .int lw, .int tx, .ref rL, .ref rX, .ref qR, .ref qB, .ref qP, .int qnb, .int qnp, .ref aR, .ref aB, .ref aP, .int nb, .int np, .ref aN, .ref rf, .int ho, .int br, .ref aK, .int ac, .long dw, .ref aE, .int sr, .int sf, .ref aA, .ref aH, .ref aI, .int hi])), (rC, .inl (cI, 2600, .inl fC)), (rV, .inl (cI, 2600, .inl fV)), (rK, .inl (cI, 5, .inl fK)), (rT, .inl (cI, 700, .inl fT)), (rS, .inl (cI, 700, .inl fS)), (rU, .inl (cI, 700, .inl fU)), (rL, .inl (cI, 6, .inl u9_0)), (rX, .inl (cI, 80, .inl u9_1)), (aB, .inl (cI, 24, .inl fBr)), (aP, .inl (cI, 20, .inl fPa)), (aN, .inl (cI, 97, .inl v81_f))]) hP9 hD9 rfl
  have hS := hS9
  clear hP9 hD9 hS9
  have cq81_zNw_np : zNw np v81_f := zNw_hang ci_fN_zNw_np e34 e44 e54 e70 e81 (by omega) (by omega) (by omega) (by omega) (by decide) (by omega) (by omega) (by omega) (by omega) (by omega)
  refine lv_aload_n hx hb dX11_paintNow_82 rfl (lv_at hl 2 rfl) ?_
  refine va_get (D := (dC, dI)) (ci := 11) (v := .ref aN) (C := RX11) (T := TX11) (N := 41) hx hb hts iX11 hown hK hP 0 rfl rfl 27 (by decide) (hts _ qw1154) (fun _ h9 => h9) rfl dX11_paintNow_83 ?_
  refine lv_bipush (v := 14) hx hb dX11_paintNow_86 (by decide) ?_
  refine lv_dup2_11 hx hb dX11_paintNow_88 rfl rfl ?_
  refine va_iald hx hb hK hP 11 0 rfl rfl (by unfold vp_in; decide) dX11_paintNow_89 ?_
  refine lv_topi (fun v89 e89 => ?_)
  refine lv_aload_n hx hb dX11_paintNow_90 rfl (lv_at hl 2 rfl) ?_
  refine lv_iload_n hx hb dX11_paintNow_91 rfl (lv_at hl 3 rfl) ?_
  refine lv_iconst (v := 1) hx hb dX11_paintNow_92 (by decide) ?_
  obtain ⟨hPc, hDc⟩ := zc2 (wc := [(h0, .inr (11, [.int th, .ref tB, .int tsz, .int tat, .int wr, .int dp, .ref rC, .ref rV, .ref rD, .ref rK, .ref rT, .ref rS, .ref rU, .int lw, .int tx, .ref rL, .ref rX, .ref qR, .ref qB, .ref qP, .int qnb, .int qnp, .ref aR, .ref aB, .ref aP, .int nb, .int np, .ref aN, .ref rf, .int ho, .int br, .ref aK, .int ac, .long dw, .ref aE, .int sr, .int sf, .ref aA, .ref aH, .ref aI, .int hi])), (aP, .inl (cI, 20, .inl fPa))]) hP hD [0, 10] (by decide +kernel) rfl
  have hFc := zfr hS hA
  refine va_calli (va_runV (As := [.int p0, .int 1]) (rest := [.int v89, .int 14, .ref aN]) ⟨hx, hb, hml, hown, hts⟩ (g_X11_by l dC dI cI cJ h0 p0 1 th tB tsz tat wr dp rC rV rD rK rT rS rU lw tx rL rX qR qB qP qnb qnp aR aB aP nb np aN rf ho br aK ac dw aE sr sf aA aH aI hi fPa H.size y_ac y_hi y_ho y_lw n_nb n_np n_p0 (by decide) y_qnb y_qnp y_tat y_tsz y_wr) (cwV 2 hts (zgV qw1390 qw1392 qw55 qw108 qw1393) rfl rfl rfl hd_X11_by ⟨by rw [hR]; exact Nat.le_of_ble_eq_true rfl, by rw [hR]; exact Nat.le_of_ble_eq_true rfl⟩) (zPV hPc hK hDc (va_recv (q := (RX11, TX11, 41)) hK hP (ci := 11) (q0 := 0) rfl rfl)) rfl rfl hl.1 rfl (lv_room (Nat.le_of_ble_eq_true rfl)) dX11_paintNow_93 ⟨Nat.zero_le _, Nat.zero_le _⟩) hS (fun q _ h => hFc q h) hFc (fun v93 u93 t H locs ht hvm hw hB hz1 hk1 hS9 => ?_)
  replace hP := zkeep hP hk1
  replace hS := hS9
  clear hPc hDc hFc hk1 hz1 hvm hS9
  have zn93_1 : (1 : Int32).toInt = 1 := by decide
  have f93_0 : (v93 = fPa (4 * p0.toInt.toNat + (1 : Int32).toInt.toNat)) := hw
  have F93 := f93_0
  refine lv_isub hx hb dX11_paintNow_96 ?_
  refine lv_topi (fun v96 e96 => ?_)
  refine va_iast hx hb hK hP hD hS 11 0 rfl rfl (by unfold vp_in; decide) dX11_paintNow_97 (fun H locs hP9 hD9 hS9 => ?_)
  clear hP hD hS
  obtain ⟨v97_f, e97⟩ : ∃ g : Nat → Int32, g = upd v81_f (14 : Int32).toNatClampNeg v96 := ⟨_, rfl⟩
  rw [← e97] at hP9 hD9
  obtain ⟨hP, hD⟩ := zst (wX := [(h0, .inr (11, [.int th, .ref tB, .int tsz, .int tat, .int wr, .int dp, .ref rC, .ref rV, .ref rD, .ref rK, .ref rT, .ref rS, .ref rU, .int lw, .int tx, .ref rL, .ref rX, .ref qR, .ref qB, .ref qP, .int qnb, .int qnp, .ref aR, .ref aB, .ref aP, .int nb, .int np, .ref aN, .ref rf, .int ho, .int br, .ref aK, .int ac, .long dw, .ref aE, .int sr, .int sf, .ref aA, .ref aH, .ref aI, .int hi])), (rC, .inl (cI, 2600, .inl fC)), (rV, .inl (cI, 2600, .inl fV)), (rK, .inl (cI, 5, .inl fK)), (rT, .inl (cI, 700, .inl fT)), (rS, .inl (cI, 700, .inl fS)), (rU, .inl (cI, 700, .inl fU)), (rL, .inl (cI, 6, .inl u9_0)), (rX, .inl (cI, 80, .inl u9_1)), (aB, .inl (cI, 24, .inl fBr)), (aP, .inl (cI, 20, .inl fPa)), (aN, .inl (cI, 97, .inl v97_f))]) hP9 hD9 rfl
  have hS := hS9
  clear hP9 hD9 hS9
  have cq97_zNw_np : zNw np v97_f := (zNw_low cq81_zNw_np e97 (by decide) (by decide)).1
  refine lv_iload_n hx hb dX11_paintNow_98 rfl (lv_at hl 1 rfl) ?_
  rw [hQ]
  exact W.iret (v := v9) hx hb hr (fun t ht hW => ⟨⟨v9, (u9_0, u9_1, v97_f), rfl, ⟨by (try dsimp only); omega, by (try dsimp only); omega, by (try dsimp only); exact fun kc kT q_fR kl hc hb h hL hp hq => by have y6 : v6 = kc.2.1 (4 * p1.toInt.toNat) := (F6.trans (congrArg fBr (show 4 * p1.toInt.toNat + (0 : Int32).toInt.toNat = 4 * p1.toInt.toNat by have : (0 : Int32).toInt = 0 := (by decide); omega))).trans (hc.2.1 _ (by omega)); have y93 : v93 = kc.2.2 (4 * p0.toInt.toNat + 1) := (F93.trans (congrArg fPa (show 4 * p0.toInt.toNat + (1 : Int32).toInt.toNat = 4 * p0.toInt.toNat + 1 by have : (1 : Int32).toInt = 1 := (by decide); omega))).trans (hc.2.2 _ (by omega)); have s0 : v9 = sShow kc kT.1 kl p0 p1 v6 := sShow_r hc hb h hp hq (by rw [y6]; exact zFace_b hb hq) hL F9; have s1 : v9 = sV_pnt kc kT.1 kl p0 p1 := (by unfold sV_pnt; rw [← y6]; exact s0); have zn := ci_fN_zNw_np.2.1; exact ⟨s1, zSr_Pt h e34 e44 e54 e69 e70 e78 e80 e81 e89 e96 e97 (by omega) (by omega) (by omega) (by omega) (by omega) (by omega) hb.2.1.2 hb.2.2.1.2 s1 y93⟩, cq97_zNw_np⟩, ⟨by rw [ht]; exact hP, hD⟩⟩, hS.F ht⟩) hS.2.2 dX11_paintNow_99
set_option maxHeartbeats 4000000 in
set_option maxRecDepth 100000 in
theorem g_X11_paint (l : Launch) (dC : Nat → ClassId) (dI : Nat → Nat → Nat) (cI cJ : ClassId) (h0 : Nat) (p0 : Int32) (p1 : Int32) (th : Int32) (tB : Nat) (tsz : Int32) (tat : Int32) (wr : Int32) (dp : Int32) (rC : Nat) (rV : Nat) (rD : Nat) (rK : Nat) (rT : Nat) (rS : Nat) (rU : Nat) (lw : Int32) (tx : Int32) (rL : Nat) (rX : Nat) (qR : Nat) (qB : Nat) (qP : Nat) (qnb : Int32) (qnp : Int32) (aR : Nat) (aB : Nat) (aP : Nat) (nb : Int32) (np : Int32) (aN : Nat) (rf : Nat) (ho : Int32) (br : Int32) (aK : Nat) (ac : Int32) (dw : Int64) (aE : Nat) (sr : Int32) (sf : Int32) (aA : Nat) (aH : Nat) (aI : Nat) (hi : Int32) (fC : Nat → Int32) (fV : Nat → Int32) (fK : Nat → Int32) (fT : Nat → Int32) (fS : Nat → Int32) (fU : Nat → Int32) (fL : Nat → Int32) (fX : Nat → Int32) (fBr : Nat → Int32) (fPa : Nat → Int32) (fN : Nat → Int32) (frf : Nat → Int32) (fKp : Nat → Int32) (sz : Nat) (n_ac : 0 ≤ ac.toInt ∧ ac.toInt ≤ 40) (n_hi : 0 ≤ hi.toInt ∧ hi.toInt ≤ 1) (n_ho : (-1) ≤ ho.toInt ∧ ho.toInt ≤ 3) (n_lw : 0 ≤ lw.toInt ∧ lw.toInt ≤ 4) (n_nb : 0 ≤ nb.toInt ∧ nb.toInt ≤ 6) (n_np : 0 ≤ np.toInt ∧ np.toInt ≤ 5) (n_qnb : 0 ≤ qnb.toInt ∧ qnb.toInt ≤ 6) (n_qnp : 0 ≤ qnp.toInt ∧ qnp.toInt ≤ 5) (n_tat : 0 ≤ tat.toInt ∧ tat.toInt ≤ 260) (n_tsz : 0 ≤ tsz.toInt ∧ tsz.toInt ≤ 240) (n_wr : (-1) ≤ wr.toInt ∧ wr.toInt ≤ 260) (hls : zLs ho fC fV fK fT fS fU) (ci_fBr_zBr_nb : zBr nb fBr) (ci_fKp_zKp_np__F_h0_32_ : zKp np ac fKp) (ci_fN_zNw_np : zNw np fN) (ci_fPa_zBr_np : zBr np fPa)  : Met l yX11_paint (.code yX11_paint cX11_paint 3 (some .int) :: wA) ({ frames := 8, cells := 0, slots := 0, locals := 195 }) (zP (dC, dI) [(cI, .int), (cJ, .long)] [.ref h0, .int p0, .int p1] sz [(h0, .inr (11, [.int th, .ref tB, .int tsz, .int tat, .int wr, .int dp, .ref rC, .ref rV, .ref rD, .ref rK, .ref rT, .ref rS, .ref rU, .int lw, .int tx, .ref rL, .ref rX, .ref qR, .ref qB, .ref qP, .int qnb, .int qnp, .ref aR, .ref aB, .ref aP, .int nb, .int np, .ref aN, .ref rf, .int ho, .int br, .ref aK, .int ac, .long dw, .ref aE, .int sr, .int sf, .ref aA, .ref aH, .ref aI, .int hi])), (rC, .inl (cI, 2600, .inl fC)), (rV, .inl (cI, 2600, .inl fV)), (rK, .inl (cI, 5, .inl fK)), (rT, .inl (cI, 700, .inl fT)), (rS, .inl (cI, 700, .inl fS)), (rU, .inl (cI, 700, .inl fU)), (rL, .inl (cI, 6, .inl fL)), (rX, .inl (cI, 80, .inl fX)), (aB, .inl (cI, 24, .inl fBr)), (aP, .inl (cI, 20, .inl fPa)), (aN, .inl (cI, 97, .inl fN)), (rf, .inl (cI, 5, .inl frf)), (aK, .inl (cI, 3880, .inl fKp))]) (va_Qi (fun (r : Int32) (u : Int32 × (Nat → Int32) × (Nat → Int32) × (Nat → Int32) × (Nat → Int32) × (Nat → Int32)) => ((-1) ≤ r.toInt) ∧ (r.toInt ≤ 9) ∧ (0 ≤ u.1.toInt) ∧ (u.1.toInt ≤ 40) ∧ (∀ (kc : zK3) (kT : zT) (q_fR : Nat → Int32) (kl : Option ((Int → Int) × Int)), zCn q_fR fBr fPa nb.toInt np.toInt kc → zKo nb.toInt np.toInt kc kT → zTr nb.toInt np.toInt kT fN fKp ac frf → zLwR ho fC fV fK fT fS fU kl → r = sA (sW_pnt nb.toInt np.toInt kc kT.1 p0 p1) (sV_pnt kc kT.1 kl p0 p1) ∧ zTr nb.toInt np.toInt (sDo (sW_pnt nb.toInt np.toInt kc kT.1 p0 p1) kT (sN_pnt kc kT.1 kl p0 p1)) u.2.2.2.1 u.2.2.2.2.2 u.1 u.2.2.2.2.1) ∧ (zKp np u.1 u.2.2.2.2.2) ∧ (zNw np u.2.2.2.1)) (fun (u : Int32 × (Nat → Int32) × (Nat → Int32) × (Nat → Int32) × (Nat → Int32) × (Nat → Int32)) (t : State) => va_P (dC, dI) vwCl [(h0, .inr (11, [.int th, .ref tB, .int tsz, .int tat, .int wr, .int dp, .ref rC, .ref rV, .ref rD, .ref rK, .ref rT, .ref rS, .ref rU, .int lw, .int tx, .ref rL, .ref rX, .ref qR, .ref qB, .ref qP, .int qnb, .int qnp, .ref aR, .ref aB, .ref aP, .int nb, .int np, .ref aN, .ref rf, .int ho, .int br, .ref aK, .int u.1, .long dw, .ref aE, .int sr, .int sf, .ref aA, .ref aH, .ref aI, .int hi])), (rC, .inl (cI, 2600, .inl fC)), (rV, .inl (cI, 2600, .inl fV)), (rK, .inl (cI, 5, .inl fK)), (rT, .inl (cI, 700, .inl fT)), (rS, .inl (cI, 700, .inl fS)), (rU, .inl (cI, 700, .inl fU)), (rL, .inl (cI, 6, .inl u.2.1)), (rX, .inl (cI, 80, .inl u.2.2.1)), (aB, .inl (cI, 24, .inl fBr)), (aP, .inl (cI, 20, .inl fPa)), (aN, .inl (cI, 97, .inl u.2.2.2.1)), (rf, .inl (cI, 5, .inl u.2.2.2.2.1)), (aK, .inl (cI, 3880, .inl u.2.2.2.2.2))] t.heap ∧ va_D (va_A [(h0, .inr (11, [.int th, .ref tB, .int tsz, .int tat, .int wr, .int dp, .ref rC, .ref rV, .ref rD, .ref rK, .ref rT, .ref rS, .ref rU, .int lw, .int tx, .ref rL, .ref rX, .ref qR, .ref qB, .ref qP, .int qnb, .int qnp, .ref aR, .ref aB, .ref aP, .int nb, .int np, .ref aN, .ref rf, .int ho, .int br, .ref aK, .int ac, .long dw, .ref aE, .int sr, .int sf, .ref aA, .ref aH, .ref aI, .int hi])), (rC, .inl (cI, 2600, .inl fC)), (rV, .inl (cI, 2600, .inl fV)), (rK, .inl (cI, 5, .inl fK)), (rT, .inl (cI, 700, .inl fT)), (rS, .inl (cI, 700, .inl fS)), (rU, .inl (cI, 700, .inl fU)), (rL, .inl (cI, 6, .inl fL)), (rX, .inl (cI, 80, .inl fX)), (aB, .inl (cI, 24, .inl fBr)), (aP, .inl (cI, 20, .inl fPa)), (aN, .inl (cI, 97, .inl fN)), (rf, .inl (cI, 5, .inl frf)), (aK, .inl (cI, 3880, .inl fKp))] sz) [(h0, .inr (11, [.int th, .ref tB, .int tsz, .int tat, .int wr, .int dp, .ref rC, .ref rV, .ref rD, .ref rK, .ref rT, .ref rS, .ref rU, .int lw, .int tx, .ref rL, .ref rX, .ref qR, .ref qB, .ref qP, .int qnb, .int qnp, .ref aR, .ref aB, .ref aP, .int nb, .int np, .ref aN, .ref rf, .int ho, .int br, .ref aK, .int u.1, .long dw, .ref aE, .int sr, .int sf, .ref aA, .ref aH, .ref aI, .int hi])), (rC, .inl (cI, 2600, .inl fC)), (rV, .inl (cI, 2600, .inl fV)), (rK, .inl (cI, 5, .inl fK)), (rT, .inl (cI, 700, .inl fT)), (rS, .inl (cI, 700, .inl fS)), (rU, .inl (cI, 700, .inl fU)), (rL, .inl (cI, 6, .inl u.2.1)), (rX, .inl (cI, 80, .inl u.2.2.1)), (aB, .inl (cI, 24, .inl fBr)), (aP, .inl (cI, 20, .inl fPa)), (aN, .inl (cI, 97, .inl u.2.2.2.1)), (rf, .inl (cI, 5, .inl u.2.2.2.2.1)), (aK, .inl (cI, 3880, .inl u.2.2.2.2.2))]) (va_A [(h0, .inr (11, [.int th, .ref tB, .int tsz, .int tat, .int wr, .int dp, .ref rC, .ref rV, .ref rD, .ref rK, .ref rT, .ref rS, .ref rU, .int lw, .int tx, .ref rL, .ref rX, .ref qR, .ref qB, .ref qP, .int qnb, .int qnp, .ref aR, .ref aB, .ref aP, .int nb, .int np, .ref aN, .ref rf, .int ho, .int br, .ref aK, .int ac, .long dw, .ref aE, .int sr, .int sf, .ref aA, .ref aH, .ref aI, .int hi])), (rC, .inl (cI, 2600, .inl fC)), (rV, .inl (cI, 2600, .inl fV)), (rK, .inl (cI, 5, .inl fK)), (rT, .inl (cI, 700, .inl fT)), (rS, .inl (cI, 700, .inl fS)), (rU, .inl (cI, 700, .inl fU)), (rL, .inl (cI, 6, .inl fL)), (rX, .inl (cI, 80, .inl fX)), (aB, .inl (cI, 24, .inl fBr)), (aP, .inl (cI, 20, .inl fPa)), (aN, .inl (cI, 97, .inl fN)), (rf, .inl (cI, 5, .inl frf)), (aK, .inl (cI, 3880, .inl fKp))] sz)) 0 0 (va_A [(h0, .inr (11, [.int th, .ref tB, .int tsz, .int tat, .int wr, .int dp, .ref rC, .ref rV, .ref rD, .ref rK, .ref rT, .ref rS, .ref rU, .int lw, .int tx, .ref rL, .ref rX, .ref qR, .ref qB, .ref qP, .int qnb, .int qnp, .ref aR, .ref aB, .ref aP, .int nb, .int np, .ref aN, .ref rf, .int ho, .int br, .ref aK, .int ac, .long dw, .ref aE, .int sr, .int sf, .ref aA, .ref aH, .ref aI, .int hi])), (rC, .inl (cI, 2600, .inl fC)), (rV, .inl (cI, 2600, .inl fV)), (rK, .inl (cI, 5, .inl fK)), (rT, .inl (cI, 700, .inl fT)), (rS, .inl (cI, 700, .inl fS)), (rU, .inl (cI, 700, .inl fU)), (rL, .inl (cI, 6, .inl fL)), (rX, .inl (cI, 80, .inl fX)), (aB, .inl (cI, 24, .inl fBr)), (aP, .inl (cI, 20, .inl fPa)), (aN, .inl (cI, 97, .inl fN)), (rf, .inl (cI, 5, .inl frf)), (aK, .inl (cI, 3880, .inl fKp))] sz) := by
  refine Met.ofW (cc := cX11_paint) (maxL := 3) (ret := (some .int)) (by decide) rfl ?_
  intro p e s m args below meth c s₁ B hml hv
  have y_hi : zHid (0 ≤ hi.toInt ∧ hi.toInt ≤ 1) := n_hi
  have y_ho : zHid ((-1) ≤ ho.toInt ∧ ho.toInt ≤ 3) := n_ho
  have y_lw : zHid (0 ≤ lw.toInt ∧ lw.toInt ≤ 4) := n_lw
  have y_qnb : zHid (0 ≤ qnb.toInt ∧ qnb.toInt ≤ 6) := n_qnb
  have y_qnp : zHid (0 ≤ qnp.toInt ∧ qnp.toInt ≤ 5) := n_qnp
  have y_tat : zHid (0 ≤ tat.toInt ∧ tat.toInt ≤ 260) := n_tat
  have y_tsz : zHid (0 ≤ tsz.toInt ∧ tsz.toInt ≤ 240) := n_tsz
  have y_wr : zHid ((-1) ≤ wr.toInt ∧ wr.toInt ≤ 260) := n_wr
  clear n_hi n_ho n_lw n_qnb n_qnp n_tat n_tsz n_wr
  obtain ⟨hargs, hsz, hP, hK, hT⟩ := hv
  have hx := B.exec
  have hb := B.bytes
  have hr := B.returns
  have hts : ∀ w ∈ wA, w.before args s = true := fun w h => atoms_spec (ws := .code yX11_paint cX11_paint 3 (some .int) :: wA) B.pre w (List.mem_cons_of_mem _ h)
  have hown : s.vm.findClass RX11 = some m.cls := findClass_of_methodNamed B.named
  have hlocks := B.notSynchronized
  subst hsz
  have hD := hT.self (sz := s.heap.size)
  generalize hAe : va_A [(h0, .inr (11, [.int th, .ref tB, .int tsz, .int tat, .int wr, .int dp, .ref rC, .ref rV, .ref rD, .ref rK, .ref rT, .ref rS, .ref rU, .int lw, .int tx, .ref rL, .ref rX, .ref qR, .ref qB, .ref qP, .int qnb, .int qnp, .ref aR, .ref aB, .ref aP, .int nb, .int np, .ref aN, .ref rf, .int ho, .int br, .ref aK, .int ac, .long dw, .ref aE, .int sr, .int sf, .ref aA, .ref aH, .ref aI, .int hi])), (rC, .inl (cI, 2600, .inl fC)), (rV, .inl (cI, 2600, .inl fV)), (rK, .inl (cI, 5, .inl fK)), (rT, .inl (cI, 700, .inl fT)), (rS, .inl (cI, 700, .inl fS)), (rU, .inl (cI, 700, .inl fU)), (rL, .inl (cI, 6, .inl fL)), (rX, .inl (cI, 80, .inl fX)), (aB, .inl (cI, 24, .inl fBr)), (aP, .inl (cI, 20, .inl fPa)), (aN, .inl (cI, 97, .inl fN)), (rf, .inl (cI, 5, .inl frf)), (aK, .inl (cI, 3880, .inl fKp))] s.heap.size = A at hD ⊢
  have hA : ∀ q : Nat, s.heap.size ≤ q → A q := fun q h => by rw [← hAe]; exact Or.inr h
  have hl := lv_entry ([.ref h0, .int p0, .int p1]) (n := 3) (Nat.le_of_ble_eq_true rfl)
  rw [show entryFrame m args 3 = entryFrame m ([.ref h0, .int p0, .int p1] : List Value).toArray 3 by rw [hargs], lg_entry_eq]
  generalize (lg_sl ([.ref h0, .int p0, .int p1]) ++ List.replicate (3 - (lg_sl ([.ref h0, .int p0, .int p1])).length) Slot.unset).toArray = ls at hl ⊢
  have hl : lv_has ls 3 [(0, .ref h0), (1, .int p0), (2, .int p1)] := hl
  refine zstart (fun H hH => ?_)
  rw [← hH] at hP
  have hS : va_S A s.heap H [] := by rw [hH]; exact va_S.rf
  generalize ([] : List Loc) = locs at hS ⊢
  refine zgen (fun R Q hR hQ => ?_)
  refine lv_aload_n hx hb dX11_paint_0 rfl (lv_at hl 0 rfl) ?_
  refine lv_aload_n hx hb dX11_paint_1 rfl (lv_at hl 0 rfl) ?_
  refine lv_iload_n hx hb dX11_paint_2 rfl (lv_at hl 1 rfl) ?_
  refine lv_iload_n hx hb dX11_paint_3 rfl (lv_at hl 2 rfl) ?_
  obtain ⟨hPc, hDc⟩ := zc2 (wc := [(h0, .inr (11, [.int th, .ref tB, .int tsz, .int tat, .int wr, .int dp, .ref rC, .ref rV, .ref rD, .ref rK, .ref rT, .ref rS, .ref rU, .int lw, .int tx, .ref rL, .ref rX, .ref qR, .ref qB, .ref qP, .int qnb, .int qnp, .ref aR, .ref aB, .ref aP, .int nb, .int np, .ref aN, .ref rf, .int ho, .int br, .ref aK, .int ac, .long dw, .ref aE, .int sr, .int sf, .ref aA, .ref aH, .ref aI, .int hi]))]) hP hD [0] (by decide +kernel) rfl
  have hFc := zfr hS hA
  refine va_calli (va_runV (As := [.int p0, .int p1]) (rest := [.ref h0]) ⟨hx, hb, hml, hown, hts⟩ (g_X11_areBoth l dC dI cI cJ h0 p0 p1 th tB tsz tat wr dp rC rV rD rK rT rS rU lw tx rL rX qR qB qP qnb qnp aR aB aP nb np aN rf ho br aK ac dw aE sr sf aA aH aI hi H.size n_ac y_hi y_ho y_lw n_nb n_np y_qnb y_qnp y_tat y_tsz y_wr) (cwV 2 hts (zgV qw1422 qw1424 qw58 qw108 qw1425) rfl rfl rfl hd_X11_areBoth ⟨by rw [hR]; exact Nat.le_of_ble_eq_true rfl, by rw [hR]; exact Nat.le_of_ble_eq_true rfl⟩) (zPV hPc hK hDc (va_recv (q := (RX11, TX11, 41)) hK hP (ci := 11) (q0 := 0) rfl rfl)) rfl rfl hl.1 rfl (lv_room (Nat.le_of_ble_eq_true rfl)) dX11_paint_4 ⟨Nat.zero_le _, Nat.zero_le _⟩) hS (fun q _ h => hFc q h) hFc (fun v4 u4 t H locs ht hvm hw hB hz1 hk1 hS9 => ?_)
  replace hP := zkeep hP hk1
  replace hS := hS9
  clear hPc hDc hFc hk1 hz1 hvm hS9
  obtain ⟨f4_0, f4_1, f4_2, f4_3⟩ : (0 ≤ v4.toInt) ∧ (v4.toInt ≤ 1) ∧ (¬ v4.toInt = 0 → (0 ≤ p0.toInt ∧ p0.toInt < np.toInt ∧ 0 ≤ p1.toInt ∧ p1.toInt < nb.toInt)) ∧ (v4.toInt = 0 → ¬ ((0 ≤ p0.toInt ∧ p0.toInt < np.toInt) ∧ 0 ≤ p1.toInt ∧ p1.toInt < nb.toInt)) := hw
  refine lv_if_ne (tgt := 14) hx hb dX11_paint_7 (by decide) (fun c7 => ?_) (fun c7 => ?_)
  · have c7 : ¬ v4.toInt = 0 := z6 rfl (by decide) c7
    refine lv_aload_n hx hb dX11_paint_14 rfl (lv_at hl 0 rfl) ?_
    refine va_get (D := (dC, dI)) (ci := 11) (v := .ref aN) (C := RX11) (T := TX11) (N := 41) hx hb hts iX11 hown hK hP 0 rfl rfl 27 (by decide) (hts _ qw1154) (fun _ h9 => h9) rfl dX11_paint_15 ?_
    refine lv_bipush (v := 14) hx hb dX11_paint_18 (by decide) ?_
    refine va_iald hx hb hK hP 11 0 rfl rfl (by unfold vp_in; decide) dX11_paint_20 ?_
    refine lv_topi (fun v20 e20 => ?_)
    refine lv_aload_n hx hb dX11_paint_21 rfl (lv_at hl 0 rfl) ?_
    refine lv_iload_n hx hb dX11_paint_22 rfl (lv_at hl 1 rfl) ?_
    refine lv_iconst (v := 1) hx hb dX11_paint_23 (by decide) ?_
    obtain ⟨hPc, hDc⟩ := zc2 (wc := [(h0, .inr (11, [.int th, .ref tB, .int tsz, .int tat, .int wr, .int dp, .ref rC, .ref rV, .ref rD, .ref rK, .ref rT, .ref rS, .ref rU, .int lw, .int tx, .ref rL, .ref rX, .ref qR, .ref qB, .ref qP, .int qnb, .int qnp, .ref aR, .ref aB, .ref aP, .int nb, .int np, .ref aN, .ref rf, .int ho, .int br, .ref aK, .int ac, .long dw, .ref aE, .int sr, .int sf, .ref aA, .ref aH, .ref aI, .int hi])), (aP, .inl (cI, 20, .inl fPa))]) hP hD [0, 10] (by decide +kernel) rfl
    have hFc := zfr hS hA
    refine va_calli (va_runV (As := [.int p0, .int 1]) (rest := [.int v20, .ref h0]) ⟨hx, hb, hml, hown, hts⟩ (g_X11_by l dC dI cI cJ h0 p0 1 th tB tsz tat wr dp rC rV rD rK rT rS rU lw tx rL rX qR qB qP qnb qnp aR aB aP nb np aN rf ho br aK ac dw aE sr sf aA aH aI hi fPa H.size n_ac y_hi y_ho y_lw n_nb n_np (by omega) (by decide) y_qnb y_qnp y_tat y_tsz y_wr) (cwV 2 hts (zgV qw1390 qw1392 qw55 qw108 qw1393) rfl rfl rfl hd_X11_by ⟨by rw [hR]; exact Nat.le_of_ble_eq_true rfl, by rw [hR]; exact Nat.le_of_ble_eq_true rfl⟩) (zPV hPc hK hDc (va_recv (q := (RX11, TX11, 41)) hK hP (ci := 11) (q0 := 0) rfl rfl)) rfl rfl hl.1 rfl (lv_room (Nat.le_of_ble_eq_true rfl)) dX11_paint_24 ⟨Nat.zero_le _, Nat.zero_le _⟩) hS (fun q _ h => hFc q h) hFc (fun v24 u24 t H locs ht hvm hw hB hz1 hk1 hS9 => ?_)
    replace hP := zkeep hP hk1
    replace hS := hS9
    clear hPc hDc hFc hk1 hz1 hvm hS9
    have zn24_1 : (1 : Int32).toInt = 1 := by decide
    have f24_0 : (v24 = fPa (4 * p0.toInt.toNat + (1 : Int32).toInt.toNat)) := hw
    have F24 := f24_0
    refine lv_icmp_ge (tgt := 34) hx hb dX11_paint_27 (by decide) (fun c27 => ?_) (fun c27 => ?_)
    · have c27 : v24.toInt ≤ v20.toInt := z3 rfl rfl c27
      refine lv_aload_n hx hb dX11_paint_34 rfl (lv_at hl 0 rfl) ?_
      refine va_get (D := (dC, dI)) (ci := 11) (v := .ref aN) (C := RX11) (T := TX11) (N := 41) hx hb hts iX11 hown hK hP 0 rfl rfl 27 (by decide) (hts _ qw1154) (fun _ h9 => h9) rfl dX11_paint_35 ?_
      refine lv_bipush (v := 16) hx hb dX11_paint_38 (by decide) ?_
      refine va_iald hx hb hK hP 11 0 rfl rfl (by unfold vp_in; decide) dX11_paint_40 ?_
      refine lv_topi (fun v40 e40 => ?_)
      have i40 : v40.toInt = (fN 16).toInt ∧ 0 ≤ v40.toInt ∧ v40.toInt ≤ 20 := zNw_16 ci_fN_zNw_np e40
      refine lv_bipush (v := 20) hx hb dX11_paint_41 (by decide) ?_
      refine lv_icmp_ne (tgt := 50) hx hb dX11_paint_43 (by decide) (fun c43 => ?_) (fun c43 => ?_)
      · have c43 : ¬ v40.toInt = 20 := z6 rfl (by decide) c43
        refine lv_iconst (v := (-1)) hx hb dX11_paint_50 (by decide) ?_
        obtain ⟨hPc, hDc, hFc⟩ := zc3 (wc := [(h0, .inr (11, [.int th, .ref tB, .int tsz, .int tat, .int wr, .int dp, .ref rC, .ref rV, .ref rD, .ref rK, .ref rT, .ref rS, .ref rU, .int lw, .int tx, .ref rL, .ref rX, .ref qR, .ref qB, .ref qP, .int qnb, .int qnp, .ref aR, .ref aB, .ref aP, .int nb, .int np, .ref aN, .ref rf, .int ho, .int br, .ref aK, .int ac, .long dw, .ref aE, .int sr, .int sf, .ref aA, .ref aH, .ref aI, .int hi])), (rf, .inl (cI, 5, .inl frf))]) hP hD hS hA [0, 12] (by decide +kernel) rfl
        refine va_calli (va_runV (As := [.int (-1)]) (rest := []) ⟨hx, hb, hml, hown, hts⟩ (g_X11_isRefused l dC dI cI cJ h0 ((-1)) th tB tsz tat wr dp rC rV rD rK rT rS rU lw tx rL rX qR qB qP qnb qnp aR aB aP nb np aN rf ho br aK ac dw aE sr sf aA aH aI hi frf H.size n_ac y_hi y_ho y_lw n_nb n_np (by decide) y_qnb y_qnp y_tat y_tsz y_wr) (cwV 1 hts (zgV qw1481 qw1483 qw66 qw108 qw1484) rfl rfl rfl hd_X11_isRefused ⟨by rw [hR]; exact Nat.le_of_ble_eq_true rfl, by rw [hR]; exact Nat.le_of_ble_eq_true rfl⟩) (zPV hPc hK hDc (va_recv (q := (RX11, TX11, 41)) hK hP (ci := 11) (q0 := 0) rfl rfl)) rfl rfl hl.1 rfl (lv_room (Nat.le_of_ble_eq_true rfl)) dX11_paint_51 ⟨Nat.zero_le _, Nat.zero_le _⟩) hS (fun q _ h => hFc q h) hFc (fun v51 u51 t H locs ht hvm hw hB hz1 hk1 hS9 => ?_)
        obtain ⟨u51_0, rfl⟩ : ∃ z, z = u51 := ⟨_, rfl⟩
        obtain ⟨hP9, hD9⟩ := zj2 (wX := [(h0, .inr (11, [.int th, .ref tB, .int tsz, .int tat, .int wr, .int dp, .ref rC, .ref rV, .ref rD, .ref rK, .ref rT, .ref rS, .ref rU, .int lw, .int tx, .ref rL, .ref rX, .ref qR, .ref qB, .ref qP, .int qnb, .int qnp, .ref aR, .ref aB, .ref aP, .int nb, .int np, .ref aN, .ref rf, .int ho, .int br, .ref aK, .int ac, .long dw, .ref aE, .int sr, .int sf, .ref aA, .ref aH, .ref aI, .int hi])), (rC, .inl (cI, 2600, .inl fC)), (rV, .inl (cI, 2600, .inl fV)), (rK, .inl (cI, 5, .inl fK)), (rT, .inl (cI, 700, .inl fT)), (rS, .inl (cI, 700, .inl fS)), (rU, .inl (cI, 700, .inl fU)), (rL, .inl (cI, 6, .inl fL)), (rX, .inl (cI, 80, .inl fX)), (aB, .inl (cI, 24, .inl fBr)), (aP, .inl (cI, 20, .inl fPa)), (aN, .inl (cI, 97, .inl fN)), (rf, .inl (cI, 5, .inl u51_0)), (aK, .inl (cI, 3880, .inl fKp))]) hP hD hk1 hFc ht hB [0, 12] [(true, 0), (false, 1), (false, 2), (false, 3), (false, 4), (false, 5), (false, 6), (false, 7), (false, 8), (false, 9), (false, 10), (false, 11), (true, 1), (false, 13)] rfl (by decide +kernel) (by decide +kernel) rfl
        clear hP hD hS hPc hDc hFc hB hk1 hz1 hvm
        have hP := hP9
        have hD := hD9
        have hS := hS9
        clear hP9 hD9 hS9
        have zn51_m1 : (-1 : Int32).toInt = -1 := by decide
        obtain ⟨f51_0, f51_1, f51_2, f51_3⟩ : (0 ≤ v51.toInt) ∧ (v51.toInt ≤ 1) ∧ (v51.toInt = 0 → (-1 : Int32).toInt = -1) ∧ ((v51.toInt = 0 ∧ (-1 : Int32).toInt = -1 ∧ u51_0 = frf) ∨ (v51.toInt = 1 ∧ ¬ (-1 : Int32).toInt = -1 ∧ zRf frf u51_0 (-1 : Int32).toInt)) := hw
        have F51 := f51_3
        refine lv_if_eq (tgt := 59) hx hb dX11_paint_54 (by decide) (fun c54 => ?_) (fun c54 => ?_)
        · have c54 : v51.toInt = 0 := z5 rfl (by decide) c54
          refine lv_aload_n hx hb dX11_paint_59 rfl (lv_at hl 0 rfl) ?_
          obtain ⟨hPc, hDc, hFc⟩ := zc3 (wc := [(h0, .inr (11, [.int th, .ref tB, .int tsz, .int tat, .int wr, .int dp, .ref rC, .ref rV, .ref rD, .ref rK, .ref rT, .ref rS, .ref rU, .int lw, .int tx, .ref rL, .ref rX, .ref qR, .ref qB, .ref qP, .int qnb, .int qnp, .ref aR, .ref aB, .ref aP, .int nb, .int np, .ref aN, .ref rf, .int ho, .int br, .ref aK, .int ac, .long dw, .ref aE, .int sr, .int sf, .ref aA, .ref aH, .ref aI, .int hi])), (aN, .inl (cI, 97, .inl fN)), (aK, .inl (cI, 3880, .inl fKp))]) hP hD hS hA [0, 11, 13] (by decide +kernel) rfl
          refine va_callv (va_runV (As := []) (rest := []) ⟨hx, hb, hml, hown, hts⟩ (g_X11_keep l dC dI cI cJ h0 th tB tsz tat wr dp rC rV rD rK rT rS rU lw tx rL rX qR qB qP qnb qnp aR aB aP nb np aN rf ho br aK ac dw aE sr sf aA aH aI hi fN fKp H.size n_ac y_hi y_ho y_lw n_nb n_np y_qnb y_qnp y_tat y_tsz y_wr ci_fKp_zKp_np__F_h0_32_ ci_fN_zNw_np) (cwV 0 hts (zgV qw1485 qw1487 qw67 qw108 qw1488) rfl rfl rfl hd_X11_keep ⟨by rw [hR]; exact Nat.le_of_ble_eq_true rfl, by rw [hR]; exact Nat.le_of_ble_eq_true rfl⟩) (zPV hPc hK hDc (va_recv (q := (RX11, TX11, 41)) hK hP (ci := 11) (q0 := 0) rfl rfl)) rfl rfl hl.1 rfl (lv_room (Nat.le_of_ble_eq_true rfl)) dX11_paint_60 ⟨Nat.zero_le _, Nat.zero_le _⟩) hS (fun q _ h => hFc q h) hFc (fun u60 t H locs ht hvm hw hB hz1 hk1 hS9 => ?_)
          obtain ⟨u60_0, u60_1⟩ := u60
          obtain ⟨hP9, hD9⟩ := zj2 (wX := [(h0, .inr (11, [.int th, .ref tB, .int tsz, .int tat, .int wr, .int dp, .ref rC, .ref rV, .ref rD, .ref rK, .ref rT, .ref rS, .ref rU, .int lw, .int tx, .ref rL, .ref rX, .ref qR, .ref qB, .ref qP, .int qnb, .int qnp, .ref aR, .ref aB, .ref aP, .int nb, .int np, .ref aN, .ref rf, .int ho, .int br, .ref aK, .int u60_0, .long dw, .ref aE, .int sr, .int sf, .ref aA, .ref aH, .ref aI, .int hi])), (rC, .inl (cI, 2600, .inl fC)), (rV, .inl (cI, 2600, .inl fV)), (rK, .inl (cI, 5, .inl fK)), (rT, .inl (cI, 700, .inl fT)), (rS, .inl (cI, 700, .inl fS)), (rU, .inl (cI, 700, .inl fU)), (rL, .inl (cI, 6, .inl fL)), (rX, .inl (cI, 80, .inl fX)), (aB, .inl (cI, 24, .inl fBr)), (aP, .inl (cI, 20, .inl fPa)), (aN, .inl (cI, 97, .inl fN)), (rf, .inl (cI, 5, .inl u51_0)), (aK, .inl (cI, 3880, .inl u60_1))]) hP hD hk1 hFc ht hB [0, 11, 13] [(true, 0), (false, 1), (false, 2), (false, 3), (false, 4), (false, 5), (false, 6), (false, 7), (false, 8), (false, 9), (false, 10), (true, 1), (false, 12), (true, 2)] rfl (by decide +kernel) (by decide +kernel) rfl
          clear hP hD hS hPc hDc hFc hB hk1 hz1 hvm
          have hP := hP9
          have hD := hD9
          have hS := hS9
          clear hP9 hD9 hS9
          obtain ⟨f60_0, f60_1, f60_2, f60_3⟩ : (1 ≤ u60_0.toInt) ∧ (u60_0.toInt ≤ 40) ∧ (zKe fKp u60_1 fN ac u60_0) ∧ (zKp np u60_0 u60_1) := hw
          have F60 := f60_2
          refine lv_aload_n hx hb dX11_paint_63 rfl (lv_at hl 0 rfl) ?_
          refine lv_iload_n hx hb dX11_paint_64 rfl (lv_at hl 1 rfl) ?_
          refine lv_iload_n hx hb dX11_paint_65 rfl (lv_at hl 2 rfl) ?_
          obtain ⟨hPc, hDc, hFc⟩ := zc3 (wc := [(h0, .inr (11, [.int th, .ref tB, .int tsz, .int tat, .int wr, .int dp, .ref rC, .ref rV, .ref rD, .ref rK, .ref rT, .ref rS, .ref rU, .int lw, .int tx, .ref rL, .ref rX, .ref qR, .ref qB, .ref qP, .int qnb, .int qnp, .ref aR, .ref aB, .ref aP, .int nb, .int np, .ref aN, .ref rf, .int ho, .int br, .ref aK, .int u60_0, .long dw, .ref aE, .int sr, .int sf, .ref aA, .ref aH, .ref aI, .int hi])), (rC, .inl (cI, 2600, .inl fC)), (rV, .inl (cI, 2600, .inl fV)), (rK, .inl (cI, 5, .inl fK)), (rT, .inl (cI, 700, .inl fT)), (rS, .inl (cI, 700, .inl fS)), (rU, .inl (cI, 700, .inl fU)), (rL, .inl (cI, 6, .inl fL)), (rX, .inl (cI, 80, .inl fX)), (aB, .inl (cI, 24, .inl fBr)), (aP, .inl (cI, 20, .inl fPa)), (aN, .inl (cI, 97, .inl fN))]) hP hD hS hA [0, 1, 2, 3, 4, 5, 6, 7, 8, 9, 10, 11] (by decide +kernel) rfl
          refine va_calli (va_runV (As := [.int p0, .int p1]) (rest := []) ⟨hx, hb, hml, hown, hts⟩ (g_X11_paintNow l dC dI cI cJ h0 p0 p1 th tB tsz tat wr dp rC rV rD rK rT rS rU lw tx rL rX qR qB qP qnb qnp aR aB aP nb np aN rf ho br aK u60_0 dw aE sr sf aA aH aI hi fC fV fK fT fS fU fL fX fBr fPa fN H.size (by omega) y_hi y_ho y_lw n_nb n_np (by omega) (by omega) y_qnb y_qnp y_tat y_tsz y_wr (hls) (by omega) (by omega) ci_fBr_zBr_nb ci_fN_zNw_np ci_fPa_zBr_np) (cwV 2 hts (zgV qw1489 qw1491 qw68 qw108 qw1492) rfl rfl rfl hd_X11_paintNow ⟨by rw [hR]; exact Nat.le_of_ble_eq_true rfl, by rw [hR]; exact Nat.le_of_ble_eq_true rfl⟩) (zPV hPc hK hDc (va_recv (q := (RX11, TX11, 41)) hK hP (ci := 11) (q0 := 0) rfl rfl)) rfl rfl hl.1 rfl (lv_room (Nat.le_of_ble_eq_true rfl)) dX11_paint_66 ⟨Nat.zero_le _, Nat.zero_le _⟩) hS (fun q _ h => hFc q h) hFc (fun v66 u66 t H locs ht hvm hw hB hz1 hk1 hS9 => ?_)
          obtain ⟨u66_0, u66_1, u66_2⟩ := u66
          obtain ⟨hP9, hD9⟩ := zj2 (wX := [(h0, .inr (11, [.int th, .ref tB, .int tsz, .int tat, .int wr, .int dp, .ref rC, .ref rV, .ref rD, .ref rK, .ref rT, .ref rS, .ref rU, .int lw, .int tx, .ref rL, .ref rX, .ref qR, .ref qB, .ref qP, .int qnb, .int qnp, .ref aR, .ref aB, .ref aP, .int nb, .int np, .ref aN, .ref rf, .int ho, .int br, .ref aK, .int u60_0, .long dw, .ref aE, .int sr, .int sf, .ref aA, .ref aH, .ref aI, .int hi])), (rC, .inl (cI, 2600, .inl fC)), (rV, .inl (cI, 2600, .inl fV)), (rK, .inl (cI, 5, .inl fK)), (rT, .inl (cI, 700, .inl fT)), (rS, .inl (cI, 700, .inl fS)), (rU, .inl (cI, 700, .inl fU)), (rL, .inl (cI, 6, .inl u66_0)), (rX, .inl (cI, 80, .inl u66_1)), (aB, .inl (cI, 24, .inl fBr)), (aP, .inl (cI, 20, .inl fPa)), (aN, .inl (cI, 97, .inl u66_2)), (rf, .inl (cI, 5, .inl u51_0)), (aK, .inl (cI, 3880, .inl u60_1))]) hP hD hk1 hFc ht hB [0, 1, 2, 3, 4, 5, 6, 7, 8, 9, 10, 11] [(true, 0), (true, 1), (true, 2), (true, 3), (true, 4), (true, 5), (true, 6), (true, 7), (true, 8), (true, 9), (true, 10), (true, 11), (false, 12), (false, 13)] rfl (by decide +kernel) (by decide +kernel) rfl
          clear hP hD hS hPc hDc hFc hB hk1 hz1 hvm
          have hP := hP9
          have hD := hD9
          have hS := hS9
          clear hP9 hD9 hS9
          obtain ⟨f66_0, f66_1, f66_2, f66_3⟩ : ((-1) ≤ v66.toInt) ∧ (v66.toInt ≤ 9) ∧ (∀ (kc : zK3) (kT : zT) (q_fR : Nat → Int32) (kl : Option ((Int → Int) × Int)), zCn q_fR fBr fPa nb.toInt np.toInt kc → zKo nb.toInt np.toInt kc kT → zSr nb.toInt np.toInt kT.1 fN → zLwR ho fC fV fK fT fS fU kl → (0 ≤ p0.toInt ∧ p0.toInt < np.toInt) → (0 ≤ p1.toInt ∧ p1.toInt < nb.toInt) → v66 = sV_pnt kc kT.1 kl p0 p1 ∧ zSr nb.toInt np.toInt (sN_pnt kc kT.1 kl p0 p1) u66_2) ∧ (zNw np u66_2) := hw
          have F66 := f66_2
          rw [hQ]
          exact W.iret (v := v66) hx hb hr (fun t ht hW => ⟨⟨v66, (u60_0, u66_0, u66_1, u66_2, u51_0, u60_1), rfl, ⟨by (try dsimp only); omega, by (try dsimp only); omega, by (try dsimp only); omega, by (try dsimp only); omega, by (try dsimp only); exact fun kc kT q_fR kl hc hb h hL => by rcases F51 with z | z; rotate_left; (exfalso; have z1 := z.2.1; omega); have y20 : v20 = kT.1.2.2.2.1.1 := (zIxN (n := 14) e20 (by decide)).trans (zSr_pu h.1).symm; have y24 : v24 = kc.2.2 (4 * p0.toInt.toNat + 1) := (F24.trans (congrArg fPa (show 4 * p0.toInt.toNat + (1 : Int32).toInt.toNat = 4 * p0.toInt.toNat + 1 by have : (1 : Int32).toInt = 1 := (by decide); omega))).trans (hc.2.2 _ (by omega)); have zy20 := congrArg Int32.toInt y20; have zy24 := congrArg Int32.toInt y24; have y40 : v40 = kT.1.2.2.2.1.2.2 := (zIxN (n := 16) e40 (by decide)).trans (zSr_pn h.1).symm; have zy40 := congrArg Int32.toInt y40; have zz := F66 kc kT _ kl hc hb h.1 hL (by omega) (by omega); exact zActAr (by unfold sW_pnt; exact (if_neg (by omega)).trans ((if_neg (by omega)).trans (if_neg (by omega)))) h (zKr_k hb.2 h F60 (by omega)) (zz.2) z.2.2 (zz.1), f60_3, f66_3⟩, ⟨by rw [ht]; exact hP, hD⟩⟩, hS.F ht⟩) hS.2.2 dX11_paint_69
        · have c54 : ¬ v51.toInt = 0 := z6 rfl (by decide) c54
          refine lv_iconst (v := (-1)) hx hb dX11_paint_57 (by decide) ?_
          have zr0 : ((-1) : Int32).toInt = (-1) := by decide
          rw [hQ]
          exact W.iret (v := ((-1))) hx hb hr (fun t ht hW => ⟨⟨(-1), (ac, fL, fX, fN, u51_0, fKp), rfl, ⟨by (try dsimp only); omega, by (try dsimp only); omega, by (try dsimp only); omega, by (try dsimp only); omega, by (try dsimp only); exact fun kc kT q_fR kl hc hb h hL => by exfalso; rcases F51 with z | z; (have z1 := z.1; omega); (have z1 := z.2.1; omega), ci_fKp_zKp_np__F_h0_32_, ci_fN_zNw_np⟩, ⟨by rw [ht]; exact hP, hD⟩⟩, hS.F ht⟩) hS.2.2 dX11_paint_58
      · have c43 : v40.toInt = 20 := z5 rfl (by decide) c43
        refine lv_iconst (v := 4) hx hb dX11_paint_46 (by decide) ?_
        refine lv_goto (tgt := 51) hx hb dX11_paint_47 (by decide) ?_
        obtain ⟨hPc, hDc, hFc⟩ := zc3 (wc := [(h0, .inr (11, [.int th, .ref tB, .int tsz, .int tat, .int wr, .int dp, .ref rC, .ref rV, .ref rD, .ref rK, .ref rT, .ref rS, .ref rU, .int lw, .int tx, .ref rL, .ref rX, .ref qR, .ref qB, .ref qP, .int qnb, .int qnp, .ref aR, .ref aB, .ref aP, .int nb, .int np, .ref aN, .ref rf, .int ho, .int br, .ref aK, .int ac, .long dw, .ref aE, .int sr, .int sf, .ref aA, .ref aH, .ref aI, .int hi])), (rf, .inl (cI, 5, .inl frf))]) hP hD hS hA [0, 12] (by decide +kernel) rfl
        refine va_calli (va_runV (As := [.int 4]) (rest := []) ⟨hx, hb, hml, hown, hts⟩ (g_X11_isRefused l dC dI cI cJ h0 4 th tB tsz tat wr dp rC rV rD rK rT rS rU lw tx rL rX qR qB qP qnb qnp aR aB aP nb np aN rf ho br aK ac dw aE sr sf aA aH aI hi frf H.size n_ac y_hi y_ho y_lw n_nb n_np (by decide) y_qnb y_qnp y_tat y_tsz y_wr) (cwV 1 hts (zgV qw1481 qw1483 qw66 qw108 qw1484) rfl rfl rfl hd_X11_isRefused ⟨by rw [hR]; exact Nat.le_of_ble_eq_true rfl, by rw [hR]; exact Nat.le_of_ble_eq_true rfl⟩) (zPV hPc hK hDc (va_recv (q := (RX11, TX11, 41)) hK hP (ci := 11) (q0 := 0) rfl rfl)) rfl rfl hl.1 rfl (lv_room (Nat.le_of_ble_eq_true rfl)) dX11_paint_51 ⟨Nat.zero_le _, Nat.zero_le _⟩) hS (fun q _ h => hFc q h) hFc (fun v51 u51 t H locs ht hvm hw hB hz1 hk1 hS9 => ?_)
        obtain ⟨u51_0, rfl⟩ : ∃ z, z = u51 := ⟨_, rfl⟩
        obtain ⟨hP9, hD9⟩ := zj2 (wX := [(h0, .inr (11, [.int th, .ref tB, .int tsz, .int tat, .int wr, .int dp, .ref rC, .ref rV, .ref rD, .ref rK, .ref rT, .ref rS, .ref rU, .int lw, .int tx, .ref rL, .ref rX, .ref qR, .ref qB, .ref qP, .int qnb, .int qnp, .ref aR, .ref aB, .ref aP, .int nb, .int np, .ref aN, .ref rf, .int ho, .int br, .ref aK, .int ac, .long dw, .ref aE, .int sr, .int sf, .ref aA, .ref aH, .ref aI, .int hi])), (rC, .inl (cI, 2600, .inl fC)), (rV, .inl (cI, 2600, .inl fV)), (rK, .inl (cI, 5, .inl fK)), (rT, .inl (cI, 700, .inl fT)), (rS, .inl (cI, 700, .inl fS)), (rU, .inl (cI, 700, .inl fU)), (rL, .inl (cI, 6, .inl fL)), (rX, .inl (cI, 80, .inl fX)), (aB, .inl (cI, 24, .inl fBr)), (aP, .inl (cI, 20, .inl fPa)), (aN, .inl (cI, 97, .inl fN)), (rf, .inl (cI, 5, .inl u51_0)), (aK, .inl (cI, 3880, .inl fKp))]) hP hD hk1 hFc ht hB [0, 12] [(true, 0), (false, 1), (false, 2), (false, 3), (false, 4), (false, 5), (false, 6), (false, 7), (false, 8), (false, 9), (false, 10), (false, 11), (true, 1), (false, 13)] rfl (by decide +kernel) (by decide +kernel) rfl
        clear hP hD hS hPc hDc hFc hB hk1 hz1 hvm
        have hP := hP9
        have hD := hD9
        have hS := hS9
        clear hP9 hD9 hS9
        have zn51_4 : (4 : Int32).toInt = 4 := by decide
        obtain ⟨f51_0, f51_1, f51_2, f51_3⟩ : (0 ≤ v51.toInt) ∧ (v51.toInt ≤ 1) ∧ (v51.toInt = 0 → (4 : Int32).toInt = -1) ∧ ((v51.toInt = 0 ∧ (4 : Int32).toInt = -1 ∧ u51_0 = frf) ∨ (v51.toInt = 1 ∧ ¬ (4 : Int32).toInt = -1 ∧ zRf frf u51_0 (4 : Int32).toInt)) := hw
        have F51 := f51_3
        refine lv_if_eq (tgt := 59) hx hb dX11_paint_54 (by decide) (fun c54 => by exfalso; have c54 : v51.toInt = 0 := z5 rfl (by decide) c54; omega) (fun c54 => ?_)
        have c54 : ¬ v51.toInt = 0 := z6 rfl (by decide) c54
        refine lv_iconst (v := (-1)) hx hb dX11_paint_57 (by decide) ?_
        have zr0 : ((-1) : Int32).toInt = (-1) := by decide
        rw [hQ]
        exact W.iret (v := ((-1))) hx hb hr (fun t ht hW => ⟨⟨(-1), (ac, fL, fX, fN, u51_0, fKp), rfl, ⟨by (try dsimp only); omega, by (try dsimp only); omega, by (try dsimp only); omega, by (try dsimp only); omega, by (try dsimp only); exact fun kc kT q_fR kl hc hb h hL => by rcases F51 with z | z; (exfalso; have z1 := z.2.1; omega); have y20 : v20 = kT.1.2.2.2.1.1 := (zIxN (n := 14) e20 (by decide)).trans (zSr_pu h.1).symm; have y24 : v24 = kc.2.2 (4 * p0.toInt.toNat + 1) := (F24.trans (congrArg fPa (show 4 * p0.toInt.toNat + (1 : Int32).toInt.toNat = 4 * p0.toInt.toNat + 1 by have : (1 : Int32).toInt = 1 := (by decide); omega))).trans (hc.2.2 _ (by omega)); have zy20 := congrArg Int32.toInt y20; have zy24 := congrArg Int32.toInt y24; have y40 : v40 = kT.1.2.2.2.1.2.2 := (zIxN (n := 16) e40 (by decide)).trans (zSr_pn h.1).symm; have zy40 := congrArg Int32.toInt y40; exact zActRr (x := (4 : Int32).toInt) (by unfold sW_pnt; exact ((if_neg (by omega)).trans ((if_neg (by omega)).trans (if_pos (by omega)))).trans (by omega)) (by omega) h z.2.2, ci_fKp_zKp_np__F_h0_32_, ci_fN_zNw_np⟩, ⟨by rw [ht]; exact hP, hD⟩⟩, hS.F ht⟩) hS.2.2 dX11_paint_58
    · have c27 : v20.toInt < v24.toInt := z4 rfl rfl c27
      refine lv_iconst (v := 2) hx hb dX11_paint_30 (by decide) ?_
      refine lv_goto (tgt := 51) hx hb dX11_paint_31 (by decide) ?_
      obtain ⟨hPc, hDc, hFc⟩ := zc3 (wc := [(h0, .inr (11, [.int th, .ref tB, .int tsz, .int tat, .int wr, .int dp, .ref rC, .ref rV, .ref rD, .ref rK, .ref rT, .ref rS, .ref rU, .int lw, .int tx, .ref rL, .ref rX, .ref qR, .ref qB, .ref qP, .int qnb, .int qnp, .ref aR, .ref aB, .ref aP, .int nb, .int np, .ref aN, .ref rf, .int ho, .int br, .ref aK, .int ac, .long dw, .ref aE, .int sr, .int sf, .ref aA, .ref aH, .ref aI, .int hi])), (rf, .inl (cI, 5, .inl frf))]) hP hD hS hA [0, 12] (by decide +kernel) rfl
      refine va_calli (va_runV (As := [.int 2]) (rest := []) ⟨hx, hb, hml, hown, hts⟩ (g_X11_isRefused l dC dI cI cJ h0 2 th tB tsz tat wr dp rC rV rD rK rT rS rU lw tx rL rX qR qB qP qnb qnp aR aB aP nb np aN rf ho br aK ac dw aE sr sf aA aH aI hi frf H.size n_ac y_hi y_ho y_lw n_nb n_np (by decide) y_qnb y_qnp y_tat y_tsz y_wr) (cwV 1 hts (zgV qw1481 qw1483 qw66 qw108 qw1484) rfl rfl rfl hd_X11_isRefused ⟨by rw [hR]; exact Nat.le_of_ble_eq_true rfl, by rw [hR]; exact Nat.le_of_ble_eq_true rfl⟩) (zPV hPc hK hDc (va_recv (q := (RX11, TX11, 41)) hK hP (ci := 11) (q0 := 0) rfl rfl)) rfl rfl hl.1 rfl (lv_room (Nat.le_of_ble_eq_true rfl)) dX11_paint_51 ⟨Nat.zero_le _, Nat.zero_le _⟩) hS (fun q _ h => hFc q h) hFc (fun v51 u51 t H locs ht hvm hw hB hz1 hk1 hS9 => ?_)
      obtain ⟨u51_0, rfl⟩ : ∃ z, z = u51 := ⟨_, rfl⟩
      obtain ⟨hP9, hD9⟩ := zj2 (wX := [(h0, .inr (11, [.int th, .ref tB, .int tsz, .int tat, .int wr, .int dp, .ref rC, .ref rV, .ref rD, .ref rK, .ref rT, .ref rS, .ref rU, .int lw, .int tx, .ref rL, .ref rX, .ref qR, .ref qB, .ref qP, .int qnb, .int qnp, .ref aR, .ref aB, .ref aP, .int nb, .int np, .ref aN, .ref rf, .int ho, .int br, .ref aK, .int ac, .long dw, .ref aE, .int sr, .int sf, .ref aA, .ref aH, .ref aI, .int hi])), (rC, .inl (cI, 2600, .inl fC)), (rV, .inl (cI, 2600, .inl fV)), (rK, .inl (cI, 5, .inl fK)), (rT, .inl (cI, 700, .inl fT)), (rS, .inl (cI, 700, .inl fS)), (rU, .inl (cI, 700, .inl fU)), (rL, .inl (cI, 6, .inl fL)), (rX, .inl (cI, 80, .inl fX)), (aB, .inl (cI, 24, .inl fBr)), (aP, .inl (cI, 20, .inl fPa)), (aN, .inl (cI, 97, .inl fN)), (rf, .inl (cI, 5, .inl u51_0)), (aK, .inl (cI, 3880, .inl fKp))]) hP hD hk1 hFc ht hB [0, 12] [(true, 0), (false, 1), (false, 2), (false, 3), (false, 4), (false, 5), (false, 6), (false, 7), (false, 8), (false, 9), (false, 10), (false, 11), (true, 1), (false, 13)] rfl (by decide +kernel) (by decide +kernel) rfl
      clear hP hD hS hPc hDc hFc hB hk1 hz1 hvm
      have hP := hP9
      have hD := hD9
      have hS := hS9
      clear hP9 hD9 hS9
      have zn51_2 : (2 : Int32).toInt = 2 := by decide
      obtain ⟨f51_0, f51_1, f51_2, f51_3⟩ : (0 ≤ v51.toInt) ∧ (v51.toInt ≤ 1) ∧ (v51.toInt = 0 → (2 : Int32).toInt = -1) ∧ ((v51.toInt = 0 ∧ (2 : Int32).toInt = -1 ∧ u51_0 = frf) ∨ (v51.toInt = 1 ∧ ¬ (2 : Int32).toInt = -1 ∧ zRf frf u51_0 (2 : Int32).toInt)) := hw
      have F51 := f51_3
      refine lv_if_eq (tgt := 59) hx hb dX11_paint_54 (by decide) (fun c54 => by exfalso; have c54 : v51.toInt = 0 := z5 rfl (by decide) c54; omega) (fun c54 => ?_)
      have c54 : ¬ v51.toInt = 0 := z6 rfl (by decide) c54
      refine lv_iconst (v := (-1)) hx hb dX11_paint_57 (by decide) ?_
      have zr0 : ((-1) : Int32).toInt = (-1) := by decide
      rw [hQ]
      exact W.iret (v := ((-1))) hx hb hr (fun t ht hW => ⟨⟨(-1), (ac, fL, fX, fN, u51_0, fKp), rfl, ⟨by (try dsimp only); omega, by (try dsimp only); omega, by (try dsimp only); omega, by (try dsimp only); omega, by (try dsimp only); exact fun kc kT q_fR kl hc hb h hL => by rcases F51 with z | z; (exfalso; have z1 := z.2.1; omega); have y20 : v20 = kT.1.2.2.2.1.1 := (zIxN (n := 14) e20 (by decide)).trans (zSr_pu h.1).symm; have y24 : v24 = kc.2.2 (4 * p0.toInt.toNat + 1) := (F24.trans (congrArg fPa (show 4 * p0.toInt.toNat + (1 : Int32).toInt.toNat = 4 * p0.toInt.toNat + 1 by have : (1 : Int32).toInt = 1 := (by decide); omega))).trans (hc.2.2 _ (by omega)); have zy20 := congrArg Int32.toInt y20; have zy24 := congrArg Int32.toInt y24; exact zActRr (x := (2 : Int32).toInt) (by unfold sW_pnt; exact ((if_neg (by omega)).trans (if_pos (by omega))).trans (by omega)) (by omega) h z.2.2, ci_fKp_zKp_np__F_h0_32_, ci_fN_zNw_np⟩, ⟨by rw [ht]; exact hP, hD⟩⟩, hS.F ht⟩) hS.2.2 dX11_paint_58
  · have c7 : v4.toInt = 0 := z5 rfl (by decide) c7
    refine lv_iconst (v := 0) hx hb dX11_paint_10 (by decide) ?_
    refine lv_goto (tgt := 51) hx hb dX11_paint_11 (by decide) ?_
    obtain ⟨hPc, hDc, hFc⟩ := zc3 (wc := [(h0, .inr (11, [.int th, .ref tB, .int tsz, .int tat, .int wr, .int dp, .ref rC, .ref rV, .ref rD, .ref rK, .ref rT, .ref rS, .ref rU, .int lw, .int tx, .ref rL, .ref rX, .ref qR, .ref qB, .ref qP, .int qnb, .int qnp, .ref aR, .ref aB, .ref aP, .int nb, .int np, .ref aN, .ref rf, .int ho, .int br, .ref aK, .int ac, .long dw, .ref aE, .int sr, .int sf, .ref aA, .ref aH, .ref aI, .int hi])), (rf, .inl (cI, 5, .inl frf))]) hP hD hS hA [0, 12] (by decide +kernel) rfl
    refine va_calli (va_runV (As := [.int 0]) (rest := []) ⟨hx, hb, hml, hown, hts⟩ (g_X11_isRefused l dC dI cI cJ h0 0 th tB tsz tat wr dp rC rV rD rK rT rS rU lw tx rL rX qR qB qP qnb qnp aR aB aP nb np aN rf ho br aK ac dw aE sr sf aA aH aI hi frf H.size n_ac y_hi y_ho y_lw n_nb n_np (by decide) y_qnb y_qnp y_tat y_tsz y_wr) (cwV 1 hts (zgV qw1481 qw1483 qw66 qw108 qw1484) rfl rfl rfl hd_X11_isRefused ⟨by rw [hR]; exact Nat.le_of_ble_eq_true rfl, by rw [hR]; exact Nat.le_of_ble_eq_true rfl⟩) (zPV hPc hK hDc (va_recv (q := (RX11, TX11, 41)) hK hP (ci := 11) (q0 := 0) rfl rfl)) rfl rfl hl.1 rfl (lv_room (Nat.le_of_ble_eq_true rfl)) dX11_paint_51 ⟨Nat.zero_le _, Nat.zero_le _⟩) hS (fun q _ h => hFc q h) hFc (fun v51 u51 t H locs ht hvm hw hB hz1 hk1 hS9 => ?_)
    obtain ⟨u51_0, rfl⟩ : ∃ z, z = u51 := ⟨_, rfl⟩
    obtain ⟨hP9, hD9⟩ := zj2 (wX := [(h0, .inr (11, [.int th, .ref tB, .int tsz, .int tat, .int wr, .int dp, .ref rC, .ref rV, .ref rD, .ref rK, .ref rT, .ref rS, .ref rU, .int lw, .int tx, .ref rL, .ref rX, .ref qR, .ref qB, .ref qP, .int qnb, .int qnp, .ref aR, .ref aB, .ref aP, .int nb, .int np, .ref aN, .ref rf, .int ho, .int br, .ref aK, .int ac, .long dw, .ref aE, .int sr, .int sf, .ref aA, .ref aH, .ref aI, .int hi])), (rC, .inl (cI, 2600, .inl fC)), (rV, .inl (cI, 2600, .inl fV)), (rK, .inl (cI, 5, .inl fK)), (rT, .inl (cI, 700, .inl fT)), (rS, .inl (cI, 700, .inl fS)), (rU, .inl (cI, 700, .inl fU)), (rL, .inl (cI, 6, .inl fL)), (rX, .inl (cI, 80, .inl fX)), (aB, .inl (cI, 24, .inl fBr)), (aP, .inl (cI, 20, .inl fPa)), (aN, .inl (cI, 97, .inl fN)), (rf, .inl (cI, 5, .inl u51_0)), (aK, .inl (cI, 3880, .inl fKp))]) hP hD hk1 hFc ht hB [0, 12] [(true, 0), (false, 1), (false, 2), (false, 3), (false, 4), (false, 5), (false, 6), (false, 7), (false, 8), (false, 9), (false, 10), (false, 11), (true, 1), (false, 13)] rfl (by decide +kernel) (by decide +kernel) rfl
    clear hP hD hS hPc hDc hFc hB hk1 hz1 hvm
    have hP := hP9
    have hD := hD9
    have hS := hS9
    clear hP9 hD9 hS9
    have zn51_0 : (0 : Int32).toInt = 0 := by decide
    obtain ⟨f51_0, f51_1, f51_2, f51_3⟩ : (0 ≤ v51.toInt) ∧ (v51.toInt ≤ 1) ∧ (v51.toInt = 0 → (0 : Int32).toInt = -1) ∧ ((v51.toInt = 0 ∧ (0 : Int32).toInt = -1 ∧ u51_0 = frf) ∨ (v51.toInt = 1 ∧ ¬ (0 : Int32).toInt = -1 ∧ zRf frf u51_0 (0 : Int32).toInt)) := hw
    have F51 := f51_3
    refine lv_if_eq (tgt := 59) hx hb dX11_paint_54 (by decide) (fun c54 => by exfalso; have c54 : v51.toInt = 0 := z5 rfl (by decide) c54; omega) (fun c54 => ?_)
    have c54 : ¬ v51.toInt = 0 := z6 rfl (by decide) c54
    refine lv_iconst (v := (-1)) hx hb dX11_paint_57 (by decide) ?_
    have zr0 : ((-1) : Int32).toInt = (-1) := by decide
    rw [hQ]
    exact W.iret (v := ((-1))) hx hb hr (fun t ht hW => ⟨⟨(-1), (ac, fL, fX, fN, u51_0, fKp), rfl, ⟨by (try dsimp only); omega, by (try dsimp only); omega, by (try dsimp only); omega, by (try dsimp only); omega, by (try dsimp only); exact fun kc kT q_fR kl hc hb h hL => by rcases F51 with z | z; (exfalso; have z1 := z.2.1; omega); exact zActRr (x := (0 : Int32).toInt) (by unfold sW_pnt; exact (if_pos (by omega)).trans (by omega)) (by omega) h z.2.2, ci_fKp_zKp_np__F_h0_32_, ci_fN_zNw_np⟩, ⟨by rw [ht]; exact hP, hD⟩⟩, hS.F ht⟩) hS.2.2 dX11_paint_58
set_option maxHeartbeats 4000000 in
set_option maxRecDepth 100000 in
theorem g_X11_pay (l : Launch) (dC : Nat → ClassId) (dI : Nat → Nat → Nat) (cI cJ : ClassId) (h0 : Nat) (p0 : Int32) (p1 : Int32) (th : Int32) (tB : Nat) (tsz : Int32) (tat : Int32) (wr : Int32) (dp : Int32) (rC : Nat) (rV : Nat) (rD : Nat) (rK : Nat) (rT : Nat) (rS : Nat) (rU : Nat) (lw : Int32) (tx : Int32) (rL : Nat) (rX : Nat) (qR : Nat) (qB : Nat) (qP : Nat) (qnb : Int32) (qnp : Int32) (aR : Nat) (aB : Nat) (aP : Nat) (nb : Int32) (np : Int32) (aN : Nat) (rf : Nat) (ho : Int32) (br : Int32) (aK : Nat) (ac : Int32) (dw : Int64) (aE : Nat) (sr : Int32) (sf : Int32) (aA : Nat) (aH : Nat) (aI : Nat) (hi : Int32) (fN : Nat → Int32) (frf : Nat → Int32) (fKp : Nat → Int32) (sz : Nat) (n_ac : 0 ≤ ac.toInt ∧ ac.toInt ≤ 40) (n_hi : 0 ≤ hi.toInt ∧ hi.toInt ≤ 1) (n_ho : (-1) ≤ ho.toInt ∧ ho.toInt ≤ 3) (n_lw : 0 ≤ lw.toInt ∧ lw.toInt ≤ 4) (n_nb : 0 ≤ nb.toInt ∧ nb.toInt ≤ 6) (n_np : 0 ≤ np.toInt ∧ np.toInt ≤ 5) (n_qnb : 0 ≤ qnb.toInt ∧ qnb.toInt ≤ 6) (n_qnp : 0 ≤ qnp.toInt ∧ qnp.toInt ≤ 5) (n_tat : 0 ≤ tat.toInt ∧ tat.toInt ≤ 260) (n_tsz : 0 ≤ tsz.toInt ∧ tsz.toInt ≤ 240) (n_wr : (-1) ≤ wr.toInt ∧ wr.toInt ≤ 260)  (ci_fKp_zKp_np__F_h0_32_ : zKp np ac fKp) (ci_fN_zNw_np : zNw np fN)  : Met l yX11_pay (.code yX11_pay cX11_pay 3 (some .int) :: wA) ({ frames := 2, cells := 0, slots := 0, locals := 43 }) (zP (dC, dI) [(cI, .int), (cJ, .long)] [.ref h0, .int p0, .int p1] sz [(h0, .inr (11, [.int th, .ref tB, .int tsz, .int tat, .int wr, .int dp, .ref rC, .ref rV, .ref rD, .ref rK, .ref rT, .ref rS, .ref rU, .int lw, .int tx, .ref rL, .ref rX, .ref qR, .ref qB, .ref qP, .int qnb, .int qnp, .ref aR, .ref aB, .ref aP, .int nb, .int np, .ref aN, .ref rf, .int ho, .int br, .ref aK, .int ac, .long dw, .ref aE, .int sr, .int sf, .ref aA, .ref aH, .ref aI, .int hi])), (aN, .inl (cI, 97, .inl fN)), (rf, .inl (cI, 5, .inl frf)), (aK, .inl (cI, 3880, .inl fKp))]) (va_Qi (fun (r : Int32) (u : Int32 × (Nat → Int32) × (Nat → Int32) × (Nat → Int32)) => (0 ≤ u.1.toInt) ∧ (u.1.toInt ≤ 40) ∧ (∀ (kc : zK3) (kT : zT) (q_fR : Nat → Int32) (q_fBr : Nat → Int32) (q_fPa : Nat → Int32), zCn q_fR q_fBr q_fPa nb.toInt np.toInt kc → zKo nb.toInt np.toInt kc kT → zTr nb.toInt np.toInt kT fN fKp ac frf → r = sA (sW_pay nb.toInt kT.1 p0 p1) (kT.1.1 p0.toInt.toNat + p1) ∧ zTr nb.toInt np.toInt (sDo (sW_pay nb.toInt kT.1 p0 p1) kT (sSetY kT.1 p0.toInt.toNat (kT.1.1 p0.toInt.toNat + p1))) u.2.1 u.2.2.2 u.1 u.2.2.1) ∧ (zKp np u.1 u.2.2.2) ∧ (zNw np u.2.1)) (fun (u : Int32 × (Nat → Int32) × (Nat → Int32) × (Nat → Int32)) (t : State) => va_P (dC, dI) vwCl [(h0, .inr (11, [.int th, .ref tB, .int tsz, .int tat, .int wr, .int dp, .ref rC, .ref rV, .ref rD, .ref rK, .ref rT, .ref rS, .ref rU, .int lw, .int tx, .ref rL, .ref rX, .ref qR, .ref qB, .ref qP, .int qnb, .int qnp, .ref aR, .ref aB, .ref aP, .int nb, .int np, .ref aN, .ref rf, .int ho, .int br, .ref aK, .int u.1, .long dw, .ref aE, .int sr, .int sf, .ref aA, .ref aH, .ref aI, .int hi])), (aN, .inl (cI, 97, .inl u.2.1)), (rf, .inl (cI, 5, .inl u.2.2.1)), (aK, .inl (cI, 3880, .inl u.2.2.2))] t.heap ∧ va_D (va_A [(h0, .inr (11, [.int th, .ref tB, .int tsz, .int tat, .int wr, .int dp, .ref rC, .ref rV, .ref rD, .ref rK, .ref rT, .ref rS, .ref rU, .int lw, .int tx, .ref rL, .ref rX, .ref qR, .ref qB, .ref qP, .int qnb, .int qnp, .ref aR, .ref aB, .ref aP, .int nb, .int np, .ref aN, .ref rf, .int ho, .int br, .ref aK, .int ac, .long dw, .ref aE, .int sr, .int sf, .ref aA, .ref aH, .ref aI, .int hi])), (aN, .inl (cI, 97, .inl fN)), (rf, .inl (cI, 5, .inl frf)), (aK, .inl (cI, 3880, .inl fKp))] sz) [(h0, .inr (11, [.int th, .ref tB, .int tsz, .int tat, .int wr, .int dp, .ref rC, .ref rV, .ref rD, .ref rK, .ref rT, .ref rS, .ref rU, .int lw, .int tx, .ref rL, .ref rX, .ref qR, .ref qB, .ref qP, .int qnb, .int qnp, .ref aR, .ref aB, .ref aP, .int nb, .int np, .ref aN, .ref rf, .int ho, .int br, .ref aK, .int u.1, .long dw, .ref aE, .int sr, .int sf, .ref aA, .ref aH, .ref aI, .int hi])), (aN, .inl (cI, 97, .inl u.2.1)), (rf, .inl (cI, 5, .inl u.2.2.1)), (aK, .inl (cI, 3880, .inl u.2.2.2))]) (va_A [(h0, .inr (11, [.int th, .ref tB, .int tsz, .int tat, .int wr, .int dp, .ref rC, .ref rV, .ref rD, .ref rK, .ref rT, .ref rS, .ref rU, .int lw, .int tx, .ref rL, .ref rX, .ref qR, .ref qB, .ref qP, .int qnb, .int qnp, .ref aR, .ref aB, .ref aP, .int nb, .int np, .ref aN, .ref rf, .int ho, .int br, .ref aK, .int ac, .long dw, .ref aE, .int sr, .int sf, .ref aA, .ref aH, .ref aI, .int hi])), (aN, .inl (cI, 97, .inl fN)), (rf, .inl (cI, 5, .inl frf)), (aK, .inl (cI, 3880, .inl fKp))] sz)) 0 0 (va_A [(h0, .inr (11, [.int th, .ref tB, .int tsz, .int tat, .int wr, .int dp, .ref rC, .ref rV, .ref rD, .ref rK, .ref rT, .ref rS, .ref rU, .int lw, .int tx, .ref rL, .ref rX, .ref qR, .ref qB, .ref qP, .int qnb, .int qnp, .ref aR, .ref aB, .ref aP, .int nb, .int np, .ref aN, .ref rf, .int ho, .int br, .ref aK, .int ac, .long dw, .ref aE, .int sr, .int sf, .ref aA, .ref aH, .ref aI, .int hi])), (aN, .inl (cI, 97, .inl fN)), (rf, .inl (cI, 5, .inl frf)), (aK, .inl (cI, 3880, .inl fKp))] sz) := by
  refine Met.ofW (cc := cX11_pay) (maxL := 3) (ret := (some .int)) (by decide) rfl ?_
  intro p e s m args below meth c s₁ B hml hv
  have y_hi : zHid (0 ≤ hi.toInt ∧ hi.toInt ≤ 1) := n_hi
  have y_ho : zHid ((-1) ≤ ho.toInt ∧ ho.toInt ≤ 3) := n_ho
  have y_lw : zHid (0 ≤ lw.toInt ∧ lw.toInt ≤ 4) := n_lw
  have y_qnb : zHid (0 ≤ qnb.toInt ∧ qnb.toInt ≤ 6) := n_qnb
  have y_qnp : zHid (0 ≤ qnp.toInt ∧ qnp.toInt ≤ 5) := n_qnp
  have y_tat : zHid (0 ≤ tat.toInt ∧ tat.toInt ≤ 260) := n_tat
  have y_tsz : zHid (0 ≤ tsz.toInt ∧ tsz.toInt ≤ 240) := n_tsz
  have y_wr : zHid ((-1) ≤ wr.toInt ∧ wr.toInt ≤ 260) := n_wr
  clear n_hi n_ho n_lw n_qnb n_qnp n_tat n_tsz n_wr
  obtain ⟨hargs, hsz, hP, hK, hT⟩ := hv
  have hx := B.exec
  have hb := B.bytes
  have hr := B.returns
  have hts : ∀ w ∈ wA, w.before args s = true := fun w h => atoms_spec (ws := .code yX11_pay cX11_pay 3 (some .int) :: wA) B.pre w (List.mem_cons_of_mem _ h)
  have hown : s.vm.findClass RX11 = some m.cls := findClass_of_methodNamed B.named
  have hlocks := B.notSynchronized
  subst hsz
  have hD := hT.self (sz := s.heap.size)
  generalize hAe : va_A [(h0, .inr (11, [.int th, .ref tB, .int tsz, .int tat, .int wr, .int dp, .ref rC, .ref rV, .ref rD, .ref rK, .ref rT, .ref rS, .ref rU, .int lw, .int tx, .ref rL, .ref rX, .ref qR, .ref qB, .ref qP, .int qnb, .int qnp, .ref aR, .ref aB, .ref aP, .int nb, .int np, .ref aN, .ref rf, .int ho, .int br, .ref aK, .int ac, .long dw, .ref aE, .int sr, .int sf, .ref aA, .ref aH, .ref aI, .int hi])), (aN, .inl (cI, 97, .inl fN)), (rf, .inl (cI, 5, .inl frf)), (aK, .inl (cI, 3880, .inl fKp))] s.heap.size = A at hD ⊢
  have hA : ∀ q : Nat, s.heap.size ≤ q → A q := fun q h => by rw [← hAe]; exact Or.inr h
  have hl := lv_entry ([.ref h0, .int p0, .int p1]) (n := 3) (Nat.le_of_ble_eq_true rfl)
  rw [show entryFrame m args 3 = entryFrame m ([.ref h0, .int p0, .int p1] : List Value).toArray 3 by rw [hargs], lg_entry_eq]
  generalize (lg_sl ([.ref h0, .int p0, .int p1]) ++ List.replicate (3 - (lg_sl ([.ref h0, .int p0, .int p1])).length) Slot.unset).toArray = ls at hl ⊢
  have hl : lv_has ls 3 [(0, .ref h0), (1, .int p0), (2, .int p1)] := hl
  refine zstart (fun H hH => ?_)
  rw [← hH] at hP
  have hS : va_S A s.heap H [] := by rw [hH]; exact va_S.rf
  generalize ([] : List Loc) = locs at hS ⊢
  refine zgen (fun R Q hR hQ => ?_)
  refine lv_aload_n hx hb dX11_pay_0 rfl (lv_at hl 0 rfl) ?_
  refine lv_aload_n hx hb dX11_pay_1 rfl (lv_at hl 0 rfl) ?_
  refine lv_iload_n hx hb dX11_pay_2 rfl (lv_at hl 1 rfl) ?_
  obtain ⟨hPc, hDc⟩ := zc2 (wc := [(h0, .inr (11, [.int th, .ref tB, .int tsz, .int tat, .int wr, .int dp, .ref rC, .ref rV, .ref rD, .ref rK, .ref rT, .ref rS, .ref rU, .int lw, .int tx, .ref rL, .ref rX, .ref qR, .ref qB, .ref qP, .int qnb, .int qnp, .ref aR, .ref aB, .ref aP, .int nb, .int np, .ref aN, .ref rf, .int ho, .int br, .ref aK, .int ac, .long dw, .ref aE, .int sr, .int sf, .ref aA, .ref aH, .ref aI, .int hi]))]) hP hD [0] (by decide +kernel) rfl
  have hFc := zfr hS hA
  refine va_calli (va_runV (As := [.int p0]) (rest := [.ref h0]) ⟨hx, hb, hml, hown, hts⟩ (g_X11_isBride l dC dI cI cJ h0 p0 th tB tsz tat wr dp rC rV rD rK rT rS rU lw tx rL rX qR qB qP qnb qnp aR aB aP nb np aN rf ho br aK ac dw aE sr sf aA aH aI hi H.size n_ac y_hi y_ho y_lw n_nb n_np y_qnb y_qnp y_tat y_tsz y_wr) (cwV 1 hts (zgV qw1402 qw1404 qw56 qw108 qw1405) rfl rfl rfl hd_X11_isBride ⟨by rw [hR]; exact Nat.le_of_ble_eq_true rfl, by rw [hR]; exact Nat.le_of_ble_eq_true rfl⟩) (zPV hPc hK hDc (va_recv (q := (RX11, TX11, 41)) hK hP (ci := 11) (q0 := 0) rfl rfl)) rfl rfl hl.1 rfl (lv_room (Nat.le_of_ble_eq_true rfl)) dX11_pay_3 ⟨Nat.zero_le _, Nat.zero_le _⟩) hS (fun q _ h => hFc q h) hFc (fun v3 u3 t H locs ht hvm hw hB hz1 hk1 hS9 => ?_)
  replace hP := zkeep hP hk1
  replace hS := hS9
  clear hPc hDc hFc hk1 hz1 hvm hS9
  obtain ⟨f3_0, f3_1, f3_2, f3_3⟩ : (0 ≤ v3.toInt) ∧ (v3.toInt ≤ 1) ∧ (¬ v3.toInt = 0 → (0 ≤ p0.toInt ∧ p0.toInt < nb.toInt)) ∧ (v3.toInt = 0 → ¬ (0 ≤ p0.toInt ∧ p0.toInt < nb.toInt)) := hw
  refine lv_if_ne (tgt := 13) hx hb dX11_pay_6 (by decide) (fun c6 => ?_) (fun c6 => ?_)
  · have c6 : ¬ v3.toInt = 0 := z6 rfl (by decide) c6
    refine lv_iload_n hx hb dX11_pay_13 rfl (lv_at hl 2 rfl) ?_
    refine lv_bipush (v := (-9)) hx hb dX11_pay_14 (by decide) ?_
    refine lv_bipush (v := 9) hx hb dX11_pay_16 (by decide) ?_
    have hPc : va_P (dC, dI) vwCl [] H := zP0
    have hDc : va_D (fun _ => True) [] := zD0
    have hFc := zfr hS hA
    refine va_calli (va_runS (As := [.int p1, .int (-9), .int 9]) (rest := [.ref h0]) ⟨hx, hb, hml, hown, hts⟩ (g_X11_in l dC dI cI cJ p1 ((-9)) 9 H.size) (cwS 3 hts (zgS qw1305 qw1306 qw108 qw1307) rfl rfl rfl hd_X11_in ⟨by rw [hR]; exact Nat.le_of_ble_eq_true rfl, by rw [hR]; exact Nat.le_of_ble_eq_true rfl⟩) (zPS hPc hK hDc) rfl rfl hl.1 rfl (lv_room (Nat.le_of_ble_eq_true rfl)) dX11_pay_18 ⟨Nat.zero_le _, Nat.zero_le _⟩) hS (fun q _ h => hFc q h) hFc (fun v18 u18 t H locs ht hvm hw hB hz1 hk1 hS9 => ?_)
    replace hP := zkeep hP hk1
    replace hS := hS9
    clear hPc hDc hFc hk1 hz1 hvm hS9
    have zn18_m9 : (-9 : Int32).toInt = -9 := by decide
    have zn18_9 : (9 : Int32).toInt = 9 := by decide
    obtain ⟨f18_0, f18_1, f18_2, f18_3⟩ : (0 ≤ v18.toInt) ∧ (v18.toInt ≤ 1) ∧ (¬ v18.toInt = 0 → ((-9 : Int32).toInt ≤ p1.toInt ∧ p1.toInt ≤ (9 : Int32).toInt)) ∧ (v18.toInt = 0 → (p1.toInt < (-9 : Int32).toInt ∨ (9 : Int32).toInt < p1.toInt)) := hw
    refine lv_if_eq (tgt := 47) hx hb dX11_pay_21 (by decide) (fun c21 => ?_) (fun c21 => ?_)
    · have c21 : v18.toInt = 0 := z5 rfl (by decide) c21
      refine lv_iconst (v := 1) hx hb dX11_pay_47 (by decide) ?_
      refine lv_goto (tgt := 52) hx hb dX11_pay_48 (by decide) ?_
      obtain ⟨hPc, hDc, hFc⟩ := zc3 (wc := [(h0, .inr (11, [.int th, .ref tB, .int tsz, .int tat, .int wr, .int dp, .ref rC, .ref rV, .ref rD, .ref rK, .ref rT, .ref rS, .ref rU, .int lw, .int tx, .ref rL, .ref rX, .ref qR, .ref qB, .ref qP, .int qnb, .int qnp, .ref aR, .ref aB, .ref aP, .int nb, .int np, .ref aN, .ref rf, .int ho, .int br, .ref aK, .int ac, .long dw, .ref aE, .int sr, .int sf, .ref aA, .ref aH, .ref aI, .int hi])), (rf, .inl (cI, 5, .inl frf))]) hP hD hS hA [0, 2] (by decide +kernel) rfl
      refine va_calli (va_runV (As := [.int 1]) (rest := []) ⟨hx, hb, hml, hown, hts⟩ (g_X11_isRefused l dC dI cI cJ h0 1 th tB tsz tat wr dp rC rV rD rK rT rS rU lw tx rL rX qR qB qP qnb qnp aR aB aP nb np aN rf ho br aK ac dw aE sr sf aA aH aI hi frf H.size n_ac y_hi y_ho y_lw n_nb n_np (by decide) y_qnb y_qnp y_tat y_tsz y_wr) (cwV 1 hts (zgV qw1481 qw1483 qw66 qw108 qw1484) rfl rfl rfl hd_X11_isRefused ⟨by rw [hR]; exact Nat.le_of_ble_eq_true rfl, by rw [hR]; exact Nat.le_of_ble_eq_true rfl⟩) (zPV hPc hK hDc (va_recv (q := (RX11, TX11, 41)) hK hP (ci := 11) (q0 := 0) rfl rfl)) rfl rfl hl.1 rfl (lv_room (Nat.le_of_ble_eq_true rfl)) dX11_pay_52 ⟨Nat.zero_le _, Nat.zero_le _⟩) hS (fun q _ h => hFc q h) hFc (fun v52 u52 t H locs ht hvm hw hB hz1 hk1 hS9 => ?_)
      obtain ⟨u52_0, rfl⟩ : ∃ z, z = u52 := ⟨_, rfl⟩
      obtain ⟨hP9, hD9⟩ := zj2 (wX := [(h0, .inr (11, [.int th, .ref tB, .int tsz, .int tat, .int wr, .int dp, .ref rC, .ref rV, .ref rD, .ref rK, .ref rT, .ref rS, .ref rU, .int lw, .int tx, .ref rL, .ref rX, .ref qR, .ref qB, .ref qP, .int qnb, .int qnp, .ref aR, .ref aB, .ref aP, .int nb, .int np, .ref aN, .ref rf, .int ho, .int br, .ref aK, .int ac, .long dw, .ref aE, .int sr, .int sf, .ref aA, .ref aH, .ref aI, .int hi])), (aN, .inl (cI, 97, .inl fN)), (rf, .inl (cI, 5, .inl u52_0)), (aK, .inl (cI, 3880, .inl fKp))]) hP hD hk1 hFc ht hB [0, 2] [(true, 0), (false, 1), (true, 1), (false, 3)] rfl (by decide +kernel) (by decide +kernel) rfl
      clear hP hD hS hPc hDc hFc hB hk1 hz1 hvm
      have hP := hP9
      have hD := hD9
      have hS := hS9
      clear hP9 hD9 hS9
      have zn52_1 : (1 : Int32).toInt = 1 := by decide
      obtain ⟨f52_0, f52_1, f52_2, f52_3⟩ : (0 ≤ v52.toInt) ∧ (v52.toInt ≤ 1) ∧ (v52.toInt = 0 → (1 : Int32).toInt = -1) ∧ ((v52.toInt = 0 ∧ (1 : Int32).toInt = -1 ∧ u52_0 = frf) ∨ (v52.toInt = 1 ∧ ¬ (1 : Int32).toInt = -1 ∧ zRf frf u52_0 (1 : Int32).toInt)) := hw
      have F52 := f52_3
      refine lv_if_eq (tgt := 60) hx hb dX11_pay_55 (by decide) (fun c55 => by exfalso; have c55 : v52.toInt = 0 := z5 rfl (by decide) c55; omega) (fun c55 => ?_)
      have c55 : ¬ v52.toInt = 0 := z6 rfl (by decide) c55
      refine lv_iconst (v := (-1)) hx hb dX11_pay_58 (by decide) ?_
      have zr0 : ((-1) : Int32).toInt = (-1) := by decide
      rw [hQ]
      exact W.iret (v := ((-1))) hx hb hr (fun t ht hW => ⟨⟨(-1), (ac, fN, u52_0, fKp), rfl, ⟨by (try dsimp only); omega, by (try dsimp only); omega, by (try dsimp only); exact fun kc kT q_fR q_fBr q_fPa hc hb h => by rcases F52 with z | z; (exfalso; have z1 := z.2.1; omega); exact zActRr (x := (1 : Int32).toInt) (by unfold sW_pay; exact ((if_neg (by omega)).trans (if_pos (by omega))).trans (by omega)) (by omega) h z.2.2, ci_fKp_zKp_np__F_h0_32_, ci_fN_zNw_np⟩, ⟨by rw [ht]; exact hP, hD⟩⟩, hS.F ht⟩) hS.2.2 dX11_pay_59
    · have c21 : ¬ v18.toInt = 0 := z6 rfl (by decide) c21
      refine lv_iload_n hx hb dX11_pay_24 rfl (lv_at hl 2 rfl) ?_
      refine lv_if_eq (tgt := 47) hx hb dX11_pay_25 (by decide) (fun c25 => ?_) (fun c25 => ?_)
      · have c25 : p1.toInt = 0 := z5 rfl (by decide) c25
        refine lv_iconst (v := 1) hx hb dX11_pay_47 (by decide) ?_
        refine lv_goto (tgt := 52) hx hb dX11_pay_48 (by decide) ?_
        obtain ⟨hPc, hDc, hFc⟩ := zc3 (wc := [(h0, .inr (11, [.int th, .ref tB, .int tsz, .int tat, .int wr, .int dp, .ref rC, .ref rV, .ref rD, .ref rK, .ref rT, .ref rS, .ref rU, .int lw, .int tx, .ref rL, .ref rX, .ref qR, .ref qB, .ref qP, .int qnb, .int qnp, .ref aR, .ref aB, .ref aP, .int nb, .int np, .ref aN, .ref rf, .int ho, .int br, .ref aK, .int ac, .long dw, .ref aE, .int sr, .int sf, .ref aA, .ref aH, .ref aI, .int hi])), (rf, .inl (cI, 5, .inl frf))]) hP hD hS hA [0, 2] (by decide +kernel) rfl
        refine va_calli (va_runV (As := [.int 1]) (rest := []) ⟨hx, hb, hml, hown, hts⟩ (g_X11_isRefused l dC dI cI cJ h0 1 th tB tsz tat wr dp rC rV rD rK rT rS rU lw tx rL rX qR qB qP qnb qnp aR aB aP nb np aN rf ho br aK ac dw aE sr sf aA aH aI hi frf H.size n_ac y_hi y_ho y_lw n_nb n_np (by decide) y_qnb y_qnp y_tat y_tsz y_wr) (cwV 1 hts (zgV qw1481 qw1483 qw66 qw108 qw1484) rfl rfl rfl hd_X11_isRefused ⟨by rw [hR]; exact Nat.le_of_ble_eq_true rfl, by rw [hR]; exact Nat.le_of_ble_eq_true rfl⟩) (zPV hPc hK hDc (va_recv (q := (RX11, TX11, 41)) hK hP (ci := 11) (q0 := 0) rfl rfl)) rfl rfl hl.1 rfl (lv_room (Nat.le_of_ble_eq_true rfl)) dX11_pay_52 ⟨Nat.zero_le _, Nat.zero_le _⟩) hS (fun q _ h => hFc q h) hFc (fun v52 u52 t H locs ht hvm hw hB hz1 hk1 hS9 => ?_)
        obtain ⟨u52_0, rfl⟩ : ∃ z, z = u52 := ⟨_, rfl⟩
        obtain ⟨hP9, hD9⟩ := zj2 (wX := [(h0, .inr (11, [.int th, .ref tB, .int tsz, .int tat, .int wr, .int dp, .ref rC, .ref rV, .ref rD, .ref rK, .ref rT, .ref rS, .ref rU, .int lw, .int tx, .ref rL, .ref rX, .ref qR, .ref qB, .ref qP, .int qnb, .int qnp, .ref aR, .ref aB, .ref aP, .int nb, .int np, .ref aN, .ref rf, .int ho, .int br, .ref aK, .int ac, .long dw, .ref aE, .int sr, .int sf, .ref aA, .ref aH, .ref aI, .int hi])), (aN, .inl (cI, 97, .inl fN)), (rf, .inl (cI, 5, .inl u52_0)), (aK, .inl (cI, 3880, .inl fKp))]) hP hD hk1 hFc ht hB [0, 2] [(true, 0), (false, 1), (true, 1), (false, 3)] rfl (by decide +kernel) (by decide +kernel) rfl
        clear hP hD hS hPc hDc hFc hB hk1 hz1 hvm
        have hP := hP9
        have hD := hD9
        have hS := hS9
        clear hP9 hD9 hS9
        have zn52_1 : (1 : Int32).toInt = 1 := by decide
        obtain ⟨f52_0, f52_1, f52_2, f52_3⟩ : (0 ≤ v52.toInt) ∧ (v52.toInt ≤ 1) ∧ (v52.toInt = 0 → (1 : Int32).toInt = -1) ∧ ((v52.toInt = 0 ∧ (1 : Int32).toInt = -1 ∧ u52_0 = frf) ∨ (v52.toInt = 1 ∧ ¬ (1 : Int32).toInt = -1 ∧ zRf frf u52_0 (1 : Int32).toInt)) := hw
        have F52 := f52_3
        refine lv_if_eq (tgt := 60) hx hb dX11_pay_55 (by decide) (fun c55 => by exfalso; have c55 : v52.toInt = 0 := z5 rfl (by decide) c55; omega) (fun c55 => ?_)
        have c55 : ¬ v52.toInt = 0 := z6 rfl (by decide) c55
        refine lv_iconst (v := (-1)) hx hb dX11_pay_58 (by decide) ?_
        have zr0 : ((-1) : Int32).toInt = (-1) := by decide
        rw [hQ]
        exact W.iret (v := ((-1))) hx hb hr (fun t ht hW => ⟨⟨(-1), (ac, fN, u52_0, fKp), rfl, ⟨by (try dsimp only); omega, by (try dsimp only); omega, by (try dsimp only); exact fun kc kT q_fR q_fBr q_fPa hc hb h => by rcases F52 with z | z; (exfalso; have z1 := z.2.1; omega); exact zActRr (x := (1 : Int32).toInt) (by unfold sW_pay; exact ((if_neg (by omega)).trans (if_pos (by omega))).trans (by omega)) (by omega) h z.2.2, ci_fKp_zKp_np__F_h0_32_, ci_fN_zNw_np⟩, ⟨by rw [ht]; exact hP, hD⟩⟩, hS.F ht⟩) hS.2.2 dX11_pay_59
      · have c25 : ¬ p1.toInt = 0 := z6 rfl (by decide) c25
        refine lv_aload_n hx hb dX11_pay_28 rfl (lv_at hl 0 rfl) ?_
        refine va_get (D := (dC, dI)) (ci := 11) (v := .ref aN) (C := RX11) (T := TX11) (N := 41) hx hb hts iX11 hown hK hP 0 rfl rfl 27 (by decide) (hts _ qw1154) (fun _ h9 => h9) rfl dX11_pay_29 ?_
        refine lv_iconst (v := 0) hx hb dX11_pay_32 (by decide) ?_
        refine lv_iload_n hx hb dX11_pay_33 rfl (lv_at hl 1 rfl) ?_
        refine lv_iadd hx hb dX11_pay_34 ?_
        refine lv_topi (fun v34 e34 => ?_)
        have i34 : v34.toInt = 0 + p0.toInt := zadd e34 (by decide) rfl (by omega) (by omega)
        refine va_iald hx hb hK hP 1 0 rfl rfl (vp_in_iff.mpr ⟨by omega, by omega⟩) dX11_pay_35 ?_
        refine lv_topi (fun v35 e35 => ?_)
        refine lv_iload_n hx hb dX11_pay_36 rfl (lv_at hl 2 rfl) ?_
        refine lv_iadd hx hb dX11_pay_37 ?_
        refine lv_topi (fun v37 e37 => ?_)
        refine lv_iconst (v := 0) hx hb dX11_pay_38 (by decide) ?_
        refine lv_bipush (v := 9) hx hb dX11_pay_39 (by decide) ?_
        have hPc : va_P (dC, dI) vwCl [] H := zP0
        have hDc : va_D (fun _ => True) [] := zD0
        have hFc := zfr hS hA
        refine va_calli (va_runS (As := [.int v37, .int 0, .int 9]) (rest := [.ref h0]) ⟨hx, hb, hml, hown, hts⟩ (g_X11_in l dC dI cI cJ v37 0 9 H.size) (cwS 3 hts (zgS qw1305 qw1306 qw108 qw1307) rfl rfl rfl hd_X11_in ⟨by rw [hR]; exact Nat.le_of_ble_eq_true rfl, by rw [hR]; exact Nat.le_of_ble_eq_true rfl⟩) (zPS hPc hK hDc) rfl rfl hl.1 rfl (lv_room (Nat.le_of_ble_eq_true rfl)) dX11_pay_41 ⟨Nat.zero_le _, Nat.zero_le _⟩) hS (fun q _ h => hFc q h) hFc (fun v41 u41 t H locs ht hvm hw hB hz1 hk1 hS9 => ?_)
        replace hP := zkeep hP hk1
        replace hS := hS9
        clear hPc hDc hFc hk1 hz1 hvm hS9
        have zn41_0 : (0 : Int32).toInt = 0 := by decide
        have zn41_9 : (9 : Int32).toInt = 9 := by decide
        obtain ⟨f41_0, f41_1, f41_2, f41_3⟩ : (0 ≤ v41.toInt) ∧ (v41.toInt ≤ 1) ∧ (¬ v41.toInt = 0 → ((0 : Int32).toInt ≤ v37.toInt ∧ v37.toInt ≤ (9 : Int32).toInt)) ∧ (v41.toInt = 0 → (v37.toInt < (0 : Int32).toInt ∨ (9 : Int32).toInt < v37.toInt)) := hw
        refine lv_if_ne (tgt := 51) hx hb dX11_pay_44 (by decide) (fun c44 => ?_) (fun c44 => ?_)
        · have c44 : ¬ v41.toInt = 0 := z6 rfl (by decide) c44
          refine lv_iconst (v := (-1)) hx hb dX11_pay_51 (by decide) ?_
          obtain ⟨hPc, hDc, hFc⟩ := zc3 (wc := [(h0, .inr (11, [.int th, .ref tB, .int tsz, .int tat, .int wr, .int dp, .ref rC, .ref rV, .ref rD, .ref rK, .ref rT, .ref rS, .ref rU, .int lw, .int tx, .ref rL, .ref rX, .ref qR, .ref qB, .ref qP, .int qnb, .int qnp, .ref aR, .ref aB, .ref aP, .int nb, .int np, .ref aN, .ref rf, .int ho, .int br, .ref aK, .int ac, .long dw, .ref aE, .int sr, .int sf, .ref aA, .ref aH, .ref aI, .int hi])), (rf, .inl (cI, 5, .inl frf))]) hP hD hS hA [0, 2] (by decide +kernel) rfl
          refine va_calli (va_runV (As := [.int (-1)]) (rest := []) ⟨hx, hb, hml, hown, hts⟩ (g_X11_isRefused l dC dI cI cJ h0 ((-1)) th tB tsz tat wr dp rC rV rD rK rT rS rU lw tx rL rX qR qB qP qnb qnp aR aB aP nb np aN rf ho br aK ac dw aE sr sf aA aH aI hi frf H.size n_ac y_hi y_ho y_lw n_nb n_np (by decide) y_qnb y_qnp y_tat y_tsz y_wr) (cwV 1 hts (zgV qw1481 qw1483 qw66 qw108 qw1484) rfl rfl rfl hd_X11_isRefused ⟨by rw [hR]; exact Nat.le_of_ble_eq_true rfl, by rw [hR]; exact Nat.le_of_ble_eq_true rfl⟩) (zPV hPc hK hDc (va_recv (q := (RX11, TX11, 41)) hK hP (ci := 11) (q0 := 0) rfl rfl)) rfl rfl hl.1 rfl (lv_room (Nat.le_of_ble_eq_true rfl)) dX11_pay_52 ⟨Nat.zero_le _, Nat.zero_le _⟩) hS (fun q _ h => hFc q h) hFc (fun v52 u52 t H locs ht hvm hw hB hz1 hk1 hS9 => ?_)
          obtain ⟨u52_0, rfl⟩ : ∃ z, z = u52 := ⟨_, rfl⟩
          obtain ⟨hP9, hD9⟩ := zj2 (wX := [(h0, .inr (11, [.int th, .ref tB, .int tsz, .int tat, .int wr, .int dp, .ref rC, .ref rV, .ref rD, .ref rK, .ref rT, .ref rS, .ref rU, .int lw, .int tx, .ref rL, .ref rX, .ref qR, .ref qB, .ref qP, .int qnb, .int qnp, .ref aR, .ref aB, .ref aP, .int nb, .int np, .ref aN, .ref rf, .int ho, .int br, .ref aK, .int ac, .long dw, .ref aE, .int sr, .int sf, .ref aA, .ref aH, .ref aI, .int hi])), (aN, .inl (cI, 97, .inl fN)), (rf, .inl (cI, 5, .inl u52_0)), (aK, .inl (cI, 3880, .inl fKp))]) hP hD hk1 hFc ht hB [0, 2] [(true, 0), (false, 1), (true, 1), (false, 3)] rfl (by decide +kernel) (by decide +kernel) rfl
          clear hP hD hS hPc hDc hFc hB hk1 hz1 hvm
          have hP := hP9
          have hD := hD9
          have hS := hS9
          clear hP9 hD9 hS9
          have zn52_m1 : (-1 : Int32).toInt = -1 := by decide
          obtain ⟨f52_0, f52_1, f52_2, f52_3⟩ : (0 ≤ v52.toInt) ∧ (v52.toInt ≤ 1) ∧ (v52.toInt = 0 → (-1 : Int32).toInt = -1) ∧ ((v52.toInt = 0 ∧ (-1 : Int32).toInt = -1 ∧ u52_0 = frf) ∨ (v52.toInt = 1 ∧ ¬ (-1 : Int32).toInt = -1 ∧ zRf frf u52_0 (-1 : Int32).toInt)) := hw
          have F52 := f52_3
          refine lv_if_eq (tgt := 60) hx hb dX11_pay_55 (by decide) (fun c55 => ?_) (fun c55 => ?_)
          · have c55 : v52.toInt = 0 := z5 rfl (by decide) c55
            refine lv_aload_n hx hb dX11_pay_60 rfl (lv_at hl 0 rfl) ?_
            obtain ⟨hPc, hDc, hFc⟩ := zc3 (wc := [(h0, .inr (11, [.int th, .ref tB, .int tsz, .int tat, .int wr, .int dp, .ref rC, .ref rV, .ref rD, .ref rK, .ref rT, .ref rS, .ref rU, .int lw, .int tx, .ref rL, .ref rX, .ref qR, .ref qB, .ref qP, .int qnb, .int qnp, .ref aR, .ref aB, .ref aP, .int nb, .int np, .ref aN, .ref rf, .int ho, .int br, .ref aK, .int ac, .long dw, .ref aE, .int sr, .int sf, .ref aA, .ref aH, .ref aI, .int hi])), (aN, .inl (cI, 97, .inl fN)), (aK, .inl (cI, 3880, .inl fKp))]) hP hD hS hA [0, 1, 3] (by decide +kernel) rfl
            refine va_callv (va_runV (As := []) (rest := []) ⟨hx, hb, hml, hown, hts⟩ (g_X11_keep l dC dI cI cJ h0 th tB tsz tat wr dp rC rV rD rK rT rS rU lw tx rL rX qR qB qP qnb qnp aR aB aP nb np aN rf ho br aK ac dw aE sr sf aA aH aI hi fN fKp H.size n_ac y_hi y_ho y_lw n_nb n_np y_qnb y_qnp y_tat y_tsz y_wr ci_fKp_zKp_np__F_h0_32_ ci_fN_zNw_np) (cwV 0 hts (zgV qw1485 qw1487 qw67 qw108 qw1488) rfl rfl rfl hd_X11_keep ⟨by rw [hR]; exact Nat.le_of_ble_eq_true rfl, by rw [hR]; exact Nat.le_of_ble_eq_true rfl⟩) (zPV hPc hK hDc (va_recv (q := (RX11, TX11, 41)) hK hP (ci := 11) (q0 := 0) rfl rfl)) rfl rfl hl.1 rfl (lv_room (Nat.le_of_ble_eq_true rfl)) dX11_pay_61 ⟨Nat.zero_le _, Nat.zero_le _⟩) hS (fun q _ h => hFc q h) hFc (fun u61 t H locs ht hvm hw hB hz1 hk1 hS9 => ?_)
            obtain ⟨u61_0, u61_1⟩ := u61
            obtain ⟨hP9, hD9⟩ := zj2 (wX := [(h0, .inr (11, [.int th, .ref tB, .int tsz, .int tat, .int wr, .int dp, .ref rC, .ref rV, .ref rD, .ref rK, .ref rT, .ref rS, .ref rU, .int lw, .int tx, .ref rL, .ref rX, .ref qR, .ref qB, .ref qP, .int qnb, .int qnp, .ref aR, .ref aB, .ref aP, .int nb, .int np, .ref aN, .ref rf, .int ho, .int br, .ref aK, .int u61_0, .long dw, .ref aE, .int sr, .int sf, .ref aA, .ref aH, .ref aI, .int hi])), (aN, .inl (cI, 97, .inl fN)), (rf, .inl (cI, 5, .inl u52_0)), (aK, .inl (cI, 3880, .inl u61_1))]) hP hD hk1 hFc ht hB [0, 1, 3] [(true, 0), (true, 1), (false, 2), (true, 2)] rfl (by decide +kernel) (by decide +kernel) rfl
            clear hP hD hS hPc hDc hFc hB hk1 hz1 hvm
            have hP := hP9
            have hD := hD9
            have hS := hS9
            clear hP9 hD9 hS9
            obtain ⟨f61_0, f61_1, f61_2, f61_3⟩ : (1 ≤ u61_0.toInt) ∧ (u61_0.toInt ≤ 40) ∧ (zKe fKp u61_1 fN ac u61_0) ∧ (zKp np u61_0 u61_1) := hw
            have F61 := f61_2
            refine lv_aload_n hx hb dX11_pay_64 rfl (lv_at hl 0 rfl) ?_
            refine va_get (D := (dC, dI)) (ci := 11) (v := .ref aN) (C := RX11) (T := TX11) (N := 41) hx hb hts iX11 hown hK hP 0 rfl rfl 27 (by decide) (hts _ qw1154) (fun _ h9 => h9) rfl dX11_pay_65 ?_
            refine lv_iconst (v := 0) hx hb dX11_pay_68 (by decide) ?_
            refine lv_iload_n hx hb dX11_pay_69 rfl (lv_at hl 1 rfl) ?_
            refine lv_iadd hx hb dX11_pay_70 ?_
            refine lv_topi (fun v70 e70 => ?_)
            have i70 : v70.toInt = 0 + p0.toInt := zadd e70 (by decide) rfl (by omega) (by omega)
            refine lv_dup2_11 hx hb dX11_pay_71 rfl rfl ?_
            refine va_iald hx hb hK hP 1 0 rfl rfl (vp_in_iff.mpr ⟨by omega, by omega⟩) dX11_pay_72 ?_
            refine lv_topi (fun v72 e72 => ?_)
            refine lv_iload_n hx hb dX11_pay_73 rfl (lv_at hl 2 rfl) ?_
            refine lv_iadd hx hb dX11_pay_74 ?_
            refine lv_topi (fun v74 e74 => ?_)
            refine va_iast hx hb hK hP hD hS 1 0 rfl rfl (vp_in_iff.mpr ⟨by omega, by omega⟩) dX11_pay_75 (fun H locs hP9 hD9 hS9 => ?_)
            clear hP hD hS
            obtain ⟨v75_f, e75⟩ : ∃ g : Nat → Int32, g = upd fN (v70).toNatClampNeg v74 := ⟨_, rfl⟩
            rw [← e75] at hP9 hD9
            obtain ⟨hP, hD⟩ := zst (wX := [(h0, .inr (11, [.int th, .ref tB, .int tsz, .int tat, .int wr, .int dp, .ref rC, .ref rV, .ref rD, .ref rK, .ref rT, .ref rS, .ref rU, .int lw, .int tx, .ref rL, .ref rX, .ref qR, .ref qB, .ref qP, .int qnb, .int qnp, .ref aR, .ref aB, .ref aP, .int nb, .int np, .ref aN, .ref rf, .int ho, .int br, .ref aK, .int u61_0, .long dw, .ref aE, .int sr, .int sf, .ref aA, .ref aH, .ref aI, .int hi])), (aN, .inl (cI, 97, .inl v75_f)), (rf, .inl (cI, 5, .inl u52_0)), (aK, .inl (cI, 3880, .inl u61_1))]) hP9 hD9 rfl
            have hS := hS9
            clear hP9 hD9 hS9
            have cq75_zNw_np : zNw np v75_f := (zNw_low ci_fN_zNw_np e75 (by omega) (by omega)).1
            refine lv_aload_n hx hb dX11_pay_76 rfl (lv_at hl 0 rfl) ?_
            refine va_get (D := (dC, dI)) (ci := 11) (v := .ref aN) (C := RX11) (T := TX11) (N := 41) hx hb hts iX11 hown hK hP 0 rfl rfl 27 (by decide) (hts _ qw1154) (fun _ h9 => h9) rfl dX11_pay_77 ?_
            refine lv_iconst (v := 0) hx hb dX11_pay_80 (by decide) ?_
            refine lv_iload_n hx hb dX11_pay_81 rfl (lv_at hl 1 rfl) ?_
            refine lv_iadd hx hb dX11_pay_82 ?_
            refine lv_topi (fun v82 e82 => ?_)
            have i82 : v82.toInt = 0 + p0.toInt := zadd e82 (by decide) rfl (by omega) (by omega)
            refine va_iald hx hb hK hP 1 0 rfl rfl (vp_in_iff.mpr ⟨by omega, by omega⟩) dX11_pay_83 ?_
            refine lv_topi (fun v83 e83 => ?_)
            rw [hQ]
            exact W.iret (v := v83) hx hb hr (fun t ht hW => ⟨⟨v83, (u61_0, v75_f, u52_0, u61_1), rfl, ⟨by (try dsimp only); omega, by (try dsimp only); omega, by (try dsimp only); exact fun kc kT q_fR q_fBr q_fPa hc hb h => by rcases F52 with z | z; rotate_left; (exfalso; have z1 := z.2.1; omega); have y35 : v35 = kT.1.1 p0.toInt.toNat := (zIxN (n := p0.toInt.toNat) e35 (by omega)).trans (h.1.1 _ (by omega)); have yb := hb.2.2.2.1.1 p0.toInt.toNat (by omega); have z37 : v37.toInt = (kT.1.1 p0.toInt.toNat).toInt + p1.toInt := zadd e37 (congrArg Int32.toInt y35) rfl (by omega) (by omega); have y72 : v72 = kT.1.1 p0.toInt.toNat := (zIxN (n := p0.toInt.toNat) e72 (by omega)).trans (h.1.1 _ (by omega)); have y74 : v74 = kT.1.1 p0.toInt.toNat + p1 := (by rw [e74, y72]); exact zActAr (by unfold sW_pay; exact (if_neg (by omega)).trans (if_neg (by omega))) h (zKr_k hb.2 h F61 (by omega)) (by rw [← y74]; exact zSr_Y h.1 e75 (by omega) (by omega)) z.2.2 (by rw [zIxN (n := p0.toInt.toNat) e83 (by omega), e75, show v70.toNatClampNeg = p0.toInt.toNat from (by show v70.toInt.toNat = _; omega), pk_us, y74]), f61_3, cq75_zNw_np⟩, ⟨by rw [ht]; exact hP, hD⟩⟩, hS.F ht⟩) hS.2.2 dX11_pay_84
          · have c55 : ¬ v52.toInt = 0 := z6 rfl (by decide) c55
            refine lv_iconst (v := (-1)) hx hb dX11_pay_58 (by decide) ?_
            have zr0 : ((-1) : Int32).toInt = (-1) := by decide
            rw [hQ]
            exact W.iret (v := ((-1))) hx hb hr (fun t ht hW => ⟨⟨(-1), (ac, fN, u52_0, fKp), rfl, ⟨by (try dsimp only); omega, by (try dsimp only); omega, by (try dsimp only); exact fun kc kT q_fR q_fBr q_fPa hc hb h => by exfalso; rcases F52 with z | z; (have z1 := z.1; omega); (have z1 := z.2.1; omega), ci_fKp_zKp_np__F_h0_32_, ci_fN_zNw_np⟩, ⟨by rw [ht]; exact hP, hD⟩⟩, hS.F ht⟩) hS.2.2 dX11_pay_59
        · have c44 : v41.toInt = 0 := z5 rfl (by decide) c44
          refine lv_iconst (v := 1) hx hb dX11_pay_47 (by decide) ?_
          refine lv_goto (tgt := 52) hx hb dX11_pay_48 (by decide) ?_
          obtain ⟨hPc, hDc, hFc⟩ := zc3 (wc := [(h0, .inr (11, [.int th, .ref tB, .int tsz, .int tat, .int wr, .int dp, .ref rC, .ref rV, .ref rD, .ref rK, .ref rT, .ref rS, .ref rU, .int lw, .int tx, .ref rL, .ref rX, .ref qR, .ref qB, .ref qP, .int qnb, .int qnp, .ref aR, .ref aB, .ref aP, .int nb, .int np, .ref aN, .ref rf, .int ho, .int br, .ref aK, .int ac, .long dw, .ref aE, .int sr, .int sf, .ref aA, .ref aH, .ref aI, .int hi])), (rf, .inl (cI, 5, .inl frf))]) hP hD hS hA [0, 2] (by decide +kernel) rfl
          refine va_calli (va_runV (As := [.int 1]) (rest := []) ⟨hx, hb, hml, hown, hts⟩ (g_X11_isRefused l dC dI cI cJ h0 1 th tB tsz tat wr dp rC rV rD rK rT rS rU lw tx rL rX qR qB qP qnb qnp aR aB aP nb np aN rf ho br aK ac dw aE sr sf aA aH aI hi frf H.size n_ac y_hi y_ho y_lw n_nb n_np (by decide) y_qnb y_qnp y_tat y_tsz y_wr) (cwV 1 hts (zgV qw1481 qw1483 qw66 qw108 qw1484) rfl rfl rfl hd_X11_isRefused ⟨by rw [hR]; exact Nat.le_of_ble_eq_true rfl, by rw [hR]; exact Nat.le_of_ble_eq_true rfl⟩) (zPV hPc hK hDc (va_recv (q := (RX11, TX11, 41)) hK hP (ci := 11) (q0 := 0) rfl rfl)) rfl rfl hl.1 rfl (lv_room (Nat.le_of_ble_eq_true rfl)) dX11_pay_52 ⟨Nat.zero_le _, Nat.zero_le _⟩) hS (fun q _ h => hFc q h) hFc (fun v52 u52 t H locs ht hvm hw hB hz1 hk1 hS9 => ?_)
          obtain ⟨u52_0, rfl⟩ : ∃ z, z = u52 := ⟨_, rfl⟩
          obtain ⟨hP9, hD9⟩ := zj2 (wX := [(h0, .inr (11, [.int th, .ref tB, .int tsz, .int tat, .int wr, .int dp, .ref rC, .ref rV, .ref rD, .ref rK, .ref rT, .ref rS, .ref rU, .int lw, .int tx, .ref rL, .ref rX, .ref qR, .ref qB, .ref qP, .int qnb, .int qnp, .ref aR, .ref aB, .ref aP, .int nb, .int np, .ref aN, .ref rf, .int ho, .int br, .ref aK, .int ac, .long dw, .ref aE, .int sr, .int sf, .ref aA, .ref aH, .ref aI, .int hi])), (aN, .inl (cI, 97, .inl fN)), (rf, .inl (cI, 5, .inl u52_0)), (aK, .inl (cI, 3880, .inl fKp))]) hP hD hk1 hFc ht hB [0, 2] [(true, 0), (false, 1), (true, 1), (false, 3)] rfl (by decide +kernel) (by decide +kernel) rfl
          clear hP hD hS hPc hDc hFc hB hk1 hz1 hvm
          have hP := hP9
          have hD := hD9
          have hS := hS9
          clear hP9 hD9 hS9
          have zn52_1 : (1 : Int32).toInt = 1 := by decide
          obtain ⟨f52_0, f52_1, f52_2, f52_3⟩ : (0 ≤ v52.toInt) ∧ (v52.toInt ≤ 1) ∧ (v52.toInt = 0 → (1 : Int32).toInt = -1) ∧ ((v52.toInt = 0 ∧ (1 : Int32).toInt = -1 ∧ u52_0 = frf) ∨ (v52.toInt = 1 ∧ ¬ (1 : Int32).toInt = -1 ∧ zRf frf u52_0 (1 : Int32).toInt)) := hw
          have F52 := f52_3
          refine lv_if_eq (tgt := 60) hx hb dX11_pay_55 (by decide) (fun c55 => by exfalso; have c55 : v52.toInt = 0 := z5 rfl (by decide) c55; omega) (fun c55 => ?_)
          have c55 : ¬ v52.toInt = 0 := z6 rfl (by decide) c55
          refine lv_iconst (v := (-1)) hx hb dX11_pay_58 (by decide) ?_
          have zr0 : ((-1) : Int32).toInt = (-1) := by decide
          rw [hQ]
          exact W.iret (v := ((-1))) hx hb hr (fun t ht hW => ⟨⟨(-1), (ac, fN, u52_0, fKp), rfl, ⟨by (try dsimp only); omega, by (try dsimp only); omega, by (try dsimp only); exact fun kc kT q_fR q_fBr q_fPa hc hb h => by rcases F52 with z | z; (exfalso; have z1 := z.2.1; omega); have y35 : v35 = kT.1.1 p0.toInt.toNat := (zIxN (n := p0.toInt.toNat) e35 (by omega)).trans (h.1.1 _ (by omega)); have yb := hb.2.2.2.1.1 p0.toInt.toNat (by omega); have z37 : v37.toInt = (kT.1.1 p0.toInt.toNat).toInt + p1.toInt := zadd e37 (congrArg Int32.toInt y35) rfl (by omega) (by omega); exact zActRr (x := (1 : Int32).toInt) (by unfold sW_pay; exact ((if_neg (by omega)).trans (if_pos (by omega))).trans (by omega)) (by omega) h z.2.2, ci_fKp_zKp_np__F_h0_32_, ci_fN_zNw_np⟩, ⟨by rw [ht]; exact hP, hD⟩⟩, hS.F ht⟩) hS.2.2 dX11_pay_59
  · have c6 : v3.toInt = 0 := z5 rfl (by decide) c6
    refine lv_iconst (v := 0) hx hb dX11_pay_9 (by decide) ?_
    refine lv_goto (tgt := 52) hx hb dX11_pay_10 (by decide) ?_
    obtain ⟨hPc, hDc, hFc⟩ := zc3 (wc := [(h0, .inr (11, [.int th, .ref tB, .int tsz, .int tat, .int wr, .int dp, .ref rC, .ref rV, .ref rD, .ref rK, .ref rT, .ref rS, .ref rU, .int lw, .int tx, .ref rL, .ref rX, .ref qR, .ref qB, .ref qP, .int qnb, .int qnp, .ref aR, .ref aB, .ref aP, .int nb, .int np, .ref aN, .ref rf, .int ho, .int br, .ref aK, .int ac, .long dw, .ref aE, .int sr, .int sf, .ref aA, .ref aH, .ref aI, .int hi])), (rf, .inl (cI, 5, .inl frf))]) hP hD hS hA [0, 2] (by decide +kernel) rfl
    refine va_calli (va_runV (As := [.int 0]) (rest := []) ⟨hx, hb, hml, hown, hts⟩ (g_X11_isRefused l dC dI cI cJ h0 0 th tB tsz tat wr dp rC rV rD rK rT rS rU lw tx rL rX qR qB qP qnb qnp aR aB aP nb np aN rf ho br aK ac dw aE sr sf aA aH aI hi frf H.size n_ac y_hi y_ho y_lw n_nb n_np (by decide) y_qnb y_qnp y_tat y_tsz y_wr) (cwV 1 hts (zgV qw1481 qw1483 qw66 qw108 qw1484) rfl rfl rfl hd_X11_isRefused ⟨by rw [hR]; exact Nat.le_of_ble_eq_true rfl, by rw [hR]; exact Nat.le_of_ble_eq_true rfl⟩) (zPV hPc hK hDc (va_recv (q := (RX11, TX11, 41)) hK hP (ci := 11) (q0 := 0) rfl rfl)) rfl rfl hl.1 rfl (lv_room (Nat.le_of_ble_eq_true rfl)) dX11_pay_52 ⟨Nat.zero_le _, Nat.zero_le _⟩) hS (fun q _ h => hFc q h) hFc (fun v52 u52 t H locs ht hvm hw hB hz1 hk1 hS9 => ?_)
    obtain ⟨u52_0, rfl⟩ : ∃ z, z = u52 := ⟨_, rfl⟩
    obtain ⟨hP9, hD9⟩ := zj2 (wX := [(h0, .inr (11, [.int th, .ref tB, .int tsz, .int tat, .int wr, .int dp, .ref rC, .ref rV, .ref rD, .ref rK, .ref rT, .ref rS, .ref rU, .int lw, .int tx, .ref rL, .ref rX, .ref qR, .ref qB, .ref qP, .int qnb, .int qnp, .ref aR, .ref aB, .ref aP, .int nb, .int np, .ref aN, .ref rf, .int ho, .int br, .ref aK, .int ac, .long dw, .ref aE, .int sr, .int sf, .ref aA, .ref aH, .ref aI, .int hi])), (aN, .inl (cI, 97, .inl fN)), (rf, .inl (cI, 5, .inl u52_0)), (aK, .inl (cI, 3880, .inl fKp))]) hP hD hk1 hFc ht hB [0, 2] [(true, 0), (false, 1), (true, 1), (false, 3)] rfl (by decide +kernel) (by decide +kernel) rfl
    clear hP hD hS hPc hDc hFc hB hk1 hz1 hvm
    have hP := hP9
    have hD := hD9
    have hS := hS9
    clear hP9 hD9 hS9
    have zn52_0 : (0 : Int32).toInt = 0 := by decide
    obtain ⟨f52_0, f52_1, f52_2, f52_3⟩ : (0 ≤ v52.toInt) ∧ (v52.toInt ≤ 1) ∧ (v52.toInt = 0 → (0 : Int32).toInt = -1) ∧ ((v52.toInt = 0 ∧ (0 : Int32).toInt = -1 ∧ u52_0 = frf) ∨ (v52.toInt = 1 ∧ ¬ (0 : Int32).toInt = -1 ∧ zRf frf u52_0 (0 : Int32).toInt)) := hw
    have F52 := f52_3
    refine lv_if_eq (tgt := 60) hx hb dX11_pay_55 (by decide) (fun c55 => by exfalso; have c55 : v52.toInt = 0 := z5 rfl (by decide) c55; omega) (fun c55 => ?_)
    have c55 : ¬ v52.toInt = 0 := z6 rfl (by decide) c55
    refine lv_iconst (v := (-1)) hx hb dX11_pay_58 (by decide) ?_
    have zr0 : ((-1) : Int32).toInt = (-1) := by decide
    rw [hQ]
    exact W.iret (v := ((-1))) hx hb hr (fun t ht hW => ⟨⟨(-1), (ac, fN, u52_0, fKp), rfl, ⟨by (try dsimp only); omega, by (try dsimp only); omega, by (try dsimp only); exact fun kc kT q_fR q_fBr q_fPa hc hb h => by rcases F52 with z | z; (exfalso; have z1 := z.2.1; omega); exact zActRr (x := (0 : Int32).toInt) (by unfold sW_pay; exact (if_pos (by omega)).trans (by omega)) (by omega) h z.2.2, ci_fKp_zKp_np__F_h0_32_, ci_fN_zNw_np⟩, ⟨by rw [ht]; exact hP, hD⟩⟩, hS.F ht⟩) hS.2.2 dX11_pay_59
set_option maxHeartbeats 4000000 in
set_option maxRecDepth 100000 in
theorem g_X11_threaten (l : Launch) (dC : Nat → ClassId) (dI : Nat → Nat → Nat) (cI cJ : ClassId) (h0 : Nat) (p0 : Int32) (th : Int32) (tB : Nat) (tsz : Int32) (tat : Int32) (wr : Int32) (dp : Int32) (rC : Nat) (rV : Nat) (rD : Nat) (rK : Nat) (rT : Nat) (rS : Nat) (rU : Nat) (lw : Int32) (tx : Int32) (rL : Nat) (rX : Nat) (qR : Nat) (qB : Nat) (qP : Nat) (qnb : Int32) (qnp : Int32) (aR : Nat) (aB : Nat) (aP : Nat) (nb : Int32) (np : Int32) (aN : Nat) (rf : Nat) (ho : Int32) (br : Int32) (aK : Nat) (ac : Int32) (dw : Int64) (aE : Nat) (sr : Int32) (sf : Int32) (aA : Nat) (aH : Nat) (aI : Nat) (hi : Int32) (fN : Nat → Int32) (frf : Nat → Int32) (fKp : Nat → Int32) (sz : Nat) (n_ac : 0 ≤ ac.toInt ∧ ac.toInt ≤ 40) (n_hi : 0 ≤ hi.toInt ∧ hi.toInt ≤ 1) (n_ho : (-1) ≤ ho.toInt ∧ ho.toInt ≤ 3) (n_lw : 0 ≤ lw.toInt ∧ lw.toInt ≤ 4) (n_nb : 0 ≤ nb.toInt ∧ nb.toInt ≤ 6) (n_np : 0 ≤ np.toInt ∧ np.toInt ≤ 5) (n_qnb : 0 ≤ qnb.toInt ∧ qnb.toInt ≤ 6) (n_qnp : 0 ≤ qnp.toInt ∧ qnp.toInt ≤ 5) (n_tat : 0 ≤ tat.toInt ∧ tat.toInt ≤ 260) (n_tsz : 0 ≤ tsz.toInt ∧ tsz.toInt ≤ 240) (n_wr : (-1) ≤ wr.toInt ∧ wr.toInt ≤ 260)  (ci_fKp_zKp_np__F_h0_32_ : zKp np ac fKp) (ci_fN_zNw_np : zNw np fN)  : Met l yX11_threaten (.code yX11_threaten cX11_threaten 2 (some .int) :: wA) ({ frames := 2, cells := 0, slots := 0, locals := 43 }) (zP (dC, dI) [(cI, .int), (cJ, .long)] [.ref h0, .int p0] sz [(h0, .inr (11, [.int th, .ref tB, .int tsz, .int tat, .int wr, .int dp, .ref rC, .ref rV, .ref rD, .ref rK, .ref rT, .ref rS, .ref rU, .int lw, .int tx, .ref rL, .ref rX, .ref qR, .ref qB, .ref qP, .int qnb, .int qnp, .ref aR, .ref aB, .ref aP, .int nb, .int np, .ref aN, .ref rf, .int ho, .int br, .ref aK, .int ac, .long dw, .ref aE, .int sr, .int sf, .ref aA, .ref aH, .ref aI, .int hi])), (aN, .inl (cI, 97, .inl fN)), (rf, .inl (cI, 5, .inl frf)), (aK, .inl (cI, 3880, .inl fKp))]) (va_Qi (fun (r : Int32) (u : Int32 × (Nat → Int32) × (Nat → Int32) × (Nat → Int32)) => (0 ≤ u.1.toInt) ∧ (u.1.toInt ≤ 40) ∧ (∀ (kc : zK3) (kT : zT) (q_fR : Nat → Int32) (q_fBr : Nat → Int32) (q_fPa : Nat → Int32), zCn q_fR q_fBr q_fPa nb.toInt np.toInt kc → zKo nb.toInt np.toInt kc kT → zTr nb.toInt np.toInt kT fN fKp ac frf → r = sA (sW_thr np.toInt kT.1 p0) (kT.1.2.1 p0.toInt.toNat + 1) ∧ zTr nb.toInt np.toInt (sDo (sW_thr np.toInt kT.1 p0) kT (sSetF kT.1 p0.toInt.toNat (kT.1.2.1 p0.toInt.toNat + 1))) u.2.1 u.2.2.2 u.1 u.2.2.1) ∧ (zKp np u.1 u.2.2.2) ∧ (zNw np u.2.1)) (fun (u : Int32 × (Nat → Int32) × (Nat → Int32) × (Nat → Int32)) (t : State) => va_P (dC, dI) vwCl [(h0, .inr (11, [.int th, .ref tB, .int tsz, .int tat, .int wr, .int dp, .ref rC, .ref rV, .ref rD, .ref rK, .ref rT, .ref rS, .ref rU, .int lw, .int tx, .ref rL, .ref rX, .ref qR, .ref qB, .ref qP, .int qnb, .int qnp, .ref aR, .ref aB, .ref aP, .int nb, .int np, .ref aN, .ref rf, .int ho, .int br, .ref aK, .int u.1, .long dw, .ref aE, .int sr, .int sf, .ref aA, .ref aH, .ref aI, .int hi])), (aN, .inl (cI, 97, .inl u.2.1)), (rf, .inl (cI, 5, .inl u.2.2.1)), (aK, .inl (cI, 3880, .inl u.2.2.2))] t.heap ∧ va_D (va_A [(h0, .inr (11, [.int th, .ref tB, .int tsz, .int tat, .int wr, .int dp, .ref rC, .ref rV, .ref rD, .ref rK, .ref rT, .ref rS, .ref rU, .int lw, .int tx, .ref rL, .ref rX, .ref qR, .ref qB, .ref qP, .int qnb, .int qnp, .ref aR, .ref aB, .ref aP, .int nb, .int np, .ref aN, .ref rf, .int ho, .int br, .ref aK, .int ac, .long dw, .ref aE, .int sr, .int sf, .ref aA, .ref aH, .ref aI, .int hi])), (aN, .inl (cI, 97, .inl fN)), (rf, .inl (cI, 5, .inl frf)), (aK, .inl (cI, 3880, .inl fKp))] sz) [(h0, .inr (11, [.int th, .ref tB, .int tsz, .int tat, .int wr, .int dp, .ref rC, .ref rV, .ref rD, .ref rK, .ref rT, .ref rS, .ref rU, .int lw, .int tx, .ref rL, .ref rX, .ref qR, .ref qB, .ref qP, .int qnb, .int qnp, .ref aR, .ref aB, .ref aP, .int nb, .int np, .ref aN, .ref rf, .int ho, .int br, .ref aK, .int u.1, .long dw, .ref aE, .int sr, .int sf, .ref aA, .ref aH, .ref aI, .int hi])), (aN, .inl (cI, 97, .inl u.2.1)), (rf, .inl (cI, 5, .inl u.2.2.1)), (aK, .inl (cI, 3880, .inl u.2.2.2))]) (va_A [(h0, .inr (11, [.int th, .ref tB, .int tsz, .int tat, .int wr, .int dp, .ref rC, .ref rV, .ref rD, .ref rK, .ref rT, .ref rS, .ref rU, .int lw, .int tx, .ref rL, .ref rX, .ref qR, .ref qB, .ref qP, .int qnb, .int qnp, .ref aR, .ref aB, .ref aP, .int nb, .int np, .ref aN, .ref rf, .int ho, .int br, .ref aK, .int ac, .long dw, .ref aE, .int sr, .int sf, .ref aA, .ref aH, .ref aI, .int hi])), (aN, .inl (cI, 97, .inl fN)), (rf, .inl (cI, 5, .inl frf)), (aK, .inl (cI, 3880, .inl fKp))] sz)) 0 0 (va_A [(h0, .inr (11, [.int th, .ref tB, .int tsz, .int tat, .int wr, .int dp, .ref rC, .ref rV, .ref rD, .ref rK, .ref rT, .ref rS, .ref rU, .int lw, .int tx, .ref rL, .ref rX, .ref qR, .ref qB, .ref qP, .int qnb, .int qnp, .ref aR, .ref aB, .ref aP, .int nb, .int np, .ref aN, .ref rf, .int ho, .int br, .ref aK, .int ac, .long dw, .ref aE, .int sr, .int sf, .ref aA, .ref aH, .ref aI, .int hi])), (aN, .inl (cI, 97, .inl fN)), (rf, .inl (cI, 5, .inl frf)), (aK, .inl (cI, 3880, .inl fKp))] sz) := by
  refine Met.ofW (cc := cX11_threaten) (maxL := 2) (ret := (some .int)) (by decide) rfl ?_
  intro p e s m args below meth c s₁ B hml hv
  have y_hi : zHid (0 ≤ hi.toInt ∧ hi.toInt ≤ 1) := n_hi
  have y_ho : zHid ((-1) ≤ ho.toInt ∧ ho.toInt ≤ 3) := n_ho
  have y_lw : zHid (0 ≤ lw.toInt ∧ lw.toInt ≤ 4) := n_lw
  have y_qnb : zHid (0 ≤ qnb.toInt ∧ qnb.toInt ≤ 6) := n_qnb
  have y_qnp : zHid (0 ≤ qnp.toInt ∧ qnp.toInt ≤ 5) := n_qnp
  have y_tat : zHid (0 ≤ tat.toInt ∧ tat.toInt ≤ 260) := n_tat
  have y_tsz : zHid (0 ≤ tsz.toInt ∧ tsz.toInt ≤ 240) := n_tsz
  have y_wr : zHid ((-1) ≤ wr.toInt ∧ wr.toInt ≤ 260) := n_wr
  clear n_hi n_ho n_lw n_qnb n_qnp n_tat n_tsz n_wr
  obtain ⟨hargs, hsz, hP, hK, hT⟩ := hv
  have hx := B.exec
  have hb := B.bytes
  have hr := B.returns
  have hts : ∀ w ∈ wA, w.before args s = true := fun w h => atoms_spec (ws := .code yX11_threaten cX11_threaten 2 (some .int) :: wA) B.pre w (List.mem_cons_of_mem _ h)
  have hown : s.vm.findClass RX11 = some m.cls := findClass_of_methodNamed B.named
  have hlocks := B.notSynchronized
  subst hsz
  have hD := hT.self (sz := s.heap.size)
  generalize hAe : va_A [(h0, .inr (11, [.int th, .ref tB, .int tsz, .int tat, .int wr, .int dp, .ref rC, .ref rV, .ref rD, .ref rK, .ref rT, .ref rS, .ref rU, .int lw, .int tx, .ref rL, .ref rX, .ref qR, .ref qB, .ref qP, .int qnb, .int qnp, .ref aR, .ref aB, .ref aP, .int nb, .int np, .ref aN, .ref rf, .int ho, .int br, .ref aK, .int ac, .long dw, .ref aE, .int sr, .int sf, .ref aA, .ref aH, .ref aI, .int hi])), (aN, .inl (cI, 97, .inl fN)), (rf, .inl (cI, 5, .inl frf)), (aK, .inl (cI, 3880, .inl fKp))] s.heap.size = A at hD ⊢
  have hA : ∀ q : Nat, s.heap.size ≤ q → A q := fun q h => by rw [← hAe]; exact Or.inr h
  have hl := lv_entry ([.ref h0, .int p0]) (n := 2) (Nat.le_of_ble_eq_true rfl)
  rw [show entryFrame m args 2 = entryFrame m ([.ref h0, .int p0] : List Value).toArray 2 by rw [hargs], lg_entry_eq]
  generalize (lg_sl ([.ref h0, .int p0]) ++ List.replicate (2 - (lg_sl ([.ref h0, .int p0])).length) Slot.unset).toArray = ls at hl ⊢
  have hl : lv_has ls 2 [(0, .ref h0), (1, .int p0)] := hl
  refine zstart (fun H hH => ?_)
  rw [← hH] at hP
  have hS : va_S A s.heap H [] := by rw [hH]; exact va_S.rf
  generalize ([] : List Loc) = locs at hS ⊢
  refine zgen (fun R Q hR hQ => ?_)
  refine lv_aload_n hx hb dX11_threaten_0 rfl (lv_at hl 0 rfl) ?_
  refine lv_aload_n hx hb dX11_threaten_1 rfl (lv_at hl 0 rfl) ?_
  refine lv_iload_n hx hb dX11_threaten_2 rfl (lv_at hl 1 rfl) ?_
  obtain ⟨hPc, hDc⟩ := zc2 (wc := [(h0, .inr (11, [.int th, .ref tB, .int tsz, .int tat, .int wr, .int dp, .ref rC, .ref rV, .ref rD, .ref rK, .ref rT, .ref rS, .ref rU, .int lw, .int tx, .ref rL, .ref rX, .ref qR, .ref qB, .ref qP, .int qnb, .int qnp, .ref aR, .ref aB, .ref aP, .int nb, .int np, .ref aN, .ref rf, .int ho, .int br, .ref aK, .int ac, .long dw, .ref aE, .int sr, .int sf, .ref aA, .ref aH, .ref aI, .int hi]))]) hP hD [0] (by decide +kernel) rfl
  have hFc := zfr hS hA
  refine va_calli (va_runV (As := [.int p0]) (rest := [.ref h0]) ⟨hx, hb, hml, hown, hts⟩ (g_X11_isPainter l dC dI cI cJ h0 p0 th tB tsz tat wr dp rC rV rD rK rT rS rU lw tx rL rX qR qB qP qnb qnp aR aB aP nb np aN rf ho br aK ac dw aE sr sf aA aH aI hi H.size n_ac y_hi y_ho y_lw n_nb n_np y_qnb y_qnp y_tat y_tsz y_wr) (cwV 1 hts (zgV qw1410 qw1412 qw57 qw108 qw1413) rfl rfl rfl hd_X11_isPainter ⟨by rw [hR]; exact Nat.le_of_ble_eq_true rfl, by rw [hR]; exact Nat.le_of_ble_eq_true rfl⟩) (zPV hPc hK hDc (va_recv (q := (RX11, TX11, 41)) hK hP (ci := 11) (q0 := 0) rfl rfl)) rfl rfl hl.1 rfl (lv_room (Nat.le_of_ble_eq_true rfl)) dX11_threaten_3 ⟨Nat.zero_le _, Nat.zero_le _⟩) hS (fun q _ h => hFc q h) hFc (fun v3 u3 t H locs ht hvm hw hB hz1 hk1 hS9 => ?_)
  replace hP := zkeep hP hk1
  replace hS := hS9
  clear hPc hDc hFc hk1 hz1 hvm hS9
  obtain ⟨f3_0, f3_1, f3_2, f3_3⟩ : (0 ≤ v3.toInt) ∧ (v3.toInt ≤ 1) ∧ (¬ v3.toInt = 0 → (0 ≤ p0.toInt ∧ p0.toInt < np.toInt)) ∧ (v3.toInt = 0 → ¬ (0 ≤ p0.toInt ∧ p0.toInt < np.toInt)) := hw
  refine lv_if_ne (tgt := 13) hx hb dX11_threaten_6 (by decide) (fun c6 => ?_) (fun c6 => ?_)
  · have c6 : ¬ v3.toInt = 0 := z6 rfl (by decide) c6
    refine lv_aload_n hx hb dX11_threaten_13 rfl (lv_at hl 0 rfl) ?_
    refine va_get (D := (dC, dI)) (ci := 11) (v := .ref aN) (C := RX11) (T := TX11) (N := 41) hx hb hts iX11 hown hK hP 0 rfl rfl 27 (by decide) (hts _ qw1154) (fun _ h9 => h9) rfl dX11_threaten_14 ?_
    refine lv_bipush (v := 6) hx hb dX11_threaten_17 (by decide) ?_
    refine lv_iload_n hx hb dX11_threaten_19 rfl (lv_at hl 1 rfl) ?_
    refine lv_iadd hx hb dX11_threaten_20 ?_
    refine lv_topi (fun v20 e20 => ?_)
    have i20 : v20.toInt = 6 + p0.toInt := zadd e20 (by decide) rfl (by omega) (by omega)
    refine va_iald hx hb hK hP 1 0 rfl rfl (vp_in_iff.mpr ⟨by omega, by omega⟩) dX11_threaten_21 ?_
    refine lv_topi (fun v21 e21 => ?_)
    refine lv_bipush (v := 9) hx hb dX11_threaten_22 (by decide) ?_
    refine lv_icmp_ne (tgt := 31) hx hb dX11_threaten_24 (by decide) (fun c24 => ?_) (fun c24 => ?_)
    · have c24 : ¬ v21.toInt = 9 := z6 rfl (by decide) c24
      refine lv_iconst (v := (-1)) hx hb dX11_threaten_31 (by decide) ?_
      obtain ⟨hPc, hDc, hFc⟩ := zc3 (wc := [(h0, .inr (11, [.int th, .ref tB, .int tsz, .int tat, .int wr, .int dp, .ref rC, .ref rV, .ref rD, .ref rK, .ref rT, .ref rS, .ref rU, .int lw, .int tx, .ref rL, .ref rX, .ref qR, .ref qB, .ref qP, .int qnb, .int qnp, .ref aR, .ref aB, .ref aP, .int nb, .int np, .ref aN, .ref rf, .int ho, .int br, .ref aK, .int ac, .long dw, .ref aE, .int sr, .int sf, .ref aA, .ref aH, .ref aI, .int hi])), (rf, .inl (cI, 5, .inl frf))]) hP hD hS hA [0, 2] (by decide +kernel) rfl
      refine va_calli (va_runV (As := [.int (-1)]) (rest := []) ⟨hx, hb, hml, hown, hts⟩ (g_X11_isRefused l dC dI cI cJ h0 ((-1)) th tB tsz tat wr dp rC rV rD rK rT rS rU lw tx rL rX qR qB qP qnb qnp aR aB aP nb np aN rf ho br aK ac dw aE sr sf aA aH aI hi frf H.size n_ac y_hi y_ho y_lw n_nb n_np (by decide) y_qnb y_qnp y_tat y_tsz y_wr) (cwV 1 hts (zgV qw1481 qw1483 qw66 qw108 qw1484) rfl rfl rfl hd_X11_isRefused ⟨by rw [hR]; exact Nat.le_of_ble_eq_true rfl, by rw [hR]; exact Nat.le_of_ble_eq_true rfl⟩) (zPV hPc hK hDc (va_recv (q := (RX11, TX11, 41)) hK hP (ci := 11) (q0 := 0) rfl rfl)) rfl rfl hl.1 rfl (lv_room (Nat.le_of_ble_eq_true rfl)) dX11_threaten_32 ⟨Nat.zero_le _, Nat.zero_le _⟩) hS (fun q _ h => hFc q h) hFc (fun v32 u32 t H locs ht hvm hw hB hz1 hk1 hS9 => ?_)
      obtain ⟨u32_0, rfl⟩ : ∃ z, z = u32 := ⟨_, rfl⟩
      obtain ⟨hP9, hD9⟩ := zj2 (wX := [(h0, .inr (11, [.int th, .ref tB, .int tsz, .int tat, .int wr, .int dp, .ref rC, .ref rV, .ref rD, .ref rK, .ref rT, .ref rS, .ref rU, .int lw, .int tx, .ref rL, .ref rX, .ref qR, .ref qB, .ref qP, .int qnb, .int qnp, .ref aR, .ref aB, .ref aP, .int nb, .int np, .ref aN, .ref rf, .int ho, .int br, .ref aK, .int ac, .long dw, .ref aE, .int sr, .int sf, .ref aA, .ref aH, .ref aI, .int hi])), (aN, .inl (cI, 97, .inl fN)), (rf, .inl (cI, 5, .inl u32_0)), (aK, .inl (cI, 3880, .inl fKp))]) hP hD hk1 hFc ht hB [0, 2] [(true, 0), (false, 1), (true, 1), (false, 3)] rfl (by decide +kernel) (by decide +kernel) rfl
      clear hP hD hS hPc hDc hFc hB hk1 hz1 hvm
      have hP := hP9
      have hD := hD9
      have hS := hS9
      clear hP9 hD9 hS9
      have zn32_m1 : (-1 : Int32).toInt = -1 := by decide
      obtain ⟨f32_0, f32_1, f32_2, f32_3⟩ : (0 ≤ v32.toInt) ∧ (v32.toInt ≤ 1) ∧ (v32.toInt = 0 → (-1 : Int32).toInt = -1) ∧ ((v32.toInt = 0 ∧ (-1 : Int32).toInt = -1 ∧ u32_0 = frf) ∨ (v32.toInt = 1 ∧ ¬ (-1 : Int32).toInt = -1 ∧ zRf frf u32_0 (-1 : Int32).toInt)) := hw
      have F32 := f32_3
      refine lv_if_eq (tgt := 40) hx hb dX11_threaten_35 (by decide) (fun c35 => ?_) (fun c35 => ?_)
      · have c35 : v32.toInt = 0 := z5 rfl (by decide) c35
        refine lv_aload_n hx hb dX11_threaten_40 rfl (lv_at hl 0 rfl) ?_
        obtain ⟨hPc, hDc, hFc⟩ := zc3 (wc := [(h0, .inr (11, [.int th, .ref tB, .int tsz, .int tat, .int wr, .int dp, .ref rC, .ref rV, .ref rD, .ref rK, .ref rT, .ref rS, .ref rU, .int lw, .int tx, .ref rL, .ref rX, .ref qR, .ref qB, .ref qP, .int qnb, .int qnp, .ref aR, .ref aB, .ref aP, .int nb, .int np, .ref aN, .ref rf, .int ho, .int br, .ref aK, .int ac, .long dw, .ref aE, .int sr, .int sf, .ref aA, .ref aH, .ref aI, .int hi])), (aN, .inl (cI, 97, .inl fN)), (aK, .inl (cI, 3880, .inl fKp))]) hP hD hS hA [0, 1, 3] (by decide +kernel) rfl
        refine va_callv (va_runV (As := []) (rest := []) ⟨hx, hb, hml, hown, hts⟩ (g_X11_keep l dC dI cI cJ h0 th tB tsz tat wr dp rC rV rD rK rT rS rU lw tx rL rX qR qB qP qnb qnp aR aB aP nb np aN rf ho br aK ac dw aE sr sf aA aH aI hi fN fKp H.size n_ac y_hi y_ho y_lw n_nb n_np y_qnb y_qnp y_tat y_tsz y_wr ci_fKp_zKp_np__F_h0_32_ ci_fN_zNw_np) (cwV 0 hts (zgV qw1485 qw1487 qw67 qw108 qw1488) rfl rfl rfl hd_X11_keep ⟨by rw [hR]; exact Nat.le_of_ble_eq_true rfl, by rw [hR]; exact Nat.le_of_ble_eq_true rfl⟩) (zPV hPc hK hDc (va_recv (q := (RX11, TX11, 41)) hK hP (ci := 11) (q0 := 0) rfl rfl)) rfl rfl hl.1 rfl (lv_room (Nat.le_of_ble_eq_true rfl)) dX11_threaten_41 ⟨Nat.zero_le _, Nat.zero_le _⟩) hS (fun q _ h => hFc q h) hFc (fun u41 t H locs ht hvm hw hB hz1 hk1 hS9 => ?_)
        obtain ⟨u41_0, u41_1⟩ := u41
        obtain ⟨hP9, hD9⟩ := zj2 (wX := [(h0, .inr (11, [.int th, .ref tB, .int tsz, .int tat, .int wr, .int dp, .ref rC, .ref rV, .ref rD, .ref rK, .ref rT, .ref rS, .ref rU, .int lw, .int tx, .ref rL, .ref rX, .ref qR, .ref qB, .ref qP, .int qnb, .int qnp, .ref aR, .ref aB, .ref aP, .int nb, .int np, .ref aN, .ref rf, .int ho, .int br, .ref aK, .int u41_0, .long dw, .ref aE, .int sr, .int sf, .ref aA, .ref aH, .ref aI, .int hi])), (aN, .inl (cI, 97, .inl fN)), (rf, .inl (cI, 5, .inl u32_0)), (aK, .inl (cI, 3880, .inl u41_1))]) hP hD hk1 hFc ht hB [0, 1, 3] [(true, 0), (true, 1), (false, 2), (true, 2)] rfl (by decide +kernel) (by decide +kernel) rfl
        clear hP hD hS hPc hDc hFc hB hk1 hz1 hvm
        have hP := hP9
        have hD := hD9
        have hS := hS9
        clear hP9 hD9 hS9
        obtain ⟨f41_0, f41_1, f41_2, f41_3⟩ : (1 ≤ u41_0.toInt) ∧ (u41_0.toInt ≤ 40) ∧ (zKe fKp u41_1 fN ac u41_0) ∧ (zKp np u41_0 u41_1) := hw
        have F41 := f41_2
        refine lv_aload_n hx hb dX11_threaten_44 rfl (lv_at hl 0 rfl) ?_
        refine va_get (D := (dC, dI)) (ci := 11) (v := .ref aN) (C := RX11) (T := TX11) (N := 41) hx hb hts iX11 hown hK hP 0 rfl rfl 27 (by decide) (hts _ qw1154) (fun _ h9 => h9) rfl dX11_threaten_45 ?_
        refine lv_bipush (v := 6) hx hb dX11_threaten_48 (by decide) ?_
        refine lv_iload_n hx hb dX11_threaten_50 rfl (lv_at hl 1 rfl) ?_
        refine lv_iadd hx hb dX11_threaten_51 ?_
        refine lv_topi (fun v51 e51 => ?_)
        have i51 : v51.toInt = 6 + p0.toInt := zadd e51 (by decide) rfl (by omega) (by omega)
        refine lv_dup2_11 hx hb dX11_threaten_52 rfl rfl ?_
        refine va_iald hx hb hK hP 1 0 rfl rfl (vp_in_iff.mpr ⟨by omega, by omega⟩) dX11_threaten_53 ?_
        refine lv_topi (fun v53 e53 => ?_)
        refine lv_iconst (v := 1) hx hb dX11_threaten_54 (by decide) ?_
        refine lv_iadd hx hb dX11_threaten_55 ?_
        refine lv_topi (fun v55 e55 => ?_)
        refine va_iast hx hb hK hP hD hS 1 0 rfl rfl (vp_in_iff.mpr ⟨by omega, by omega⟩) dX11_threaten_56 (fun H locs hP9 hD9 hS9 => ?_)
        clear hP hD hS
        obtain ⟨v56_f, e56⟩ : ∃ g : Nat → Int32, g = upd fN (v51).toNatClampNeg v55 := ⟨_, rfl⟩
        rw [← e56] at hP9 hD9
        obtain ⟨hP, hD⟩ := zst (wX := [(h0, .inr (11, [.int th, .ref tB, .int tsz, .int tat, .int wr, .int dp, .ref rC, .ref rV, .ref rD, .ref rK, .ref rT, .ref rS, .ref rU, .int lw, .int tx, .ref rL, .ref rX, .ref qR, .ref qB, .ref qP, .int qnb, .int qnp, .ref aR, .ref aB, .ref aP, .int nb, .int np, .ref aN, .ref rf, .int ho, .int br, .ref aK, .int u41_0, .long dw, .ref aE, .int sr, .int sf, .ref aA, .ref aH, .ref aI, .int hi])), (aN, .inl (cI, 97, .inl v56_f)), (rf, .inl (cI, 5, .inl u32_0)), (aK, .inl (cI, 3880, .inl u41_1))]) hP9 hD9 rfl
        have hS := hS9
        clear hP9 hD9 hS9
        have cq56_zNw_np : zNw np v56_f := (zNw_low ci_fN_zNw_np e56 (by omega) (by omega)).1
        refine lv_aload_n hx hb dX11_threaten_57 rfl (lv_at hl 0 rfl) ?_
        refine va_get (D := (dC, dI)) (ci := 11) (v := .ref aN) (C := RX11) (T := TX11) (N := 41) hx hb hts iX11 hown hK hP 0 rfl rfl 27 (by decide) (hts _ qw1154) (fun _ h9 => h9) rfl dX11_threaten_58 ?_
        refine lv_bipush (v := 6) hx hb dX11_threaten_61 (by decide) ?_
        refine lv_iload_n hx hb dX11_threaten_63 rfl (lv_at hl 1 rfl) ?_
        refine lv_iadd hx hb dX11_threaten_64 ?_
        refine lv_topi (fun v64 e64 => ?_)
        have i64 : v64.toInt = 6 + p0.toInt := zadd e64 (by decide) rfl (by omega) (by omega)
        refine va_iald hx hb hK hP 1 0 rfl rfl (vp_in_iff.mpr ⟨by omega, by omega⟩) dX11_threaten_65 ?_
        refine lv_topi (fun v65 e65 => ?_)
        rw [hQ]
        exact W.iret (v := v65) hx hb hr (fun t ht hW => ⟨⟨v65, (u41_0, v56_f, u32_0, u41_1), rfl, ⟨by (try dsimp only); omega, by (try dsimp only); omega, by (try dsimp only); exact fun kc kT q_fR q_fBr q_fPa hc hb h => by rcases F32 with z | z; rotate_left; (exfalso; have z1 := z.2.1; omega); have y21 : v21 = kT.1.2.1 p0.toInt.toNat := (zIxN (n := 6 + p0.toInt.toNat) e21 (by omega)).trans (h.1.2.1 _ (by omega)); have zy21 := congrArg Int32.toInt y21; have yb := hb.2.2.2.1.2.1 p0.toInt.toNat (by omega); have y53 : v53 = kT.1.2.1 p0.toInt.toNat := (zIxN (n := 6 + p0.toInt.toNat) e53 (by omega)).trans (h.1.2.1 _ (by omega)); have y55 : v55 = kT.1.2.1 p0.toInt.toNat + 1 := (by rw [e55, y53]); exact zActAr (by unfold sW_thr; exact (if_neg (by omega)).trans (if_neg (by omega))) h (zKr_k hb.2 h F41 (by omega)) (by rw [← y55]; exact zSr_F h.1 e56 (by omega) (by omega) hb.2.1.2) z.2.2 (by rw [zIxN (n := 6 + p0.toInt.toNat) e65 (by omega), e56, show v51.toNatClampNeg = 6 + p0.toInt.toNat from (by show v51.toInt.toNat = _; omega), pk_us, y55]), f41_3, cq56_zNw_np⟩, ⟨by rw [ht]; exact hP, hD⟩⟩, hS.F ht⟩) hS.2.2 dX11_threaten_66
      · have c35 : ¬ v32.toInt = 0 := z6 rfl (by decide) c35
        refine lv_iconst (v := (-1)) hx hb dX11_threaten_38 (by decide) ?_
        have zr0 : ((-1) : Int32).toInt = (-1) := by decide
        rw [hQ]
        exact W.iret (v := ((-1))) hx hb hr (fun t ht hW => ⟨⟨(-1), (ac, fN, u32_0, fKp), rfl, ⟨by (try dsimp only); omega, by (try dsimp only); omega, by (try dsimp only); exact fun kc kT q_fR q_fBr q_fPa hc hb h => by exfalso; rcases F32 with z | z; (have z1 := z.1; omega); (have z1 := z.2.1; omega), ci_fKp_zKp_np__F_h0_32_, ci_fN_zNw_np⟩, ⟨by rw [ht]; exact hP, hD⟩⟩, hS.F ht⟩) hS.2.2 dX11_threaten_39
    · have c24 : v21.toInt = 9 := z5 rfl (by decide) c24
      refine lv_iconst (v := 1) hx hb dX11_threaten_27 (by decide) ?_
      refine lv_goto (tgt := 32) hx hb dX11_threaten_28 (by decide) ?_
      obtain ⟨hPc, hDc, hFc⟩ := zc3 (wc := [(h0, .inr (11, [.int th, .ref tB, .int tsz, .int tat, .int wr, .int dp, .ref rC, .ref rV, .ref rD, .ref rK, .ref rT, .ref rS, .ref rU, .int lw, .int tx, .ref rL, .ref rX, .ref qR, .ref qB, .ref qP, .int qnb, .int qnp, .ref aR, .ref aB, .ref aP, .int nb, .int np, .ref aN, .ref rf, .int ho, .int br, .ref aK, .int ac, .long dw, .ref aE, .int sr, .int sf, .ref aA, .ref aH, .ref aI, .int hi])), (rf, .inl (cI, 5, .inl frf))]) hP hD hS hA [0, 2] (by decide +kernel) rfl
      refine va_calli (va_runV (As := [.int 1]) (rest := []) ⟨hx, hb, hml, hown, hts⟩ (g_X11_isRefused l dC dI cI cJ h0 1 th tB tsz tat wr dp rC rV rD rK rT rS rU lw tx rL rX qR qB qP qnb qnp aR aB aP nb np aN rf ho br aK ac dw aE sr sf aA aH aI hi frf H.size n_ac y_hi y_ho y_lw n_nb n_np (by decide) y_qnb y_qnp y_tat y_tsz y_wr) (cwV 1 hts (zgV qw1481 qw1483 qw66 qw108 qw1484) rfl rfl rfl hd_X11_isRefused ⟨by rw [hR]; exact Nat.le_of_ble_eq_true rfl, by rw [hR]; exact Nat.le_of_ble_eq_true rfl⟩) (zPV hPc hK hDc (va_recv (q := (RX11, TX11, 41)) hK hP (ci := 11) (q0 := 0) rfl rfl)) rfl rfl hl.1 rfl (lv_room (Nat.le_of_ble_eq_true rfl)) dX11_threaten_32 ⟨Nat.zero_le _, Nat.zero_le _⟩) hS (fun q _ h => hFc q h) hFc (fun v32 u32 t H locs ht hvm hw hB hz1 hk1 hS9 => ?_)
      obtain ⟨u32_0, rfl⟩ : ∃ z, z = u32 := ⟨_, rfl⟩
      obtain ⟨hP9, hD9⟩ := zj2 (wX := [(h0, .inr (11, [.int th, .ref tB, .int tsz, .int tat, .int wr, .int dp, .ref rC, .ref rV, .ref rD, .ref rK, .ref rT, .ref rS, .ref rU, .int lw, .int tx, .ref rL, .ref rX, .ref qR, .ref qB, .ref qP, .int qnb, .int qnp, .ref aR, .ref aB, .ref aP, .int nb, .int np, .ref aN, .ref rf, .int ho, .int br, .ref aK, .int ac, .long dw, .ref aE, .int sr, .int sf, .ref aA, .ref aH, .ref aI, .int hi])), (aN, .inl (cI, 97, .inl fN)), (rf, .inl (cI, 5, .inl u32_0)), (aK, .inl (cI, 3880, .inl fKp))]) hP hD hk1 hFc ht hB [0, 2] [(true, 0), (false, 1), (true, 1), (false, 3)] rfl (by decide +kernel) (by decide +kernel) rfl
      clear hP hD hS hPc hDc hFc hB hk1 hz1 hvm
      have hP := hP9
      have hD := hD9
      have hS := hS9
      clear hP9 hD9 hS9
      have zn32_1 : (1 : Int32).toInt = 1 := by decide
      obtain ⟨f32_0, f32_1, f32_2, f32_3⟩ : (0 ≤ v32.toInt) ∧ (v32.toInt ≤ 1) ∧ (v32.toInt = 0 → (1 : Int32).toInt = -1) ∧ ((v32.toInt = 0 ∧ (1 : Int32).toInt = -1 ∧ u32_0 = frf) ∨ (v32.toInt = 1 ∧ ¬ (1 : Int32).toInt = -1 ∧ zRf frf u32_0 (1 : Int32).toInt)) := hw
      have F32 := f32_3
      refine lv_if_eq (tgt := 40) hx hb dX11_threaten_35 (by decide) (fun c35 => by exfalso; have c35 : v32.toInt = 0 := z5 rfl (by decide) c35; omega) (fun c35 => ?_)
      have c35 : ¬ v32.toInt = 0 := z6 rfl (by decide) c35
      refine lv_iconst (v := (-1)) hx hb dX11_threaten_38 (by decide) ?_
      have zr0 : ((-1) : Int32).toInt = (-1) := by decide
      rw [hQ]
      exact W.iret (v := ((-1))) hx hb hr (fun t ht hW => ⟨⟨(-1), (ac, fN, u32_0, fKp), rfl, ⟨by (try dsimp only); omega, by (try dsimp only); omega, by (try dsimp only); exact fun kc kT q_fR q_fBr q_fPa hc hb h => by rcases F32 with z | z; (exfalso; have z1 := z.2.1; omega); have y21 : v21 = kT.1.2.1 p0.toInt.toNat := (zIxN (n := 6 + p0.toInt.toNat) e21 (by omega)).trans (h.1.2.1 _ (by omega)); have zy21 := congrArg Int32.toInt y21; have yb := hb.2.2.2.1.2.1 p0.toInt.toNat (by omega); exact zActRr (x := (1 : Int32).toInt) (by unfold sW_thr; exact ((if_neg (by omega)).trans (if_pos (by omega))).trans (by omega)) (by omega) h z.2.2, ci_fKp_zKp_np__F_h0_32_, ci_fN_zNw_np⟩, ⟨by rw [ht]; exact hP, hD⟩⟩, hS.F ht⟩) hS.2.2 dX11_threaten_39
  · have c6 : v3.toInt = 0 := z5 rfl (by decide) c6
    refine lv_iconst (v := 0) hx hb dX11_threaten_9 (by decide) ?_
    refine lv_goto (tgt := 32) hx hb dX11_threaten_10 (by decide) ?_
    obtain ⟨hPc, hDc, hFc⟩ := zc3 (wc := [(h0, .inr (11, [.int th, .ref tB, .int tsz, .int tat, .int wr, .int dp, .ref rC, .ref rV, .ref rD, .ref rK, .ref rT, .ref rS, .ref rU, .int lw, .int tx, .ref rL, .ref rX, .ref qR, .ref qB, .ref qP, .int qnb, .int qnp, .ref aR, .ref aB, .ref aP, .int nb, .int np, .ref aN, .ref rf, .int ho, .int br, .ref aK, .int ac, .long dw, .ref aE, .int sr, .int sf, .ref aA, .ref aH, .ref aI, .int hi])), (rf, .inl (cI, 5, .inl frf))]) hP hD hS hA [0, 2] (by decide +kernel) rfl
    refine va_calli (va_runV (As := [.int 0]) (rest := []) ⟨hx, hb, hml, hown, hts⟩ (g_X11_isRefused l dC dI cI cJ h0 0 th tB tsz tat wr dp rC rV rD rK rT rS rU lw tx rL rX qR qB qP qnb qnp aR aB aP nb np aN rf ho br aK ac dw aE sr sf aA aH aI hi frf H.size n_ac y_hi y_ho y_lw n_nb n_np (by decide) y_qnb y_qnp y_tat y_tsz y_wr) (cwV 1 hts (zgV qw1481 qw1483 qw66 qw108 qw1484) rfl rfl rfl hd_X11_isRefused ⟨by rw [hR]; exact Nat.le_of_ble_eq_true rfl, by rw [hR]; exact Nat.le_of_ble_eq_true rfl⟩) (zPV hPc hK hDc (va_recv (q := (RX11, TX11, 41)) hK hP (ci := 11) (q0 := 0) rfl rfl)) rfl rfl hl.1 rfl (lv_room (Nat.le_of_ble_eq_true rfl)) dX11_threaten_32 ⟨Nat.zero_le _, Nat.zero_le _⟩) hS (fun q _ h => hFc q h) hFc (fun v32 u32 t H locs ht hvm hw hB hz1 hk1 hS9 => ?_)
    obtain ⟨u32_0, rfl⟩ : ∃ z, z = u32 := ⟨_, rfl⟩
    obtain ⟨hP9, hD9⟩ := zj2 (wX := [(h0, .inr (11, [.int th, .ref tB, .int tsz, .int tat, .int wr, .int dp, .ref rC, .ref rV, .ref rD, .ref rK, .ref rT, .ref rS, .ref rU, .int lw, .int tx, .ref rL, .ref rX, .ref qR, .ref qB, .ref qP, .int qnb, .int qnp, .ref aR, .ref aB, .ref aP, .int nb, .int np, .ref aN, .ref rf, .int ho, .int br, .ref aK, .int ac, .long dw, .ref aE, .int sr, .int sf, .ref aA, .ref aH, .ref aI, .int hi])), (aN, .inl (cI, 97, .inl fN)), (rf, .inl (cI, 5, .inl u32_0)), (aK, .inl (cI, 3880, .inl fKp))]) hP hD hk1 hFc ht hB [0, 2] [(true, 0), (false, 1), (true, 1), (false, 3)] rfl (by decide +kernel) (by decide +kernel) rfl
    clear hP hD hS hPc hDc hFc hB hk1 hz1 hvm
    have hP := hP9
    have hD := hD9
    have hS := hS9
    clear hP9 hD9 hS9
    have zn32_0 : (0 : Int32).toInt = 0 := by decide
    obtain ⟨f32_0, f32_1, f32_2, f32_3⟩ : (0 ≤ v32.toInt) ∧ (v32.toInt ≤ 1) ∧ (v32.toInt = 0 → (0 : Int32).toInt = -1) ∧ ((v32.toInt = 0 ∧ (0 : Int32).toInt = -1 ∧ u32_0 = frf) ∨ (v32.toInt = 1 ∧ ¬ (0 : Int32).toInt = -1 ∧ zRf frf u32_0 (0 : Int32).toInt)) := hw
    have F32 := f32_3
    refine lv_if_eq (tgt := 40) hx hb dX11_threaten_35 (by decide) (fun c35 => by exfalso; have c35 : v32.toInt = 0 := z5 rfl (by decide) c35; omega) (fun c35 => ?_)
    have c35 : ¬ v32.toInt = 0 := z6 rfl (by decide) c35
    refine lv_iconst (v := (-1)) hx hb dX11_threaten_38 (by decide) ?_
    have zr0 : ((-1) : Int32).toInt = (-1) := by decide
    rw [hQ]
    exact W.iret (v := ((-1))) hx hb hr (fun t ht hW => ⟨⟨(-1), (ac, fN, u32_0, fKp), rfl, ⟨by (try dsimp only); omega, by (try dsimp only); omega, by (try dsimp only); exact fun kc kT q_fR q_fBr q_fPa hc hb h => by rcases F32 with z | z; (exfalso; have z1 := z.2.1; omega); exact zActRr (x := (0 : Int32).toInt) (by unfold sW_thr; exact (if_pos (by omega)).trans (by omega)) (by omega) h z.2.2, ci_fKp_zKp_np__F_h0_32_, ci_fN_zNw_np⟩, ⟨by rw [ht]; exact hP, hD⟩⟩, hS.F ht⟩) hS.2.2 dX11_threaten_39
set_option maxHeartbeats 4000000 in
set_option maxRecDepth 100000 in
theorem g_X11_isTold_l (l : Launch) (dC : Nat → ClassId) (dI : Nat → Nat → Nat) (cI cJ : ClassId) (h0 : Nat) (p1 : Int32) (th : Int32) (tB : Nat) (tsz : Int32) (tat : Int32) (wr : Int32) (dp : Int32) (rC : Nat) (rV : Nat) (rD : Nat) (rK : Nat) (rT : Nat) (rS : Nat) (rU : Nat) (lw : Int32) (tx : Int32) (rL : Nat) (rX : Nat) (qR : Nat) (qB : Nat) (qP : Nat) (qnb : Int32) (qnp : Int32) (aR : Nat) (aB : Nat) (aP : Nat) (nb : Int32) (np : Int32) (aN : Nat) (rf : Nat) (ho : Int32) (br : Int32) (aK : Nat) (ac : Int32) (dw : Int64) (aE : Nat) (sr : Int32) (sf : Int32) (aA : Nat) (aH : Nat) (aI : Nat) (hi : Int32) (fN : Nat → Int32) (frf : Nat → Int32) (fKp : Nat → Int32) (sz : Nat) (n_ac : 0 ≤ ac.toInt ∧ ac.toInt ≤ 40) (n_hi : 0 ≤ hi.toInt ∧ hi.toInt ≤ 1) (n_ho : (-1) ≤ ho.toInt ∧ ho.toInt ≤ 3) (n_lw : 0 ≤ lw.toInt ∧ lw.toInt ≤ 4) (n_nb : 0 ≤ nb.toInt ∧ nb.toInt ≤ 6) (n_np : 0 ≤ np.toInt ∧ np.toInt ≤ 5) (n_qnb : 0 ≤ qnb.toInt ∧ qnb.toInt ≤ 6) (n_qnp : 0 ≤ qnp.toInt ∧ qnp.toInt ≤ 5) (n_tat : 0 ≤ tat.toInt ∧ tat.toInt ≤ 260) (n_tsz : 0 ≤ tsz.toInt ∧ tsz.toInt ≤ 240) (n_wr : (-1) ≤ wr.toInt ∧ wr.toInt ≤ 260)  (ci_fKp_zKp_np__F_h0_32_ : zKp np ac fKp) (ci_fN_zNw_np : zNw np fN)  : Met l yX11_isTold (.code yX11_isTold cX11_isTold 4 (some .boolean) :: wA) ({ frames := 2, cells := 0, slots := 0, locals := 43 }) (zP (dC, dI) [(cI, .int), (cJ, .long)] [.ref h0, .int 11, .int p1, .int 2] sz [(h0, .inr (11, [.int th, .ref tB, .int tsz, .int tat, .int wr, .int dp, .ref rC, .ref rV, .ref rD, .ref rK, .ref rT, .ref rS, .ref rU, .int lw, .int tx, .ref rL, .ref rX, .ref qR, .ref qB, .ref qP, .int qnb, .int qnp, .ref aR, .ref aB, .ref aP, .int nb, .int np, .ref aN, .ref rf, .int ho, .int br, .ref aK, .int ac, .long dw, .ref aE, .int sr, .int sf, .ref aA, .ref aH, .ref aI, .int hi])), (aN, .inl (cI, 97, .inl fN)), (rf, .inl (cI, 5, .inl frf)), (aK, .inl (cI, 3880, .inl fKp))]) (va_Qi (fun (r : Int32) (u : Int32 × (Nat → Int32) × (Nat → Int32) × (Nat → Int32)) => (0 ≤ r.toInt) ∧ (r.toInt ≤ 1) ∧ (0 ≤ u.1.toInt) ∧ (u.1.toInt ≤ 40) ∧ (¬ r.toInt = 0 → (0 ≤ p1.toInt ∧ p1.toInt < nb.toInt)) ∧ (∀ (kc : zK3) (kT : zT) (q_fR : Nat → Int32) (q_fBr : Nat → Int32) (q_fPa : Nat → Int32), zCn q_fR q_fBr q_fPa nb.toInt np.toInt kc → zKo nb.toInt np.toInt kc kT → zTr nb.toInt np.toInt kT fN fKp ac frf → ((r.toInt = 0 ∧ ¬ sW_tld nb.toInt kT.1 kT.1.2.2.1.1 p1 2 = -1) ∨ (r.toInt = 1 ∧ sW_tld nb.toInt kT.1 kT.1.2.2.1.1 p1 2 = -1)) ∧ zTr nb.toInt np.toInt (sDo (sW_tld nb.toInt kT.1 kT.1.2.2.1.1 p1 2) kT (sN_ltr kT.1 p1)) u.2.1 u.2.2.2 u.1 u.2.2.1) ∧ (zKp np u.1 u.2.2.2) ∧ (zNw np u.2.1)) (fun (u : Int32 × (Nat → Int32) × (Nat → Int32) × (Nat → Int32)) (t : State) => va_P (dC, dI) vwCl [(h0, .inr (11, [.int th, .ref tB, .int tsz, .int tat, .int wr, .int dp, .ref rC, .ref rV, .ref rD, .ref rK, .ref rT, .ref rS, .ref rU, .int lw, .int tx, .ref rL, .ref rX, .ref qR, .ref qB, .ref qP, .int qnb, .int qnp, .ref aR, .ref aB, .ref aP, .int nb, .int np, .ref aN, .ref rf, .int ho, .int br, .ref aK, .int u.1, .long dw, .ref aE, .int sr, .int sf, .ref aA, .ref aH, .ref aI, .int hi])), (aN, .inl (cI, 97, .inl u.2.1)), (rf, .inl (cI, 5, .inl u.2.2.1)), (aK, .inl (cI, 3880, .inl u.2.2.2))] t.heap ∧ va_D (va_A [(h0, .inr (11, [.int th, .ref tB, .int tsz, .int tat, .int wr, .int dp, .ref rC, .ref rV, .ref rD, .ref rK, .ref rT, .ref rS, .ref rU, .int lw, .int tx, .ref rL, .ref rX, .ref qR, .ref qB, .ref qP, .int qnb, .int qnp, .ref aR, .ref aB, .ref aP, .int nb, .int np, .ref aN, .ref rf, .int ho, .int br, .ref aK, .int ac, .long dw, .ref aE, .int sr, .int sf, .ref aA, .ref aH, .ref aI, .int hi])), (aN, .inl (cI, 97, .inl fN)), (rf, .inl (cI, 5, .inl frf)), (aK, .inl (cI, 3880, .inl fKp))] sz) [(h0, .inr (11, [.int th, .ref tB, .int tsz, .int tat, .int wr, .int dp, .ref rC, .ref rV, .ref rD, .ref rK, .ref rT, .ref rS, .ref rU, .int lw, .int tx, .ref rL, .ref rX, .ref qR, .ref qB, .ref qP, .int qnb, .int qnp, .ref aR, .ref aB, .ref aP, .int nb, .int np, .ref aN, .ref rf, .int ho, .int br, .ref aK, .int u.1, .long dw, .ref aE, .int sr, .int sf, .ref aA, .ref aH, .ref aI, .int hi])), (aN, .inl (cI, 97, .inl u.2.1)), (rf, .inl (cI, 5, .inl u.2.2.1)), (aK, .inl (cI, 3880, .inl u.2.2.2))]) (va_A [(h0, .inr (11, [.int th, .ref tB, .int tsz, .int tat, .int wr, .int dp, .ref rC, .ref rV, .ref rD, .ref rK, .ref rT, .ref rS, .ref rU, .int lw, .int tx, .ref rL, .ref rX, .ref qR, .ref qB, .ref qP, .int qnb, .int qnp, .ref aR, .ref aB, .ref aP, .int nb, .int np, .ref aN, .ref rf, .int ho, .int br, .ref aK, .int ac, .long dw, .ref aE, .int sr, .int sf, .ref aA, .ref aH, .ref aI, .int hi])), (aN, .inl (cI, 97, .inl fN)), (rf, .inl (cI, 5, .inl frf)), (aK, .inl (cI, 3880, .inl fKp))] sz)) 0 0 (va_A [(h0, .inr (11, [.int th, .ref tB, .int tsz, .int tat, .int wr, .int dp, .ref rC, .ref rV, .ref rD, .ref rK, .ref rT, .ref rS, .ref rU, .int lw, .int tx, .ref rL, .ref rX, .ref qR, .ref qB, .ref qP, .int qnb, .int qnp, .ref aR, .ref aB, .ref aP, .int nb, .int np, .ref aN, .ref rf, .int ho, .int br, .ref aK, .int ac, .long dw, .ref aE, .int sr, .int sf, .ref aA, .ref aH, .ref aI, .int hi])), (aN, .inl (cI, 97, .inl fN)), (rf, .inl (cI, 5, .inl frf)), (aK, .inl (cI, 3880, .inl fKp))] sz) := by
  refine Met.ofW (cc := cX11_isTold) (maxL := 4) (ret := (some .boolean)) (by decide) rfl ?_
  intro p e s m args below meth c s₁ B hml hv
  have y_hi : zHid (0 ≤ hi.toInt ∧ hi.toInt ≤ 1) := n_hi
  have y_ho : zHid ((-1) ≤ ho.toInt ∧ ho.toInt ≤ 3) := n_ho
  have y_lw : zHid (0 ≤ lw.toInt ∧ lw.toInt ≤ 4) := n_lw
  have y_qnb : zHid (0 ≤ qnb.toInt ∧ qnb.toInt ≤ 6) := n_qnb
  have y_qnp : zHid (0 ≤ qnp.toInt ∧ qnp.toInt ≤ 5) := n_qnp
  have y_tat : zHid (0 ≤ tat.toInt ∧ tat.toInt ≤ 260) := n_tat
  have y_tsz : zHid (0 ≤ tsz.toInt ∧ tsz.toInt ≤ 240) := n_tsz
  have y_wr : zHid ((-1) ≤ wr.toInt ∧ wr.toInt ≤ 260) := n_wr
  clear n_hi n_ho n_lw n_qnb n_qnp n_tat n_tsz n_wr
  obtain ⟨hargs, hsz, hP, hK, hT⟩ := hv
  have hx := B.exec
  have hb := B.bytes
  have hr := B.returns
  have hts : ∀ w ∈ wA, w.before args s = true := fun w h => atoms_spec (ws := .code yX11_isTold cX11_isTold 4 (some .boolean) :: wA) B.pre w (List.mem_cons_of_mem _ h)
  have hown : s.vm.findClass RX11 = some m.cls := findClass_of_methodNamed B.named
  have hlocks := B.notSynchronized
  subst hsz
  have hD := hT.self (sz := s.heap.size)
  generalize hAe : va_A [(h0, .inr (11, [.int th, .ref tB, .int tsz, .int tat, .int wr, .int dp, .ref rC, .ref rV, .ref rD, .ref rK, .ref rT, .ref rS, .ref rU, .int lw, .int tx, .ref rL, .ref rX, .ref qR, .ref qB, .ref qP, .int qnb, .int qnp, .ref aR, .ref aB, .ref aP, .int nb, .int np, .ref aN, .ref rf, .int ho, .int br, .ref aK, .int ac, .long dw, .ref aE, .int sr, .int sf, .ref aA, .ref aH, .ref aI, .int hi])), (aN, .inl (cI, 97, .inl fN)), (rf, .inl (cI, 5, .inl frf)), (aK, .inl (cI, 3880, .inl fKp))] s.heap.size = A at hD ⊢
  have hA : ∀ q : Nat, s.heap.size ≤ q → A q := fun q h => by rw [← hAe]; exact Or.inr h
  have hl := lv_entry ([.ref h0, .int 11, .int p1, .int 2]) (n := 4) (Nat.le_of_ble_eq_true rfl)
  rw [show entryFrame m args 4 = entryFrame m ([.ref h0, .int 11, .int p1, .int 2] : List Value).toArray 4 by rw [hargs], lg_entry_eq]
  generalize (lg_sl ([.ref h0, .int 11, .int p1, .int 2]) ++ List.replicate (4 - (lg_sl ([.ref h0, .int 11, .int p1, .int 2])).length) Slot.unset).toArray = ls at hl ⊢
  have hl : lv_has ls 4 [(0, .ref h0), (1, .int 11), (2, .int p1), (3, .int 2)] := hl
  refine zstart (fun H hH => ?_)
  rw [← hH] at hP
  have hS : va_S A s.heap H [] := by rw [hH]; exact va_S.rf
  generalize ([] : List Loc) = locs at hS ⊢
  refine zgen (fun R Q hR hQ => ?_)
  refine lv_aload_n hx hb dX11_isTold_0 rfl (lv_at hl 0 rfl) ?_
  refine lv_aload_n hx hb dX11_isTold_1 rfl (lv_at hl 0 rfl) ?_
  refine lv_iload_n hx hb dX11_isTold_2 rfl (lv_at hl 2 rfl) ?_
  obtain ⟨hPc, hDc⟩ := zc2 (wc := [(h0, .inr (11, [.int th, .ref tB, .int tsz, .int tat, .int wr, .int dp, .ref rC, .ref rV, .ref rD, .ref rK, .ref rT, .ref rS, .ref rU, .int lw, .int tx, .ref rL, .ref rX, .ref qR, .ref qB, .ref qP, .int qnb, .int qnp, .ref aR, .ref aB, .ref aP, .int nb, .int np, .ref aN, .ref rf, .int ho, .int br, .ref aK, .int ac, .long dw, .ref aE, .int sr, .int sf, .ref aA, .ref aH, .ref aI, .int hi]))]) hP hD [0] (by decide +kernel) rfl
  have hFc := zfr hS hA
  refine va_calli (va_runV (As := [.int p1]) (rest := [.ref h0]) ⟨hx, hb, hml, hown, hts⟩ (g_X11_isBride l dC dI cI cJ h0 p1 th tB tsz tat wr dp rC rV rD rK rT rS rU lw tx rL rX qR qB qP qnb qnp aR aB aP nb np aN rf ho br aK ac dw aE sr sf aA aH aI hi H.size n_ac y_hi y_ho y_lw n_nb n_np y_qnb y_qnp y_tat y_tsz y_wr) (cwV 1 hts (zgV qw1402 qw1404 qw56 qw108 qw1405) rfl rfl rfl hd_X11_isBride ⟨by rw [hR]; exact Nat.le_of_ble_eq_true rfl, by rw [hR]; exact Nat.le_of_ble_eq_true rfl⟩) (zPV hPc hK hDc (va_recv (q := (RX11, TX11, 41)) hK hP (ci := 11) (q0 := 0) rfl rfl)) rfl rfl hl.1 rfl (lv_room (Nat.le_of_ble_eq_true rfl)) dX11_isTold_3 ⟨Nat.zero_le _, Nat.zero_le _⟩) hS (fun q _ h => hFc q h) hFc (fun v3 u3 t H locs ht hvm hw hB hz1 hk1 hS9 => ?_)
  replace hP := zkeep hP hk1
  replace hS := hS9
  clear hPc hDc hFc hk1 hz1 hvm hS9
  obtain ⟨f3_0, f3_1, f3_2, f3_3⟩ : (0 ≤ v3.toInt) ∧ (v3.toInt ≤ 1) ∧ (¬ v3.toInt = 0 → (0 ≤ p1.toInt ∧ p1.toInt < nb.toInt)) ∧ (v3.toInt = 0 → ¬ (0 ≤ p1.toInt ∧ p1.toInt < nb.toInt)) := hw
  refine lv_if_ne (tgt := 13) hx hb dX11_isTold_6 (by decide) (fun c6 => ?_) (fun c6 => ?_)
  · have c6 : ¬ v3.toInt = 0 := z6 rfl (by decide) c6
    refine lv_aload_n hx hb dX11_isTold_13 rfl (lv_at hl 0 rfl) ?_
    refine va_get (D := (dC, dI)) (ci := 11) (v := .ref aN) (C := RX11) (T := TX11) (N := 41) hx hb hts iX11 hown hK hP 0 rfl rfl 27 (by decide) (hts _ qw1154) (fun _ h9 => h9) rfl dX11_isTold_14 ?_
    refine lv_iload_n hx hb dX11_isTold_17 rfl (lv_at hl 1 rfl) ?_
    refine va_iald hx hb hK hP 1 0 rfl rfl (by unfold vp_in; decide) dX11_isTold_18 ?_
    refine lv_topi (fun v18 e18 => ?_)
    refine lv_iload_n hx hb dX11_isTold_19 rfl (lv_at hl 2 rfl) ?_
    have hPc : va_P (dC, dI) vwCl [] H := zP0
    have hDc : va_D (fun _ => True) [] := zD0
    have hFc := zfr hS hA
    refine va_calli (va_runS (As := [.int v18, .int p1]) (rest := [.ref h0]) ⟨hx, hb, hml, hown, hts⟩ (g_X11_has l dC dI cI cJ v18 p1 H.size) (cwS 2 hts (zgS qw1288 qw1289 qw108 qw1290) rfl rfl rfl hd_X11_has ⟨by rw [hR]; exact Nat.le_of_ble_eq_true rfl, by rw [hR]; exact Nat.le_of_ble_eq_true rfl⟩) (zPS hPc hK hDc) rfl rfl hl.1 rfl (lv_room (Nat.le_of_ble_eq_true rfl)) dX11_isTold_20 ⟨Nat.zero_le _, Nat.zero_le _⟩) hS (fun q _ h => hFc q h) hFc (fun v20 u20 t H locs ht hvm hw hB hz1 hk1 hS9 => ?_)
    replace hP := zkeep hP hk1
    replace hS := hS9
    clear hPc hDc hFc hk1 hz1 hvm hS9
    obtain ⟨f20_0, f20_1, f20_2, f20_3⟩ : (0 ≤ v20.toInt) ∧ (v20.toInt ≤ 1) ∧ (v20.toInt = ((v18 >>> (p1 &&& 31)) &&& 1).toInt) ∧ (v20.toInt = (cBt v18 p1).toInt) := hw
    have F20 := f20_3
    refine lv_if_eq (tgt := 30) hx hb dX11_isTold_23 (by decide) (fun c23 => ?_) (fun c23 => ?_)
    · have c23 : v20.toInt = 0 := z5 rfl (by decide) c23
      refine lv_aload_n hx hb dX11_isTold_30 rfl (lv_at hl 0 rfl) ?_
      refine va_get (D := (dC, dI)) (ci := 11) (v := .ref aN) (C := RX11) (T := TX11) (N := 41) hx hb hts iX11 hown hK hP 0 rfl rfl 27 (by decide) (hts _ qw1154) (fun _ h9 => h9) rfl dX11_isTold_31 ?_
      refine lv_bipush (v := 14) hx hb dX11_isTold_34 (by decide) ?_
      refine va_iald hx hb hK hP 1 0 rfl rfl (by unfold vp_in; decide) dX11_isTold_36 ?_
      refine lv_topi (fun v36 e36 => ?_)
      refine lv_iload_n hx hb dX11_isTold_37 rfl (lv_at hl 3 rfl) ?_
      refine lv_icmp_ge (tgt := 45) hx hb dX11_isTold_38 (by decide) (fun c38 => ?_) (fun c38 => ?_)
      · have c38 : 2 ≤ v36.toInt := z3 (by decide) rfl c38
        refine lv_iconst (v := (-1)) hx hb dX11_isTold_45 (by decide) ?_
        obtain ⟨hPc, hDc, hFc⟩ := zc3 (wc := [(h0, .inr (11, [.int th, .ref tB, .int tsz, .int tat, .int wr, .int dp, .ref rC, .ref rV, .ref rD, .ref rK, .ref rT, .ref rS, .ref rU, .int lw, .int tx, .ref rL, .ref rX, .ref qR, .ref qB, .ref qP, .int qnb, .int qnp, .ref aR, .ref aB, .ref aP, .int nb, .int np, .ref aN, .ref rf, .int ho, .int br, .ref aK, .int ac, .long dw, .ref aE, .int sr, .int sf, .ref aA, .ref aH, .ref aI, .int hi])), (rf, .inl (cI, 5, .inl frf))]) hP hD hS hA [0, 2] (by decide +kernel) rfl
        refine va_calli (va_runV (As := [.int (-1)]) (rest := []) ⟨hx, hb, hml, hown, hts⟩ (g_X11_isRefused l dC dI cI cJ h0 ((-1)) th tB tsz tat wr dp rC rV rD rK rT rS rU lw tx rL rX qR qB qP qnb qnp aR aB aP nb np aN rf ho br aK ac dw aE sr sf aA aH aI hi frf H.size n_ac y_hi y_ho y_lw n_nb n_np (by decide) y_qnb y_qnp y_tat y_tsz y_wr) (cwV 1 hts (zgV qw1481 qw1483 qw66 qw108 qw1484) rfl rfl rfl hd_X11_isRefused ⟨by rw [hR]; exact Nat.le_of_ble_eq_true rfl, by rw [hR]; exact Nat.le_of_ble_eq_true rfl⟩) (zPV hPc hK hDc (va_recv (q := (RX11, TX11, 41)) hK hP (ci := 11) (q0 := 0) rfl rfl)) rfl rfl hl.1 rfl (lv_room (Nat.le_of_ble_eq_true rfl)) dX11_isTold_46 ⟨Nat.zero_le _, Nat.zero_le _⟩) hS (fun q _ h => hFc q h) hFc (fun v46 u46 t H locs ht hvm hw hB hz1 hk1 hS9 => ?_)
        obtain ⟨u46_0, rfl⟩ : ∃ z, z = u46 := ⟨_, rfl⟩
        obtain ⟨hP9, hD9⟩ := zj2 (wX := [(h0, .inr (11, [.int th, .ref tB, .int tsz, .int tat, .int wr, .int dp, .ref rC, .ref rV, .ref rD, .ref rK, .ref rT, .ref rS, .ref rU, .int lw, .int tx, .ref rL, .ref rX, .ref qR, .ref qB, .ref qP, .int qnb, .int qnp, .ref aR, .ref aB, .ref aP, .int nb, .int np, .ref aN, .ref rf, .int ho, .int br, .ref aK, .int ac, .long dw, .ref aE, .int sr, .int sf, .ref aA, .ref aH, .ref aI, .int hi])), (aN, .inl (cI, 97, .inl fN)), (rf, .inl (cI, 5, .inl u46_0)), (aK, .inl (cI, 3880, .inl fKp))]) hP hD hk1 hFc ht hB [0, 2] [(true, 0), (false, 1), (true, 1), (false, 3)] rfl (by decide +kernel) (by decide +kernel) rfl
        clear hP hD hS hPc hDc hFc hB hk1 hz1 hvm
        have hP := hP9
        have hD := hD9
        have hS := hS9
        clear hP9 hD9 hS9
        have zn46_m1 : (-1 : Int32).toInt = -1 := by decide
        obtain ⟨f46_0, f46_1, f46_2, f46_3⟩ : (0 ≤ v46.toInt) ∧ (v46.toInt ≤ 1) ∧ (v46.toInt = 0 → (-1 : Int32).toInt = -1) ∧ ((v46.toInt = 0 ∧ (-1 : Int32).toInt = -1 ∧ u46_0 = frf) ∨ (v46.toInt = 1 ∧ ¬ (-1 : Int32).toInt = -1 ∧ zRf frf u46_0 (-1 : Int32).toInt)) := hw
        have F46 := f46_3
        refine lv_if_eq (tgt := 54) hx hb dX11_isTold_49 (by decide) (fun c49 => ?_) (fun c49 => ?_)
        · have c49 : v46.toInt = 0 := z5 rfl (by decide) c49
          refine lv_aload_n hx hb dX11_isTold_54 rfl (lv_at hl 0 rfl) ?_
          obtain ⟨hPc, hDc, hFc⟩ := zc3 (wc := [(h0, .inr (11, [.int th, .ref tB, .int tsz, .int tat, .int wr, .int dp, .ref rC, .ref rV, .ref rD, .ref rK, .ref rT, .ref rS, .ref rU, .int lw, .int tx, .ref rL, .ref rX, .ref qR, .ref qB, .ref qP, .int qnb, .int qnp, .ref aR, .ref aB, .ref aP, .int nb, .int np, .ref aN, .ref rf, .int ho, .int br, .ref aK, .int ac, .long dw, .ref aE, .int sr, .int sf, .ref aA, .ref aH, .ref aI, .int hi])), (aN, .inl (cI, 97, .inl fN)), (aK, .inl (cI, 3880, .inl fKp))]) hP hD hS hA [0, 1, 3] (by decide +kernel) rfl
          refine va_callv (va_runV (As := []) (rest := []) ⟨hx, hb, hml, hown, hts⟩ (g_X11_keep l dC dI cI cJ h0 th tB tsz tat wr dp rC rV rD rK rT rS rU lw tx rL rX qR qB qP qnb qnp aR aB aP nb np aN rf ho br aK ac dw aE sr sf aA aH aI hi fN fKp H.size n_ac y_hi y_ho y_lw n_nb n_np y_qnb y_qnp y_tat y_tsz y_wr ci_fKp_zKp_np__F_h0_32_ ci_fN_zNw_np) (cwV 0 hts (zgV qw1485 qw1487 qw67 qw108 qw1488) rfl rfl rfl hd_X11_keep ⟨by rw [hR]; exact Nat.le_of_ble_eq_true rfl, by rw [hR]; exact Nat.le_of_ble_eq_true rfl⟩) (zPV hPc hK hDc (va_recv (q := (RX11, TX11, 41)) hK hP (ci := 11) (q0 := 0) rfl rfl)) rfl rfl hl.1 rfl (lv_room (Nat.le_of_ble_eq_true rfl)) dX11_isTold_55 ⟨Nat.zero_le _, Nat.zero_le _⟩) hS (fun q _ h => hFc q h) hFc (fun u55 t H locs ht hvm hw hB hz1 hk1 hS9 => ?_)
          obtain ⟨u55_0, u55_1⟩ := u55
          obtain ⟨hP9, hD9⟩ := zj2 (wX := [(h0, .inr (11, [.int th, .ref tB, .int tsz, .int tat, .int wr, .int dp, .ref rC, .ref rV, .ref rD, .ref rK, .ref rT, .ref rS, .ref rU, .int lw, .int tx, .ref rL, .ref rX, .ref qR, .ref qB, .ref qP, .int qnb, .int qnp, .ref aR, .ref aB, .ref aP, .int nb, .int np, .ref aN, .ref rf, .int ho, .int br, .ref aK, .int u55_0, .long dw, .ref aE, .int sr, .int sf, .ref aA, .ref aH, .ref aI, .int hi])), (aN, .inl (cI, 97, .inl fN)), (rf, .inl (cI, 5, .inl u46_0)), (aK, .inl (cI, 3880, .inl u55_1))]) hP hD hk1 hFc ht hB [0, 1, 3] [(true, 0), (true, 1), (false, 2), (true, 2)] rfl (by decide +kernel) (by decide +kernel) rfl
          clear hP hD hS hPc hDc hFc hB hk1 hz1 hvm
          have hP := hP9
          have hD := hD9
          have hS := hS9
          clear hP9 hD9 hS9
          obtain ⟨f55_0, f55_1, f55_2, f55_3⟩ : (1 ≤ u55_0.toInt) ∧ (u55_0.toInt ≤ 40) ∧ (zKe fKp u55_1 fN ac u55_0) ∧ (zKp np u55_0 u55_1) := hw
          have F55 := f55_2
          refine lv_aload_n hx hb dX11_isTold_58 rfl (lv_at hl 0 rfl) ?_
          refine va_get (D := (dC, dI)) (ci := 11) (v := .ref aN) (C := RX11) (T := TX11) (N := 41) hx hb hts iX11 hown hK hP 0 rfl rfl 27 (by decide) (hts _ qw1154) (fun _ h9 => h9) rfl dX11_isTold_59 ?_
          refine lv_iload_n hx hb dX11_isTold_62 rfl (lv_at hl 1 rfl) ?_
          refine lv_dup2_11 hx hb dX11_isTold_63 rfl rfl ?_
          refine va_iald hx hb hK hP 1 0 rfl rfl (by unfold vp_in; decide) dX11_isTold_64 ?_
          refine lv_topi (fun v64 e64 => ?_)
          refine lv_iconst (v := 1) hx hb dX11_isTold_65 (by decide) ?_
          refine lv_iload_n hx hb dX11_isTold_66 rfl (lv_at hl 2 rfl) ?_
          refine lv_ishl hx hb dX11_isTold_67 ?_
          refine lv_topi (fun v67 e67 => ?_)
          have i67 : 1 ≤ v67.toInt ∧ v67.toInt ≤ 32 := zshl1 e67 (by omega) (by omega)
          refine lv_ior hx hb dX11_isTold_68 ?_
          refine lv_topi (fun v68 e68 => ?_)
          refine va_iast hx hb hK hP hD hS 1 0 rfl rfl (by unfold vp_in; decide) dX11_isTold_69 (fun H locs hP9 hD9 hS9 => ?_)
          clear hP hD hS
          obtain ⟨v69_f, e69⟩ : ∃ g : Nat → Int32, g = upd fN (11 : Int32).toNatClampNeg v68 := ⟨_, rfl⟩
          rw [← e69] at hP9 hD9
          obtain ⟨hP, hD⟩ := zst (wX := [(h0, .inr (11, [.int th, .ref tB, .int tsz, .int tat, .int wr, .int dp, .ref rC, .ref rV, .ref rD, .ref rK, .ref rT, .ref rS, .ref rU, .int lw, .int tx, .ref rL, .ref rX, .ref qR, .ref qB, .ref qP, .int qnb, .int qnp, .ref aR, .ref aB, .ref aP, .int nb, .int np, .ref aN, .ref rf, .int ho, .int br, .ref aK, .int u55_0, .long dw, .ref aE, .int sr, .int sf, .ref aA, .ref aH, .ref aI, .int hi])), (aN, .inl (cI, 97, .inl v69_f)), (rf, .inl (cI, 5, .inl u46_0)), (aK, .inl (cI, 3880, .inl u55_1))]) hP9 hD9 rfl
          have hS := hS9
          clear hP9 hD9 hS9
          have cq69_zNw_np : zNw np v69_f := (zNw_low ci_fN_zNw_np e69 (by decide) (by decide)).1
          refine lv_aload_n hx hb dX11_isTold_70 rfl (lv_at hl 0 rfl) ?_
          refine va_get (D := (dC, dI)) (ci := 11) (v := .ref aN) (C := RX11) (T := TX11) (N := 41) hx hb hts iX11 hown hK hP 0 rfl rfl 27 (by decide) (hts _ qw1154) (fun _ h9 => h9) rfl dX11_isTold_71 ?_
          refine lv_bipush (v := 14) hx hb dX11_isTold_74 (by decide) ?_
          refine lv_dup2_11 hx hb dX11_isTold_76 rfl rfl ?_
          refine va_iald hx hb hK hP 1 0 rfl rfl (by unfold vp_in; decide) dX11_isTold_77 ?_
          refine lv_topi (fun v77 e77 => ?_)
          refine lv_iload_n hx hb dX11_isTold_78 rfl (lv_at hl 3 rfl) ?_
          refine lv_isub hx hb dX11_isTold_79 ?_
          refine lv_topi (fun v79 e79 => ?_)
          refine va_iast hx hb hK hP hD hS 1 0 rfl rfl (by unfold vp_in; decide) dX11_isTold_80 (fun H locs hP9 hD9 hS9 => ?_)
          clear hP hD hS
          obtain ⟨v80_f, e80⟩ : ∃ g : Nat → Int32, g = upd v69_f (14 : Int32).toNatClampNeg v79 := ⟨_, rfl⟩
          rw [← e80] at hP9 hD9
          obtain ⟨hP, hD⟩ := zst (wX := [(h0, .inr (11, [.int th, .ref tB, .int tsz, .int tat, .int wr, .int dp, .ref rC, .ref rV, .ref rD, .ref rK, .ref rT, .ref rS, .ref rU, .int lw, .int tx, .ref rL, .ref rX, .ref qR, .ref qB, .ref qP, .int qnb, .int qnp, .ref aR, .ref aB, .ref aP, .int nb, .int np, .ref aN, .ref rf, .int ho, .int br, .ref aK, .int u55_0, .long dw, .ref aE, .int sr, .int sf, .ref aA, .ref aH, .ref aI, .int hi])), (aN, .inl (cI, 97, .inl v80_f)), (rf, .inl (cI, 5, .inl u46_0)), (aK, .inl (cI, 3880, .inl u55_1))]) hP9 hD9 rfl
          have hS := hS9
          clear hP9 hD9 hS9
          have cq80_zNw_np : zNw np v80_f := (zNw_low cq69_zNw_np e80 (by decide) (by decide)).1
          refine lv_iconst (v := 1) hx hb dX11_isTold_81 (by decide) ?_
          have zr0 : (1 : Int32).toInt = 1 := by decide
          rw [hQ]
          exact W.zret (v := 1) (ty := .boolean) hx hb hr rfl (fun t ht hW => ⟨⟨1, (u55_0, v80_f, u46_0, u55_1), rfl, ⟨by (try dsimp only); omega, by (try dsimp only); omega, by (try dsimp only); omega, by (try dsimp only); omega, by (try dsimp only); omega, by (try dsimp only); exact fun kc kT q_fR q_fBr q_fPa hc hb h => by rcases F46 with z | z; rotate_left; (exfalso; have z1 := z.2.1; omega); have zk2 : (2 : Int32).toInt = 2 := (by decide); have y18 : v18 = kT.1.2.2.1.1 := (zIxN (n := 11) e18 (by decide)).trans (zSr_lt h.1).symm; rw [y18] at F20; have y36 : v36 = kT.1.2.2.2.1.1 := (zIxN (n := 14) e36 (by decide)).trans (zSr_pu h.1).symm; have zy36 := congrArg Int32.toInt y36; have q : sW_tld nb.toInt kT.1 kT.1.2.2.1.1 p1 2 = -1 := (by unfold sW_tld; exact (if_neg (by omega)).trans ((if_neg (by omega)).trans (if_neg (by omega)))); exact ⟨Or.inr ⟨by decide, q⟩, (zActAr (r := 0) (v := 0) q h (zKr_k hb.2 h F55 (by omega)) (zSr_L h.1 e64 (e68.trans (by rw [e67])) e69 e77 e79 e80 hb.2.1.2 hb.2.2.1.2) z.2.2 rfl).2⟩, f55_3, cq80_zNw_np⟩, ⟨by rw [ht]; exact hP, hD⟩⟩, hS.F ht⟩) hS.2.2 dX11_isTold_82
        · have c49 : ¬ v46.toInt = 0 := z6 rfl (by decide) c49
          refine lv_iconst (v := 0) hx hb dX11_isTold_52 (by decide) ?_
          have zr0 : (0 : Int32).toInt = 0 := by decide
          rw [hQ]
          exact W.zret (v := 0) (ty := .boolean) hx hb hr rfl (fun t ht hW => ⟨⟨0, (ac, fN, u46_0, fKp), rfl, ⟨by (try dsimp only); omega, by (try dsimp only); omega, by (try dsimp only); omega, by (try dsimp only); omega, by (try dsimp only); omega, by (try dsimp only); exact fun kc kT q_fR q_fBr q_fPa hc hb h => by exfalso; rcases F46 with z | z; (have z1 := z.1; omega); (have z1 := z.2.1; omega), ci_fKp_zKp_np__F_h0_32_, ci_fN_zNw_np⟩, ⟨by rw [ht]; exact hP, hD⟩⟩, hS.F ht⟩) hS.2.2 dX11_isTold_53
      · have c38 : v36.toInt < 2 := z4 (by decide) rfl c38
        refine lv_iconst (v := 2) hx hb dX11_isTold_41 (by decide) ?_
        refine lv_goto (tgt := 46) hx hb dX11_isTold_42 (by decide) ?_
        obtain ⟨hPc, hDc, hFc⟩ := zc3 (wc := [(h0, .inr (11, [.int th, .ref tB, .int tsz, .int tat, .int wr, .int dp, .ref rC, .ref rV, .ref rD, .ref rK, .ref rT, .ref rS, .ref rU, .int lw, .int tx, .ref rL, .ref rX, .ref qR, .ref qB, .ref qP, .int qnb, .int qnp, .ref aR, .ref aB, .ref aP, .int nb, .int np, .ref aN, .ref rf, .int ho, .int br, .ref aK, .int ac, .long dw, .ref aE, .int sr, .int sf, .ref aA, .ref aH, .ref aI, .int hi])), (rf, .inl (cI, 5, .inl frf))]) hP hD hS hA [0, 2] (by decide +kernel) rfl
        refine va_calli (va_runV (As := [.int 2]) (rest := []) ⟨hx, hb, hml, hown, hts⟩ (g_X11_isRefused l dC dI cI cJ h0 2 th tB tsz tat wr dp rC rV rD rK rT rS rU lw tx rL rX qR qB qP qnb qnp aR aB aP nb np aN rf ho br aK ac dw aE sr sf aA aH aI hi frf H.size n_ac y_hi y_ho y_lw n_nb n_np (by decide) y_qnb y_qnp y_tat y_tsz y_wr) (cwV 1 hts (zgV qw1481 qw1483 qw66 qw108 qw1484) rfl rfl rfl hd_X11_isRefused ⟨by rw [hR]; exact Nat.le_of_ble_eq_true rfl, by rw [hR]; exact Nat.le_of_ble_eq_true rfl⟩) (zPV hPc hK hDc (va_recv (q := (RX11, TX11, 41)) hK hP (ci := 11) (q0 := 0) rfl rfl)) rfl rfl hl.1 rfl (lv_room (Nat.le_of_ble_eq_true rfl)) dX11_isTold_46 ⟨Nat.zero_le _, Nat.zero_le _⟩) hS (fun q _ h => hFc q h) hFc (fun v46 u46 t H locs ht hvm hw hB hz1 hk1 hS9 => ?_)
        obtain ⟨u46_0, rfl⟩ : ∃ z, z = u46 := ⟨_, rfl⟩
        obtain ⟨hP9, hD9⟩ := zj2 (wX := [(h0, .inr (11, [.int th, .ref tB, .int tsz, .int tat, .int wr, .int dp, .ref rC, .ref rV, .ref rD, .ref rK, .ref rT, .ref rS, .ref rU, .int lw, .int tx, .ref rL, .ref rX, .ref qR, .ref qB, .ref qP, .int qnb, .int qnp, .ref aR, .ref aB, .ref aP, .int nb, .int np, .ref aN, .ref rf, .int ho, .int br, .ref aK, .int ac, .long dw, .ref aE, .int sr, .int sf, .ref aA, .ref aH, .ref aI, .int hi])), (aN, .inl (cI, 97, .inl fN)), (rf, .inl (cI, 5, .inl u46_0)), (aK, .inl (cI, 3880, .inl fKp))]) hP hD hk1 hFc ht hB [0, 2] [(true, 0), (false, 1), (true, 1), (false, 3)] rfl (by decide +kernel) (by decide +kernel) rfl
        clear hP hD hS hPc hDc hFc hB hk1 hz1 hvm
        have hP := hP9
        have hD := hD9
        have hS := hS9
        clear hP9 hD9 hS9
        have zn46_2 : (2 : Int32).toInt = 2 := by decide
        obtain ⟨f46_0, f46_1, f46_2, f46_3⟩ : (0 ≤ v46.toInt) ∧ (v46.toInt ≤ 1) ∧ (v46.toInt = 0 → (2 : Int32).toInt = -1) ∧ ((v46.toInt = 0 ∧ (2 : Int32).toInt = -1 ∧ u46_0 = frf) ∨ (v46.toInt = 1 ∧ ¬ (2 : Int32).toInt = -1 ∧ zRf frf u46_0 (2 : Int32).toInt)) := hw
        have F46 := f46_3
        refine lv_if_eq (tgt := 54) hx hb dX11_isTold_49 (by decide) (fun c49 => by exfalso; have c49 : v46.toInt = 0 := z5 rfl (by decide) c49; omega) (fun c49 => ?_)
        have c49 : ¬ v46.toInt = 0 := z6 rfl (by decide) c49
        refine lv_iconst (v := 0) hx hb dX11_isTold_52 (by decide) ?_
        have zr0 : (0 : Int32).toInt = 0 := by decide
        rw [hQ]
        exact W.zret (v := 0) (ty := .boolean) hx hb hr rfl (fun t ht hW => ⟨⟨0, (ac, fN, u46_0, fKp), rfl, ⟨by (try dsimp only); omega, by (try dsimp only); omega, by (try dsimp only); omega, by (try dsimp only); omega, by (try dsimp only); omega, by (try dsimp only); exact fun kc kT q_fR q_fBr q_fPa hc hb h => by rcases F46 with z | z; (exfalso; have z1 := z.2.1; omega); have zk2 : (2 : Int32).toInt = 2 := (by decide); have y18 : v18 = kT.1.2.2.1.1 := (zIxN (n := 11) e18 (by decide)).trans (zSr_lt h.1).symm; rw [y18] at F20; have y36 : v36 = kT.1.2.2.2.1.1 := (zIxN (n := 14) e36 (by decide)).trans (zSr_pu h.1).symm; have zy36 := congrArg Int32.toInt y36; have q : sW_tld nb.toInt kT.1 kT.1.2.2.1.1 p1 2 = (2 : Int32).toInt := (by unfold sW_tld; exact ((if_neg (by omega)).trans ((if_neg (by omega)).trans (if_pos (by omega)))).trans (by omega)); exact ⟨Or.inl ⟨by decide, by omega⟩, (zActRr (v := 0) q (by omega) h z.2.2).2⟩, ci_fKp_zKp_np__F_h0_32_, ci_fN_zNw_np⟩, ⟨by rw [ht]; exact hP, hD⟩⟩, hS.F ht⟩) hS.2.2 dX11_isTold_53
    · have c23 : ¬ v20.toInt = 0 := z6 rfl (by decide) c23
      refine lv_iconst (v := 1) hx hb dX11_isTold_26 (by decide) ?_
      refine lv_goto (tgt := 46) hx hb dX11_isTold_27 (by decide) ?_
      obtain ⟨hPc, hDc, hFc⟩ := zc3 (wc := [(h0, .inr (11, [.int th, .ref tB, .int tsz, .int tat, .int wr, .int dp, .ref rC, .ref rV, .ref rD, .ref rK, .ref rT, .ref rS, .ref rU, .int lw, .int tx, .ref rL, .ref rX, .ref qR, .ref qB, .ref qP, .int qnb, .int qnp, .ref aR, .ref aB, .ref aP, .int nb, .int np, .ref aN, .ref rf, .int ho, .int br, .ref aK, .int ac, .long dw, .ref aE, .int sr, .int sf, .ref aA, .ref aH, .ref aI, .int hi])), (rf, .inl (cI, 5, .inl frf))]) hP hD hS hA [0, 2] (by decide +kernel) rfl
      refine va_calli (va_runV (As := [.int 1]) (rest := []) ⟨hx, hb, hml, hown, hts⟩ (g_X11_isRefused l dC dI cI cJ h0 1 th tB tsz tat wr dp rC rV rD rK rT rS rU lw tx rL rX qR qB qP qnb qnp aR aB aP nb np aN rf ho br aK ac dw aE sr sf aA aH aI hi frf H.size n_ac y_hi y_ho y_lw n_nb n_np (by decide) y_qnb y_qnp y_tat y_tsz y_wr) (cwV 1 hts (zgV qw1481 qw1483 qw66 qw108 qw1484) rfl rfl rfl hd_X11_isRefused ⟨by rw [hR]; exact Nat.le_of_ble_eq_true rfl, by rw [hR]; exact Nat.le_of_ble_eq_true rfl⟩) (zPV hPc hK hDc (va_recv (q := (RX11, TX11, 41)) hK hP (ci := 11) (q0 := 0) rfl rfl)) rfl rfl hl.1 rfl (lv_room (Nat.le_of_ble_eq_true rfl)) dX11_isTold_46 ⟨Nat.zero_le _, Nat.zero_le _⟩) hS (fun q _ h => hFc q h) hFc (fun v46 u46 t H locs ht hvm hw hB hz1 hk1 hS9 => ?_)
      obtain ⟨u46_0, rfl⟩ : ∃ z, z = u46 := ⟨_, rfl⟩
      obtain ⟨hP9, hD9⟩ := zj2 (wX := [(h0, .inr (11, [.int th, .ref tB, .int tsz, .int tat, .int wr, .int dp, .ref rC, .ref rV, .ref rD, .ref rK, .ref rT, .ref rS, .ref rU, .int lw, .int tx, .ref rL, .ref rX, .ref qR, .ref qB, .ref qP, .int qnb, .int qnp, .ref aR, .ref aB, .ref aP, .int nb, .int np, .ref aN, .ref rf, .int ho, .int br, .ref aK, .int ac, .long dw, .ref aE, .int sr, .int sf, .ref aA, .ref aH, .ref aI, .int hi])), (aN, .inl (cI, 97, .inl fN)), (rf, .inl (cI, 5, .inl u46_0)), (aK, .inl (cI, 3880, .inl fKp))]) hP hD hk1 hFc ht hB [0, 2] [(true, 0), (false, 1), (true, 1), (false, 3)] rfl (by decide +kernel) (by decide +kernel) rfl
      clear hP hD hS hPc hDc hFc hB hk1 hz1 hvm
      have hP := hP9
      have hD := hD9
      have hS := hS9
      clear hP9 hD9 hS9
      have zn46_1 : (1 : Int32).toInt = 1 := by decide
      obtain ⟨f46_0, f46_1, f46_2, f46_3⟩ : (0 ≤ v46.toInt) ∧ (v46.toInt ≤ 1) ∧ (v46.toInt = 0 → (1 : Int32).toInt = -1) ∧ ((v46.toInt = 0 ∧ (1 : Int32).toInt = -1 ∧ u46_0 = frf) ∨ (v46.toInt = 1 ∧ ¬ (1 : Int32).toInt = -1 ∧ zRf frf u46_0 (1 : Int32).toInt)) := hw
      have F46 := f46_3
      refine lv_if_eq (tgt := 54) hx hb dX11_isTold_49 (by decide) (fun c49 => by exfalso; have c49 : v46.toInt = 0 := z5 rfl (by decide) c49; omega) (fun c49 => ?_)
      have c49 : ¬ v46.toInt = 0 := z6 rfl (by decide) c49
      refine lv_iconst (v := 0) hx hb dX11_isTold_52 (by decide) ?_
      have zr0 : (0 : Int32).toInt = 0 := by decide
      rw [hQ]
      exact W.zret (v := 0) (ty := .boolean) hx hb hr rfl (fun t ht hW => ⟨⟨0, (ac, fN, u46_0, fKp), rfl, ⟨by (try dsimp only); omega, by (try dsimp only); omega, by (try dsimp only); omega, by (try dsimp only); omega, by (try dsimp only); omega, by (try dsimp only); exact fun kc kT q_fR q_fBr q_fPa hc hb h => by rcases F46 with z | z; (exfalso; have z1 := z.2.1; omega); have zk2 : (2 : Int32).toInt = 2 := (by decide); have y18 : v18 = kT.1.2.2.1.1 := (zIxN (n := 11) e18 (by decide)).trans (zSr_lt h.1).symm; rw [y18] at F20; have q : sW_tld nb.toInt kT.1 kT.1.2.2.1.1 p1 2 = (1 : Int32).toInt := (by unfold sW_tld; exact ((if_neg (by omega)).trans (if_pos (by omega))).trans (by omega)); exact ⟨Or.inl ⟨by decide, by omega⟩, (zActRr (v := 0) q (by omega) h z.2.2).2⟩, ci_fKp_zKp_np__F_h0_32_, ci_fN_zNw_np⟩, ⟨by rw [ht]; exact hP, hD⟩⟩, hS.F ht⟩) hS.2.2 dX11_isTold_53
  · have c6 : v3.toInt = 0 := z5 rfl (by decide) c6
    refine lv_iconst (v := 0) hx hb dX11_isTold_9 (by decide) ?_
    refine lv_goto (tgt := 46) hx hb dX11_isTold_10 (by decide) ?_
    obtain ⟨hPc, hDc, hFc⟩ := zc3 (wc := [(h0, .inr (11, [.int th, .ref tB, .int tsz, .int tat, .int wr, .int dp, .ref rC, .ref rV, .ref rD, .ref rK, .ref rT, .ref rS, .ref rU, .int lw, .int tx, .ref rL, .ref rX, .ref qR, .ref qB, .ref qP, .int qnb, .int qnp, .ref aR, .ref aB, .ref aP, .int nb, .int np, .ref aN, .ref rf, .int ho, .int br, .ref aK, .int ac, .long dw, .ref aE, .int sr, .int sf, .ref aA, .ref aH, .ref aI, .int hi])), (rf, .inl (cI, 5, .inl frf))]) hP hD hS hA [0, 2] (by decide +kernel) rfl
    refine va_calli (va_runV (As := [.int 0]) (rest := []) ⟨hx, hb, hml, hown, hts⟩ (g_X11_isRefused l dC dI cI cJ h0 0 th tB tsz tat wr dp rC rV rD rK rT rS rU lw tx rL rX qR qB qP qnb qnp aR aB aP nb np aN rf ho br aK ac dw aE sr sf aA aH aI hi frf H.size n_ac y_hi y_ho y_lw n_nb n_np (by decide) y_qnb y_qnp y_tat y_tsz y_wr) (cwV 1 hts (zgV qw1481 qw1483 qw66 qw108 qw1484) rfl rfl rfl hd_X11_isRefused ⟨by rw [hR]; exact Nat.le_of_ble_eq_true rfl, by rw [hR]; exact Nat.le_of_ble_eq_true rfl⟩) (zPV hPc hK hDc (va_recv (q := (RX11, TX11, 41)) hK hP (ci := 11) (q0 := 0) rfl rfl)) rfl rfl hl.1 rfl (lv_room (Nat.le_of_ble_eq_true rfl)) dX11_isTold_46 ⟨Nat.zero_le _, Nat.zero_le _⟩) hS (fun q _ h => hFc q h) hFc (fun v46 u46 t H locs ht hvm hw hB hz1 hk1 hS9 => ?_)
    obtain ⟨u46_0, rfl⟩ : ∃ z, z = u46 := ⟨_, rfl⟩
    obtain ⟨hP9, hD9⟩ := zj2 (wX := [(h0, .inr (11, [.int th, .ref tB, .int tsz, .int tat, .int wr, .int dp, .ref rC, .ref rV, .ref rD, .ref rK, .ref rT, .ref rS, .ref rU, .int lw, .int tx, .ref rL, .ref rX, .ref qR, .ref qB, .ref qP, .int qnb, .int qnp, .ref aR, .ref aB, .ref aP, .int nb, .int np, .ref aN, .ref rf, .int ho, .int br, .ref aK, .int ac, .long dw, .ref aE, .int sr, .int sf, .ref aA, .ref aH, .ref aI, .int hi])), (aN, .inl (cI, 97, .inl fN)), (rf, .inl (cI, 5, .inl u46_0)), (aK, .inl (cI, 3880, .inl fKp))]) hP hD hk1 hFc ht hB [0, 2] [(true, 0), (false, 1), (true, 1), (false, 3)] rfl (by decide +kernel) (by decide +kernel) rfl
    clear hP hD hS hPc hDc hFc hB hk1 hz1 hvm
    have hP := hP9
    have hD := hD9
    have hS := hS9
    clear hP9 hD9 hS9
    have zn46_0 : (0 : Int32).toInt = 0 := by decide
    obtain ⟨f46_0, f46_1, f46_2, f46_3⟩ : (0 ≤ v46.toInt) ∧ (v46.toInt ≤ 1) ∧ (v46.toInt = 0 → (0 : Int32).toInt = -1) ∧ ((v46.toInt = 0 ∧ (0 : Int32).toInt = -1 ∧ u46_0 = frf) ∨ (v46.toInt = 1 ∧ ¬ (0 : Int32).toInt = -1 ∧ zRf frf u46_0 (0 : Int32).toInt)) := hw
    have F46 := f46_3
    refine lv_if_eq (tgt := 54) hx hb dX11_isTold_49 (by decide) (fun c49 => by exfalso; have c49 : v46.toInt = 0 := z5 rfl (by decide) c49; omega) (fun c49 => ?_)
    have c49 : ¬ v46.toInt = 0 := z6 rfl (by decide) c49
    refine lv_iconst (v := 0) hx hb dX11_isTold_52 (by decide) ?_
    have zr0 : (0 : Int32).toInt = 0 := by decide
    rw [hQ]
    exact W.zret (v := 0) (ty := .boolean) hx hb hr rfl (fun t ht hW => ⟨⟨0, (ac, fN, u46_0, fKp), rfl, ⟨by (try dsimp only); omega, by (try dsimp only); omega, by (try dsimp only); omega, by (try dsimp only); omega, by (try dsimp only); omega, by (try dsimp only); exact fun kc kT q_fR q_fBr q_fPa hc hb h => by rcases F46 with z | z; (exfalso; have z1 := z.2.1; omega); have zk2 : (2 : Int32).toInt = 2 := (by decide); have q : sW_tld nb.toInt kT.1 kT.1.2.2.1.1 p1 2 = (0 : Int32).toInt := (by unfold sW_tld; exact (if_pos (by omega)).trans (by omega)); exact ⟨Or.inl ⟨by decide, by omega⟩, (zActRr (v := 0) q (by omega) h z.2.2).2⟩, ci_fKp_zKp_np__F_h0_32_, ci_fN_zNw_np⟩, ⟨by rw [ht]; exact hP, hD⟩⟩, hS.F ht⟩) hS.2.2 dX11_isTold_53
set_option maxHeartbeats 4000000 in
set_option maxRecDepth 100000 in
theorem g_X11_isTold_s (l : Launch) (dC : Nat → ClassId) (dI : Nat → Nat → Nat) (cI cJ : ClassId) (h0 : Nat) (p1 : Int32) (th : Int32) (tB : Nat) (tsz : Int32) (tat : Int32) (wr : Int32) (dp : Int32) (rC : Nat) (rV : Nat) (rD : Nat) (rK : Nat) (rT : Nat) (rS : Nat) (rU : Nat) (lw : Int32) (tx : Int32) (rL : Nat) (rX : Nat) (qR : Nat) (qB : Nat) (qP : Nat) (qnb : Int32) (qnp : Int32) (aR : Nat) (aB : Nat) (aP : Nat) (nb : Int32) (np : Int32) (aN : Nat) (rf : Nat) (ho : Int32) (br : Int32) (aK : Nat) (ac : Int32) (dw : Int64) (aE : Nat) (sr : Int32) (sf : Int32) (aA : Nat) (aH : Nat) (aI : Nat) (hi : Int32) (fN : Nat → Int32) (frf : Nat → Int32) (fKp : Nat → Int32) (sz : Nat) (n_ac : 0 ≤ ac.toInt ∧ ac.toInt ≤ 40) (n_hi : 0 ≤ hi.toInt ∧ hi.toInt ≤ 1) (n_ho : (-1) ≤ ho.toInt ∧ ho.toInt ≤ 3) (n_lw : 0 ≤ lw.toInt ∧ lw.toInt ≤ 4) (n_nb : 0 ≤ nb.toInt ∧ nb.toInt ≤ 6) (n_np : 0 ≤ np.toInt ∧ np.toInt ≤ 5) (n_qnb : 0 ≤ qnb.toInt ∧ qnb.toInt ≤ 6) (n_qnp : 0 ≤ qnp.toInt ∧ qnp.toInt ≤ 5) (n_tat : 0 ≤ tat.toInt ∧ tat.toInt ≤ 260) (n_tsz : 0 ≤ tsz.toInt ∧ tsz.toInt ≤ 240) (n_wr : (-1) ≤ wr.toInt ∧ wr.toInt ≤ 260)  (ci_fKp_zKp_np__F_h0_32_ : zKp np ac fKp) (ci_fN_zNw_np : zNw np fN)  : Met l yX11_isTold (.code yX11_isTold cX11_isTold 4 (some .boolean) :: wA) ({ frames := 2, cells := 0, slots := 0, locals := 43 }) (zP (dC, dI) [(cI, .int), (cJ, .long)] [.ref h0, .int 12, .int p1, .int 1] sz [(h0, .inr (11, [.int th, .ref tB, .int tsz, .int tat, .int wr, .int dp, .ref rC, .ref rV, .ref rD, .ref rK, .ref rT, .ref rS, .ref rU, .int lw, .int tx, .ref rL, .ref rX, .ref qR, .ref qB, .ref qP, .int qnb, .int qnp, .ref aR, .ref aB, .ref aP, .int nb, .int np, .ref aN, .ref rf, .int ho, .int br, .ref aK, .int ac, .long dw, .ref aE, .int sr, .int sf, .ref aA, .ref aH, .ref aI, .int hi])), (aN, .inl (cI, 97, .inl fN)), (rf, .inl (cI, 5, .inl frf)), (aK, .inl (cI, 3880, .inl fKp))]) (va_Qi (fun (r : Int32) (u : Int32 × (Nat → Int32) × (Nat → Int32) × (Nat → Int32)) => (0 ≤ r.toInt) ∧ (r.toInt ≤ 1) ∧ (0 ≤ u.1.toInt) ∧ (u.1.toInt ≤ 40) ∧ (¬ r.toInt = 0 → (0 ≤ p1.toInt ∧ p1.toInt < nb.toInt)) ∧ (∀ (kc : zK3) (kT : zT) (q_fR : Nat → Int32) (q_fBr : Nat → Int32) (q_fPa : Nat → Int32), zCn q_fR q_fBr q_fPa nb.toInt np.toInt kc → zKo nb.toInt np.toInt kc kT → zTr nb.toInt np.toInt kT fN fKp ac frf → ((r.toInt = 0 ∧ ¬ sW_tld nb.toInt kT.1 kT.1.2.2.1.2.1 p1 1 = -1) ∨ (r.toInt = 1 ∧ sW_tld nb.toInt kT.1 kT.1.2.2.1.2.1 p1 1 = -1)) ∧ zTr nb.toInt np.toInt (sDo (sW_tld nb.toInt kT.1 kT.1.2.2.1.2.1 p1 1) kT (sN_sho kT.1 p1)) u.2.1 u.2.2.2 u.1 u.2.2.1) ∧ (zKp np u.1 u.2.2.2) ∧ (zNw np u.2.1)) (fun (u : Int32 × (Nat → Int32) × (Nat → Int32) × (Nat → Int32)) (t : State) => va_P (dC, dI) vwCl [(h0, .inr (11, [.int th, .ref tB, .int tsz, .int tat, .int wr, .int dp, .ref rC, .ref rV, .ref rD, .ref rK, .ref rT, .ref rS, .ref rU, .int lw, .int tx, .ref rL, .ref rX, .ref qR, .ref qB, .ref qP, .int qnb, .int qnp, .ref aR, .ref aB, .ref aP, .int nb, .int np, .ref aN, .ref rf, .int ho, .int br, .ref aK, .int u.1, .long dw, .ref aE, .int sr, .int sf, .ref aA, .ref aH, .ref aI, .int hi])), (aN, .inl (cI, 97, .inl u.2.1)), (rf, .inl (cI, 5, .inl u.2.2.1)), (aK, .inl (cI, 3880, .inl u.2.2.2))] t.heap ∧ va_D (va_A [(h0, .inr (11, [.int th, .ref tB, .int tsz, .int tat, .int wr, .int dp, .ref rC, .ref rV, .ref rD, .ref rK, .ref rT, .ref rS, .ref rU, .int lw, .int tx, .ref rL, .ref rX, .ref qR, .ref qB, .ref qP, .int qnb, .int qnp, .ref aR, .ref aB, .ref aP, .int nb, .int np, .ref aN, .ref rf, .int ho, .int br, .ref aK, .int ac, .long dw, .ref aE, .int sr, .int sf, .ref aA, .ref aH, .ref aI, .int hi])), (aN, .inl (cI, 97, .inl fN)), (rf, .inl (cI, 5, .inl frf)), (aK, .inl (cI, 3880, .inl fKp))] sz) [(h0, .inr (11, [.int th, .ref tB, .int tsz, .int tat, .int wr, .int dp, .ref rC, .ref rV, .ref rD, .ref rK, .ref rT, .ref rS, .ref rU, .int lw, .int tx, .ref rL, .ref rX, .ref qR, .ref qB, .ref qP, .int qnb, .int qnp, .ref aR, .ref aB, .ref aP, .int nb, .int np, .ref aN, .ref rf, .int ho, .int br, .ref aK, .int u.1, .long dw, .ref aE, .int sr, .int sf, .ref aA, .ref aH, .ref aI, .int hi])), (aN, .inl (cI, 97, .inl u.2.1)), (rf, .inl (cI, 5, .inl u.2.2.1)), (aK, .inl (cI, 3880, .inl u.2.2.2))]) (va_A [(h0, .inr (11, [.int th, .ref tB, .int tsz, .int tat, .int wr, .int dp, .ref rC, .ref rV, .ref rD, .ref rK, .ref rT, .ref rS, .ref rU, .int lw, .int tx, .ref rL, .ref rX, .ref qR, .ref qB, .ref qP, .int qnb, .int qnp, .ref aR, .ref aB, .ref aP, .int nb, .int np, .ref aN, .ref rf, .int ho, .int br, .ref aK, .int ac, .long dw, .ref aE, .int sr, .int sf, .ref aA, .ref aH, .ref aI, .int hi])), (aN, .inl (cI, 97, .inl fN)), (rf, .inl (cI, 5, .inl frf)), (aK, .inl (cI, 3880, .inl fKp))] sz)) 0 0 (va_A [(h0, .inr (11, [.int th, .ref tB, .int tsz, .int tat, .int wr, .int dp, .ref rC, .ref rV, .ref rD, .ref rK, .ref rT, .ref rS, .ref rU, .int lw, .int tx, .ref rL, .ref rX, .ref qR, .ref qB, .ref qP, .int qnb, .int qnp, .ref aR, .ref aB, .ref aP, .int nb, .int np, .ref aN, .ref rf, .int ho, .int br, .ref aK, .int ac, .long dw, .ref aE, .int sr, .int sf, .ref aA, .ref aH, .ref aI, .int hi])), (aN, .inl (cI, 97, .inl fN)), (rf, .inl (cI, 5, .inl frf)), (aK, .inl (cI, 3880, .inl fKp))] sz) := by
  refine Met.ofW (cc := cX11_isTold) (maxL := 4) (ret := (some .boolean)) (by decide) rfl ?_
  intro p e s m args below meth c s₁ B hml hv
  have y_hi : zHid (0 ≤ hi.toInt ∧ hi.toInt ≤ 1) := n_hi
  have y_ho : zHid ((-1) ≤ ho.toInt ∧ ho.toInt ≤ 3) := n_ho
  have y_lw : zHid (0 ≤ lw.toInt ∧ lw.toInt ≤ 4) := n_lw
  have y_qnb : zHid (0 ≤ qnb.toInt ∧ qnb.toInt ≤ 6) := n_qnb
  have y_qnp : zHid (0 ≤ qnp.toInt ∧ qnp.toInt ≤ 5) := n_qnp
  have y_tat : zHid (0 ≤ tat.toInt ∧ tat.toInt ≤ 260) := n_tat
  have y_tsz : zHid (0 ≤ tsz.toInt ∧ tsz.toInt ≤ 240) := n_tsz
  have y_wr : zHid ((-1) ≤ wr.toInt ∧ wr.toInt ≤ 260) := n_wr
  clear n_hi n_ho n_lw n_qnb n_qnp n_tat n_tsz n_wr
  obtain ⟨hargs, hsz, hP, hK, hT⟩ := hv
  have hx := B.exec
  have hb := B.bytes
  have hr := B.returns
  have hts : ∀ w ∈ wA, w.before args s = true := fun w h => atoms_spec (ws := .code yX11_isTold cX11_isTold 4 (some .boolean) :: wA) B.pre w (List.mem_cons_of_mem _ h)
  have hown : s.vm.findClass RX11 = some m.cls := findClass_of_methodNamed B.named
  have hlocks := B.notSynchronized
  subst hsz
  have hD := hT.self (sz := s.heap.size)
  generalize hAe : va_A [(h0, .inr (11, [.int th, .ref tB, .int tsz, .int tat, .int wr, .int dp, .ref rC, .ref rV, .ref rD, .ref rK, .ref rT, .ref rS, .ref rU, .int lw, .int tx, .ref rL, .ref rX, .ref qR, .ref qB, .ref qP, .int qnb, .int qnp, .ref aR, .ref aB, .ref aP, .int nb, .int np, .ref aN, .ref rf, .int ho, .int br, .ref aK, .int ac, .long dw, .ref aE, .int sr, .int sf, .ref aA, .ref aH, .ref aI, .int hi])), (aN, .inl (cI, 97, .inl fN)), (rf, .inl (cI, 5, .inl frf)), (aK, .inl (cI, 3880, .inl fKp))] s.heap.size = A at hD ⊢
  have hA : ∀ q : Nat, s.heap.size ≤ q → A q := fun q h => by rw [← hAe]; exact Or.inr h
  have hl := lv_entry ([.ref h0, .int 12, .int p1, .int 1]) (n := 4) (Nat.le_of_ble_eq_true rfl)
  rw [show entryFrame m args 4 = entryFrame m ([.ref h0, .int 12, .int p1, .int 1] : List Value).toArray 4 by rw [hargs], lg_entry_eq]
  generalize (lg_sl ([.ref h0, .int 12, .int p1, .int 1]) ++ List.replicate (4 - (lg_sl ([.ref h0, .int 12, .int p1, .int 1])).length) Slot.unset).toArray = ls at hl ⊢
  have hl : lv_has ls 4 [(0, .ref h0), (1, .int 12), (2, .int p1), (3, .int 1)] := hl
  refine zstart (fun H hH => ?_)
  rw [← hH] at hP
  have hS : va_S A s.heap H [] := by rw [hH]; exact va_S.rf
  generalize ([] : List Loc) = locs at hS ⊢
  refine zgen (fun R Q hR hQ => ?_)
  refine lv_aload_n hx hb dX11_isTold_0 rfl (lv_at hl 0 rfl) ?_
  refine lv_aload_n hx hb dX11_isTold_1 rfl (lv_at hl 0 rfl) ?_
  refine lv_iload_n hx hb dX11_isTold_2 rfl (lv_at hl 2 rfl) ?_
  obtain ⟨hPc, hDc⟩ := zc2 (wc := [(h0, .inr (11, [.int th, .ref tB, .int tsz, .int tat, .int wr, .int dp, .ref rC, .ref rV, .ref rD, .ref rK, .ref rT, .ref rS, .ref rU, .int lw, .int tx, .ref rL, .ref rX, .ref qR, .ref qB, .ref qP, .int qnb, .int qnp, .ref aR, .ref aB, .ref aP, .int nb, .int np, .ref aN, .ref rf, .int ho, .int br, .ref aK, .int ac, .long dw, .ref aE, .int sr, .int sf, .ref aA, .ref aH, .ref aI, .int hi]))]) hP hD [0] (by decide +kernel) rfl
  have hFc := zfr hS hA
  refine va_calli (va_runV (As := [.int p1]) (rest := [.ref h0]) ⟨hx, hb, hml, hown, hts⟩ (g_X11_isBride l dC dI cI cJ h0 p1 th tB tsz tat wr dp rC rV rD rK rT rS rU lw tx rL rX qR qB qP qnb qnp aR aB aP nb np aN rf ho br aK ac dw aE sr sf aA aH aI hi H.size n_ac y_hi y_ho y_lw n_nb n_np y_qnb y_qnp y_tat y_tsz y_wr) (cwV 1 hts (zgV qw1402 qw1404 qw56 qw108 qw1405) rfl rfl rfl hd_X11_isBride ⟨by rw [hR]; exact Nat.le_of_ble_eq_true rfl, by rw [hR]; exact Nat.le_of_ble_eq_true rfl⟩) (zPV hPc hK hDc (va_recv (q := (RX11, TX11, 41)) hK hP (ci := 11) (q0 := 0) rfl rfl)) rfl rfl hl.1 rfl (lv_room (Nat.le_of_ble_eq_true rfl)) dX11_isTold_3 ⟨Nat.zero_le _, Nat.zero_le _⟩) hS (fun q _ h => hFc q h) hFc (fun v3 u3 t H locs ht hvm hw hB hz1 hk1 hS9 => ?_)
  replace hP := zkeep hP hk1
  replace hS := hS9
  clear hPc hDc hFc hk1 hz1 hvm hS9
  obtain ⟨f3_0, f3_1, f3_2, f3_3⟩ : (0 ≤ v3.toInt) ∧ (v3.toInt ≤ 1) ∧ (¬ v3.toInt = 0 → (0 ≤ p1.toInt ∧ p1.toInt < nb.toInt)) ∧ (v3.toInt = 0 → ¬ (0 ≤ p1.toInt ∧ p1.toInt < nb.toInt)) := hw
  refine lv_if_ne (tgt := 13) hx hb dX11_isTold_6 (by decide) (fun c6 => ?_) (fun c6 => ?_)
  · have c6 : ¬ v3.toInt = 0 := z6 rfl (by decide) c6
    refine lv_aload_n hx hb dX11_isTold_13 rfl (lv_at hl 0 rfl) ?_
    refine va_get (D := (dC, dI)) (ci := 11) (v := .ref aN) (C := RX11) (T := TX11) (N := 41) hx hb hts iX11 hown hK hP 0 rfl rfl 27 (by decide) (hts _ qw1154) (fun _ h9 => h9) rfl dX11_isTold_14 ?_
    refine lv_iload_n hx hb dX11_isTold_17 rfl (lv_at hl 1 rfl) ?_
    refine va_iald hx hb hK hP 1 0 rfl rfl (by unfold vp_in; decide) dX11_isTold_18 ?_
    refine lv_topi (fun v18 e18 => ?_)
    refine lv_iload_n hx hb dX11_isTold_19 rfl (lv_at hl 2 rfl) ?_
    have hPc : va_P (dC, dI) vwCl [] H := zP0
    have hDc : va_D (fun _ => True) [] := zD0
    have hFc := zfr hS hA
    refine va_calli (va_runS (As := [.int v18, .int p1]) (rest := [.ref h0]) ⟨hx, hb, hml, hown, hts⟩ (g_X11_has l dC dI cI cJ v18 p1 H.size) (cwS 2 hts (zgS qw1288 qw1289 qw108 qw1290) rfl rfl rfl hd_X11_has ⟨by rw [hR]; exact Nat.le_of_ble_eq_true rfl, by rw [hR]; exact Nat.le_of_ble_eq_true rfl⟩) (zPS hPc hK hDc) rfl rfl hl.1 rfl (lv_room (Nat.le_of_ble_eq_true rfl)) dX11_isTold_20 ⟨Nat.zero_le _, Nat.zero_le _⟩) hS (fun q _ h => hFc q h) hFc (fun v20 u20 t H locs ht hvm hw hB hz1 hk1 hS9 => ?_)
    replace hP := zkeep hP hk1
    replace hS := hS9
    clear hPc hDc hFc hk1 hz1 hvm hS9
    obtain ⟨f20_0, f20_1, f20_2, f20_3⟩ : (0 ≤ v20.toInt) ∧ (v20.toInt ≤ 1) ∧ (v20.toInt = ((v18 >>> (p1 &&& 31)) &&& 1).toInt) ∧ (v20.toInt = (cBt v18 p1).toInt) := hw
    have F20 := f20_3
    refine lv_if_eq (tgt := 30) hx hb dX11_isTold_23 (by decide) (fun c23 => ?_) (fun c23 => ?_)
    · have c23 : v20.toInt = 0 := z5 rfl (by decide) c23
      refine lv_aload_n hx hb dX11_isTold_30 rfl (lv_at hl 0 rfl) ?_
      refine va_get (D := (dC, dI)) (ci := 11) (v := .ref aN) (C := RX11) (T := TX11) (N := 41) hx hb hts iX11 hown hK hP 0 rfl rfl 27 (by decide) (hts _ qw1154) (fun _ h9 => h9) rfl dX11_isTold_31 ?_
      refine lv_bipush (v := 14) hx hb dX11_isTold_34 (by decide) ?_
      refine va_iald hx hb hK hP 1 0 rfl rfl (by unfold vp_in; decide) dX11_isTold_36 ?_
      refine lv_topi (fun v36 e36 => ?_)
      refine lv_iload_n hx hb dX11_isTold_37 rfl (lv_at hl 3 rfl) ?_
      refine lv_icmp_ge (tgt := 45) hx hb dX11_isTold_38 (by decide) (fun c38 => ?_) (fun c38 => ?_)
      · have c38 : 1 ≤ v36.toInt := z3 (by decide) rfl c38
        refine lv_iconst (v := (-1)) hx hb dX11_isTold_45 (by decide) ?_
        obtain ⟨hPc, hDc, hFc⟩ := zc3 (wc := [(h0, .inr (11, [.int th, .ref tB, .int tsz, .int tat, .int wr, .int dp, .ref rC, .ref rV, .ref rD, .ref rK, .ref rT, .ref rS, .ref rU, .int lw, .int tx, .ref rL, .ref rX, .ref qR, .ref qB, .ref qP, .int qnb, .int qnp, .ref aR, .ref aB, .ref aP, .int nb, .int np, .ref aN, .ref rf, .int ho, .int br, .ref aK, .int ac, .long dw, .ref aE, .int sr, .int sf, .ref aA, .ref aH, .ref aI, .int hi])), (rf, .inl (cI, 5, .inl frf))]) hP hD hS hA [0, 2] (by decide +kernel) rfl
        refine va_calli (va_runV (As := [.int (-1)]) (rest := []) ⟨hx, hb, hml, hown, hts⟩ (g_X11_isRefused l dC dI cI cJ h0 ((-1)) th tB tsz tat wr dp rC rV rD rK rT rS rU lw tx rL rX qR qB qP qnb qnp aR aB aP nb np aN rf ho br aK ac dw aE sr sf aA aH aI hi frf H.size n_ac y_hi y_ho y_lw n_nb n_np (by decide) y_qnb y_qnp y_tat y_tsz y_wr) (cwV 1 hts (zgV qw1481 qw1483 qw66 qw108 qw1484) rfl rfl rfl hd_X11_isRefused ⟨by rw [hR]; exact Nat.le_of_ble_eq_true rfl, by rw [hR]; exact Nat.le_of_ble_eq_true rfl⟩) (zPV hPc hK hDc (va_recv (q := (RX11, TX11, 41)) hK hP (ci := 11) (q0 := 0) rfl rfl)) rfl rfl hl.1 rfl (lv_room (Nat.le_of_ble_eq_true rfl)) dX11_isTold_46 ⟨Nat.zero_le _, Nat.zero_le _⟩) hS (fun q _ h => hFc q h) hFc (fun v46 u46 t H locs ht hvm hw hB hz1 hk1 hS9 => ?_)
        obtain ⟨u46_0, rfl⟩ : ∃ z, z = u46 := ⟨_, rfl⟩
        obtain ⟨hP9, hD9⟩ := zj2 (wX := [(h0, .inr (11, [.int th, .ref tB, .int tsz, .int tat, .int wr, .int dp, .ref rC, .ref rV, .ref rD, .ref rK, .ref rT, .ref rS, .ref rU, .int lw, .int tx, .ref rL, .ref rX, .ref qR, .ref qB, .ref qP, .int qnb, .int qnp, .ref aR, .ref aB, .ref aP, .int nb, .int np, .ref aN, .ref rf, .int ho, .int br, .ref aK, .int ac, .long dw, .ref aE, .int sr, .int sf, .ref aA, .ref aH, .ref aI, .int hi])), (aN, .inl (cI, 97, .inl fN)), (rf, .inl (cI, 5, .inl u46_0)), (aK, .inl (cI, 3880, .inl fKp))]) hP hD hk1 hFc ht hB [0, 2] [(true, 0), (false, 1), (true, 1), (false, 3)] rfl (by decide +kernel) (by decide +kernel) rfl
        clear hP hD hS hPc hDc hFc hB hk1 hz1 hvm
        have hP := hP9
        have hD := hD9
        have hS := hS9
        clear hP9 hD9 hS9
        have zn46_m1 : (-1 : Int32).toInt = -1 := by decide
        obtain ⟨f46_0, f46_1, f46_2, f46_3⟩ : (0 ≤ v46.toInt) ∧ (v46.toInt ≤ 1) ∧ (v46.toInt = 0 → (-1 : Int32).toInt = -1) ∧ ((v46.toInt = 0 ∧ (-1 : Int32).toInt = -1 ∧ u46_0 = frf) ∨ (v46.toInt = 1 ∧ ¬ (-1 : Int32).toInt = -1 ∧ zRf frf u46_0 (-1 : Int32).toInt)) := hw
        have F46 := f46_3
        refine lv_if_eq (tgt := 54) hx hb dX11_isTold_49 (by decide) (fun c49 => ?_) (fun c49 => ?_)
        · have c49 : v46.toInt = 0 := z5 rfl (by decide) c49
          refine lv_aload_n hx hb dX11_isTold_54 rfl (lv_at hl 0 rfl) ?_
          obtain ⟨hPc, hDc, hFc⟩ := zc3 (wc := [(h0, .inr (11, [.int th, .ref tB, .int tsz, .int tat, .int wr, .int dp, .ref rC, .ref rV, .ref rD, .ref rK, .ref rT, .ref rS, .ref rU, .int lw, .int tx, .ref rL, .ref rX, .ref qR, .ref qB, .ref qP, .int qnb, .int qnp, .ref aR, .ref aB, .ref aP, .int nb, .int np, .ref aN, .ref rf, .int ho, .int br, .ref aK, .int ac, .long dw, .ref aE, .int sr, .int sf, .ref aA, .ref aH, .ref aI, .int hi])), (aN, .inl (cI, 97, .inl fN)), (aK, .inl (cI, 3880, .inl fKp))]) hP hD hS hA [0, 1, 3] (by decide +kernel) rfl
          refine va_callv (va_runV (As := []) (rest := []) ⟨hx, hb, hml, hown, hts⟩ (g_X11_keep l dC dI cI cJ h0 th tB tsz tat wr dp rC rV rD rK rT rS rU lw tx rL rX qR qB qP qnb qnp aR aB aP nb np aN rf ho br aK ac dw aE sr sf aA aH aI hi fN fKp H.size n_ac y_hi y_ho y_lw n_nb n_np y_qnb y_qnp y_tat y_tsz y_wr ci_fKp_zKp_np__F_h0_32_ ci_fN_zNw_np) (cwV 0 hts (zgV qw1485 qw1487 qw67 qw108 qw1488) rfl rfl rfl hd_X11_keep ⟨by rw [hR]; exact Nat.le_of_ble_eq_true rfl, by rw [hR]; exact Nat.le_of_ble_eq_true rfl⟩) (zPV hPc hK hDc (va_recv (q := (RX11, TX11, 41)) hK hP (ci := 11) (q0 := 0) rfl rfl)) rfl rfl hl.1 rfl (lv_room (Nat.le_of_ble_eq_true rfl)) dX11_isTold_55 ⟨Nat.zero_le _, Nat.zero_le _⟩) hS (fun q _ h => hFc q h) hFc (fun u55 t H locs ht hvm hw hB hz1 hk1 hS9 => ?_)
          obtain ⟨u55_0, u55_1⟩ := u55
          obtain ⟨hP9, hD9⟩ := zj2 (wX := [(h0, .inr (11, [.int th, .ref tB, .int tsz, .int tat, .int wr, .int dp, .ref rC, .ref rV, .ref rD, .ref rK, .ref rT, .ref rS, .ref rU, .int lw, .int tx, .ref rL, .ref rX, .ref qR, .ref qB, .ref qP, .int qnb, .int qnp, .ref aR, .ref aB, .ref aP, .int nb, .int np, .ref aN, .ref rf, .int ho, .int br, .ref aK, .int u55_0, .long dw, .ref aE, .int sr, .int sf, .ref aA, .ref aH, .ref aI, .int hi])), (aN, .inl (cI, 97, .inl fN)), (rf, .inl (cI, 5, .inl u46_0)), (aK, .inl (cI, 3880, .inl u55_1))]) hP hD hk1 hFc ht hB [0, 1, 3] [(true, 0), (true, 1), (false, 2), (true, 2)] rfl (by decide +kernel) (by decide +kernel) rfl
          clear hP hD hS hPc hDc hFc hB hk1 hz1 hvm
          have hP := hP9
          have hD := hD9
          have hS := hS9
          clear hP9 hD9 hS9
          obtain ⟨f55_0, f55_1, f55_2, f55_3⟩ : (1 ≤ u55_0.toInt) ∧ (u55_0.toInt ≤ 40) ∧ (zKe fKp u55_1 fN ac u55_0) ∧ (zKp np u55_0 u55_1) := hw
          have F55 := f55_2
          refine lv_aload_n hx hb dX11_isTold_58 rfl (lv_at hl 0 rfl) ?_
          refine va_get (D := (dC, dI)) (ci := 11) (v := .ref aN) (C := RX11) (T := TX11) (N := 41) hx hb hts iX11 hown hK hP 0 rfl rfl 27 (by decide) (hts _ qw1154) (fun _ h9 => h9) rfl dX11_isTold_59 ?_
          refine lv_iload_n hx hb dX11_isTold_62 rfl (lv_at hl 1 rfl) ?_
          refine lv_dup2_11 hx hb dX11_isTold_63 rfl rfl ?_
          refine va_iald hx hb hK hP 1 0 rfl rfl (by unfold vp_in; decide) dX11_isTold_64 ?_
          refine lv_topi (fun v64 e64 => ?_)
          refine lv_iconst (v := 1) hx hb dX11_isTold_65 (by decide) ?_
          refine lv_iload_n hx hb dX11_isTold_66 rfl (lv_at hl 2 rfl) ?_
          refine lv_ishl hx hb dX11_isTold_67 ?_
          refine lv_topi (fun v67 e67 => ?_)
          have i67 : 1 ≤ v67.toInt ∧ v67.toInt ≤ 32 := zshl1 e67 (by omega) (by omega)
          refine lv_ior hx hb dX11_isTold_68 ?_
          refine lv_topi (fun v68 e68 => ?_)
          refine va_iast hx hb hK hP hD hS 1 0 rfl rfl (by unfold vp_in; decide) dX11_isTold_69 (fun H locs hP9 hD9 hS9 => ?_)
          clear hP hD hS
          obtain ⟨v69_f, e69⟩ : ∃ g : Nat → Int32, g = upd fN (12 : Int32).toNatClampNeg v68 := ⟨_, rfl⟩
          rw [← e69] at hP9 hD9
          obtain ⟨hP, hD⟩ := zst (wX := [(h0, .inr (11, [.int th, .ref tB, .int tsz, .int tat, .int wr, .int dp, .ref rC, .ref rV, .ref rD, .ref rK, .ref rT, .ref rS, .ref rU, .int lw, .int tx, .ref rL, .ref rX, .ref qR, .ref qB, .ref qP, .int qnb, .int qnp, .ref aR, .ref aB, .ref aP, .int nb, .int np, .ref aN, .ref rf, .int ho, .int br, .ref aK, .int u55_0, .long dw, .ref aE, .int sr, .int sf, .ref aA, .ref aH, .ref aI, .int hi])), (aN, .inl (cI, 97, .inl v69_f)), (rf, .inl (cI, 5, .inl u46_0)), (aK, .inl (cI, 3880, .inl u55_1))]) hP9 hD9 rfl
          have hS := hS9
          clear hP9 hD9 hS9
          have cq69_zNw_np : zNw np v69_f := (zNw_low ci_fN_zNw_np e69 (by decide) (by decide)).1
          refine lv_aload_n hx hb dX11_isTold_70 rfl (lv_at hl 0 rfl) ?_
          refine va_get (D := (dC, dI)) (ci := 11) (v := .ref aN) (C := RX11) (T := TX11) (N := 41) hx hb hts iX11 hown hK hP 0 rfl rfl 27 (by decide) (hts _ qw1154) (fun _ h9 => h9) rfl dX11_isTold_71 ?_
          refine lv_bipush (v := 14) hx hb dX11_isTold_74 (by decide) ?_
          refine lv_dup2_11 hx hb dX11_isTold_76 rfl rfl ?_
          refine va_iald hx hb hK hP 1 0 rfl rfl (by unfold vp_in; decide) dX11_isTold_77 ?_
          refine lv_topi (fun v77 e77 => ?_)
          refine lv_iload_n hx hb dX11_isTold_78 rfl (lv_at hl 3 rfl) ?_
          refine lv_isub hx hb dX11_isTold_79 ?_
          refine lv_topi (fun v79 e79 => ?_)
          refine va_iast hx hb hK hP hD hS 1 0 rfl rfl (by unfold vp_in; decide) dX11_isTold_80 (fun H locs hP9 hD9 hS9 => ?_)
          clear hP hD hS
          obtain ⟨v80_f, e80⟩ : ∃ g : Nat → Int32, g = upd v69_f (14 : Int32).toNatClampNeg v79 := ⟨_, rfl⟩
          rw [← e80] at hP9 hD9
          obtain ⟨hP, hD⟩ := zst (wX := [(h0, .inr (11, [.int th, .ref tB, .int tsz, .int tat, .int wr, .int dp, .ref rC, .ref rV, .ref rD, .ref rK, .ref rT, .ref rS, .ref rU, .int lw, .int tx, .ref rL, .ref rX, .ref qR, .ref qB, .ref qP, .int qnb, .int qnp, .ref aR, .ref aB, .ref aP, .int nb, .int np, .ref aN, .ref rf, .int ho, .int br, .ref aK, .int u55_0, .long dw, .ref aE, .int sr, .int sf, .ref aA, .ref aH, .ref aI, .int hi])), (aN, .inl (cI, 97, .inl v80_f)), (rf, .inl (cI, 5, .inl u46_0)), (aK, .inl (cI, 3880, .inl u55_1))]) hP9 hD9 rfl
          have hS := hS9
          clear hP9 hD9 hS9
          have cq80_zNw_np : zNw np v80_f := (zNw_low cq69_zNw_np e80 (by decide) (by decide)).1
          refine lv_iconst (v := 1) hx hb dX11_isTold_81 (by decide) ?_
          have zr0 : (1 : Int32).toInt = 1 := by decide
          rw [hQ]
          exact W.zret (v := 1) (ty := .boolean) hx hb hr rfl (fun t ht hW => ⟨⟨1, (u55_0, v80_f, u46_0, u55_1), rfl, ⟨by (try dsimp only); omega, by (try dsimp only); omega, by (try dsimp only); omega, by (try dsimp only); omega, by (try dsimp only); omega, by (try dsimp only); exact fun kc kT q_fR q_fBr q_fPa hc hb h => by rcases F46 with z | z; rotate_left; (exfalso; have z1 := z.2.1; omega); have zk1 : (1 : Int32).toInt = 1 := (by decide); have y18 : v18 = kT.1.2.2.1.2.1 := (zIxN (n := 12) e18 (by decide)).trans (zSr_sh h.1).symm; rw [y18] at F20; have y36 : v36 = kT.1.2.2.2.1.1 := (zIxN (n := 14) e36 (by decide)).trans (zSr_pu h.1).symm; have zy36 := congrArg Int32.toInt y36; have q : sW_tld nb.toInt kT.1 kT.1.2.2.1.2.1 p1 1 = -1 := (by unfold sW_tld; exact (if_neg (by omega)).trans ((if_neg (by omega)).trans (if_neg (by omega)))); exact ⟨Or.inr ⟨by decide, q⟩, (zActAr (r := 0) (v := 0) q h (zKr_k hb.2 h F55 (by omega)) (zSr_S h.1 e64 (e68.trans (by rw [e67])) e69 e77 e79 e80 hb.2.1.2 hb.2.2.1.2) z.2.2 rfl).2⟩, f55_3, cq80_zNw_np⟩, ⟨by rw [ht]; exact hP, hD⟩⟩, hS.F ht⟩) hS.2.2 dX11_isTold_82
        · have c49 : ¬ v46.toInt = 0 := z6 rfl (by decide) c49
          refine lv_iconst (v := 0) hx hb dX11_isTold_52 (by decide) ?_
          have zr0 : (0 : Int32).toInt = 0 := by decide
          rw [hQ]
          exact W.zret (v := 0) (ty := .boolean) hx hb hr rfl (fun t ht hW => ⟨⟨0, (ac, fN, u46_0, fKp), rfl, ⟨by (try dsimp only); omega, by (try dsimp only); omega, by (try dsimp only); omega, by (try dsimp only); omega, by (try dsimp only); omega, by (try dsimp only); exact fun kc kT q_fR q_fBr q_fPa hc hb h => by exfalso; rcases F46 with z | z; (have z1 := z.1; omega); (have z1 := z.2.1; omega), ci_fKp_zKp_np__F_h0_32_, ci_fN_zNw_np⟩, ⟨by rw [ht]; exact hP, hD⟩⟩, hS.F ht⟩) hS.2.2 dX11_isTold_53
      · have c38 : v36.toInt < 1 := z4 (by decide) rfl c38
        refine lv_iconst (v := 2) hx hb dX11_isTold_41 (by decide) ?_
        refine lv_goto (tgt := 46) hx hb dX11_isTold_42 (by decide) ?_
        obtain ⟨hPc, hDc, hFc⟩ := zc3 (wc := [(h0, .inr (11, [.int th, .ref tB, .int tsz, .int tat, .int wr, .int dp, .ref rC, .ref rV, .ref rD, .ref rK, .ref rT, .ref rS, .ref rU, .int lw, .int tx, .ref rL, .ref rX, .ref qR, .ref qB, .ref qP, .int qnb, .int qnp, .ref aR, .ref aB, .ref aP, .int nb, .int np, .ref aN, .ref rf, .int ho, .int br, .ref aK, .int ac, .long dw, .ref aE, .int sr, .int sf, .ref aA, .ref aH, .ref aI, .int hi])), (rf, .inl (cI, 5, .inl frf))]) hP hD hS hA [0, 2] (by decide +kernel) rfl
        refine va_calli (va_runV (As := [.int 2]) (rest := []) ⟨hx, hb, hml, hown, hts⟩ (g_X11_isRefused l dC dI cI cJ h0 2 th tB tsz tat wr dp rC rV rD rK rT rS rU lw tx rL rX qR qB qP qnb qnp aR aB aP nb np aN rf ho br aK ac dw aE sr sf aA aH aI hi frf H.size n_ac y_hi y_ho y_lw n_nb n_np (by decide) y_qnb y_qnp y_tat y_tsz y_wr) (cwV 1 hts (zgV qw1481 qw1483 qw66 qw108 qw1484) rfl rfl rfl hd_X11_isRefused ⟨by rw [hR]; exact Nat.le_of_ble_eq_true rfl, by rw [hR]; exact Nat.le_of_ble_eq_true rfl⟩) (zPV hPc hK hDc (va_recv (q := (RX11, TX11, 41)) hK hP (ci := 11) (q0 := 0) rfl rfl)) rfl rfl hl.1 rfl (lv_room (Nat.le_of_ble_eq_true rfl)) dX11_isTold_46 ⟨Nat.zero_le _, Nat.zero_le _⟩) hS (fun q _ h => hFc q h) hFc (fun v46 u46 t H locs ht hvm hw hB hz1 hk1 hS9 => ?_)
        obtain ⟨u46_0, rfl⟩ : ∃ z, z = u46 := ⟨_, rfl⟩
        obtain ⟨hP9, hD9⟩ := zj2 (wX := [(h0, .inr (11, [.int th, .ref tB, .int tsz, .int tat, .int wr, .int dp, .ref rC, .ref rV, .ref rD, .ref rK, .ref rT, .ref rS, .ref rU, .int lw, .int tx, .ref rL, .ref rX, .ref qR, .ref qB, .ref qP, .int qnb, .int qnp, .ref aR, .ref aB, .ref aP, .int nb, .int np, .ref aN, .ref rf, .int ho, .int br, .ref aK, .int ac, .long dw, .ref aE, .int sr, .int sf, .ref aA, .ref aH, .ref aI, .int hi])), (aN, .inl (cI, 97, .inl fN)), (rf, .inl (cI, 5, .inl u46_0)), (aK, .inl (cI, 3880, .inl fKp))]) hP hD hk1 hFc ht hB [0, 2] [(true, 0), (false, 1), (true, 1), (false, 3)] rfl (by decide +kernel) (by decide +kernel) rfl
        clear hP hD hS hPc hDc hFc hB hk1 hz1 hvm
        have hP := hP9
        have hD := hD9
        have hS := hS9
        clear hP9 hD9 hS9
        have zn46_2 : (2 : Int32).toInt = 2 := by decide
        obtain ⟨f46_0, f46_1, f46_2, f46_3⟩ : (0 ≤ v46.toInt) ∧ (v46.toInt ≤ 1) ∧ (v46.toInt = 0 → (2 : Int32).toInt = -1) ∧ ((v46.toInt = 0 ∧ (2 : Int32).toInt = -1 ∧ u46_0 = frf) ∨ (v46.toInt = 1 ∧ ¬ (2 : Int32).toInt = -1 ∧ zRf frf u46_0 (2 : Int32).toInt)) := hw
        have F46 := f46_3
        refine lv_if_eq (tgt := 54) hx hb dX11_isTold_49 (by decide) (fun c49 => by exfalso; have c49 : v46.toInt = 0 := z5 rfl (by decide) c49; omega) (fun c49 => ?_)
        have c49 : ¬ v46.toInt = 0 := z6 rfl (by decide) c49
        refine lv_iconst (v := 0) hx hb dX11_isTold_52 (by decide) ?_
        have zr0 : (0 : Int32).toInt = 0 := by decide
        rw [hQ]
        exact W.zret (v := 0) (ty := .boolean) hx hb hr rfl (fun t ht hW => ⟨⟨0, (ac, fN, u46_0, fKp), rfl, ⟨by (try dsimp only); omega, by (try dsimp only); omega, by (try dsimp only); omega, by (try dsimp only); omega, by (try dsimp only); omega, by (try dsimp only); exact fun kc kT q_fR q_fBr q_fPa hc hb h => by rcases F46 with z | z; (exfalso; have z1 := z.2.1; omega); have zk1 : (1 : Int32).toInt = 1 := (by decide); have y18 : v18 = kT.1.2.2.1.2.1 := (zIxN (n := 12) e18 (by decide)).trans (zSr_sh h.1).symm; rw [y18] at F20; have y36 : v36 = kT.1.2.2.2.1.1 := (zIxN (n := 14) e36 (by decide)).trans (zSr_pu h.1).symm; have zy36 := congrArg Int32.toInt y36; have q : sW_tld nb.toInt kT.1 kT.1.2.2.1.2.1 p1 1 = (2 : Int32).toInt := (by unfold sW_tld; exact ((if_neg (by omega)).trans ((if_neg (by omega)).trans (if_pos (by omega)))).trans (by omega)); exact ⟨Or.inl ⟨by decide, by omega⟩, (zActRr (v := 0) q (by omega) h z.2.2).2⟩, ci_fKp_zKp_np__F_h0_32_, ci_fN_zNw_np⟩, ⟨by rw [ht]; exact hP, hD⟩⟩, hS.F ht⟩) hS.2.2 dX11_isTold_53
    · have c23 : ¬ v20.toInt = 0 := z6 rfl (by decide) c23
      refine lv_iconst (v := 1) hx hb dX11_isTold_26 (by decide) ?_
      refine lv_goto (tgt := 46) hx hb dX11_isTold_27 (by decide) ?_
      obtain ⟨hPc, hDc, hFc⟩ := zc3 (wc := [(h0, .inr (11, [.int th, .ref tB, .int tsz, .int tat, .int wr, .int dp, .ref rC, .ref rV, .ref rD, .ref rK, .ref rT, .ref rS, .ref rU, .int lw, .int tx, .ref rL, .ref rX, .ref qR, .ref qB, .ref qP, .int qnb, .int qnp, .ref aR, .ref aB, .ref aP, .int nb, .int np, .ref aN, .ref rf, .int ho, .int br, .ref aK, .int ac, .long dw, .ref aE, .int sr, .int sf, .ref aA, .ref aH, .ref aI, .int hi])), (rf, .inl (cI, 5, .inl frf))]) hP hD hS hA [0, 2] (by decide +kernel) rfl
      refine va_calli (va_runV (As := [.int 1]) (rest := []) ⟨hx, hb, hml, hown, hts⟩ (g_X11_isRefused l dC dI cI cJ h0 1 th tB tsz tat wr dp rC rV rD rK rT rS rU lw tx rL rX qR qB qP qnb qnp aR aB aP nb np aN rf ho br aK ac dw aE sr sf aA aH aI hi frf H.size n_ac y_hi y_ho y_lw n_nb n_np (by decide) y_qnb y_qnp y_tat y_tsz y_wr) (cwV 1 hts (zgV qw1481 qw1483 qw66 qw108 qw1484) rfl rfl rfl hd_X11_isRefused ⟨by rw [hR]; exact Nat.le_of_ble_eq_true rfl, by rw [hR]; exact Nat.le_of_ble_eq_true rfl⟩) (zPV hPc hK hDc (va_recv (q := (RX11, TX11, 41)) hK hP (ci := 11) (q0 := 0) rfl rfl)) rfl rfl hl.1 rfl (lv_room (Nat.le_of_ble_eq_true rfl)) dX11_isTold_46 ⟨Nat.zero_le _, Nat.zero_le _⟩) hS (fun q _ h => hFc q h) hFc (fun v46 u46 t H locs ht hvm hw hB hz1 hk1 hS9 => ?_)
      obtain ⟨u46_0, rfl⟩ : ∃ z, z = u46 := ⟨_, rfl⟩
      obtain ⟨hP9, hD9⟩ := zj2 (wX := [(h0, .inr (11, [.int th, .ref tB, .int tsz, .int tat, .int wr, .int dp, .ref rC, .ref rV, .ref rD, .ref rK, .ref rT, .ref rS, .ref rU, .int lw, .int tx, .ref rL, .ref rX, .ref qR, .ref qB, .ref qP, .int qnb, .int qnp, .ref aR, .ref aB, .ref aP, .int nb, .int np, .ref aN, .ref rf, .int ho, .int br, .ref aK, .int ac, .long dw, .ref aE, .int sr, .int sf, .ref aA, .ref aH, .ref aI, .int hi])), (aN, .inl (cI, 97, .inl fN)), (rf, .inl (cI, 5, .inl u46_0)), (aK, .inl (cI, 3880, .inl fKp))]) hP hD hk1 hFc ht hB [0, 2] [(true, 0), (false, 1), (true, 1), (false, 3)] rfl (by decide +kernel) (by decide +kernel) rfl
      clear hP hD hS hPc hDc hFc hB hk1 hz1 hvm
      have hP := hP9
      have hD := hD9
      have hS := hS9
      clear hP9 hD9 hS9
      have zn46_1 : (1 : Int32).toInt = 1 := by decide
      obtain ⟨f46_0, f46_1, f46_2, f46_3⟩ : (0 ≤ v46.toInt) ∧ (v46.toInt ≤ 1) ∧ (v46.toInt = 0 → (1 : Int32).toInt = -1) ∧ ((v46.toInt = 0 ∧ (1 : Int32).toInt = -1 ∧ u46_0 = frf) ∨ (v46.toInt = 1 ∧ ¬ (1 : Int32).toInt = -1 ∧ zRf frf u46_0 (1 : Int32).toInt)) := hw
      have F46 := f46_3
      refine lv_if_eq (tgt := 54) hx hb dX11_isTold_49 (by decide) (fun c49 => by exfalso; have c49 : v46.toInt = 0 := z5 rfl (by decide) c49; omega) (fun c49 => ?_)
      have c49 : ¬ v46.toInt = 0 := z6 rfl (by decide) c49
      refine lv_iconst (v := 0) hx hb dX11_isTold_52 (by decide) ?_
      have zr0 : (0 : Int32).toInt = 0 := by decide
      rw [hQ]
      exact W.zret (v := 0) (ty := .boolean) hx hb hr rfl (fun t ht hW => ⟨⟨0, (ac, fN, u46_0, fKp), rfl, ⟨by (try dsimp only); omega, by (try dsimp only); omega, by (try dsimp only); omega, by (try dsimp only); omega, by (try dsimp only); omega, by (try dsimp only); exact fun kc kT q_fR q_fBr q_fPa hc hb h => by rcases F46 with z | z; (exfalso; have z1 := z.2.1; omega); have zk1 : (1 : Int32).toInt = 1 := (by decide); have y18 : v18 = kT.1.2.2.1.2.1 := (zIxN (n := 12) e18 (by decide)).trans (zSr_sh h.1).symm; rw [y18] at F20; have q : sW_tld nb.toInt kT.1 kT.1.2.2.1.2.1 p1 1 = (1 : Int32).toInt := (by unfold sW_tld; exact ((if_neg (by omega)).trans (if_pos (by omega))).trans (by omega)); exact ⟨Or.inl ⟨by decide, by omega⟩, (zActRr (v := 0) q (by omega) h z.2.2).2⟩, ci_fKp_zKp_np__F_h0_32_, ci_fN_zNw_np⟩, ⟨by rw [ht]; exact hP, hD⟩⟩, hS.F ht⟩) hS.2.2 dX11_isTold_53
  · have c6 : v3.toInt = 0 := z5 rfl (by decide) c6
    refine lv_iconst (v := 0) hx hb dX11_isTold_9 (by decide) ?_
    refine lv_goto (tgt := 46) hx hb dX11_isTold_10 (by decide) ?_
    obtain ⟨hPc, hDc, hFc⟩ := zc3 (wc := [(h0, .inr (11, [.int th, .ref tB, .int tsz, .int tat, .int wr, .int dp, .ref rC, .ref rV, .ref rD, .ref rK, .ref rT, .ref rS, .ref rU, .int lw, .int tx, .ref rL, .ref rX, .ref qR, .ref qB, .ref qP, .int qnb, .int qnp, .ref aR, .ref aB, .ref aP, .int nb, .int np, .ref aN, .ref rf, .int ho, .int br, .ref aK, .int ac, .long dw, .ref aE, .int sr, .int sf, .ref aA, .ref aH, .ref aI, .int hi])), (rf, .inl (cI, 5, .inl frf))]) hP hD hS hA [0, 2] (by decide +kernel) rfl
    refine va_calli (va_runV (As := [.int 0]) (rest := []) ⟨hx, hb, hml, hown, hts⟩ (g_X11_isRefused l dC dI cI cJ h0 0 th tB tsz tat wr dp rC rV rD rK rT rS rU lw tx rL rX qR qB qP qnb qnp aR aB aP nb np aN rf ho br aK ac dw aE sr sf aA aH aI hi frf H.size n_ac y_hi y_ho y_lw n_nb n_np (by decide) y_qnb y_qnp y_tat y_tsz y_wr) (cwV 1 hts (zgV qw1481 qw1483 qw66 qw108 qw1484) rfl rfl rfl hd_X11_isRefused ⟨by rw [hR]; exact Nat.le_of_ble_eq_true rfl, by rw [hR]; exact Nat.le_of_ble_eq_true rfl⟩) (zPV hPc hK hDc (va_recv (q := (RX11, TX11, 41)) hK hP (ci := 11) (q0 := 0) rfl rfl)) rfl rfl hl.1 rfl (lv_room (Nat.le_of_ble_eq_true rfl)) dX11_isTold_46 ⟨Nat.zero_le _, Nat.zero_le _⟩) hS (fun q _ h => hFc q h) hFc (fun v46 u46 t H locs ht hvm hw hB hz1 hk1 hS9 => ?_)
    obtain ⟨u46_0, rfl⟩ : ∃ z, z = u46 := ⟨_, rfl⟩
    obtain ⟨hP9, hD9⟩ := zj2 (wX := [(h0, .inr (11, [.int th, .ref tB, .int tsz, .int tat, .int wr, .int dp, .ref rC, .ref rV, .ref rD, .ref rK, .ref rT, .ref rS, .ref rU, .int lw, .int tx, .ref rL, .ref rX, .ref qR, .ref qB, .ref qP, .int qnb, .int qnp, .ref aR, .ref aB, .ref aP, .int nb, .int np, .ref aN, .ref rf, .int ho, .int br, .ref aK, .int ac, .long dw, .ref aE, .int sr, .int sf, .ref aA, .ref aH, .ref aI, .int hi])), (aN, .inl (cI, 97, .inl fN)), (rf, .inl (cI, 5, .inl u46_0)), (aK, .inl (cI, 3880, .inl fKp))]) hP hD hk1 hFc ht hB [0, 2] [(true, 0), (false, 1), (true, 1), (false, 3)] rfl (by decide +kernel) (by decide +kernel) rfl
    clear hP hD hS hPc hDc hFc hB hk1 hz1 hvm
    have hP := hP9
    have hD := hD9
    have hS := hS9
    clear hP9 hD9 hS9
    have zn46_0 : (0 : Int32).toInt = 0 := by decide
    obtain ⟨f46_0, f46_1, f46_2, f46_3⟩ : (0 ≤ v46.toInt) ∧ (v46.toInt ≤ 1) ∧ (v46.toInt = 0 → (0 : Int32).toInt = -1) ∧ ((v46.toInt = 0 ∧ (0 : Int32).toInt = -1 ∧ u46_0 = frf) ∨ (v46.toInt = 1 ∧ ¬ (0 : Int32).toInt = -1 ∧ zRf frf u46_0 (0 : Int32).toInt)) := hw
    have F46 := f46_3
    refine lv_if_eq (tgt := 54) hx hb dX11_isTold_49 (by decide) (fun c49 => by exfalso; have c49 : v46.toInt = 0 := z5 rfl (by decide) c49; omega) (fun c49 => ?_)
    have c49 : ¬ v46.toInt = 0 := z6 rfl (by decide) c49
    refine lv_iconst (v := 0) hx hb dX11_isTold_52 (by decide) ?_
    have zr0 : (0 : Int32).toInt = 0 := by decide
    rw [hQ]
    exact W.zret (v := 0) (ty := .boolean) hx hb hr rfl (fun t ht hW => ⟨⟨0, (ac, fN, u46_0, fKp), rfl, ⟨by (try dsimp only); omega, by (try dsimp only); omega, by (try dsimp only); omega, by (try dsimp only); omega, by (try dsimp only); omega, by (try dsimp only); exact fun kc kT q_fR q_fBr q_fPa hc hb h => by rcases F46 with z | z; (exfalso; have z1 := z.2.1; omega); have zk1 : (1 : Int32).toInt = 1 := (by decide); have q : sW_tld nb.toInt kT.1 kT.1.2.2.1.2.1 p1 1 = (0 : Int32).toInt := (by unfold sW_tld; exact (if_pos (by omega)).trans (by omega)); exact ⟨Or.inl ⟨by decide, by omega⟩, (zActRr (v := 0) q (by omega) h z.2.2).2⟩, ci_fKp_zKp_np__F_h0_32_, ci_fN_zNw_np⟩, ⟨by rw [ht]; exact hP, hD⟩⟩, hS.F ht⟩) hS.2.2 dX11_isTold_53
