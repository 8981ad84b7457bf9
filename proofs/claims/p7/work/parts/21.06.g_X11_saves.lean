set_option maxHeartbeats 4000000 in
set_option maxRecDepth 100000 in
theorem g_X11_seen (l : Launch) (dC : Nat → ClassId) (dI : Nat → Nat → Nat) (cI cJ : ClassId) (h0 : Nat) (p0 : Int32) (th : Int32) (tB : Nat) (tsz : Int32) (tat : Int32) (wr : Int32) (dp : Int32) (rC : Nat) (rV : Nat) (rD : Nat) (rK : Nat) (rT : Nat) (rS : Nat) (rU : Nat) (lw : Int32) (tx : Int32) (rL : Nat) (rX : Nat) (qR : Nat) (qB : Nat) (qP : Nat) (qnb : Int32) (qnp : Int32) (aR : Nat) (aB : Nat) (aP : Nat) (nb : Int32) (np : Int32) (aN : Nat) (rf : Nat) (ho : Int32) (br : Int32) (aK : Nat) (ac : Int32) (dw : Int64) (aE : Nat) (sr : Int32) (sf : Int32) (aA : Nat) (aH : Nat) (aI : Nat) (hi : Int32) (fN : Nat → Int32) (sz : Nat) (n_ac : 0 ≤ ac.toInt ∧ ac.toInt ≤ 40) (n_hi : 0 ≤ hi.toInt ∧ hi.toInt ≤ 1) (n_ho : (-1) ≤ ho.toInt ∧ ho.toInt ≤ 3) (n_lw : 0 ≤ lw.toInt ∧ lw.toInt ≤ 4) (n_nb : 0 ≤ nb.toInt ∧ nb.toInt ≤ 6) (n_np : 0 ≤ np.toInt ∧ np.toInt ≤ 5) (n_qnb : 0 ≤ qnb.toInt ∧ qnb.toInt ≤ 6) (n_qnp : 0 ≤ qnp.toInt ∧ qnp.toInt ≤ 5) (n_tat : 0 ≤ tat.toInt ∧ tat.toInt ≤ 260) (n_tsz : 0 ≤ tsz.toInt ∧ tsz.toInt ≤ 240) (n_wr : (-1) ≤ wr.toInt ∧ wr.toInt ≤ 260)  (ci_fN_zNw_np : zNw np fN)  : Met l yX11_seen (.code yX11_seen cX11_seen 2 (some .int) :: wA) ({ frames := 2, cells := 0, slots := 0, locals := 45 }) (zP (dC, dI) [(cI, .int), (cJ, .long)] [.ref h0, .int p0] sz [(h0, .inr (11, [.int th, .ref tB, .int tsz, .int tat, .int wr, .int dp, .ref rC, .ref rV, .ref rD, .ref rK, .ref rT, .ref rS, .ref rU, .int lw, .int tx, .ref rL, .ref rX, .ref qR, .ref qB, .ref qP, .int qnb, .int qnp, .ref aR, .ref aB, .ref aP, .int nb, .int np, .ref aN, .ref rf, .int ho, .int br, .ref aK, .int ac, .long dw, .ref aE, .int sr, .int sf, .ref aA, .ref aH, .ref aI, .int hi])), (aN, .inl (cI, 97, .inl fN))]) (va_Qi (fun (r : Int32) (u : Unit) => ((-1) ≤ r.toInt) ∧ (r.toInt ≤ 20) ∧ (∀ (kc : zK3) (kT : zT) (q_fR : Nat → Int32) (q_fBr : Nat → Int32) (q_fPa : Nat → Int32) (q_fKp : Nat → Int32) (q_frf : Nat → Int32), zCn q_fR q_fBr q_fPa nb.toInt np.toInt kc → zKo nb.toInt np.toInt kc kT → zTr nb.toInt np.toInt kT fN q_fKp ac q_frf → r = sV_see nb.toInt kT.1 p0)) (fun (_ : Unit) (_ : State) => True) (va_A [] sz)) 0 0 (va_A [] sz) := by
  refine Met.ofW (cc := cX11_seen) (maxL := 2) (ret := (some .int)) (by decide) rfl ?_
  intro p e s m args below meth c s₁ B hml hv
  obtain ⟨hargs, hsz, hP, hK, hT⟩ := hv
  have hx := B.exec
  have hb := B.bytes
  have hr := B.returns
  have hts : ∀ w ∈ wA, w.before args s = true := fun w h => atoms_spec (ws := .code yX11_seen cX11_seen 2 (some .int) :: wA) B.pre w (List.mem_cons_of_mem _ h)
  have hown : s.vm.findClass RX11 = some m.cls := findClass_of_methodNamed B.named
  have hlocks := B.notSynchronized
  subst hsz
  have hD : va_D (va_A [] s.heap.size) [] := zD0
  generalize hAe : va_A [] s.heap.size = A at hD ⊢
  have hA : ∀ q : Nat, s.heap.size ≤ q → A q := fun q h => by rw [← hAe]; exact Or.inr h
  have hl := lv_entry ([.ref h0, .int p0]) (n := 2) (Nat.le_of_ble_eq_true rfl)
  rw [show entryFrame m args 2 = entryFrame m ([.ref h0, .int p0] : List Value).toArray 2 by rw [hargs], lg_entry_eq]
  generalize (lg_sl ([.ref h0, .int p0]) ++ List.replicate (2 - (lg_sl ([.ref h0, .int p0])).length) Slot.unset).toArray = ls at hl ⊢
  have hl : lv_has ls 2 [(0, .ref h0), (1, .int p0)] := hl
  refine zstart (fun H hH => ?_)
  rw [← hH] at hP
  have hS : va_S A s.heap H [] := by rw [hH]; exact va_S.rf
  generalize ([] : List Loc) = locs at hS ⊢
  refine zgen (fun R Q hR hQ => ?_)
  refine lv_aload_n hx hb dX11_seen_0 rfl (lv_at hl 0 rfl) ?_
  refine lv_iload_n hx hb dX11_seen_1 rfl (lv_at hl 1 rfl) ?_
  have hPc := hP.sub (ws' := [(h0, .inr (11, [.int th, .ref tB, .int tsz, .int tat, .int wr, .int dp, .ref rC, .ref rV, .ref rD, .ref rK, .ref rT, .ref rS, .ref rU, .int lw, .int tx, .ref rL, .ref rX, .ref qR, .ref qB, .ref qP, .int qnb, .int qnp, .ref aR, .ref aB, .ref aP, .int nb, .int np, .ref aN, .ref rf, .int ho, .int br, .ref aK, .int ac, .long dw, .ref aE, .int sr, .int sf, .ref aA, .ref aH, .ref aI, .int hi]))]) [0] rfl
  have hDc := hT.sub (ws' := [(h0, .inr (11, [.int th, .ref tB, .int tsz, .int tat, .int wr, .int dp, .ref rC, .ref rV, .ref rD, .ref rK, .ref rT, .ref rS, .ref rU, .int lw, .int tx, .ref rL, .ref rX, .ref qR, .ref qB, .ref qP, .int qnb, .int qnp, .ref aR, .ref aB, .ref aP, .int nb, .int np, .ref aN, .ref rf, .int ho, .int br, .ref aK, .int ac, .long dw, .ref aE, .int sr, .int sf, .ref aA, .ref aH, .ref aI, .int hi]))]) [0] (by decide) rfl
  have hFc := zfr hS hA
  refine va_calli (va_runV (As := [.int p0]) (rest := []) ⟨hx, hb, hml, hown, hts⟩ (g_X11_isBride l dC dI cI cJ h0 p0 th tB tsz tat wr dp rC rV rD rK rT rS rU lw tx rL rX qR qB qP qnb qnp aR aB aP nb np aN rf ho br aK ac dw aE sr sf aA aH aI hi H.size n_ac n_hi n_ho n_lw n_nb n_np n_qnb n_qnp n_tat n_tsz n_wr) (cwV 1 hts (zgV qw1406 qw1408 qw56 qw108 qw1409) rfl rfl rfl hd_X11_isBride ⟨by rw [hR]; exact Nat.le_of_ble_eq_true rfl, by rw [hR]; exact Nat.le_of_ble_eq_true rfl⟩) (zPV hPc hK hDc (va_recv hK hP (ci := 11) (q0 := 0) rfl rfl)) rfl rfl hl.1 rfl (lv_room (Nat.le_of_ble_eq_true rfl)) dX11_seen_2 ⟨Nat.zero_le _, Nat.zero_le _⟩) hS (fun q _ h => hFc q h) hFc (fun v2 u2 t H locs ht hvm hw hB hz1 hk1 hS => ?_)
  have hP := zkeep hP hk1
  obtain ⟨f2_0, f2_1, f2_2, f2_3⟩ : (0 ≤ v2.toInt) ∧ (v2.toInt ≤ 1) ∧ (¬ v2.toInt = 0 → (0 ≤ p0.toInt ∧ p0.toInt < nb.toInt)) ∧ (v2.toInt = 0 → ¬ (0 ≤ p0.toInt ∧ p0.toInt < nb.toInt)) := hw
  refine lv_if_eq (tgt := 16) hx hb dX11_seen_5 (by decide) (fun c5 => ?_) (fun c5 => ?_)
  · have c5 : v2.toInt = 0 := z5 rfl (by decide) c5
    refine lv_iconst (v := (-1)) hx hb dX11_seen_16 (by decide) ?_
    have zr0 : ((-1) : Int32).toInt = (-1) := by decide
    rw [hQ]
    exact W.iret (v := ((-1))) hx hb hr (fun t ht hW => ⟨⟨(-1), (), rfl, ⟨by (try dsimp only); omega, by (try dsimp only); omega, by (try dsimp only); exact fun kc kT q_fR q_fBr q_fPa q_fKp q_frf hc hb h => by unfold sV_see; rw [if_neg (by omega)]; ⟩, trivial⟩, hS.F ht⟩) hS.2.2 dX11_seen_17
  · have c5 : ¬ v2.toInt = 0 := z6 rfl (by decide) c5
    refine lv_aload_n hx hb dX11_seen_8 rfl (lv_at hl 0 rfl) ?_
    refine lv_iload_n hx hb dX11_seen_9 rfl (lv_at hl 1 rfl) ?_
    have hPc := hP.sub (ws' := [(h0, .inr (11, [.int th, .ref tB, .int tsz, .int tat, .int wr, .int dp, .ref rC, .ref rV, .ref rD, .ref rK, .ref rT, .ref rS, .ref rU, .int lw, .int tx, .ref rL, .ref rX, .ref qR, .ref qB, .ref qP, .int qnb, .int qnp, .ref aR, .ref aB, .ref aP, .int nb, .int np, .ref aN, .ref rf, .int ho, .int br, .ref aK, .int ac, .long dw, .ref aE, .int sr, .int sf, .ref aA, .ref aH, .ref aI, .int hi])), (aN, .inl (cI, 97, .inl fN))]) [0, 1] rfl
    have hDc := hT.sub (ws' := [(h0, .inr (11, [.int th, .ref tB, .int tsz, .int tat, .int wr, .int dp, .ref rC, .ref rV, .ref rD, .ref rK, .ref rT, .ref rS, .ref rU, .int lw, .int tx, .ref rL, .ref rX, .ref qR, .ref qB, .ref qP, .int qnb, .int qnp, .ref aR, .ref aB, .ref aP, .int nb, .int np, .ref aN, .ref rf, .int ho, .int br, .ref aK, .int ac, .long dw, .ref aE, .int sr, .int sf, .ref aA, .ref aH, .ref aI, .int hi])), (aN, .inl (cI, 97, .inl fN))]) [0, 1] (by decide) rfl
    have hFc := zfr hS hA
    refine va_calli (va_runV (As := [.int p0]) (rest := []) ⟨hx, hb, hml, hown, hts⟩ (g_X11_seenOf l dC dI cI cJ h0 p0 th tB tsz tat wr dp rC rV rD rK rT rS rU lw tx rL rX qR qB qP qnb qnp aR aB aP nb np aN rf ho br aK ac dw aE sr sf aA aH aI hi fN H.size n_ac n_hi n_ho n_lw n_nb n_np n_qnb n_qnp n_tat n_tsz n_wr ci_fN_zNw_np) (cwV 1 hts (zgV qw1529 qw1531 qw71 qw108 qw1532) rfl rfl rfl hd_X11_seenOf ⟨by rw [hR]; exact Nat.le_of_ble_eq_true rfl, by rw [hR]; exact Nat.le_of_ble_eq_true rfl⟩) (zPV hPc hK hDc (va_recv hK hP (ci := 11) (q0 := 0) rfl rfl)) rfl rfl hl.1 rfl (lv_room (Nat.le_of_ble_eq_true rfl)) dX11_seen_10 ⟨Nat.zero_le _, Nat.zero_le _⟩) hS (fun q _ h => hFc q h) hFc (fun v10 u10 t H locs ht hvm hw hB hz1 hk1 hS => ?_)
    have hP := zkeep hP hk1
    obtain ⟨f10_0, f10_1, f10_2, f10_3⟩ : (0 ≤ v10.toInt) ∧ (v10.toInt ≤ 20) ∧ (v10.toInt = (zCt fN p0 (fN 16).toInt.toNat : Int)) ∧ (v10 = zCnt (fun i => fN (17 + i)) p0 (fN 16).toInt.toNat) := hw
    have F10 := f10_3
    refine lv_goto (tgt := 17) hx hb dX11_seen_13 (by decide) ?_
    rw [hQ]
    exact W.iret (v := v10) hx hb hr (fun t ht hW => ⟨⟨v10, (), rfl, ⟨by (try dsimp only); omega, by (try dsimp only); omega, by (try dsimp only); exact fun kc kT q_fR q_fBr q_fPa q_fKp q_frf hc hb h => by unfold sV_see; rw [if_pos (by omega)]; rw [zSr_pn h.1, ← zCnt_c (P := fun i => fN (17 + i)) (zSr_P h.1), ← F10]⟩, trivial⟩, hS.F ht⟩) hS.2.2 dX11_seen_17
set_option maxHeartbeats 4000000 in
set_option maxRecDepth 100000 in
theorem g_X11_saves (l : Launch) (dC : Nat → ClassId) (dI : Nat → Nat → Nat) (cI cJ : ClassId) (h0 : Nat) (p0 : Int32) (th : Int32) (tB : Nat) (tsz : Int32) (tat : Int32) (wr : Int32) (dp : Int32) (rC : Nat) (rV : Nat) (rD : Nat) (rK : Nat) (rT : Nat) (rS : Nat) (rU : Nat) (lw : Int32) (tx : Int32) (rL : Nat) (rX : Nat) (qR : Nat) (qB : Nat) (qP : Nat) (qnb : Int32) (qnp : Int32) (aR : Nat) (aB : Nat) (aP : Nat) (nb : Int32) (np : Int32) (aN : Nat) (rf : Nat) (ho : Int32) (br : Int32) (aK : Nat) (ac : Int32) (dw : Int64) (aE : Nat) (sr : Int32) (sf : Int32) (aA : Nat) (aH : Nat) (aI : Nat) (hi : Int32) (fN : Nat → Int32) (sz : Nat) (n_ac : 0 ≤ ac.toInt ∧ ac.toInt ≤ 40) (n_hi : 0 ≤ hi.toInt ∧ hi.toInt ≤ 1) (n_ho : (-1) ≤ ho.toInt ∧ ho.toInt ≤ 3) (n_lw : 0 ≤ lw.toInt ∧ lw.toInt ≤ 4) (n_nb : 0 ≤ nb.toInt ∧ nb.toInt ≤ 6) (n_np : 0 ≤ np.toInt ∧ np.toInt ≤ 5) (n_qnb : 0 ≤ qnb.toInt ∧ qnb.toInt ≤ 6) (n_qnp : 0 ≤ qnp.toInt ∧ qnp.toInt ≤ 5) (n_tat : 0 ≤ tat.toInt ∧ tat.toInt ≤ 260) (n_tsz : 0 ≤ tsz.toInt ∧ tsz.toInt ≤ 240) (n_wr : (-1) ≤ wr.toInt ∧ wr.toInt ≤ 260)  (ci_fN_zNw_np : zNw np fN)  : Met l yX11_saves (.code yX11_saves cX11_saves 2 (some .int) :: wA) ({ frames := 1, cells := 0, slots := 0, locals := 30 }) (zP (dC, dI) [(cI, .int), (cJ, .long)] [.ref h0, .int p0] sz [(h0, .inr (11, [.int th, .ref tB, .int tsz, .int tat, .int wr, .int dp, .ref rC, .ref rV, .ref rD, .ref rK, .ref rT, .ref rS, .ref rU, .int lw, .int tx, .ref rL, .ref rX, .ref qR, .ref qB, .ref qP, .int qnb, .int qnp, .ref aR, .ref aB, .ref aP, .int nb, .int np, .ref aN, .ref rf, .int ho, .int br, .ref aK, .int ac, .long dw, .ref aE, .int sr, .int sf, .ref aA, .ref aH, .ref aI, .int hi])), (aN, .inl (cI, 97, .inl fN))]) (va_Qi (fun (r : Int32) (u : Unit) => ((-1) ≤ r.toInt) ∧ (∀ (kc : zK3) (kT : zT) (q_fR : Nat → Int32) (q_fBr : Nat → Int32) (q_fPa : Nat → Int32) (q_fKp : Nat → Int32) (q_frf : Nat → Int32), zCn q_fR q_fBr q_fPa nb.toInt np.toInt kc → zKo nb.toInt np.toInt kc kT → zTr nb.toInt np.toInt kT fN q_fKp ac q_frf → r = sV_sav nb.toInt kT.1 p0)) (fun (_ : Unit) (_ : State) => True) (va_A [] sz)) 0 0 (va_A [] sz) := by
  refine Met.ofW (cc := cX11_saves) (maxL := 2) (ret := (some .int)) (by decide) rfl ?_
  intro p e s m args below meth c s₁ B hml hv
  obtain ⟨hargs, hsz, hP, hK, hT⟩ := hv
  have hx := B.exec
  have hb := B.bytes
  have hr := B.returns
  have hts : ∀ w ∈ wA, w.before args s = true := fun w h => atoms_spec (ws := .code yX11_saves cX11_saves 2 (some .int) :: wA) B.pre w (List.mem_cons_of_mem _ h)
  have hown : s.vm.findClass RX11 = some m.cls := findClass_of_methodNamed B.named
  have hlocks := B.notSynchronized
  subst hsz
  have hD : va_D (va_A [] s.heap.size) [] := zD0
  generalize hAe : va_A [] s.heap.size = A at hD ⊢
  have hA : ∀ q : Nat, s.heap.size ≤ q → A q := fun q h => by rw [← hAe]; exact Or.inr h
  have hl := lv_entry ([.ref h0, .int p0]) (n := 2) (Nat.le_of_ble_eq_true rfl)
  rw [show entryFrame m args 2 = entryFrame m ([.ref h0, .int p0] : List Value).toArray 2 by rw [hargs], lg_entry_eq]
  generalize (lg_sl ([.ref h0, .int p0]) ++ List.replicate (2 - (lg_sl ([.ref h0, .int p0])).length) Slot.unset).toArray = ls at hl ⊢
  have hl : lv_has ls 2 [(0, .ref h0), (1, .int p0)] := hl
  refine zstart (fun H hH => ?_)
  rw [← hH] at hP
  have hS : va_S A s.heap H [] := by rw [hH]; exact va_S.rf
  generalize ([] : List Loc) = locs at hS ⊢
  refine zgen (fun R Q hR hQ => ?_)
  refine lv_aload_n hx hb dX11_saves_0 rfl (lv_at hl 0 rfl) ?_
  refine va_get (D := (dC, dI)) (ci := 11) (v := .int nb) (C := RX11) (T := TX11) (N := 41) hx hb hts iX11 hown hK hP 0 rfl rfl 25 (by decide) (hts _ qw1152) (fun _ h9 => h9) rfl dX11_saves_1 ?_
  refine lv_if_le (tgt := 34) hx hb dX11_saves_4 (by decide) (fun c4 => ?_) (fun c4 => ?_)
  · have c4 : nb.toInt ≤ 0 := z3 rfl (by decide) c4
    refine lv_iconst (v := (-1)) hx hb dX11_saves_34 (by decide) ?_
    have zr0 : ((-1) : Int32).toInt = (-1) := by decide
    rw [hQ]
    exact W.iret (v := ((-1))) hx hb hr (fun t ht hW => ⟨⟨(-1), (), rfl, ⟨by (try dsimp only); omega, by (try dsimp only); exact fun kc kT q_fR q_fBr q_fPa q_fKp q_frf hc hb h => by unfold sV_sav; rw [if_neg (by omega)]; ⟩, trivial⟩, hS.F ht⟩) hS.2.2 dX11_saves_35
  · have c4 : 0 < nb.toInt := z4 rfl (by decide) c4
    refine lv_iload_n hx hb dX11_saves_7 rfl (lv_at hl 1 rfl) ?_
    refine lv_iconst (v := 1) hx hb dX11_saves_8 (by decide) ?_
    refine lv_sipush (v := 999) hx hb dX11_saves_9 (by decide) ?_
    have hPc : va_P (dC, dI) vwCl [] H := zP0
    have hDc : va_D (fun _ => True) [] := zD0
    have hFc := zfr hS hA
    refine va_calli (va_runS (As := [.int p0, .int 1, .int 999]) (rest := []) ⟨hx, hb, hml, hown, hts⟩ (g_X11_in l dC dI cI cJ p0 1 999 H.size) (cwS 3 hts (zgS qw1309 qw1310 qw108 qw1311) rfl rfl rfl hd_X11_in ⟨by rw [hR]; exact Nat.le_of_ble_eq_true rfl, by rw [hR]; exact Nat.le_of_ble_eq_true rfl⟩) (zPS hPc hK hDc) rfl rfl hl.1 rfl (lv_room (Nat.le_of_ble_eq_true rfl)) dX11_saves_12 ⟨Nat.zero_le _, Nat.zero_le _⟩) hS (fun q _ h => hFc q h) hFc (fun v12 u12 t H locs ht hvm hw hB hz1 hk1 hS => ?_)
    have hP := zkeep hP hk1
    have zn12_1 : (1 : Int32).toInt = 1 := by decide
    have zn12_999 : (999 : Int32).toInt = 999 := by decide
    obtain ⟨f12_0, f12_1, f12_2, f12_3⟩ : (0 ≤ v12.toInt) ∧ (v12.toInt ≤ 1) ∧ (¬ v12.toInt = 0 → ((1 : Int32).toInt ≤ p0.toInt ∧ p0.toInt ≤ (999 : Int32).toInt)) ∧ (v12.toInt = 0 → (p0.toInt < (1 : Int32).toInt ∨ (999 : Int32).toInt < p0.toInt)) := hw
    refine lv_if_eq (tgt := 34) hx hb dX11_saves_15 (by decide) (fun c15 => ?_) (fun c15 => ?_)
    · have c15 : v12.toInt = 0 := z5 rfl (by decide) c15
      refine lv_iconst (v := (-1)) hx hb dX11_saves_34 (by decide) ?_
      have zr0 : ((-1) : Int32).toInt = (-1) := by decide
      rw [hQ]
      exact W.iret (v := ((-1))) hx hb hr (fun t ht hW => ⟨⟨(-1), (), rfl, ⟨by (try dsimp only); omega, by (try dsimp only); exact fun kc kT q_fR q_fBr q_fPa q_fKp q_frf hc hb h => by unfold sV_sav; rw [if_neg (by omega)]; ⟩, trivial⟩, hS.F ht⟩) hS.2.2 dX11_saves_35
    · have c15 : ¬ v12.toInt = 0 := z6 rfl (by decide) c15
      refine lv_iconst (v := 0) hx hb dX11_saves_18 (by decide) ?_
      refine lv_iload_n hx hb dX11_saves_19 rfl (lv_at hl 1 rfl) ?_
      refine lv_aload_n hx hb dX11_saves_20 rfl (lv_at hl 0 rfl) ?_
      refine va_get (D := (dC, dI)) (ci := 11) (v := .ref aN) (C := RX11) (T := TX11) (N := 41) hx hb hts iX11 hown hK hP 0 rfl rfl 27 (by decide) (hts _ qw1154) (fun _ h9 => h9) rfl dX11_saves_21 ?_
      refine lv_bipush (v := 14) hx hb dX11_saves_24 (by decide) ?_
      refine va_iald hx hb hK hP 1 0 rfl rfl (by unfold vp_in; decide) dX11_saves_26 ?_
      refine lv_topi (fun v26 e26 => ?_)
      refine lv_isub hx hb dX11_saves_27 ?_
      refine lv_topi (fun v27 e27 => ?_)
      refine va_mmax hx hb (by rw [hml]; exact hl.1.symm) hown (hts _ qw1434) (hts _ qw634) (hts _ qw112) (hts _ qw635) (by rw [hR]; exact Nat.le_of_ble_eq_true rfl) (by rw [hR]; exact Nat.le_of_ble_eq_true rfl) (Nat.zero_le _) (Nat.zero_le _) dX11_saves_28 ?_
      refine lv_topi (fun v28 e28 => ?_)
      have zc28_0 : (0 : Int32).toInt = 0 := by decide
      have i28 := zmmax e28
      refine lv_goto (tgt := 35) hx hb dX11_saves_31 (by decide) ?_
      rw [hQ]
      exact W.iret (v := v28) hx hb hr (fun t ht hW => ⟨⟨v28, (), rfl, ⟨by (try dsimp only); omega, by (try dsimp only); exact fun kc kT q_fR q_fBr q_fPa q_fKp q_frf hc hb h => by have y26 : v26 = kT.1.2.2.2.1.1 := (zIxN (n := 14) e26 (by decide)).trans (zSr_pu h.1).symm; unfold sV_sav; rw [if_pos (by omega)]; rw [← y26, ← e27]; exact e28⟩, trivial⟩, hS.F ht⟩) hS.2.2 dX11_saves_35
