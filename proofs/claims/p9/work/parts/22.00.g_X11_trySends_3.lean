set_option maxHeartbeats 4000000 in
set_option maxRecDepth 100000 in
theorem g_X11_decades (l : Launch) (dC : Nat → ClassId) (dI : Nat → Nat → Nat) (cI cJ : ClassId) (h0 : Nat) (p0 : Int32) (p1 : Int64) (th : Int32) (tB : Nat) (tsz : Int32) (tat : Int32) (wr : Int32) (dp : Int32) (rC : Nat) (rV : Nat) (rD : Nat) (rK : Nat) (rT : Nat) (rS : Nat) (rU : Nat) (lw : Int32) (tx : Int32) (rL : Nat) (rX : Nat) (qR : Nat) (qB : Nat) (qP : Nat) (qnb : Int32) (qnp : Int32) (aR : Nat) (aB : Nat) (aP : Nat) (nb : Int32) (np : Int32) (aN : Nat) (rf : Nat) (ho : Int32) (br : Int32) (aK : Nat) (ac : Int32) (dw : Int64) (aE : Nat) (sr : Int32) (sf : Int32) (aA : Nat) (aH : Nat) (aI : Nat) (hi : Int32) (fC : Nat → Int32) (fV : Nat → Int32) (fK : Nat → Int32) (fT : Nat → Int32) (fS : Nat → Int32) (fU : Nat → Int32) (fL : Nat → Int32) (fX : Nat → Int32) (fBr : Nat → Int32) (fPa : Nat → Int32) (fN : Nat → Int32) (fKp : Nat → Int32) (sz : Nat) (n_ac : 0 ≤ ac.toInt ∧ ac.toInt ≤ 40) (n_hi : 0 ≤ hi.toInt ∧ hi.toInt ≤ 1) (n_ho : (-1) ≤ ho.toInt ∧ ho.toInt ≤ 3) (n_lw : 0 ≤ lw.toInt ∧ lw.toInt ≤ 4) (n_nb : 0 ≤ nb.toInt ∧ nb.toInt ≤ 6) (n_np : 0 ≤ np.toInt ∧ np.toInt ≤ 5) (n_qnb : 0 ≤ qnb.toInt ∧ qnb.toInt ≤ 6) (n_qnp : 0 ≤ qnp.toInt ∧ qnp.toInt ≤ 5) (n_tat : 0 ≤ tat.toInt ∧ tat.toInt ≤ 260) (n_tsz : 0 ≤ tsz.toInt ∧ tsz.toInt ≤ 240) (n_wr : (-1) ≤ wr.toInt ∧ wr.toInt ≤ 260) (hls : zLs ho fC fV fK fT fS fU) (hnp : nb.toInt = 0 ∨ 1 ≤ np.toInt) (ci_fBr_zBr_nb : zBr nb fBr) (ci_fKp_zKp_np__F_h0_32_ : zKp np ac fKp) (ci_fN_zNw_np : zNw np fN) (ci_fPa_zBr_np : zBr np fPa)  : Met l yX11_decades (.code yX11_decades cX11_decades 5 (some .int) :: wA) ({ frames := 9, cells := 0, slots := 0, locals := 218 }) (zP (dC, dI) [(cI, .int), (cJ, .long)] [.ref h0, .int p0, .long p1] sz [(h0, .inr (11, [.int th, .ref tB, .int tsz, .int tat, .int wr, .int dp, .ref rC, .ref rV, .ref rD, .ref rK, .ref rT, .ref rS, .ref rU, .int lw, .int tx, .ref rL, .ref rX, .ref qR, .ref qB, .ref qP, .int qnb, .int qnp, .ref aR, .ref aB, .ref aP, .int nb, .int np, .ref aN, .ref rf, .int ho, .int br, .ref aK, .int ac, .long dw, .ref aE, .int sr, .int sf, .ref aA, .ref aH, .ref aI, .int hi])), (rC, .inl (cI, 2600, .inl fC)), (rV, .inl (cI, 2600, .inl fV)), (rK, .inl (cI, 5, .inl fK)), (rT, .inl (cI, 700, .inl fT)), (rS, .inl (cI, 700, .inl fS)), (rU, .inl (cI, 700, .inl fU)), (rL, .inl (cI, 6, .inl fL)), (rX, .inl (cI, 80, .inl fX)), (aB, .inl (cI, 24, .inl fBr)), (aP, .inl (cI, 20, .inl fPa)), (aN, .inl (cI, 97, .inl fN)), (aK, .inl (cI, 3880, .inl fKp))]) (va_Qi (fun (r : Int32) (u : Int32 × Int64 × (Nat → Int32) × (Nat → Int32) × (Nat → Int32) × (Nat → Int32)) => (0 ≤ u.1.toInt) ∧ (u.1.toInt ≤ 40) ∧ (∀ (kc : zK3) (kT : zT) (q_fR : Nat → Int32) (q_frf : Nat → Int32) (kl : Option ((Int → Int) × Int)), zCn q_fR fBr fPa nb.toInt np.toInt kc → zKo nb.toInt np.toInt kc kT → zTr nb.toInt np.toInt kT fN fKp ac q_frf → zLwR ho fC fV fK fT fS fU kl → r = sV_dec nb np br kc kl kT p0 p1 ∧ zTr nb.toInt np.toInt (sT_dec nb np br kc kl kT p0 p1) u.2.2.2.2.1 u.2.2.2.2.2 u.1 q_frf) ∧ (zKp np u.1 u.2.2.2.2.2) ∧ (zNw np u.2.2.2.2.1)) (fun (u : Int32 × Int64 × (Nat → Int32) × (Nat → Int32) × (Nat → Int32) × (Nat → Int32)) (t : State) => va_P (dC, dI) vwCl [(h0, .inr (11, [.int th, .ref tB, .int tsz, .int tat, .int wr, .int dp, .ref rC, .ref rV, .ref rD, .ref rK, .ref rT, .ref rS, .ref rU, .int lw, .int tx, .ref rL, .ref rX, .ref qR, .ref qB, .ref qP, .int qnb, .int qnp, .ref aR, .ref aB, .ref aP, .int nb, .int np, .ref aN, .ref rf, .int ho, .int br, .ref aK, .int u.1, .long u.2.1, .ref aE, .int sr, .int sf, .ref aA, .ref aH, .ref aI, .int hi])), (rC, .inl (cI, 2600, .inl fC)), (rV, .inl (cI, 2600, .inl fV)), (rK, .inl (cI, 5, .inl fK)), (rT, .inl (cI, 700, .inl fT)), (rS, .inl (cI, 700, .inl fS)), (rU, .inl (cI, 700, .inl fU)), (rL, .inl (cI, 6, .inl u.2.2.1)), (rX, .inl (cI, 80, .inl u.2.2.2.1)), (aB, .inl (cI, 24, .inl fBr)), (aP, .inl (cI, 20, .inl fPa)), (aN, .inl (cI, 97, .inl u.2.2.2.2.1)), (aK, .inl (cI, 3880, .inl u.2.2.2.2.2))] t.heap ∧ va_D (va_A [(h0, .inr (11, [.int th, .ref tB, .int tsz, .int tat, .int wr, .int dp, .ref rC, .ref rV, .ref rD, .ref rK, .ref rT, .ref rS, .ref rU, .int lw, .int tx, .ref rL, .ref rX, .ref qR, .ref qB, .ref qP, .int qnb, .int qnp, .ref aR, .ref aB, .ref aP, .int nb, .int np, .ref aN, .ref rf, .int ho, .int br, .ref aK, .int ac, .long dw, .ref aE, .int sr, .int sf, .ref aA, .ref aH, .ref aI, .int hi])), (rC, .inl (cI, 2600, .inl fC)), (rV, .inl (cI, 2600, .inl fV)), (rK, .inl (cI, 5, .inl fK)), (rT, .inl (cI, 700, .inl fT)), (rS, .inl (cI, 700, .inl fS)), (rU, .inl (cI, 700, .inl fU)), (rL, .inl (cI, 6, .inl fL)), (rX, .inl (cI, 80, .inl fX)), (aB, .inl (cI, 24, .inl fBr)), (aP, .inl (cI, 20, .inl fPa)), (aN, .inl (cI, 97, .inl fN)), (aK, .inl (cI, 3880, .inl fKp))] sz) [(h0, .inr (11, [.int th, .ref tB, .int tsz, .int tat, .int wr, .int dp, .ref rC, .ref rV, .ref rD, .ref rK, .ref rT, .ref rS, .ref rU, .int lw, .int tx, .ref rL, .ref rX, .ref qR, .ref qB, .ref qP, .int qnb, .int qnp, .ref aR, .ref aB, .ref aP, .int nb, .int np, .ref aN, .ref rf, .int ho, .int br, .ref aK, .int u.1, .long u.2.1, .ref aE, .int sr, .int sf, .ref aA, .ref aH, .ref aI, .int hi])), (rC, .inl (cI, 2600, .inl fC)), (rV, .inl (cI, 2600, .inl fV)), (rK, .inl (cI, 5, .inl fK)), (rT, .inl (cI, 700, .inl fT)), (rS, .inl (cI, 700, .inl fS)), (rU, .inl (cI, 700, .inl fU)), (rL, .inl (cI, 6, .inl u.2.2.1)), (rX, .inl (cI, 80, .inl u.2.2.2.1)), (aB, .inl (cI, 24, .inl fBr)), (aP, .inl (cI, 20, .inl fPa)), (aN, .inl (cI, 97, .inl u.2.2.2.2.1)), (aK, .inl (cI, 3880, .inl u.2.2.2.2.2))]) (va_A [(h0, .inr (11, [.int th, .ref tB, .int tsz, .int tat, .int wr, .int dp, .ref rC, .ref rV, .ref rD, .ref rK, .ref rT, .ref rS, .ref rU, .int lw, .int tx, .ref rL, .ref rX, .ref qR, .ref qB, .ref qP, .int qnb, .int qnp, .ref aR, .ref aB, .ref aP, .int nb, .int np, .ref aN, .ref rf, .int ho, .int br, .ref aK, .int ac, .long dw, .ref aE, .int sr, .int sf, .ref aA, .ref aH, .ref aI, .int hi])), (rC, .inl (cI, 2600, .inl fC)), (rV, .inl (cI, 2600, .inl fV)), (rK, .inl (cI, 5, .inl fK)), (rT, .inl (cI, 700, .inl fT)), (rS, .inl (cI, 700, .inl fS)), (rU, .inl (cI, 700, .inl fU)), (rL, .inl (cI, 6, .inl fL)), (rX, .inl (cI, 80, .inl fX)), (aB, .inl (cI, 24, .inl fBr)), (aP, .inl (cI, 20, .inl fPa)), (aN, .inl (cI, 97, .inl fN)), (aK, .inl (cI, 3880, .inl fKp))] sz)) 0 0 (va_A [(h0, .inr (11, [.int th, .ref tB, .int tsz, .int tat, .int wr, .int dp, .ref rC, .ref rV, .ref rD, .ref rK, .ref rT, .ref rS, .ref rU, .int lw, .int tx, .ref rL, .ref rX, .ref qR, .ref qB, .ref qP, .int qnb, .int qnp, .ref aR, .ref aB, .ref aP, .int nb, .int np, .ref aN, .ref rf, .int ho, .int br, .ref aK, .int ac, .long dw, .ref aE, .int sr, .int sf, .ref aA, .ref aH, .ref aI, .int hi])), (rC, .inl (cI, 2600, .inl fC)), (rV, .inl (cI, 2600, .inl fV)), (rK, .inl (cI, 5, .inl fK)), (rT, .inl (cI, 700, .inl fT)), (rS, .inl (cI, 700, .inl fS)), (rU, .inl (cI, 700, .inl fU)), (rL, .inl (cI, 6, .inl fL)), (rX, .inl (cI, 80, .inl fX)), (aB, .inl (cI, 24, .inl fBr)), (aP, .inl (cI, 20, .inl fPa)), (aN, .inl (cI, 97, .inl fN)), (aK, .inl (cI, 3880, .inl fKp))] sz) := by
  refine Met.ofW (cc := cX11_decades) (maxL := 5) (ret := (some .int)) (by decide) rfl ?_
  intro p e s m args below meth c s₁ B hml hv
  have y_hi : zHid (0 ≤ hi.toInt ∧ hi.toInt ≤ 1) := n_hi
  have y_ho : zHid ((-1) ≤ ho.toInt ∧ ho.toInt ≤ 3) := n_ho
  have y_lw : zHid (0 ≤ lw.toInt ∧ lw.toInt ≤ 4) := n_lw
  have y_qnb : zHid (0 ≤ qnb.toInt ∧ qnb.toInt ≤ 6) := n_qnb
  have y_qnp : zHid (0 ≤ qnp.toInt ∧ qnp.toInt ≤ 5) := n_qnp
  have y_tat : zHid (0 ≤ tat.toInt ∧ tat.toInt ≤ 260) := n_tat
  have y_tsz : zHid (0 ≤ tsz.toInt ∧ tsz.toInt ≤ 240) := n_tsz
  have y_wr : zHid ((-1) ≤ wr.toInt ∧ wr.toInt ≤ 260) := n_wr
  clear n_hi n_ho n_lw n_qnb n_qnp n_tat n_tsz n_wr
  obtain ⟨hargs, hsz, hP, hK, hT⟩ := hv
  have hx := B.exec
  have hb := B.bytes
  have hr := B.returns
  have hts : ∀ w ∈ wA, w.before args s = true := fun w h => atoms_spec (ws := .code yX11_decades cX11_decades 5 (some .int) :: wA) B.pre w (List.mem_cons_of_mem _ h)
  have hown : s.vm.findClass RX11 = some m.cls := findClass_of_methodNamed B.named
  have hlocks := B.notSynchronized
  subst hsz
  have hD := hT.self (sz := s.heap.size)
  generalize hAe : va_A [(h0, .inr (11, [.int th, .ref tB, .int tsz, .int tat, .int wr, .int dp, .ref rC, .ref rV, .ref rD, .ref rK, .ref rT, .ref rS, .ref rU, .int lw, .int tx, .ref rL, .ref rX, .ref qR, .ref qB, .ref qP, .int qnb, .int qnp, .ref aR, .ref aB, .ref aP, .int nb, .int np, .ref aN, .ref rf, .int ho, .int br, .ref aK, .int ac, .long dw, .ref aE, .int sr, .int sf, .ref aA, .ref aH, .ref aI, .int hi])), (rC, .inl (cI, 2600, .inl fC)), (rV, .inl (cI, 2600, .inl fV)), (rK, .inl (cI, 5, .inl fK)), (rT, .inl (cI, 700, .inl fT)), (rS, .inl (cI, 700, .inl fS)), (rU, .inl (cI, 700, .inl fU)), (rL, .inl (cI, 6, .inl fL)), (rX, .inl (cI, 80, .inl fX)), (aB, .inl (cI, 24, .inl fBr)), (aP, .inl (cI, 20, .inl fPa)), (aN, .inl (cI, 97, .inl fN)), (aK, .inl (cI, 3880, .inl fKp))] s.heap.size = A at hD ⊢
  have hA : ∀ q : Nat, s.heap.size ≤ q → A q := fun q h => by rw [← hAe]; exact Or.inr h
  have hl := lv_entry ([.ref h0, .int p0, .long p1]) (n := 5) (Nat.le_of_ble_eq_true rfl)
  rw [show entryFrame m args 5 = entryFrame m ([.ref h0, .int p0, .long p1] : List Value).toArray 5 by rw [hargs], lg_entry_eq]
  generalize (lg_sl ([.ref h0, .int p0, .long p1]) ++ List.replicate (5 - (lg_sl ([.ref h0, .int p0, .long p1])).length) Slot.unset).toArray = ls at hl ⊢
  have hl : lv_has ls 5 [(0, .ref h0), (1, .int p0), (2, .long p1)] := hl
  refine zstart (fun H hH => ?_)
  rw [← hH] at hP
  have hS : va_S A s.heap H [] := by rw [hH]; exact va_S.rf
  generalize ([] : List Loc) = locs at hS ⊢
  refine zgen (fun R Q hR hQ => ?_)
  refine lv_aload_n hx hb dX11_decades_0 rfl (lv_at hl 0 rfl) ?_
  refine va_get (D := (dC, dI)) (ci := 11) (v := .int nb) (C := RX11) (T := TX11) (N := 41) hx hb hts iX11 hown hK hP 0 rfl rfl 25 (by decide) (hts _ qw1152) (fun _ h9 => h9) rfl dX11_decades_1 ?_
  refine lv_if_eq (tgt := 15) hx hb dX11_decades_4 (by decide) (fun c4 => ?_) (fun c4 => ?_)
  · have c4 : nb.toInt = 0 := z5 rfl (by decide) c4
    refine lv_iconst (v := (-1)) hx hb dX11_decades_15 (by decide) ?_
    have zr0 : ((-1) : Int32).toInt = (-1) := by decide
    rw [hQ]
    exact W.iret (v := ((-1))) hx hb hr (fun t ht hW => ⟨⟨(-1), (ac, dw, fL, fX, fN, fKp), rfl, ⟨by (try dsimp only); omega, by (try dsimp only); omega, by (try dsimp only); exact fun kc kT q_fR q_frf kl hc hb h hL => by have zm := congrArg Int32.toInt (zSr_mo h.1); unfold sV_dec sT_dec; rw [if_neg (by unfold sQ_dec; rw [zSr_mo h.1]; omega), if_neg (by unfold sQ_dec; rw [zSr_mo h.1]; omega)]; exact ⟨rfl, h⟩, ci_fKp_zKp_np__F_h0_32_, ci_fN_zNw_np⟩, ⟨by rw [ht]; exact hP, hD⟩⟩, hS.F ht⟩) hS.2.2 dX11_decades_16
  · have c4 : ¬ nb.toInt = 0 := z6 rfl (by decide) c4
    refine lv_aload_n hx hb dX11_decades_7 rfl (lv_at hl 0 rfl) ?_
    refine lv_iload_n hx hb dX11_decades_8 rfl (lv_at hl 1 rfl) ?_
    obtain ⟨hPc, hDc⟩ := zc2 (wc := [(h0, .inr (11, [.int th, .ref tB, .int tsz, .int tat, .int wr, .int dp, .ref rC, .ref rV, .ref rD, .ref rK, .ref rT, .ref rS, .ref rU, .int lw, .int tx, .ref rL, .ref rX, .ref qR, .ref qB, .ref qP, .int qnb, .int qnp, .ref aR, .ref aB, .ref aP, .int nb, .int np, .ref aN, .ref rf, .int ho, .int br, .ref aK, .int ac, .long dw, .ref aE, .int sr, .int sf, .ref aA, .ref aH, .ref aI, .int hi])), (aN, .inl (cI, 97, .inl fN))]) hP hD [0, 11] (by decide +kernel) rfl
    have hFc := zfr hS hA
    refine va_calli (va_runV (As := [.int p0]) (rest := []) ⟨hx, hb, hml, hown, hts⟩ (g_X11_areMonths l dC dI cI cJ h0 p0 th tB tsz tat wr dp rC rV rD rK rT rS rU lw tx rL rX qR qB qP qnb qnp aR aB aP nb np aN rf ho br aK ac dw aE sr sf aA aH aI hi fN H.size n_ac y_hi y_ho y_lw n_nb n_np y_qnb y_qnp y_tat y_tsz y_wr ci_fN_zNw_np) (cwV 1 hts (zgV qw1533 qw1535 qw72 qw108 qw1536) rfl rfl rfl hd_X11_areMonths ⟨by rw [hR]; exact Nat.le_of_ble_eq_true rfl, by rw [hR]; exact Nat.le_of_ble_eq_true rfl⟩) (zPV hPc hK hDc (va_recv (q := (RX11, TX11, 41)) hK hP (ci := 11) (q0 := 0) rfl rfl)) rfl rfl hl.1 rfl (lv_room (Nat.le_of_ble_eq_true rfl)) dX11_decades_9 ⟨Nat.zero_le _, Nat.zero_le _⟩) hS (fun q _ h => hFc q h) hFc (fun v9 u9 t H locs ht hvm hw hB hz1 hk1 hS9 => ?_)
    replace hP := zkeep hP hk1
    replace hS := hS9
    clear hPc hDc hFc hk1 hz1 hvm hS9
    obtain ⟨f9_0, f9_1, f9_2, f9_3⟩ : (0 ≤ v9.toInt) ∧ (v9.toInt ≤ 1) ∧ (¬ v9.toInt = 0 → (1 ≤ p0.toInt ∧ p0.toInt ≤ 60)) ∧ ((v9.toInt = 1 ∧ 1 ≤ p0.toInt ∧ p0.toInt ≤ 60 ∧ (fN 15 + p0).toInt ≤ 999) ∨ (v9.toInt = 0 ∧ (¬ (1 ≤ p0.toInt ∧ p0.toInt ≤ 60) ∨ 999 < (fN 15 + p0).toInt))) := hw
    have F9 := f9_3
    refine lv_if_ne (tgt := 17) hx hb dX11_decades_12 (by decide) (fun c12 => ?_) (fun c12 => ?_)
    · have c12 : ¬ v9.toInt = 0 := z6 rfl (by decide) c12
      have q17 : 1 ≤ np.toInt := by omega
      refine lv_aload_n hx hb dX11_decades_17 rfl (lv_at hl 0 rfl) ?_
      refine lv_lload_n hx hb dX11_decades_18 rfl (lv_at hl 2 rfl) ?_
      refine va_put (D := (dC, dI)) (ci := 11) (v := .long p1) (ty := .long) (C := RX11) (T := TX11) (N := 41) hx hb hts iX11 tyX11 tyX11_ok nmX11 hown hK hP hD hS 0 rfl rfl 33 (by decide) (hts _ qw1160) (fun _ h9 => h9) rfl (by decide +kernel) rfl rfl (Nat.le_of_ble_eq_true rfl) dX11_decades_19 (fun H locs hP9 hD9 hS9 => ?_)
      clear hP hD hS
      obtain ⟨hP, hD⟩ := zst (wX := [(h0, .inr (11, [.int th, .ref tB, .int tsz, .int tat, .int wr, .int dp, .ref rC, .ref rV, .ref rD, .ref rK, .ref rT, .ref rS, .ref rU, .int lw, .int tx, .ref rL, .ref rX, .ref qR, .ref qB, .ref qP, .int qnb, .int qnp, .ref aR, .ref aB, .ref aP, .int nb, .int np, .ref aN, .ref rf, .int ho, .int br, .ref aK, .int ac, .long p1, .ref aE, .int sr, .int sf, .ref aA, .ref aH, .ref aI, .int hi])), (rC, .inl (cI, 2600, .inl fC)), (rV, .inl (cI, 2600, .inl fV)), (rK, .inl (cI, 5, .inl fK)), (rT, .inl (cI, 700, .inl fT)), (rS, .inl (cI, 700, .inl fS)), (rU, .inl (cI, 700, .inl fU)), (rL, .inl (cI, 6, .inl fL)), (rX, .inl (cI, 80, .inl fX)), (aB, .inl (cI, 24, .inl fBr)), (aP, .inl (cI, 20, .inl fPa)), (aN, .inl (cI, 97, .inl fN)), (aK, .inl (cI, 3880, .inl fKp))]) hP9 hD9 rfl
      have hS := hS9
      clear hP9 hD9 hS9
      refine lv_iconst (v := 0) hx hb dX11_decades_22 (by decide) ?_
      have J25 : ∀ (n : Nat) (m25_A_aK : Nat → Int32) (m25_A_aN : Nat → Int32) (m25_A_rL : Nat → Int32) (m25_A_rX : Nat → Int32) (m25_F_h0_32 : Int32) (m25_F_h0_33 : Int64) (m25_L_4 : Int32), (0 ≤ m25_F_h0_32.toInt ∧ m25_F_h0_32.toInt ≤ 40) → (0 ≤ m25_L_4.toInt ∧ m25_L_4.toInt ≤ 60) → (∀ (kc : zK3) (kT : zT) (q_fR : Nat → Int32) (q_frf : Nat → Int32) (kl : Option ((Int → Int) × Int)), zCn q_fR fBr fPa nb.toInt np.toInt kc → zKo nb.toInt np.toInt kc kT → zTr nb.toInt np.toInt kT fN fKp ac q_frf → zLwR ho fC fV fK fT fS fU kl → zTr nb.toInt np.toInt (sDec nb np br kc kl kT p1 m25_L_4.toInt.toNat).1 m25_A_aN m25_A_aK m25_F_h0_32 q_frf ∧ m25_F_h0_33 = (sDec nb np br kc kl kT p1 m25_L_4.toInt.toNat).2) → (m25_L_4.toInt ≤ p0.toInt) → (zKp np m25_F_h0_32 m25_A_aK) → (zNw np m25_A_aN) → (61 - m25_L_4.toInt).toNat = n → ∀ (H : Heap) (locs : List Loc) (ls : Array Slot), va_P (dC, dI) vwCl [(h0, .inr (11, [.int th, .ref tB, .int tsz, .int tat, .int wr, .int dp, .ref rC, .ref rV, .ref rD, .ref rK, .ref rT, .ref rS, .ref rU, .int lw, .int tx, .ref rL, .ref rX, .ref qR, .ref qB, .ref qP, .int qnb, .int qnp, .ref aR, .ref aB, .ref aP, .int nb, .int np, .ref aN, .ref rf, .int ho, .int br, .ref aK, .int m25_F_h0_32, .long m25_F_h0_33, .ref aE, .int sr, .int sf, .ref aA, .ref aH, .ref aI, .int hi])), (rC, .inl (cI, 2600, .inl fC)), (rV, .inl (cI, 2600, .inl fV)), (rK, .inl (cI, 5, .inl fK)), (rT, .inl (cI, 700, .inl fT)), (rS, .inl (cI, 700, .inl fS)), (rU, .inl (cI, 700, .inl fU)), (rL, .inl (cI, 6, .inl m25_A_rL)), (rX, .inl (cI, 80, .inl m25_A_rX)), (aB, .inl (cI, 24, .inl fBr)), (aP, .inl (cI, 20, .inl fPa)), (aN, .inl (cI, 97, .inl m25_A_aN)), (aK, .inl (cI, 3880, .inl m25_A_aK))] H → va_D A [(h0, .inr (11, [.int th, .ref tB, .int tsz, .int tat, .int wr, .int dp, .ref rC, .ref rV, .ref rD, .ref rK, .ref rT, .ref rS, .ref rU, .int lw, .int tx, .ref rL, .ref rX, .ref qR, .ref qB, .ref qP, .int qnb, .int qnp, .ref aR, .ref aB, .ref aP, .int nb, .int np, .ref aN, .ref rf, .int ho, .int br, .ref aK, .int m25_F_h0_32, .long m25_F_h0_33, .ref aE, .int sr, .int sf, .ref aA, .ref aH, .ref aI, .int hi])), (rC, .inl (cI, 2600, .inl fC)), (rV, .inl (cI, 2600, .inl fV)), (rK, .inl (cI, 5, .inl fK)), (rT, .inl (cI, 700, .inl fT)), (rS, .inl (cI, 700, .inl fS)), (rU, .inl (cI, 700, .inl fU)), (rL, .inl (cI, 6, .inl m25_A_rL)), (rX, .inl (cI, 80, .inl m25_A_rX)), (aB, .inl (cI, 24, .inl fBr)), (aP, .inl (cI, 20, .inl fPa)), (aN, .inl (cI, 97, .inl m25_A_aN)), (aK, .inl (cI, 3880, .inl m25_A_aK))] → va_S A s.heap H locs → lv_has ls 5 [(4, .int m25_L_4), (0, .ref h0), (1, .int p0), (2, .long p1)] → W p l e R s m args below meth c H locs 0 0 Q (F0 m 25 ls []) := by
        intro n25
        induction n25 using Nat.strongRecOn with
        | _ n25 ih25 =>
          intro m25_A_aK m25_A_aN m25_A_rL m25_A_rX m25_F_h0_32 m25_F_h0_33 m25_L_4 jf25_0 jf25_1 jv25_0 jf25_3 jf25_4 jf25_5 hmu25 H locs ls hP hD hS hl
          refine lv_iload hx hb dX11_decades_25 (lv_at hl 0 rfl) ?_
          refine lv_iload_n hx hb dX11_decades_27 rfl (lv_at hl 2 rfl) ?_
          refine lv_icmp_ge (tgt := 49) hx hb dX11_decades_28 (by decide) (fun c28 => ?_) (fun c28 => ?_)
          · have c28 : p0.toInt ≤ m25_L_4.toInt := z3 rfl rfl c28
            refine lv_aload_n hx hb dX11_decades_49 rfl (lv_at hl 1 rfl) ?_
            refine va_get (D := (dC, dI)) (ci := 11) (v := .ref aN) (C := RX11) (T := TX11) (N := 41) hx hb hts iX11 hown hK hP 0 rfl rfl 27 (by decide) (hts _ qw1154) (fun _ h9 => h9) rfl dX11_decades_50 ?_
            refine lv_bipush (v := 15) hx hb dX11_decades_53 (by decide) ?_
            refine va_iald hx hb hK hP 11 0 rfl rfl (by unfold vp_in; decide) dX11_decades_55 ?_
            refine lv_topi (fun v55 e55 => ?_)
            rw [hQ]
            exact W.iret (v := v55) hx hb hr (fun t ht hW => ⟨⟨v55, (m25_F_h0_32, m25_F_h0_33, m25_A_rL, m25_A_rX, m25_A_aN, m25_A_aK), rfl, ⟨by (try dsimp only); omega, by (try dsimp only); omega, by (try dsimp only); exact fun kc kT q_fR q_frf kl hc hb h hL => by have zm := congrArg Int32.toInt (zSr_mo h.1); rcases F9 with z | z; rotate_left; (exfalso; omega); have q : sQ_dec nb.toInt kT.1 p0 := (by unfold sQ_dec; rw [zSr_mo h.1]; omega); have a := jv25_0 kc kT _ _ kl hc hb h hL; rw [show m25_L_4.toInt.toNat = p0.toInt.toNat by omega] at a; unfold sV_dec sT_dec; rw [if_pos q, if_pos q]; exact ⟨(zIxN (n := 15) e55 (by decide)).trans (zSr_mo a.1.1).symm, a.1⟩, jf25_4, jf25_5⟩, ⟨by rw [ht]; exact hP, hD⟩⟩, hS.F ht⟩) hS.2.2 dX11_decades_56
          · have c28 : m25_L_4.toInt < p0.toInt := z4 rfl rfl c28
            refine lv_aload_n hx hb dX11_decades_31 rfl (lv_at hl 1 rfl) ?_
            obtain ⟨hPc, hDc, hFc⟩ := zc3 (wc := [(h0, .inr (11, [.int th, .ref tB, .int tsz, .int tat, .int wr, .int dp, .ref rC, .ref rV, .ref rD, .ref rK, .ref rT, .ref rS, .ref rU, .int lw, .int tx, .ref rL, .ref rX, .ref qR, .ref qB, .ref qP, .int qnb, .int qnp, .ref aR, .ref aB, .ref aP, .int nb, .int np, .ref aN, .ref rf, .int ho, .int br, .ref aK, .int m25_F_h0_32, .long m25_F_h0_33, .ref aE, .int sr, .int sf, .ref aA, .ref aH, .ref aI, .int hi])), (aN, .inl (cI, 97, .inl m25_A_aN)), (aK, .inl (cI, 3880, .inl m25_A_aK))]) hP hD hS hA [0, 11, 12] (by decide +kernel) rfl
            refine va_callv (va_runV (As := []) (rest := []) ⟨hx, hb, hml, hown, hts⟩ (g_X11_keep l dC dI cI cJ h0 th tB tsz tat wr dp rC rV rD rK rT rS rU lw tx rL rX qR qB qP qnb qnp aR aB aP nb np aN rf ho br aK m25_F_h0_32 m25_F_h0_33 aE sr sf aA aH aI hi m25_A_aN m25_A_aK H.size jf25_0 y_hi y_ho y_lw n_nb n_np y_qnb y_qnp y_tat y_tsz y_wr jf25_4 jf25_5) (cwV 0 hts (zgV qw1485 qw1487 qw67 qw108 qw1488) rfl rfl rfl hd_X11_keep ⟨by rw [hR]; exact Nat.le_of_ble_eq_true rfl, by rw [hR]; exact Nat.le_of_ble_eq_true rfl⟩) (zPV hPc hK hDc (va_recv (q := (RX11, TX11, 41)) hK hP (ci := 11) (q0 := 0) rfl rfl)) rfl rfl hl.1 rfl (lv_room (Nat.le_of_ble_eq_true rfl)) dX11_decades_32 ⟨Nat.zero_le _, Nat.zero_le _⟩) hS (fun q _ h => hFc q h) hFc (fun u32 t H locs ht hvm hw hB hz1 hk1 hS9 => ?_)
            obtain ⟨u32_0, u32_1⟩ := u32
            obtain ⟨hP9, hD9⟩ := zj2 (wX := [(h0, .inr (11, [.int th, .ref tB, .int tsz, .int tat, .int wr, .int dp, .ref rC, .ref rV, .ref rD, .ref rK, .ref rT, .ref rS, .ref rU, .int lw, .int tx, .ref rL, .ref rX, .ref qR, .ref qB, .ref qP, .int qnb, .int qnp, .ref aR, .ref aB, .ref aP, .int nb, .int np, .ref aN, .ref rf, .int ho, .int br, .ref aK, .int u32_0, .long m25_F_h0_33, .ref aE, .int sr, .int sf, .ref aA, .ref aH, .ref aI, .int hi])), (rC, .inl (cI, 2600, .inl fC)), (rV, .inl (cI, 2600, .inl fV)), (rK, .inl (cI, 5, .inl fK)), (rT, .inl (cI, 700, .inl fT)), (rS, .inl (cI, 700, .inl fS)), (rU, .inl (cI, 700, .inl fU)), (rL, .inl (cI, 6, .inl m25_A_rL)), (rX, .inl (cI, 80, .inl m25_A_rX)), (aB, .inl (cI, 24, .inl fBr)), (aP, .inl (cI, 20, .inl fPa)), (aN, .inl (cI, 97, .inl m25_A_aN)), (aK, .inl (cI, 3880, .inl u32_1))]) hP hD hk1 hFc ht hB [0, 11, 12] [(true, 0), (false, 1), (false, 2), (false, 3), (false, 4), (false, 5), (false, 6), (false, 7), (false, 8), (false, 9), (false, 10), (true, 1), (true, 2)] rfl (by decide +kernel) (by decide +kernel) rfl
            clear hP hD hS hPc hDc hFc hB hk1 hz1 hvm
            have hP := hP9
            have hD := hD9
            have hS := hS9
            clear hP9 hD9 hS9
            obtain ⟨f32_0, f32_1, f32_2, f32_3⟩ : (1 ≤ u32_0.toInt) ∧ (u32_0.toInt ≤ 40) ∧ (zKe m25_A_aK u32_1 m25_A_aN m25_F_h0_32 u32_0) ∧ (zKp np u32_0 u32_1) := hw
            have F32 := f32_2
            refine lv_aload_n hx hb dX11_decades_35 rfl (lv_at hl 1 rfl) ?_
            obtain ⟨hPc, hDc, hFc⟩ := zc3 (wc := [(h0, .inr (11, [.int th, .ref tB, .int tsz, .int tat, .int wr, .int dp, .ref rC, .ref rV, .ref rD, .ref rK, .ref rT, .ref rS, .ref rU, .int lw, .int tx, .ref rL, .ref rX, .ref qR, .ref qB, .ref qP, .int qnb, .int qnp, .ref aR, .ref aB, .ref aP, .int nb, .int np, .ref aN, .ref rf, .int ho, .int br, .ref aK, .int u32_0, .long m25_F_h0_33, .ref aE, .int sr, .int sf, .ref aA, .ref aH, .ref aI, .int hi])), (rC, .inl (cI, 2600, .inl fC)), (rV, .inl (cI, 2600, .inl fV)), (rK, .inl (cI, 5, .inl fK)), (rT, .inl (cI, 700, .inl fT)), (rS, .inl (cI, 700, .inl fS)), (rU, .inl (cI, 700, .inl fU)), (rL, .inl (cI, 6, .inl m25_A_rL)), (rX, .inl (cI, 80, .inl m25_A_rX)), (aB, .inl (cI, 24, .inl fBr)), (aP, .inl (cI, 20, .inl fPa)), (aN, .inl (cI, 97, .inl m25_A_aN))]) hP hD hS hA [0, 1, 2, 3, 4, 5, 6, 7, 8, 9, 10, 11] (by decide +kernel) rfl
            refine va_callv (va_runV (As := []) (rest := []) ⟨hx, hb, hml, hown, hts⟩ (g_X11_drawMonth l dC dI cI cJ h0 th tB tsz tat wr dp rC rV rD rK rT rS rU lw tx rL rX qR qB qP qnb qnp aR aB aP nb np aN rf ho br aK u32_0 m25_F_h0_33 aE sr sf aA aH aI hi fC fV fK fT fS fU m25_A_rL m25_A_rX fBr fPa m25_A_aN H.size (by omega) y_hi y_ho y_lw (by omega) (by omega) y_qnb y_qnp y_tat y_tsz y_wr (hls) ci_fBr_zBr_nb jf25_5 ci_fPa_zBr_np) (cwV 0 hts (zgV qw1549 qw1551 qw74 qw108 qw1552) rfl rfl rfl hd_X11_drawMonth ⟨by rw [hR]; exact Nat.le_of_ble_eq_true rfl, by rw [hR]; exact Nat.le_of_ble_eq_true rfl⟩) (zPV hPc hK hDc (va_recv (q := (RX11, TX11, 41)) hK hP (ci := 11) (q0 := 0) rfl rfl)) rfl rfl hl.1 rfl (lv_room (Nat.le_of_ble_eq_true rfl)) dX11_decades_36 ⟨Nat.zero_le _, Nat.zero_le _⟩) hS (fun q _ h => hFc q h) hFc (fun u36 t H locs ht hvm hw hB hz1 hk1 hS9 => ?_)
            obtain ⟨u36_0, u36_1, u36_2, u36_3⟩ := u36
            obtain ⟨hP9, hD9⟩ := zj2 (wX := [(h0, .inr (11, [.int th, .ref tB, .int tsz, .int tat, .int wr, .int dp, .ref rC, .ref rV, .ref rD, .ref rK, .ref rT, .ref rS, .ref rU, .int lw, .int tx, .ref rL, .ref rX, .ref qR, .ref qB, .ref qP, .int qnb, .int qnp, .ref aR, .ref aB, .ref aP, .int nb, .int np, .ref aN, .ref rf, .int ho, .int br, .ref aK, .int u32_0, .long u36_0, .ref aE, .int sr, .int sf, .ref aA, .ref aH, .ref aI, .int hi])), (rC, .inl (cI, 2600, .inl fC)), (rV, .inl (cI, 2600, .inl fV)), (rK, .inl (cI, 5, .inl fK)), (rT, .inl (cI, 700, .inl fT)), (rS, .inl (cI, 700, .inl fS)), (rU, .inl (cI, 700, .inl fU)), (rL, .inl (cI, 6, .inl u36_1)), (rX, .inl (cI, 80, .inl u36_2)), (aB, .inl (cI, 24, .inl fBr)), (aP, .inl (cI, 20, .inl fPa)), (aN, .inl (cI, 97, .inl u36_3)), (aK, .inl (cI, 3880, .inl u32_1))]) hP hD hk1 hFc ht hB [0, 1, 2, 3, 4, 5, 6, 7, 8, 9, 10, 11] [(true, 0), (true, 1), (true, 2), (true, 3), (true, 4), (true, 5), (true, 6), (true, 7), (true, 8), (true, 9), (true, 10), (true, 11), (false, 12)] rfl (by decide +kernel) (by decide +kernel) rfl
            clear hP hD hS hPc hDc hFc hB hk1 hz1 hvm
            have hP := hP9
            have hD := hD9
            have hS := hS9
            clear hP9 hD9 hS9
            obtain ⟨f36_0, f36_1⟩ : (∀ (kc : zK3) (kT : zT) (q_fR : Nat → Int32) (kl : Option ((Int → Int) × Int)), zCn q_fR fBr fPa nb.toInt np.toInt kc → zKo nb.toInt np.toInt kc kT → zSr nb.toInt np.toInt kT.1 m25_A_aN → zLwR ho fC fV fK fT fS fU kl → zSr nb.toInt np.toInt (sDq nb br (sDp nb np kc kl kT.1 m25_F_h0_33) (sNx (sNx m25_F_h0_33))) u36_3 ∧ u36_0 = sDx br (sNx (sNx m25_F_h0_33))) ∧ (zNw np u36_3) := hw
            have F36 := f36_0
            refine lv_aload_n hx hb dX11_decades_39 rfl (lv_at hl 1 rfl) ?_
            obtain ⟨hPc, hDc, hFc⟩ := zc3 (wc := [(h0, .inr (11, [.int th, .ref tB, .int tsz, .int tat, .int wr, .int dp, .ref rC, .ref rV, .ref rD, .ref rK, .ref rT, .ref rS, .ref rU, .int lw, .int tx, .ref rL, .ref rX, .ref qR, .ref qB, .ref qP, .int qnb, .int qnp, .ref aR, .ref aB, .ref aP, .int nb, .int np, .ref aN, .ref rf, .int ho, .int br, .ref aK, .int u32_0, .long u36_0, .ref aE, .int sr, .int sf, .ref aA, .ref aH, .ref aI, .int hi])), (aN, .inl (cI, 97, .inl u36_3))]) hP hD hS hA [0, 11] (by decide +kernel) rfl
            refine va_callv (va_runV (As := []) (rest := []) ⟨hx, hb, hml, hown, hts⟩ (g_X11_passMonth l dC dI cI cJ h0 th tB tsz tat wr dp rC rV rD rK rT rS rU lw tx rL rX qR qB qP qnb qnp aR aB aP nb np aN rf ho br aK u32_0 u36_0 aE sr sf aA aH aI hi u36_3 H.size (by omega) y_hi y_ho y_lw n_nb n_np y_qnb y_qnp y_tat y_tsz y_wr f36_1) (cwV 0 hts (zgV qw1537 qw1539 qw73 qw108 qw1540) rfl rfl rfl hd_X11_passMonth ⟨by rw [hR]; exact Nat.le_of_ble_eq_true rfl, by rw [hR]; exact Nat.le_of_ble_eq_true rfl⟩) (zPV hPc hK hDc (va_recv (q := (RX11, TX11, 41)) hK hP (ci := 11) (q0 := 0) rfl rfl)) rfl rfl hl.1 rfl (lv_room (Nat.le_of_ble_eq_true rfl)) dX11_decades_40 ⟨Nat.zero_le _, Nat.zero_le _⟩) hS (fun q _ h => hFc q h) hFc (fun u40 t H locs ht hvm hw hB hz1 hk1 hS9 => ?_)
            obtain ⟨u40_0, rfl⟩ : ∃ z, z = u40 := ⟨_, rfl⟩
            obtain ⟨hP9, hD9⟩ := zj2 (wX := [(h0, .inr (11, [.int th, .ref tB, .int tsz, .int tat, .int wr, .int dp, .ref rC, .ref rV, .ref rD, .ref rK, .ref rT, .ref rS, .ref rU, .int lw, .int tx, .ref rL, .ref rX, .ref qR, .ref qB, .ref qP, .int qnb, .int qnp, .ref aR, .ref aB, .ref aP, .int nb, .int np, .ref aN, .ref rf, .int ho, .int br, .ref aK, .int u32_0, .long u36_0, .ref aE, .int sr, .int sf, .ref aA, .ref aH, .ref aI, .int hi])), (rC, .inl (cI, 2600, .inl fC)), (rV, .inl (cI, 2600, .inl fV)), (rK, .inl (cI, 5, .inl fK)), (rT, .inl (cI, 700, .inl fT)), (rS, .inl (cI, 700, .inl fS)), (rU, .inl (cI, 700, .inl fU)), (rL, .inl (cI, 6, .inl u36_1)), (rX, .inl (cI, 80, .inl u36_2)), (aB, .inl (cI, 24, .inl fBr)), (aP, .inl (cI, 20, .inl fPa)), (aN, .inl (cI, 97, .inl u40_0)), (aK, .inl (cI, 3880, .inl u32_1))]) hP hD hk1 hFc ht hB [0, 11] [(true, 0), (false, 1), (false, 2), (false, 3), (false, 4), (false, 5), (false, 6), (false, 7), (false, 8), (false, 9), (false, 10), (true, 1), (false, 12)] rfl (by decide +kernel) (by decide +kernel) rfl
            clear hP hD hS hPc hDc hFc hB hk1 hz1 hvm
            have hP := hP9
            have hD := hD9
            have hS := hS9
            clear hP9 hD9 hS9
            obtain ⟨f40_0, f40_1⟩ : (∀ (nbI npI : Int) (S : zS), nbI ≤ 6 → npI ≤ 5 → zSr nbI npI S u36_3 → zSr nbI npI (sPass S) u40_0) ∧ (zNw np u40_0) := hw
            have F40 := f40_0
            obtain ⟨v43, e43⟩ : ∃ y : Int32, y = m25_L_4 + Int32.ofInt (1) := ⟨_, rfl⟩
            refine lv_iinc (v := v43) (lv' := [(4, .int v43), (0, .ref h0), (1, .int p0), (2, .long p1)]) hx hb dX11_decades_43 hl (k := 0) rfl e43.symm (by decide) rfl (fun ls hl => ?_)
            have i43 : v43.toInt = m25_L_4.toInt + 1 := zaddI e43 (by decide) (by omega) (by omega)
            refine lv_goto (tgt := 25) hx hb dX11_decades_46 (by decide) ?_
            exact ih25 _ (by omega) u32_1 u40_0 u36_1 u36_2 u32_0 u36_0 v43 (by omega) (by omega) (fun kc kT q_fR q_frf kl hc hb h hL => by have zm := congrArg Int32.toInt (zSr_mo h.1); have zb := hb.2.2.2.1.2.2.2.1; have hn1 : 1 ≤ np.toInt := (by omega); have zF := (F9.resolve_right (by omega)).2; have z15 : (fN 15 + p0).toInt = (fN 15).toInt + p0.toInt := zadd rfl rfl rfl (by omega) (by omega); have a := jv25_0 kc kT _ _ kl hc hb h hL; have ob := sDec_b (br := br) (c := kc) (lw := kl) (x := p1) hb.2 (by omega) hn1 m25_L_4.toInt.toNat (by omega); rw [show v43.toInt.toNat = m25_L_4.toInt.toNat + 1 by omega]; have g1 := F36 kc (sDec nb np br kc kl kT p1 m25_L_4.toInt.toNat).1 _ kl hc ⟨hb.1, ob.1⟩ a.1.1 hL; rw [a.2] at g1; exact ⟨zActKr a.1 (zKr_k ob.1 a.1 F32 (by omega)) (F40 _ _ _ hb.2.1.2 hb.2.2.1.2 g1.1) rfl, g1.2⟩) (by omega) f32_3 f40_1 rfl H locs ls hP hD hS (lv_sub hl [0, 1, 2, 3] rfl)
      refine lv_istore (lv' := [(4, .int 0), (0, .ref h0), (1, .int p0), (2, .long p1)]) hx hb dX11_decades_23 hl (by decide) rfl (fun ls hl => ?_)
      have zj25_m25_L_4 : (0 : Int32).toInt = 0 := by decide
      exact J25 _ fKp fN fL fX ac p1 0 n_ac (by decide) (fun kc kT q_fR q_frf kl hc hb h hL => ⟨h, rfl⟩) (by omega) ci_fKp_zKp_np__F_h0_32_ ci_fN_zNw_np rfl H locs ls hP hD hS (lv_sub hl [0, 1, 2, 3] rfl)
    · have c12 : v9.toInt = 0 := z5 rfl (by decide) c12
      refine lv_iconst (v := (-1)) hx hb dX11_decades_15 (by decide) ?_
      have zr0 : ((-1) : Int32).toInt = (-1) := by decide
      rw [hQ]
      exact W.iret (v := ((-1))) hx hb hr (fun t ht hW => ⟨⟨(-1), (ac, dw, fL, fX, fN, fKp), rfl, ⟨by (try dsimp only); omega, by (try dsimp only); omega, by (try dsimp only); exact fun kc kT q_fR q_frf kl hc hb h hL => by have zm := congrArg Int32.toInt (zSr_mo h.1); rcases F9 with z | z; (exfalso; omega); unfold sV_dec sT_dec; rw [if_neg (by unfold sQ_dec; rw [zSr_mo h.1]; omega), if_neg (by unfold sQ_dec; rw [zSr_mo h.1]; omega)]; exact ⟨rfl, h⟩, ci_fKp_zKp_np__F_h0_32_, ci_fN_zNw_np⟩, ⟨by rw [ht]; exact hP, hD⟩⟩, hS.F ht⟩) hS.2.2 dX11_decades_16
set_option maxHeartbeats 4000000 in
set_option maxRecDepth 100000 in
theorem g_X11_isBetter (l : Launch) (dC : Nat → ClassId) (dI : Nat → Nat → Nat) (cI cJ : ClassId) (h0 : Nat) (p0 : Int32) (p1 : Int32) (th : Int32) (tB : Nat) (tsz : Int32) (tat : Int32) (wr : Int32) (dp : Int32) (rC : Nat) (rV : Nat) (rD : Nat) (rK : Nat) (rT : Nat) (rS : Nat) (rU : Nat) (lw : Int32) (tx : Int32) (rL : Nat) (rX : Nat) (qR : Nat) (qB : Nat) (qP : Nat) (qnb : Int32) (qnp : Int32) (aR : Nat) (aB : Nat) (aP : Nat) (nb : Int32) (np : Int32) (aN : Nat) (rf : Nat) (ho : Int32) (br : Int32) (aK : Nat) (ac : Int32) (dw : Int64) (aE : Nat) (sr : Int32) (sf : Int32) (aA : Nat) (aH : Nat) (aI : Nat) (hi : Int32) (fN : Nat → Int32) (sz : Nat) (n_ac : 0 ≤ ac.toInt ∧ ac.toInt ≤ 40) (n_hi : 0 ≤ hi.toInt ∧ hi.toInt ≤ 1) (n_ho : (-1) ≤ ho.toInt ∧ ho.toInt ≤ 3) (n_lw : 0 ≤ lw.toInt ∧ lw.toInt ≤ 4) (n_nb : 0 ≤ nb.toInt ∧ nb.toInt ≤ 6) (n_np : 0 ≤ np.toInt ∧ np.toInt ≤ 5) (n_p0 : 0 ≤ p0.toInt ∧ p0.toInt ≤ 5) (n_p1 : 0 ≤ p1.toInt ∧ p1.toInt ≤ 5) (n_qnb : 0 ≤ qnb.toInt ∧ qnb.toInt ≤ 6) (n_qnp : 0 ≤ qnp.toInt ∧ qnp.toInt ≤ 5) (n_tat : 0 ≤ tat.toInt ∧ tat.toInt ≤ 260) (n_tsz : 0 ≤ tsz.toInt ∧ tsz.toInt ≤ 240) (n_wr : (-1) ≤ wr.toInt ∧ wr.toInt ≤ 260)    : Met l yX11_isBetter (.code yX11_isBetter cX11_isBetter 3 (some .boolean) :: wA) ({ frames := 0, cells := 0, slots := 0, locals := 0 }) (zP (dC, dI) [(cI, .int), (cJ, .long)] [.ref h0, .int p0, .int p1] sz [(h0, .inr (11, [.int th, .ref tB, .int tsz, .int tat, .int wr, .int dp, .ref rC, .ref rV, .ref rD, .ref rK, .ref rT, .ref rS, .ref rU, .int lw, .int tx, .ref rL, .ref rX, .ref qR, .ref qB, .ref qP, .int qnb, .int qnp, .ref aR, .ref aB, .ref aP, .int nb, .int np, .ref aN, .ref rf, .int ho, .int br, .ref aK, .int ac, .long dw, .ref aE, .int sr, .int sf, .ref aA, .ref aH, .ref aI, .int hi])), (aN, .inl (cI, 97, .inl fN))]) (va_Qi (fun (r : Int32) (u : Unit) => (0 ≤ r.toInt) ∧ (r.toInt ≤ 1) ∧ (∀ kY : Nat → Int32, chY fN nb.toInt kY → p0.toInt < nb.toInt → p1.toInt < nb.toInt → (r.toInt = 1 ∧ keyP kY p0.toInt.toNat < keyP kY p1.toInt.toNat) ∨ (r.toInt = 0 ∧ ¬ keyP kY p0.toInt.toNat < keyP kY p1.toInt.toNat))) (fun (_ : Unit) (_ : State) => True) (va_A [] sz)) 0 0 (va_A [] sz) := by
  refine Met.ofW (cc := cX11_isBetter) (maxL := 3) (ret := (some .boolean)) (by decide) rfl ?_
  intro p e s m args below meth c s₁ B hml hv
  have y_ac : zHid (0 ≤ ac.toInt ∧ ac.toInt ≤ 40) := n_ac
  have y_hi : zHid (0 ≤ hi.toInt ∧ hi.toInt ≤ 1) := n_hi
  have y_ho : zHid ((-1) ≤ ho.toInt ∧ ho.toInt ≤ 3) := n_ho
  have y_lw : zHid (0 ≤ lw.toInt ∧ lw.toInt ≤ 4) := n_lw
  have y_np : zHid (0 ≤ np.toInt ∧ np.toInt ≤ 5) := n_np
  have y_qnb : zHid (0 ≤ qnb.toInt ∧ qnb.toInt ≤ 6) := n_qnb
  have y_qnp : zHid (0 ≤ qnp.toInt ∧ qnp.toInt ≤ 5) := n_qnp
  have y_tat : zHid (0 ≤ tat.toInt ∧ tat.toInt ≤ 260) := n_tat
  have y_tsz : zHid (0 ≤ tsz.toInt ∧ tsz.toInt ≤ 240) := n_tsz
  have y_wr : zHid ((-1) ≤ wr.toInt ∧ wr.toInt ≤ 260) := n_wr
  clear n_ac n_hi n_ho n_lw n_np n_qnb n_qnp n_tat n_tsz n_wr
  obtain ⟨hargs, hsz, hP, hK, hT⟩ := hv
  have hx := B.exec
  have hb := B.bytes
  have hr := B.returns
  have hts : ∀ w ∈ wA, w.before args s = true := fun w h => atoms_spec (ws := .code yX11_isBetter cX11_isBetter 3 (some .boolean) :: wA) B.pre w (List.mem_cons_of_mem _ h)
  have hown : s.vm.findClass RX11 = some m.cls := findClass_of_methodNamed B.named
  have hlocks := B.notSynchronized
  subst hsz
  have hD : va_D (va_A [] s.heap.size) [] := zD0
  generalize hAe : va_A [] s.heap.size = A at hD ⊢
  have hA : ∀ q : Nat, s.heap.size ≤ q → A q := fun q h => by rw [← hAe]; exact Or.inr h
  have hl := lv_entry ([.ref h0, .int p0, .int p1]) (n := 3) (Nat.le_of_ble_eq_true rfl)
  rw [show entryFrame m args 3 = entryFrame m ([.ref h0, .int p0, .int p1] : List Value).toArray 3 by rw [hargs], lg_entry_eq]
  generalize (lg_sl ([.ref h0, .int p0, .int p1]) ++ List.replicate (3 - (lg_sl ([.ref h0, .int p0, .int p1])).length) Slot.unset).toArray = ls at hl ⊢
  have hl : lv_has ls 3 [(0, .ref h0), (1, .int p0), (2, .int p1)] := hl
  refine zstart (fun H hH => ?_)
  rw [← hH] at hP
  have hS : va_S A s.heap H [] := by rw [hH]; exact va_S.rf
  generalize ([] : List Loc) = locs at hS ⊢
  refine zgen (fun R Q hR hQ => ?_)
  refine lv_aload_n hx hb dX11_isBetter_0 rfl (lv_at hl 0 rfl) ?_
  refine va_get (D := (dC, dI)) (ci := 11) (v := .ref aN) (C := RX11) (T := TX11) (N := 41) hx hb hts iX11 hown hK hP 0 rfl rfl 27 (by decide) (hts _ qw1154) (fun _ h9 => h9) rfl dX11_isBetter_1 ?_
  refine lv_iconst (v := 0) hx hb dX11_isBetter_4 (by decide) ?_
  refine lv_iload_n hx hb dX11_isBetter_5 rfl (lv_at hl 1 rfl) ?_
  refine lv_iadd hx hb dX11_isBetter_6 ?_
  refine lv_topi (fun v6 e6 => ?_)
  have i6 : v6.toInt = 0 + p0.toInt := zadd e6 (by decide) rfl (by omega) (by omega)
  refine va_iald hx hb hK hP 1 0 rfl rfl (vp_in_iff.mpr ⟨by omega, by omega⟩) dX11_isBetter_7 ?_
  refine lv_topi (fun v7 e7 => ?_)
  refine lv_aload_n hx hb dX11_isBetter_8 rfl (lv_at hl 0 rfl) ?_
  refine va_get (D := (dC, dI)) (ci := 11) (v := .ref aN) (C := RX11) (T := TX11) (N := 41) hx hb hts iX11 hown hK hP 0 rfl rfl 27 (by decide) (hts _ qw1154) (fun _ h9 => h9) rfl dX11_isBetter_9 ?_
  refine lv_iconst (v := 0) hx hb dX11_isBetter_12 (by decide) ?_
  refine lv_iload_n hx hb dX11_isBetter_13 rfl (lv_at hl 2 rfl) ?_
  refine lv_iadd hx hb dX11_isBetter_14 ?_
  refine lv_topi (fun v14 e14 => ?_)
  have i14 : v14.toInt = 0 + p1.toInt := zadd e14 (by decide) rfl (by omega) (by omega)
  refine va_iald hx hb hK hP 1 0 rfl rfl (vp_in_iff.mpr ⟨by omega, by omega⟩) dX11_isBetter_15 ?_
  refine lv_topi (fun v15 e15 => ?_)
  refine lv_icmp_gt (tgt := 43) hx hb dX11_isBetter_16 (by decide) (fun c16 => ?_) (fun c16 => ?_)
  · have c16 : v15.toInt < v7.toInt := z1 rfl rfl c16
    refine lv_iconst (v := 1) hx hb dX11_isBetter_43 (by decide) ?_
    refine lv_goto (tgt := 48) hx hb dX11_isBetter_44 (by decide) ?_
    have zr0 : (1 : Int32).toInt = 1 := by decide
    rw [hQ]
    exact W.zret (v := 1) (ty := .boolean) hx hb hr rfl (fun t ht hW => ⟨⟨1, (), rfl, ⟨by (try dsimp only); omega, by (try dsimp only); omega, by (try dsimp only); exact fun kY hY h0 h1 => by have y7 : v7 = kY p0.toInt.toNat := (zIxN (n := p0.toInt.toNat) e7 (by omega)).trans (hY.1 _ (by omega)); have y15 : v15 = kY p1.toInt.toNat := (zIxN (n := p1.toInt.toNat) e15 (by omega)).trans (hY.1 _ (by omega)); have z7 := congrArg Int32.toInt y7; have z15 := congrArg Int32.toInt y15; exact Or.inl ⟨by decide, by unfold keyP; omega⟩⟩, trivial⟩, hS.F ht⟩) hS.2.2 dX11_isBetter_48
  · have c16 : v7.toInt ≤ v15.toInt := z2 rfl rfl c16
    refine lv_aload_n hx hb dX11_isBetter_19 rfl (lv_at hl 0 rfl) ?_
    refine va_get (D := (dC, dI)) (ci := 11) (v := .ref aN) (C := RX11) (T := TX11) (N := 41) hx hb hts iX11 hown hK hP 0 rfl rfl 27 (by decide) (hts _ qw1154) (fun _ h9 => h9) rfl dX11_isBetter_20 ?_
    refine lv_iconst (v := 0) hx hb dX11_isBetter_23 (by decide) ?_
    refine lv_iload_n hx hb dX11_isBetter_24 rfl (lv_at hl 1 rfl) ?_
    refine lv_iadd hx hb dX11_isBetter_25 ?_
    refine lv_topi (fun v25 e25 => ?_)
    have i25 : v25.toInt = 0 + p0.toInt := zadd e25 (by decide) rfl (by omega) (by omega)
    refine va_iald hx hb hK hP 1 0 rfl rfl (vp_in_iff.mpr ⟨by omega, by omega⟩) dX11_isBetter_26 ?_
    refine lv_topi (fun v26 e26 => ?_)
    refine lv_aload_n hx hb dX11_isBetter_27 rfl (lv_at hl 0 rfl) ?_
    refine va_get (D := (dC, dI)) (ci := 11) (v := .ref aN) (C := RX11) (T := TX11) (N := 41) hx hb hts iX11 hown hK hP 0 rfl rfl 27 (by decide) (hts _ qw1154) (fun _ h9 => h9) rfl dX11_isBetter_28 ?_
    refine lv_iconst (v := 0) hx hb dX11_isBetter_31 (by decide) ?_
    refine lv_iload_n hx hb dX11_isBetter_32 rfl (lv_at hl 2 rfl) ?_
    refine lv_iadd hx hb dX11_isBetter_33 ?_
    refine lv_topi (fun v33 e33 => ?_)
    have i33 : v33.toInt = 0 + p1.toInt := zadd e33 (by decide) rfl (by omega) (by omega)
    refine va_iald hx hb hK hP 1 0 rfl rfl (vp_in_iff.mpr ⟨by omega, by omega⟩) dX11_isBetter_34 ?_
    refine lv_topi (fun v34 e34 => ?_)
    refine lv_icmp_ne (tgt := 47) hx hb dX11_isBetter_35 (by decide) (fun c35 => ?_) (fun c35 => ?_)
    · have c35 : ¬ v26.toInt = v34.toInt := z6 rfl rfl c35
      refine lv_iconst (v := 0) hx hb dX11_isBetter_47 (by decide) ?_
      have zr0 : (0 : Int32).toInt = 0 := by decide
      rw [hQ]
      exact W.zret (v := 0) (ty := .boolean) hx hb hr rfl (fun t ht hW => ⟨⟨0, (), rfl, ⟨by (try dsimp only); omega, by (try dsimp only); omega, by (try dsimp only); exact fun kY hY h0 h1 => by have y7 : v7 = kY p0.toInt.toNat := (zIxN (n := p0.toInt.toNat) e7 (by omega)).trans (hY.1 _ (by omega)); have y15 : v15 = kY p1.toInt.toNat := (zIxN (n := p1.toInt.toNat) e15 (by omega)).trans (hY.1 _ (by omega)); have z7 := congrArg Int32.toInt y7; have z15 := congrArg Int32.toInt y15; have y26 : v26 = kY p0.toInt.toNat := (zIxN (n := p0.toInt.toNat) e26 (by omega)).trans (hY.1 _ (by omega)); have y34 : v34 = kY p1.toInt.toNat := (zIxN (n := p1.toInt.toNat) e34 (by omega)).trans (hY.1 _ (by omega)); have z26 := congrArg Int32.toInt y26; have z34 := congrArg Int32.toInt y34; exact Or.inr ⟨by decide, by unfold keyP; omega⟩⟩, trivial⟩, hS.F ht⟩) hS.2.2 dX11_isBetter_48
    · have c35 : v26.toInt = v34.toInt := z5 rfl rfl c35
      refine lv_iload_n hx hb dX11_isBetter_38 rfl (lv_at hl 1 rfl) ?_
      refine lv_iload_n hx hb dX11_isBetter_39 rfl (lv_at hl 2 rfl) ?_
      refine lv_icmp_ge (tgt := 47) hx hb dX11_isBetter_40 (by decide) (fun c40 => ?_) (fun c40 => ?_)
      · have c40 : p1.toInt ≤ p0.toInt := z3 rfl rfl c40
        refine lv_iconst (v := 0) hx hb dX11_isBetter_47 (by decide) ?_
        have zr0 : (0 : Int32).toInt = 0 := by decide
        rw [hQ]
        exact W.zret (v := 0) (ty := .boolean) hx hb hr rfl (fun t ht hW => ⟨⟨0, (), rfl, ⟨by (try dsimp only); omega, by (try dsimp only); omega, by (try dsimp only); exact fun kY hY h0 h1 => by have y7 : v7 = kY p0.toInt.toNat := (zIxN (n := p0.toInt.toNat) e7 (by omega)).trans (hY.1 _ (by omega)); have y15 : v15 = kY p1.toInt.toNat := (zIxN (n := p1.toInt.toNat) e15 (by omega)).trans (hY.1 _ (by omega)); have z7 := congrArg Int32.toInt y7; have z15 := congrArg Int32.toInt y15; have y26 : v26 = kY p0.toInt.toNat := (zIxN (n := p0.toInt.toNat) e26 (by omega)).trans (hY.1 _ (by omega)); have y34 : v34 = kY p1.toInt.toNat := (zIxN (n := p1.toInt.toNat) e34 (by omega)).trans (hY.1 _ (by omega)); have z26 := congrArg Int32.toInt y26; have z34 := congrArg Int32.toInt y34; exact Or.inr ⟨by decide, by unfold keyP; omega⟩⟩, trivial⟩, hS.F ht⟩) hS.2.2 dX11_isBetter_48
      · have c40 : p0.toInt < p1.toInt := z4 rfl rfl c40
        refine lv_iconst (v := 1) hx hb dX11_isBetter_43 (by decide) ?_
        refine lv_goto (tgt := 48) hx hb dX11_isBetter_44 (by decide) ?_
        have zr0 : (1 : Int32).toInt = 1 := by decide
        rw [hQ]
        exact W.zret (v := 1) (ty := .boolean) hx hb hr rfl (fun t ht hW => ⟨⟨1, (), rfl, ⟨by (try dsimp only); omega, by (try dsimp only); omega, by (try dsimp only); exact fun kY hY h0 h1 => by have y7 : v7 = kY p0.toInt.toNat := (zIxN (n := p0.toInt.toNat) e7 (by omega)).trans (hY.1 _ (by omega)); have y15 : v15 = kY p1.toInt.toNat := (zIxN (n := p1.toInt.toNat) e15 (by omega)).trans (hY.1 _ (by omega)); have z7 := congrArg Int32.toInt y7; have z15 := congrArg Int32.toInt y15; have y26 : v26 = kY p0.toInt.toNat := (zIxN (n := p0.toInt.toNat) e26 (by omega)).trans (hY.1 _ (by omega)); have y34 : v34 = kY p1.toInt.toNat := (zIxN (n := p1.toInt.toNat) e34 (by omega)).trans (hY.1 _ (by omega)); have z26 := congrArg Int32.toInt y26; have z34 := congrArg Int32.toInt y34; exact Or.inl ⟨by decide, by unfold keyP; omega⟩⟩, trivial⟩, hS.F ht⟩) hS.2.2 dX11_isBetter_48
set_option maxHeartbeats 4000000 in
set_option maxRecDepth 100000 in
theorem g_X11_asksNext (l : Launch) (dC : Nat → ClassId) (dI : Nat → Nat → Nat) (cI cJ : ClassId) (h0 : Nat) (p0 : Int32) (th : Int32) (tB : Nat) (tsz : Int32) (tat : Int32) (wr : Int32) (dp : Int32) (rC : Nat) (rV : Nat) (rD : Nat) (rK : Nat) (rT : Nat) (rS : Nat) (rU : Nat) (lw : Int32) (tx : Int32) (rL : Nat) (rX : Nat) (qR : Nat) (qB : Nat) (qP : Nat) (qnb : Int32) (qnp : Int32) (aR : Nat) (aB : Nat) (aP : Nat) (nb : Int32) (np : Int32) (aN : Nat) (rf : Nat) (ho : Int32) (br : Int32) (aK : Nat) (ac : Int32) (dw : Int64) (aE : Nat) (sr : Int32) (sf : Int32) (aA : Nat) (aH : Nat) (aI : Nat) (hi : Int32) (fPa : Nat → Int32) (fA : Nat → Int32) (sz : Nat) (n_ac : 0 ≤ ac.toInt ∧ ac.toInt ≤ 40) (n_hi : 0 ≤ hi.toInt ∧ hi.toInt ≤ 1) (n_ho : (-1) ≤ ho.toInt ∧ ho.toInt ≤ 3) (n_lw : 0 ≤ lw.toInt ∧ lw.toInt ≤ 4) (n_nb : 0 ≤ nb.toInt ∧ nb.toInt ≤ 6) (n_np : 0 ≤ np.toInt ∧ np.toInt ≤ 5) (n_p0 : 0 ≤ p0.toInt ∧ p0.toInt ≤ 5) (n_qnb : 0 ≤ qnb.toInt ∧ qnb.toInt ≤ 6) (n_qnp : 0 ≤ qnp.toInt ∧ qnp.toInt ≤ 5) (n_tat : 0 ≤ tat.toInt ∧ tat.toInt ≤ 260) (n_tsz : 0 ≤ tsz.toInt ∧ tsz.toInt ≤ 240) (n_wr : (-1) ≤ wr.toInt ∧ wr.toInt ≤ 260)    : Met l yX11_asksNext (.code yX11_asksNext cX11_asksNext 4 (some .int) :: wA) ({ frames := 1, cells := 0, slots := 0, locals := 22 }) (zP (dC, dI) [(cI, .int), (cJ, .long)] [.ref h0, .int p0] sz [(h0, .inr (11, [.int th, .ref tB, .int tsz, .int tat, .int wr, .int dp, .ref rC, .ref rV, .ref rD, .ref rK, .ref rT, .ref rS, .ref rU, .int lw, .int tx, .ref rL, .ref rX, .ref qR, .ref qB, .ref qP, .int qnb, .int qnp, .ref aR, .ref aB, .ref aP, .int nb, .int np, .ref aN, .ref rf, .int ho, .int br, .ref aK, .int ac, .long dw, .ref aE, .int sr, .int sf, .ref aA, .ref aH, .ref aI, .int hi])), (aP, .inl (cI, 20, .inl fPa)), (aA, .inl (cI, 6, .inl fA))]) (va_Qi (fun (r : Int32) (u : Unit) => ((-1) ≤ r.toInt) ∧ (r.toInt ≤ 4) ∧ (zAk (fA p0.toInt.toNat) np r) ∧ (∀ kc : zK3, chP fPa np.toInt kc → gsF (keyA kc.2.2) np.toInt.toNat (fA p0.toInt.toNat) r)) (fun (_ : Unit) (_ : State) => True) (va_A [] sz)) 0 0 (va_A [] sz) := by
  refine Met.ofW (cc := cX11_asksNext) (maxL := 4) (ret := (some .int)) (by decide) rfl ?_
  intro p e s m args below meth c s₁ B hml hv
  have y_ac : zHid (0 ≤ ac.toInt ∧ ac.toInt ≤ 40) := n_ac
  have y_hi : zHid (0 ≤ hi.toInt ∧ hi.toInt ≤ 1) := n_hi
  have y_ho : zHid ((-1) ≤ ho.toInt ∧ ho.toInt ≤ 3) := n_ho
  have y_lw : zHid (0 ≤ lw.toInt ∧ lw.toInt ≤ 4) := n_lw
  have y_nb : zHid (0 ≤ nb.toInt ∧ nb.toInt ≤ 6) := n_nb
  have y_qnb : zHid (0 ≤ qnb.toInt ∧ qnb.toInt ≤ 6) := n_qnb
  have y_qnp : zHid (0 ≤ qnp.toInt ∧ qnp.toInt ≤ 5) := n_qnp
  have y_tat : zHid (0 ≤ tat.toInt ∧ tat.toInt ≤ 260) := n_tat
  have y_tsz : zHid (0 ≤ tsz.toInt ∧ tsz.toInt ≤ 240) := n_tsz
  have y_wr : zHid ((-1) ≤ wr.toInt ∧ wr.toInt ≤ 260) := n_wr
  clear n_ac n_hi n_ho n_lw n_nb n_qnb n_qnp n_tat n_tsz n_wr
  obtain ⟨hargs, hsz, hP, hK, hT⟩ := hv
  have hx := B.exec
  have hb := B.bytes
  have hr := B.returns
  have hts : ∀ w ∈ wA, w.before args s = true := fun w h => atoms_spec (ws := .code yX11_asksNext cX11_asksNext 4 (some .int) :: wA) B.pre w (List.mem_cons_of_mem _ h)
  have hown : s.vm.findClass RX11 = some m.cls := findClass_of_methodNamed B.named
  have hlocks := B.notSynchronized
  subst hsz
  have hD : va_D (va_A [] s.heap.size) [] := zD0
  generalize hAe : va_A [] s.heap.size = A at hD ⊢
  have hA : ∀ q : Nat, s.heap.size ≤ q → A q := fun q h => by rw [← hAe]; exact Or.inr h
  have hl := lv_entry ([.ref h0, .int p0]) (n := 4) (Nat.le_of_ble_eq_true rfl)
  rw [show entryFrame m args 4 = entryFrame m ([.ref h0, .int p0] : List Value).toArray 4 by rw [hargs], lg_entry_eq]
  generalize (lg_sl ([.ref h0, .int p0]) ++ List.replicate (4 - (lg_sl ([.ref h0, .int p0])).length) Slot.unset).toArray = ls at hl ⊢
  have hl : lv_has ls 4 [(0, .ref h0), (1, .int p0)] := hl
  refine zstart (fun H hH => ?_)
  rw [← hH] at hP
  have hS : va_S A s.heap H [] := by rw [hH]; exact va_S.rf
  generalize ([] : List Loc) = locs at hS ⊢
  refine zgen (fun R Q hR hQ => ?_)
  refine lv_iconst (v := (-1)) hx hb dX11_asksNext_0 (by decide) ?_
  refine lv_istore_n (lv' := [(2, .int (-1)), (0, .ref h0), (1, .int p0)]) hx hb dX11_asksNext_1 rfl hl (by decide) rfl (fun ls hl => ?_)
  refine lv_iconst (v := 0) hx hb dX11_asksNext_2 (by decide) ?_
  have J4 : ∀ (n : Nat) (m4_L_2 : Int32) (m4_L_3 : Int32), ((-1) ≤ m4_L_2.toInt ∧ m4_L_2.toInt ≤ 4) → (0 ≤ m4_L_3.toInt ∧ m4_L_3.toInt ≤ 5) → (zAk (fA p0.toInt.toNat) m4_L_3 m4_L_2) → (∀ kc : zK3, chP fPa np.toInt kc → gsN (keyA kc.2.2) (fA p0.toInt.toNat) m4_L_3 m4_L_2) → (m4_L_3.toInt ≤ np.toInt) → (m4_L_2.toInt < m4_L_3.toInt) → (6 - m4_L_3.toInt).toNat = n → ∀ (H : Heap) (locs : List Loc) (ls : Array Slot), va_P (dC, dI) vwCl [(h0, .inr (11, [.int th, .ref tB, .int tsz, .int tat, .int wr, .int dp, .ref rC, .ref rV, .ref rD, .ref rK, .ref rT, .ref rS, .ref rU, .int lw, .int tx, .ref rL, .ref rX, .ref qR, .ref qB, .ref qP, .int qnb, .int qnp, .ref aR, .ref aB, .ref aP, .int nb, .int np, .ref aN, .ref rf, .int ho, .int br, .ref aK, .int ac, .long dw, .ref aE, .int sr, .int sf, .ref aA, .ref aH, .ref aI, .int hi])), (aP, .inl (cI, 20, .inl fPa)), (aA, .inl (cI, 6, .inl fA))] H → va_S A s.heap H locs → lv_has ls 4 [(3, .int m4_L_3), (2, .int m4_L_2), (0, .ref h0), (1, .int p0)] → W p l e R s m args below meth c H locs 0 0 Q (F0 m 4 ls []) := by
    intro n4
    induction n4 using Nat.strongRecOn with
    | _ n4 ih4 =>
      intro m4_L_2 m4_L_3 jf4_0 jf4_1 jv4_0 jv4_1 jf4_4 jf4_5 hmu4 H locs ls hP hS hl
      refine lv_iload_n hx hb dX11_asksNext_4 rfl (lv_at hl 0 rfl) ?_
      refine lv_aload_n hx hb dX11_asksNext_5 rfl (lv_at hl 2 rfl) ?_
      refine va_get (D := (dC, dI)) (ci := 11) (v := .int np) (C := RX11) (T := TX11) (N := 41) hx hb hts iX11 hown hK hP 0 rfl rfl 26 (by decide) (hts _ qw1153) (fun _ h9 => h9) rfl dX11_asksNext_6 ?_
      refine lv_icmp_ge (tgt := 57) hx hb dX11_asksNext_9 (by decide) (fun c9 => ?_) (fun c9 => ?_)
      · have c9 : np.toInt ≤ m4_L_3.toInt := z3 rfl rfl c9
        refine lv_iload_n hx hb dX11_asksNext_57 rfl (lv_at hl 1 rfl) ?_
        rw [hQ]
        exact W.iret (v := m4_L_2) hx hb hr (fun t ht hW => ⟨⟨m4_L_2, (), rfl, ⟨by (try dsimp only); omega, by (try dsimp only); omega, zAk_e jv4_0 (by omega) (by omega), by (try dsimp only); exact fun kc hP => gsN_e (jv4_1 kc hP) (keyA_i (by have := hP.2.2.2; omega)) (by omega)⟩, trivial⟩, hS.F ht⟩) hS.2.2 dX11_asksNext_58
      · have c9 : m4_L_3.toInt < np.toInt := z4 rfl rfl c9
        refine lv_aload_n hx hb dX11_asksNext_12 rfl (lv_at hl 2 rfl) ?_
        refine va_get (D := (dC, dI)) (ci := 11) (v := .ref aA) (C := RX11) (T := TX11) (N := 41) hx hb hts iX11 hown hK hP 0 rfl rfl 37 (by decide) (hts _ qw1164) (fun _ h9 => h9) rfl dX11_asksNext_13 ?_
        refine lv_iload_n hx hb dX11_asksNext_16 rfl (lv_at hl 3 rfl) ?_
        refine va_iald hx hb hK hP 2 0 rfl rfl (vp_in_iff.mpr ⟨by omega, by omega⟩) dX11_asksNext_17 ?_
        refine lv_topi (fun v17 e17 => ?_)
        refine lv_iload_n hx hb dX11_asksNext_18 rfl (lv_at hl 0 rfl) ?_
        have hPc : va_P (dC, dI) vwCl [] H := zP0
        have hDc : va_D (fun _ => True) [] := zD0
        have hFc := zfr hS hA
        refine va_calli (va_runS (As := [.int v17, .int m4_L_3]) (rest := []) ⟨hx, hb, hml, hown, hts⟩ (g_X11_has l dC dI cI cJ v17 m4_L_3 H.size) (cwS 2 hts (zgS qw1288 qw1289 qw108 qw1290) rfl rfl rfl hd_X11_has ⟨by rw [hR]; exact Nat.le_of_ble_eq_true rfl, by rw [hR]; exact Nat.le_of_ble_eq_true rfl⟩) (zPS hPc hK hDc) rfl rfl hl.1 rfl (lv_room (Nat.le_of_ble_eq_true rfl)) dX11_asksNext_19 ⟨Nat.zero_le _, Nat.zero_le _⟩) hS (fun q _ h => hFc q h) hFc (fun v19 u19 t H locs ht hvm hw hB hz1 hk1 hS9 => ?_)
        replace hP := zkeep hP hk1
        replace hS := hS9
        clear hPc hDc hFc hk1 hz1 hvm hS9
        obtain ⟨f19_0, f19_1, f19_2, f19_3⟩ : (0 ≤ v19.toInt) ∧ (v19.toInt ≤ 1) ∧ (v19.toInt = ((v17 >>> (m4_L_3 &&& 31)) &&& 1).toInt) ∧ (v19.toInt = (cBt v17 m4_L_3).toInt) := hw
        have F19 := f19_3
        have q22 : v19.toInt = 1 ↔ zbit (fA p0.toInt.toNat) m4_L_3.toInt.toNat := by have w := zbit_of (a := v17) (k := m4_L_3) (x := (v17 >>> (m4_L_3 &&& 31)) &&& 1) rfl (by omega); rw [← f19_2, e17] at w; exact w
        refine lv_if_ne (tgt := 49) hx hb dX11_asksNext_22 (by decide) (fun c22 => ?_) (fun c22 => ?_)
        · have c22 : ¬ v19.toInt = 0 := z6 rfl (by decide) c22
          refine lv_iload_n hx hb dX11_asksNext_49 rfl (lv_at hl 1 rfl) ?_
          refine lv_istore_n (lv' := [(2, .int m4_L_2), (3, .int m4_L_3), (0, .ref h0), (1, .int p0)]) hx hb dX11_asksNext_50 rfl hl (by decide) rfl (fun ls hl => ?_)
          obtain ⟨v51, e51⟩ : ∃ y : Int32, y = m4_L_3 + Int32.ofInt (1) := ⟨_, rfl⟩
          refine lv_iinc (v := v51) (lv' := [(3, .int v51), (2, .int m4_L_2), (0, .ref h0), (1, .int p0)]) hx hb dX11_asksNext_51 hl (k := 1) rfl e51.symm (by decide) rfl (fun ls hl => ?_)
          have i51 : v51.toInt = m4_L_3.toInt + 1 := zaddI e51 (by decide) (by omega) (by omega)
          refine lv_goto (tgt := 4) hx hb dX11_asksNext_54 (by decide) ?_
          exact ih4 _ (by omega) m4_L_2 v51 jf4_0 (by omega) (by first | exact zAk_y jv4_0 q22 (by omega) (by omega) (by omega) | exact zAk_n q22 (by omega) (by omega) (by omega) (by omega) | exact zAk_k jv4_0 (by omega) (by omega)) (fun kc hP => by first | exact gsN_y (jv4_1 kc hP) q22 (by omega) (by omega) (by omega) | exact gsN_1 (jv4_1 kc hP) q22 (by omega) (by omega) (by omega) (by omega) | (have k := keyA_e hP F33 F39 ⟨by omega, by omega⟩ ⟨by omega, by omega⟩; first | exact gsN_2 (jv4_1 kc hP) q22 (by omega) (by omega) (by omega) (by omega) (k.1 (by omega)) | exact gsN_3 (jv4_1 kc hP) (by omega) (by omega) (by omega) (k.2 (by omega)))) (by omega) (by omega) rfl H locs ls hP hS (lv_sub hl [0, 1, 2, 3] rfl)
        · have c22 : v19.toInt = 0 := z5 rfl (by decide) c22
          refine lv_iload_n hx hb dX11_asksNext_25 rfl (lv_at hl 1 rfl) ?_
          refine lv_iconst (v := (-1)) hx hb dX11_asksNext_26 (by decide) ?_
          refine lv_icmp_eq (tgt := 45) hx hb dX11_asksNext_27 (by decide) (fun c27 => ?_) (fun c27 => ?_)
          · have c27 : m4_L_2.toInt = (-1) := z5 rfl (by decide) c27
            refine lv_iload_n hx hb dX11_asksNext_45 rfl (lv_at hl 0 rfl) ?_
            refine lv_goto (tgt := 50) hx hb dX11_asksNext_46 (by decide) ?_
            refine lv_istore_n (lv' := [(2, .int m4_L_3), (3, .int m4_L_3), (0, .ref h0), (1, .int p0)]) hx hb dX11_asksNext_50 rfl hl (by decide) rfl (fun ls hl => ?_)
            obtain ⟨v51, e51⟩ : ∃ y : Int32, y = m4_L_3 + Int32.ofInt (1) := ⟨_, rfl⟩
            refine lv_iinc (v := v51) (lv' := [(3, .int v51), (2, .int m4_L_3), (0, .ref h0), (1, .int p0)]) hx hb dX11_asksNext_51 hl (k := 1) rfl e51.symm (by decide) rfl (fun ls hl => ?_)
            have i51 : v51.toInt = m4_L_3.toInt + 1 := zaddI e51 (by decide) (by omega) (by omega)
            refine lv_goto (tgt := 4) hx hb dX11_asksNext_54 (by decide) ?_
            exact ih4 _ (by omega) m4_L_3 v51 (by omega) (by omega) (by first | exact zAk_y jv4_0 q22 (by omega) (by omega) (by omega) | exact zAk_n q22 (by omega) (by omega) (by omega) (by omega) | exact zAk_k jv4_0 (by omega) (by omega)) (fun kc hP => by first | exact gsN_y (jv4_1 kc hP) q22 (by omega) (by omega) (by omega) | exact gsN_1 (jv4_1 kc hP) q22 (by omega) (by omega) (by omega) (by omega) | (have k := keyA_e hP F33 F39 ⟨by omega, by omega⟩ ⟨by omega, by omega⟩; first | exact gsN_2 (jv4_1 kc hP) q22 (by omega) (by omega) (by omega) (by omega) (k.1 (by omega)) | exact gsN_3 (jv4_1 kc hP) (by omega) (by omega) (by omega) (k.2 (by omega)))) (by omega) (by omega) rfl H locs ls hP hS (lv_sub hl [0, 1, 2, 3] rfl)
          · have c27 : ¬ m4_L_2.toInt = (-1) := z6 rfl (by decide) c27
            refine lv_aload_n hx hb dX11_asksNext_30 rfl (lv_at hl 2 rfl) ?_
            refine lv_iload_n hx hb dX11_asksNext_31 rfl (lv_at hl 0 rfl) ?_
            refine lv_iconst (v := 1) hx hb dX11_asksNext_32 (by decide) ?_
            obtain ⟨hPc, hDc⟩ := zc2 (wc := [(h0, .inr (11, [.int th, .ref tB, .int tsz, .int tat, .int wr, .int dp, .ref rC, .ref rV, .ref rD, .ref rK, .ref rT, .ref rS, .ref rU, .int lw, .int tx, .ref rL, .ref rX, .ref qR, .ref qB, .ref qP, .int qnb, .int qnp, .ref aR, .ref aB, .ref aP, .int nb, .int np, .ref aN, .ref rf, .int ho, .int br, .ref aK, .int ac, .long dw, .ref aE, .int sr, .int sf, .ref aA, .ref aH, .ref aI, .int hi])), (aP, .inl (cI, 20, .inl fPa))]) hP hT [0, 1] (by decide +kernel) rfl
            have hFc := zfr hS hA
            refine va_calli (va_runV (As := [.int m4_L_3, .int 1]) (rest := []) ⟨hx, hb, hml, hown, hts⟩ (g_X11_by_1 l dC dI cI cJ h0 m4_L_3 th tB tsz tat wr dp rC rV rD rK rT rS rU lw tx rL rX qR qB qP qnb qnp aR aB aP nb np aN rf ho br aK ac dw aE sr sf aA aH aI hi fPa H.size y_ac y_hi y_ho y_lw y_nb n_np (by omega) y_qnb y_qnp y_tat y_tsz y_wr) (cwV 2 hts (zgV qw1390 qw1392 qw55 qw108 qw1393) rfl rfl rfl hd_X11_by ⟨by rw [hR]; exact Nat.le_of_ble_eq_true rfl, by rw [hR]; exact Nat.le_of_ble_eq_true rfl⟩) (zPV hPc hK hDc (va_recv (q := (RX11, TX11, 41)) hK hP (ci := 11) (q0 := 0) rfl rfl)) rfl rfl hl.1 rfl (lv_room (Nat.le_of_ble_eq_true rfl)) dX11_asksNext_33 ⟨Nat.zero_le _, Nat.zero_le _⟩) hS (fun q _ h => hFc q h) hFc (fun v33 u33 t H locs ht hvm hw hB hz1 hk1 hS9 => ?_)
            replace hP := zkeep hP hk1
            replace hS := hS9
            clear hPc hDc hFc hk1 hz1 hvm hS9
            obtain ⟨f33_0, f33_1⟩ : (v33.toInt = (fPa (4 * m4_L_3.toInt.toNat + 1)).toInt) ∧ (v33 = fPa (4 * m4_L_3.toInt.toNat + 1)) := hw
            have F33 := f33_1
            refine lv_aload_n hx hb dX11_asksNext_36 rfl (lv_at hl 2 rfl) ?_
            refine lv_iload_n hx hb dX11_asksNext_37 rfl (lv_at hl 1 rfl) ?_
            refine lv_iconst (v := 1) hx hb dX11_asksNext_38 (by decide) ?_
            obtain ⟨hPc, hDc⟩ := zc2 (wc := [(h0, .inr (11, [.int th, .ref tB, .int tsz, .int tat, .int wr, .int dp, .ref rC, .ref rV, .ref rD, .ref rK, .ref rT, .ref rS, .ref rU, .int lw, .int tx, .ref rL, .ref rX, .ref qR, .ref qB, .ref qP, .int qnb, .int qnp, .ref aR, .ref aB, .ref aP, .int nb, .int np, .ref aN, .ref rf, .int ho, .int br, .ref aK, .int ac, .long dw, .ref aE, .int sr, .int sf, .ref aA, .ref aH, .ref aI, .int hi])), (aP, .inl (cI, 20, .inl fPa))]) hP hT [0, 1] (by decide +kernel) rfl
            have hFc := zfr hS hA
            refine va_calli (va_runV (As := [.int m4_L_2, .int 1]) (rest := [.int v33]) ⟨hx, hb, hml, hown, hts⟩ (g_X11_by_1 l dC dI cI cJ h0 m4_L_2 th tB tsz tat wr dp rC rV rD rK rT rS rU lw tx rL rX qR qB qP qnb qnp aR aB aP nb np aN rf ho br aK ac dw aE sr sf aA aH aI hi fPa H.size y_ac y_hi y_ho y_lw y_nb n_np (by omega) y_qnb y_qnp y_tat y_tsz y_wr) (cwV 2 hts (zgV qw1390 qw1392 qw55 qw108 qw1393) rfl rfl rfl hd_X11_by ⟨by rw [hR]; exact Nat.le_of_ble_eq_true rfl, by rw [hR]; exact Nat.le_of_ble_eq_true rfl⟩) (zPV hPc hK hDc (va_recv (q := (RX11, TX11, 41)) hK hP (ci := 11) (q0 := 0) rfl rfl)) rfl rfl hl.1 rfl (lv_room (Nat.le_of_ble_eq_true rfl)) dX11_asksNext_39 ⟨Nat.zero_le _, Nat.zero_le _⟩) hS (fun q _ h => hFc q h) hFc (fun v39 u39 t H locs ht hvm hw hB hz1 hk1 hS9 => ?_)
            replace hP := zkeep hP hk1
            replace hS := hS9
            clear hPc hDc hFc hk1 hz1 hvm hS9
            obtain ⟨f39_0, f39_1⟩ : (v39.toInt = (fPa (4 * m4_L_2.toInt.toNat + 1)).toInt) ∧ (v39 = fPa (4 * m4_L_2.toInt.toNat + 1)) := hw
            have F39 := f39_1
            refine lv_icmp_ge (tgt := 49) hx hb dX11_asksNext_42 (by decide) (fun c42 => ?_) (fun c42 => ?_)
            · have c42 : v39.toInt ≤ v33.toInt := z3 rfl rfl c42
              refine lv_iload_n hx hb dX11_asksNext_49 rfl (lv_at hl 1 rfl) ?_
              refine lv_istore_n (lv' := [(2, .int m4_L_2), (3, .int m4_L_3), (0, .ref h0), (1, .int p0)]) hx hb dX11_asksNext_50 rfl hl (by decide) rfl (fun ls hl => ?_)
              obtain ⟨v51, e51⟩ : ∃ y : Int32, y = m4_L_3 + Int32.ofInt (1) := ⟨_, rfl⟩
              refine lv_iinc (v := v51) (lv' := [(3, .int v51), (2, .int m4_L_2), (0, .ref h0), (1, .int p0)]) hx hb dX11_asksNext_51 hl (k := 1) rfl e51.symm (by decide) rfl (fun ls hl => ?_)
              have i51 : v51.toInt = m4_L_3.toInt + 1 := zaddI e51 (by decide) (by omega) (by omega)
              refine lv_goto (tgt := 4) hx hb dX11_asksNext_54 (by decide) ?_
              exact ih4 _ (by omega) m4_L_2 v51 jf4_0 (by omega) (by first | exact zAk_y jv4_0 q22 (by omega) (by omega) (by omega) | exact zAk_n q22 (by omega) (by omega) (by omega) (by omega) | exact zAk_k jv4_0 (by omega) (by omega)) (fun kc hP => by first | exact gsN_y (jv4_1 kc hP) q22 (by omega) (by omega) (by omega) | exact gsN_1 (jv4_1 kc hP) q22 (by omega) (by omega) (by omega) (by omega) | (have k := keyA_e hP F33 F39 ⟨by omega, by omega⟩ ⟨by omega, by omega⟩; first | exact gsN_2 (jv4_1 kc hP) q22 (by omega) (by omega) (by omega) (by omega) (k.1 (by omega)) | exact gsN_3 (jv4_1 kc hP) (by omega) (by omega) (by omega) (k.2 (by omega)))) (by omega) (by omega) rfl H locs ls hP hS (lv_sub hl [0, 1, 2, 3] rfl)
            · have c42 : v33.toInt < v39.toInt := z4 rfl rfl c42
              refine lv_iload_n hx hb dX11_asksNext_45 rfl (lv_at hl 0 rfl) ?_
              refine lv_goto (tgt := 50) hx hb dX11_asksNext_46 (by decide) ?_
              refine lv_istore_n (lv' := [(2, .int m4_L_3), (3, .int m4_L_3), (0, .ref h0), (1, .int p0)]) hx hb dX11_asksNext_50 rfl hl (by decide) rfl (fun ls hl => ?_)
              obtain ⟨v51, e51⟩ : ∃ y : Int32, y = m4_L_3 + Int32.ofInt (1) := ⟨_, rfl⟩
              refine lv_iinc (v := v51) (lv' := [(3, .int v51), (2, .int m4_L_3), (0, .ref h0), (1, .int p0)]) hx hb dX11_asksNext_51 hl (k := 1) rfl e51.symm (by decide) rfl (fun ls hl => ?_)
              have i51 : v51.toInt = m4_L_3.toInt + 1 := zaddI e51 (by decide) (by omega) (by omega)
              refine lv_goto (tgt := 4) hx hb dX11_asksNext_54 (by decide) ?_
              exact ih4 _ (by omega) m4_L_3 v51 (by omega) (by omega) (by first | exact zAk_y jv4_0 q22 (by omega) (by omega) (by omega) | exact zAk_n q22 (by omega) (by omega) (by omega) (by omega) | exact zAk_k jv4_0 (by omega) (by omega)) (fun kc hP => by first | exact gsN_y (jv4_1 kc hP) q22 (by omega) (by omega) (by omega) | exact gsN_1 (jv4_1 kc hP) q22 (by omega) (by omega) (by omega) (by omega) | (have k := keyA_e hP F33 F39 ⟨by omega, by omega⟩ ⟨by omega, by omega⟩; first | exact gsN_2 (jv4_1 kc hP) q22 (by omega) (by omega) (by omega) (by omega) (k.1 (by omega)) | exact gsN_3 (jv4_1 kc hP) (by omega) (by omega) (by omega) (k.2 (by omega)))) (by omega) (by omega) rfl H locs ls hP hS (lv_sub hl [0, 1, 2, 3] rfl)
  refine lv_istore_n (lv' := [(3, .int 0), (2, .int (-1)), (0, .ref h0), (1, .int p0)]) hx hb dX11_asksNext_3 rfl hl (by decide) rfl (fun ls hl => ?_)
  have zj4_m4_L_2 : ((-1) : Int32).toInt = (-1) := by decide
  have zj4_m4_L_3 : (0 : Int32).toInt = 0 := by decide
  exact J4 _ (-1) 0 (by decide) (by decide) (zAk_0) (fun kc hP => gsN_0) (by omega) (by omega) rfl H locs ls hP hS (lv_sub hl [0, 1, 2, 3] rfl)
set_option maxHeartbeats 4000000 in
set_option maxRecDepth 100000 in
theorem g_X11_layMatch (l : Launch) (dC : Nat → ClassId) (dI : Nat → Nat → Nat) (cI cJ : ClassId) (h0 : Nat) (th : Int32) (tB : Nat) (tsz : Int32) (tat : Int32) (wr : Int32) (dp : Int32) (rC : Nat) (rV : Nat) (rD : Nat) (rK : Nat) (rT : Nat) (rS : Nat) (rU : Nat) (lw : Int32) (tx : Int32) (rL : Nat) (rX : Nat) (qR : Nat) (qB : Nat) (qP : Nat) (qnb : Int32) (qnp : Int32) (aR : Nat) (aB : Nat) (aP : Nat) (nb : Int32) (np : Int32) (aN : Nat) (rf : Nat) (ho : Int32) (br : Int32) (aK : Nat) (ac : Int32) (dw : Int64) (aE : Nat) (sr : Int32) (sf : Int32) (aA : Nat) (aH : Nat) (aI : Nat) (hi : Int32) (fPa : Nat → Int32) (fN : Nat → Int32) (fA : Nat → Int32) (fH : Nat → Int32) (sz : Nat) (n_ac : 0 ≤ ac.toInt ∧ ac.toInt ≤ 40) (n_hi : 0 ≤ hi.toInt ∧ hi.toInt ≤ 1) (n_ho : (-1) ≤ ho.toInt ∧ ho.toInt ≤ 3) (n_lw : 0 ≤ lw.toInt ∧ lw.toInt ≤ 4) (n_nb : 0 ≤ nb.toInt ∧ nb.toInt ≤ 6) (n_np : 0 ≤ np.toInt ∧ np.toInt ≤ 5) (n_qnb : 0 ≤ qnb.toInt ∧ qnb.toInt ≤ 6) (n_qnp : 0 ≤ qnp.toInt ∧ qnp.toInt ≤ 5) (n_tat : 0 ≤ tat.toInt ∧ tat.toInt ≤ 260) (n_tsz : 0 ≤ tsz.toInt ∧ tsz.toInt ≤ 240) (n_wr : (-1) ≤ wr.toInt ∧ wr.toInt ≤ 260)  (ci_fA_zAs : zAs fA) (ci_fH_zHo : zHo fH)  : Met l yX11_layMatch (.code yX11_layMatch cX11_layMatch 5 none :: wA) ({ frames := 2, cells := 0, slots := 0, locals := 45 }) (zP (dC, dI) [(cI, .int), (cJ, .long)] [.ref h0] sz [(h0, .inr (11, [.int th, .ref tB, .int tsz, .int tat, .int wr, .int dp, .ref rC, .ref rV, .ref rD, .ref rK, .ref rT, .ref rS, .ref rU, .int lw, .int tx, .ref rL, .ref rX, .ref qR, .ref qB, .ref qP, .int qnb, .int qnp, .ref aR, .ref aB, .ref aP, .int nb, .int np, .ref aN, .ref rf, .int ho, .int br, .ref aK, .int ac, .long dw, .ref aE, .int sr, .int sf, .ref aA, .ref aH, .ref aI, .int hi])), (aP, .inl (cI, 20, .inl fPa)), (aN, .inl (cI, 97, .inl fN)), (aA, .inl (cI, 6, .inl fA)), (aH, .inl (cI, 5, .inl fH))]) (va_Qv (fun (u : (Nat → Int32) × (Nat → Int32)) => (∀ (kc : zK3) (kY : Nat → Int32), chP fPa np.toInt kc → chY fN nb.toInt kY → ∀ b p : Nat, b < nb.toInt.toNat → p < np.toInt.toNat → ((u.2 p).toInt = (b : Int) ↔ rnk (keyA kc.2.2) np.toInt.toNat p = rnk (keyP kY) nb.toInt.toNat b)) ∧ (zAs u.1) ∧ (zHo u.2)) (fun (u : (Nat → Int32) × (Nat → Int32)) (t : State) => va_P (dC, dI) vwCl [(h0, .inr (11, [.int th, .ref tB, .int tsz, .int tat, .int wr, .int dp, .ref rC, .ref rV, .ref rD, .ref rK, .ref rT, .ref rS, .ref rU, .int lw, .int tx, .ref rL, .ref rX, .ref qR, .ref qB, .ref qP, .int qnb, .int qnp, .ref aR, .ref aB, .ref aP, .int nb, .int np, .ref aN, .ref rf, .int ho, .int br, .ref aK, .int ac, .long dw, .ref aE, .int sr, .int sf, .ref aA, .ref aH, .ref aI, .int hi])), (aP, .inl (cI, 20, .inl fPa)), (aN, .inl (cI, 97, .inl fN)), (aA, .inl (cI, 6, .inl u.1)), (aH, .inl (cI, 5, .inl u.2))] t.heap ∧ va_D (va_A [(h0, .inr (11, [.int th, .ref tB, .int tsz, .int tat, .int wr, .int dp, .ref rC, .ref rV, .ref rD, .ref rK, .ref rT, .ref rS, .ref rU, .int lw, .int tx, .ref rL, .ref rX, .ref qR, .ref qB, .ref qP, .int qnb, .int qnp, .ref aR, .ref aB, .ref aP, .int nb, .int np, .ref aN, .ref rf, .int ho, .int br, .ref aK, .int ac, .long dw, .ref aE, .int sr, .int sf, .ref aA, .ref aH, .ref aI, .int hi])), (aP, .inl (cI, 20, .inl fPa)), (aN, .inl (cI, 97, .inl fN)), (aA, .inl (cI, 6, .inl fA)), (aH, .inl (cI, 5, .inl fH))] sz) [(h0, .inr (11, [.int th, .ref tB, .int tsz, .int tat, .int wr, .int dp, .ref rC, .ref rV, .ref rD, .ref rK, .ref rT, .ref rS, .ref rU, .int lw, .int tx, .ref rL, .ref rX, .ref qR, .ref qB, .ref qP, .int qnb, .int qnp, .ref aR, .ref aB, .ref aP, .int nb, .int np, .ref aN, .ref rf, .int ho, .int br, .ref aK, .int ac, .long dw, .ref aE, .int sr, .int sf, .ref aA, .ref aH, .ref aI, .int hi])), (aP, .inl (cI, 20, .inl fPa)), (aN, .inl (cI, 97, .inl fN)), (aA, .inl (cI, 6, .inl u.1)), (aH, .inl (cI, 5, .inl u.2))]) (va_A [(h0, .inr (11, [.int th, .ref tB, .int tsz, .int tat, .int wr, .int dp, .ref rC, .ref rV, .ref rD, .ref rK, .ref rT, .ref rS, .ref rU, .int lw, .int tx, .ref rL, .ref rX, .ref qR, .ref qB, .ref qP, .int qnb, .int qnp, .ref aR, .ref aB, .ref aP, .int nb, .int np, .ref aN, .ref rf, .int ho, .int br, .ref aK, .int ac, .long dw, .ref aE, .int sr, .int sf, .ref aA, .ref aH, .ref aI, .int hi])), (aP, .inl (cI, 20, .inl fPa)), (aN, .inl (cI, 97, .inl fN)), (aA, .inl (cI, 6, .inl fA)), (aH, .inl (cI, 5, .inl fH))] sz)) 0 0 (va_A [(h0, .inr (11, [.int th, .ref tB, .int tsz, .int tat, .int wr, .int dp, .ref rC, .ref rV, .ref rD, .ref rK, .ref rT, .ref rS, .ref rU, .int lw, .int tx, .ref rL, .ref rX, .ref qR, .ref qB, .ref qP, .int qnb, .int qnp, .ref aR, .ref aB, .ref aP, .int nb, .int np, .ref aN, .ref rf, .int ho, .int br, .ref aK, .int ac, .long dw, .ref aE, .int sr, .int sf, .ref aA, .ref aH, .ref aI, .int hi])), (aP, .inl (cI, 20, .inl fPa)), (aN, .inl (cI, 97, .inl fN)), (aA, .inl (cI, 6, .inl fA)), (aH, .inl (cI, 5, .inl fH))] sz) := by
  refine Met.ofW (cc := cX11_layMatch) (maxL := 5) (ret := none) (by decide) rfl ?_
  intro p e s m args below meth c s₁ B hml hv
  have y_ac : zHid (0 ≤ ac.toInt ∧ ac.toInt ≤ 40) := n_ac
  have y_hi : zHid (0 ≤ hi.toInt ∧ hi.toInt ≤ 1) := n_hi
  have y_ho : zHid ((-1) ≤ ho.toInt ∧ ho.toInt ≤ 3) := n_ho
  have y_lw : zHid (0 ≤ lw.toInt ∧ lw.toInt ≤ 4) := n_lw
  have y_qnb : zHid (0 ≤ qnb.toInt ∧ qnb.toInt ≤ 6) := n_qnb
  have y_qnp : zHid (0 ≤ qnp.toInt ∧ qnp.toInt ≤ 5) := n_qnp
  have y_tat : zHid (0 ≤ tat.toInt ∧ tat.toInt ≤ 260) := n_tat
  have y_tsz : zHid (0 ≤ tsz.toInt ∧ tsz.toInt ≤ 240) := n_tsz
  have y_wr : zHid ((-1) ≤ wr.toInt ∧ wr.toInt ≤ 260) := n_wr
  clear n_ac n_hi n_ho n_lw n_qnb n_qnp n_tat n_tsz n_wr
  obtain ⟨hargs, hsz, hP, hK, hT⟩ := hv
  have hx := B.exec
  have hb := B.bytes
  have hr := B.returns
  have hts : ∀ w ∈ wA, w.before args s = true := fun w h => atoms_spec (ws := .code yX11_layMatch cX11_layMatch 5 none :: wA) B.pre w (List.mem_cons_of_mem _ h)
  have hown : s.vm.findClass RX11 = some m.cls := findClass_of_methodNamed B.named
  have hlocks := B.notSynchronized
  subst hsz
  have hD := hT.self (sz := s.heap.size)
  generalize hAe : va_A [(h0, .inr (11, [.int th, .ref tB, .int tsz, .int tat, .int wr, .int dp, .ref rC, .ref rV, .ref rD, .ref rK, .ref rT, .ref rS, .ref rU, .int lw, .int tx, .ref rL, .ref rX, .ref qR, .ref qB, .ref qP, .int qnb, .int qnp, .ref aR, .ref aB, .ref aP, .int nb, .int np, .ref aN, .ref rf, .int ho, .int br, .ref aK, .int ac, .long dw, .ref aE, .int sr, .int sf, .ref aA, .ref aH, .ref aI, .int hi])), (aP, .inl (cI, 20, .inl fPa)), (aN, .inl (cI, 97, .inl fN)), (aA, .inl (cI, 6, .inl fA)), (aH, .inl (cI, 5, .inl fH))] s.heap.size = A at hD ⊢
  have hA : ∀ q : Nat, s.heap.size ≤ q → A q := fun q h => by rw [← hAe]; exact Or.inr h
  have hl := lv_entry ([.ref h0]) (n := 5) (Nat.le_of_ble_eq_true rfl)
  rw [show entryFrame m args 5 = entryFrame m ([.ref h0] : List Value).toArray 5 by rw [hargs], lg_entry_eq]
  generalize (lg_sl ([.ref h0]) ++ List.replicate (5 - (lg_sl ([.ref h0])).length) Slot.unset).toArray = ls at hl ⊢
  have hl : lv_has ls 5 [(0, .ref h0)] := hl
  refine zstart (fun H hH => ?_)
  rw [← hH] at hP
  have hS : va_S A s.heap H [] := by rw [hH]; exact va_S.rf
  generalize ([] : List Loc) = locs at hS ⊢
  refine zgen (fun R Q hR hQ => ?_)
  refine lv_iconst (v := 0) hx hb dX11_layMatch_0 (by decide) ?_
  have J2 : ∀ (n : Nat) (m2_A_aA : Nat → Int32) (m2_L_1 : Int32), (0 ≤ m2_L_1.toInt ∧ m2_L_1.toInt ≤ 6) → (∀ j : Nat, (j : Int) < m2_L_1.toInt → m2_A_aA j = 0) → (zAs m2_A_aA) → (7 - m2_L_1.toInt).toNat = n → ∀ (H : Heap) (locs : List Loc) (ls : Array Slot), va_P (dC, dI) vwCl [(h0, .inr (11, [.int th, .ref tB, .int tsz, .int tat, .int wr, .int dp, .ref rC, .ref rV, .ref rD, .ref rK, .ref rT, .ref rS, .ref rU, .int lw, .int tx, .ref rL, .ref rX, .ref qR, .ref qB, .ref qP, .int qnb, .int qnp, .ref aR, .ref aB, .ref aP, .int nb, .int np, .ref aN, .ref rf, .int ho, .int br, .ref aK, .int ac, .long dw, .ref aE, .int sr, .int sf, .ref aA, .ref aH, .ref aI, .int hi])), (aP, .inl (cI, 20, .inl fPa)), (aN, .inl (cI, 97, .inl fN)), (aA, .inl (cI, 6, .inl m2_A_aA)), (aH, .inl (cI, 5, .inl fH))] H → va_D A [(h0, .inr (11, [.int th, .ref tB, .int tsz, .int tat, .int wr, .int dp, .ref rC, .ref rV, .ref rD, .ref rK, .ref rT, .ref rS, .ref rU, .int lw, .int tx, .ref rL, .ref rX, .ref qR, .ref qB, .ref qP, .int qnb, .int qnp, .ref aR, .ref aB, .ref aP, .int nb, .int np, .ref aN, .ref rf, .int ho, .int br, .ref aK, .int ac, .long dw, .ref aE, .int sr, .int sf, .ref aA, .ref aH, .ref aI, .int hi])), (aP, .inl (cI, 20, .inl fPa)), (aN, .inl (cI, 97, .inl fN)), (aA, .inl (cI, 6, .inl m2_A_aA)), (aH, .inl (cI, 5, .inl fH))] → va_S A s.heap H locs → lv_has ls 5 [(1, .int m2_L_1), (0, .ref h0)] → W p l e R s m args below meth c H locs 0 0 Q (F0 m 2 ls []) := by
    intro n2
    induction n2 using Nat.strongRecOn with
    | _ n2 ih2 =>
      intro m2_A_aA m2_L_1 jf2_0 jv2_0 jf2_2 hmu2 H locs ls hP hD hS hl
      refine lv_iload_n hx hb dX11_layMatch_2 rfl (lv_at hl 0 rfl) ?_
      refine lv_bipush (v := 6) hx hb dX11_layMatch_3 (by decide) ?_
      refine lv_icmp_ge (tgt := 21) hx hb dX11_layMatch_5 (by decide) (fun c5 => ?_) (fun c5 => ?_)
      · have c5 : 6 ≤ m2_L_1.toInt := z3 (by decide) rfl c5
        refine lv_iconst (v := 0) hx hb dX11_layMatch_21 (by decide) ?_
        have J23 : ∀ (n : Nat) (m23_A_aH : Nat → Int32) (m23_L_1 : Int32), (0 ≤ m23_L_1.toInt ∧ m23_L_1.toInt ≤ 5) → (∀ j : Nat, (j : Int) < m23_L_1.toInt → m23_A_aH j = -1) → (zHo m23_A_aH) → (6 - m23_L_1.toInt).toNat = n → ∀ (H : Heap) (locs : List Loc) (ls : Array Slot), va_P (dC, dI) vwCl [(h0, .inr (11, [.int th, .ref tB, .int tsz, .int tat, .int wr, .int dp, .ref rC, .ref rV, .ref rD, .ref rK, .ref rT, .ref rS, .ref rU, .int lw, .int tx, .ref rL, .ref rX, .ref qR, .ref qB, .ref qP, .int qnb, .int qnp, .ref aR, .ref aB, .ref aP, .int nb, .int np, .ref aN, .ref rf, .int ho, .int br, .ref aK, .int ac, .long dw, .ref aE, .int sr, .int sf, .ref aA, .ref aH, .ref aI, .int hi])), (aP, .inl (cI, 20, .inl fPa)), (aN, .inl (cI, 97, .inl fN)), (aA, .inl (cI, 6, .inl m2_A_aA)), (aH, .inl (cI, 5, .inl m23_A_aH))] H → va_D A [(h0, .inr (11, [.int th, .ref tB, .int tsz, .int tat, .int wr, .int dp, .ref rC, .ref rV, .ref rD, .ref rK, .ref rT, .ref rS, .ref rU, .int lw, .int tx, .ref rL, .ref rX, .ref qR, .ref qB, .ref qP, .int qnb, .int qnp, .ref aR, .ref aB, .ref aP, .int nb, .int np, .ref aN, .ref rf, .int ho, .int br, .ref aK, .int ac, .long dw, .ref aE, .int sr, .int sf, .ref aA, .ref aH, .ref aI, .int hi])), (aP, .inl (cI, 20, .inl fPa)), (aN, .inl (cI, 97, .inl fN)), (aA, .inl (cI, 6, .inl m2_A_aA)), (aH, .inl (cI, 5, .inl m23_A_aH))] → va_S A s.heap H locs → lv_has ls 5 [(1, .int m23_L_1), (0, .ref h0)] → W p l e R s m args below meth c H locs 0 0 Q (F0 m 23 ls []) := by
          intro n23
          induction n23 using Nat.strongRecOn with
          | _ n23 ih23 =>
            intro m23_A_aH m23_L_1 jf23_0 jv23_0 jf23_2 hmu23 H locs ls hP hD hS hl
            refine lv_iload_n hx hb dX11_layMatch_23 rfl (lv_at hl 0 rfl) ?_
            refine lv_iconst (v := 5) hx hb dX11_layMatch_24 (by decide) ?_
            refine lv_icmp_ge (tgt := 41) hx hb dX11_layMatch_25 (by decide) (fun c25 => ?_) (fun c25 => ?_)
            · have c25 : 5 ≤ m23_L_1.toInt := z3 (by decide) rfl c25
              refine lv_iconst (v := 0) hx hb dX11_layMatch_41 (by decide) ?_
              have J43 : ∀ (n : Nat) (m43_A_aA : Nat → Int32) (m43_A_aH : Nat → Int32) (m43_L_1 : Int32), (0 ≤ m43_L_1.toInt ∧ m43_L_1.toInt ≤ 6) → (∀ (kc : zK3) (kY : Nat → Int32), chP fPa np.toInt kc → chY fN nb.toInt kY → gsS (keyA kc.2.2) (keyP kY) nb.toInt.toNat np.toInt.toNat m43_A_aA m43_A_aH (-1) m43_L_1.toInt.toNat) → (m43_L_1.toInt ≤ nb.toInt) → (zAs m43_A_aA) → (zHo m43_A_aH) → (7 - m43_L_1.toInt).toNat = n → ∀ (H : Heap) (locs : List Loc) (ls : Array Slot), va_P (dC, dI) vwCl [(h0, .inr (11, [.int th, .ref tB, .int tsz, .int tat, .int wr, .int dp, .ref rC, .ref rV, .ref rD, .ref rK, .ref rT, .ref rS, .ref rU, .int lw, .int tx, .ref rL, .ref rX, .ref qR, .ref qB, .ref qP, .int qnb, .int qnp, .ref aR, .ref aB, .ref aP, .int nb, .int np, .ref aN, .ref rf, .int ho, .int br, .ref aK, .int ac, .long dw, .ref aE, .int sr, .int sf, .ref aA, .ref aH, .ref aI, .int hi])), (aP, .inl (cI, 20, .inl fPa)), (aN, .inl (cI, 97, .inl fN)), (aA, .inl (cI, 6, .inl m43_A_aA)), (aH, .inl (cI, 5, .inl m43_A_aH))] H → va_D A [(h0, .inr (11, [.int th, .ref tB, .int tsz, .int tat, .int wr, .int dp, .ref rC, .ref rV, .ref rD, .ref rK, .ref rT, .ref rS, .ref rU, .int lw, .int tx, .ref rL, .ref rX, .ref qR, .ref qB, .ref qP, .int qnb, .int qnp, .ref aR, .ref aB, .ref aP, .int nb, .int np, .ref aN, .ref rf, .int ho, .int br, .ref aK, .int ac, .long dw, .ref aE, .int sr, .int sf, .ref aA, .ref aH, .ref aI, .int hi])), (aP, .inl (cI, 20, .inl fPa)), (aN, .inl (cI, 97, .inl fN)), (aA, .inl (cI, 6, .inl m43_A_aA)), (aH, .inl (cI, 5, .inl m43_A_aH))] → va_S A s.heap H locs → lv_has ls 5 [(1, .int m43_L_1), (0, .ref h0)] → W p l e R s m args below meth c H locs 0 0 Q (F0 m 43 ls []) := by
                intro n43
                induction n43 using Nat.strongRecOn with
                | _ n43 ih43 =>
                  intro m43_A_aA m43_A_aH m43_L_1 jf43_0 jv43_0 jf43_2 jf43_3 jf43_4 hmu43 H locs ls hP hD hS hl
                  refine lv_iload_n hx hb dX11_layMatch_43 rfl (lv_at hl 0 rfl) ?_
                  refine lv_aload_n hx hb dX11_layMatch_44 rfl (lv_at hl 1 rfl) ?_
                  refine va_get (D := (dC, dI)) (ci := 11) (v := .int nb) (C := RX11) (T := TX11) (N := 41) hx hb hts iX11 hown hK hP 0 rfl rfl 25 (by decide) (hts _ qw1152) (fun _ h9 => h9) rfl dX11_layMatch_45 ?_
                  refine lv_icmp_ge (tgt := 128) hx hb dX11_layMatch_48 (by decide) (fun c48 => ?_) (fun c48 => ?_)
                  · have c48 : nb.toInt ≤ m43_L_1.toInt := z3 rfl rfl c48
                    rw [hQ]
                    exact W.vret hx hb hr (fun t ht hW => ⟨⟨(m43_A_aA, m43_A_aH), rfl, ⟨by (try dsimp only); exact fun kc kY hP hY => gsS_e (keyA_i (by have := hP.2.2.2; omega)) (keyP_i (by omega)) (jv43_0 kc kY hP hY) (by omega), jf43_3, jf43_4⟩, ⟨by rw [ht]; exact hP, hD⟩⟩, hS.F ht⟩) hS.2.2 dX11_layMatch_128
                  · have c48 : m43_L_1.toInt < nb.toInt := z4 rfl rfl c48
                    refine lv_iload_n hx hb dX11_layMatch_51 rfl (lv_at hl 0 rfl) ?_
                    have J53 : ∀ (n : Nat) (m53_A_aA : Nat → Int32) (m53_A_aH : Nat → Int32) (m53_L_2 : Int32), ((-1) ≤ m53_L_2.toInt ∧ m53_L_2.toInt ≤ 5) → (∀ (kc : zK3) (kY : Nat → Int32), chP fPa np.toInt kc → chY fN nb.toInt kY → gsS (keyA kc.2.2) (keyP kY) nb.toInt.toNat np.toInt.toNat m53_A_aA m53_A_aH m53_L_2.toInt (m43_L_1.toInt.toNat + 1)) → (zAs m53_A_aA) → (zHo m53_A_aH) → zMs m53_A_aA = n → ∀ (H : Heap) (locs : List Loc) (ls : Array Slot), va_P (dC, dI) vwCl [(h0, .inr (11, [.int th, .ref tB, .int tsz, .int tat, .int wr, .int dp, .ref rC, .ref rV, .ref rD, .ref rK, .ref rT, .ref rS, .ref rU, .int lw, .int tx, .ref rL, .ref rX, .ref qR, .ref qB, .ref qP, .int qnb, .int qnp, .ref aR, .ref aB, .ref aP, .int nb, .int np, .ref aN, .ref rf, .int ho, .int br, .ref aK, .int ac, .long dw, .ref aE, .int sr, .int sf, .ref aA, .ref aH, .ref aI, .int hi])), (aP, .inl (cI, 20, .inl fPa)), (aN, .inl (cI, 97, .inl fN)), (aA, .inl (cI, 6, .inl m53_A_aA)), (aH, .inl (cI, 5, .inl m53_A_aH))] H → va_D A [(h0, .inr (11, [.int th, .ref tB, .int tsz, .int tat, .int wr, .int dp, .ref rC, .ref rV, .ref rD, .ref rK, .ref rT, .ref rS, .ref rU, .int lw, .int tx, .ref rL, .ref rX, .ref qR, .ref qB, .ref qP, .int qnb, .int qnp, .ref aR, .ref aB, .ref aP, .int nb, .int np, .ref aN, .ref rf, .int ho, .int br, .ref aK, .int ac, .long dw, .ref aE, .int sr, .int sf, .ref aA, .ref aH, .ref aI, .int hi])), (aP, .inl (cI, 20, .inl fPa)), (aN, .inl (cI, 97, .inl fN)), (aA, .inl (cI, 6, .inl m53_A_aA)), (aH, .inl (cI, 5, .inl m53_A_aH))] → va_S A s.heap H locs → lv_has ls 5 [(2, .int m53_L_2), (1, .int m43_L_1), (0, .ref h0)] → W p l e R s m args below meth c H locs 0 0 Q (F0 m 53 ls []) := by
                      intro n53
                      induction n53 using Nat.strongRecOn with
                      | _ n53 ih53 =>
                        intro m53_A_aA m53_A_aH m53_L_2 jf53_0 jv53_0 jf53_2 jf53_3 hmu53 H locs ls hP hD hS hl
                        refine lv_iload_n hx hb dX11_layMatch_53 rfl (lv_at hl 0 rfl) ?_
                        refine lv_iconst (v := (-1)) hx hb dX11_layMatch_54 (by decide) ?_
                        refine lv_icmp_eq (tgt := 122) hx hb dX11_layMatch_55 (by decide) (fun c55 => ?_) (fun c55 => ?_)
                        · have c55 : m53_L_2.toInt = (-1) := z5 rfl (by decide) c55
                          obtain ⟨v122, e122⟩ : ∃ y : Int32, y = m43_L_1 + Int32.ofInt (1) := ⟨_, rfl⟩
                          refine lv_iinc (v := v122) (lv' := [(1, .int v122), (2, .int m53_L_2), (0, .ref h0)]) hx hb dX11_layMatch_122 hl (k := 1) rfl e122.symm (by decide) rfl (fun ls hl => ?_)
                          have i122 : v122.toInt = m43_L_1.toInt + 1 := zaddI e122 (by decide) (by omega) (by omega)
                          refine lv_goto (tgt := 43) hx hb dX11_layMatch_125 (by decide) ?_
                          exact ih43 _ (by omega) m53_A_aA m53_A_aH v122 (by omega) (fun kc kY hP hY => by first | exact gsS_o1 (jv53_0 kc kY hP hY) (by omega) (by omega) (by omega) | exact gsS_o2 (jv53_0 kc kY hP hY) (by omega) (F60 kc hP) (by omega) (by omega) (by omega)) (by omega) jf53_2 jf53_3 rfl H locs ls hP hD hS (lv_sub hl [0, 2] rfl)
                        · have c55 : ¬ m53_L_2.toInt = (-1) := z6 rfl (by decide) c55
                          have hz53 : zAs m53_A_aA := by assumption
                          refine lv_aload_n hx hb dX11_layMatch_58 rfl (lv_at hl 2 rfl) ?_
                          refine lv_iload_n hx hb dX11_layMatch_59 rfl (lv_at hl 0 rfl) ?_
                          obtain ⟨hPc, hDc⟩ := zc2 (wc := [(h0, .inr (11, [.int th, .ref tB, .int tsz, .int tat, .int wr, .int dp, .ref rC, .ref rV, .ref rD, .ref rK, .ref rT, .ref rS, .ref rU, .int lw, .int tx, .ref rL, .ref rX, .ref qR, .ref qB, .ref qP, .int qnb, .int qnp, .ref aR, .ref aB, .ref aP, .int nb, .int np, .ref aN, .ref rf, .int ho, .int br, .ref aK, .int ac, .long dw, .ref aE, .int sr, .int sf, .ref aA, .ref aH, .ref aI, .int hi])), (aP, .inl (cI, 20, .inl fPa)), (aA, .inl (cI, 6, .inl m53_A_aA))]) hP hD [0, 1, 3] (by decide +kernel) rfl
                          have hFc := zfr hS hA
                          refine va_calli (va_runV (As := [.int m53_L_2]) (rest := []) ⟨hx, hb, hml, hown, hts⟩ (g_X11_asksNext l dC dI cI cJ h0 m53_L_2 th tB tsz tat wr dp rC rV rD rK rT rS rU lw tx rL rX qR qB qP qnb qnp aR aB aP nb np aN rf ho br aK ac dw aE sr sf aA aH aI hi fPa m53_A_aA H.size y_ac y_hi y_ho y_lw n_nb n_np (by omega) y_qnb y_qnp y_tat y_tsz y_wr) (cwV 1 hts (zgV qw1709 qw1711 qw93 qw108 qw1712) rfl rfl rfl hd_X11_asksNext ⟨by rw [hR]; exact Nat.le_of_ble_eq_true rfl, by rw [hR]; exact Nat.le_of_ble_eq_true rfl⟩) (zPV hPc hK hDc (va_recv (q := (RX11, TX11, 41)) hK hP (ci := 11) (q0 := 0) rfl rfl)) rfl rfl hl.1 rfl (lv_room (Nat.le_of_ble_eq_true rfl)) dX11_layMatch_60 ⟨Nat.zero_le _, Nat.zero_le _⟩) hS (fun q _ h => hFc q h) hFc (fun v60 u60 t H locs ht hvm hw hB hz1 hk1 hS9 => ?_)
                          replace hP := zkeep hP hk1
                          replace hS := hS9
                          clear hPc hDc hFc hk1 hz1 hvm hS9
                          obtain ⟨f60_0, f60_1, f60_2, f60_3⟩ : ((-1) ≤ v60.toInt) ∧ (v60.toInt ≤ 4) ∧ (zAk (m53_A_aA m53_L_2.toInt.toNat) np v60) ∧ (∀ kc : zK3, chP fPa np.toInt kc → gsF (keyA kc.2.2) np.toInt.toNat (m53_A_aA m53_L_2.toInt.toNat) v60) := hw
                          have F60 := f60_3
                          refine lv_iconst (v := (-1)) hx hb dX11_layMatch_63 (by decide) ?_
                          refine lv_icmp_eq (tgt := 122) hx hb dX11_layMatch_64 (by decide) (fun c64 => ?_) (fun c64 => ?_)
                          · have c64 : v60.toInt = (-1) := z5 rfl (by decide) c64
                            obtain ⟨v122, e122⟩ : ∃ y : Int32, y = m43_L_1 + Int32.ofInt (1) := ⟨_, rfl⟩
                            refine lv_iinc (v := v122) (lv' := [(1, .int v122), (2, .int m53_L_2), (0, .ref h0)]) hx hb dX11_layMatch_122 hl (k := 1) rfl e122.symm (by decide) rfl (fun ls hl => ?_)
                            have i122 : v122.toInt = m43_L_1.toInt + 1 := zaddI e122 (by decide) (by omega) (by omega)
                            refine lv_goto (tgt := 43) hx hb dX11_layMatch_125 (by decide) ?_
                            exact ih43 _ (by omega) m53_A_aA m53_A_aH v122 (by omega) (fun kc kY hP hY => by first | exact gsS_o1 (jv53_0 kc kY hP hY) (by omega) (by omega) (by omega) | exact gsS_o2 (jv53_0 kc kY hP hY) (by omega) (F60 kc hP) (by omega) (by omega) (by omega)) (by omega) jf53_2 jf53_3 rfl H locs ls hP hD hS (lv_sub hl [0, 2] rfl)
                          · have c64 : ¬ v60.toInt = (-1) := z6 rfl (by decide) c64
                            refine lv_aload_n hx hb dX11_layMatch_67 rfl (lv_at hl 2 rfl) ?_
                            refine lv_iload_n hx hb dX11_layMatch_68 rfl (lv_at hl 0 rfl) ?_
                            obtain ⟨hPc, hDc⟩ := zc2 (wc := [(h0, .inr (11, [.int th, .ref tB, .int tsz, .int tat, .int wr, .int dp, .ref rC, .ref rV, .ref rD, .ref rK, .ref rT, .ref rS, .ref rU, .int lw, .int tx, .ref rL, .ref rX, .ref qR, .ref qB, .ref qP, .int qnb, .int qnp, .ref aR, .ref aB, .ref aP, .int nb, .int np, .ref aN, .ref rf, .int ho, .int br, .ref aK, .int ac, .long dw, .ref aE, .int sr, .int sf, .ref aA, .ref aH, .ref aI, .int hi])), (aP, .inl (cI, 20, .inl fPa)), (aA, .inl (cI, 6, .inl m53_A_aA))]) hP hD [0, 1, 3] (by decide +kernel) rfl
                            have hFc := zfr hS hA
                            refine va_calli (va_runV (As := [.int m53_L_2]) (rest := []) ⟨hx, hb, hml, hown, hts⟩ (g_X11_asksNext l dC dI cI cJ h0 m53_L_2 th tB tsz tat wr dp rC rV rD rK rT rS rU lw tx rL rX qR qB qP qnb qnp aR aB aP nb np aN rf ho br aK ac dw aE sr sf aA aH aI hi fPa m53_A_aA H.size y_ac y_hi y_ho y_lw n_nb n_np (by omega) y_qnb y_qnp y_tat y_tsz y_wr) (cwV 1 hts (zgV qw1709 qw1711 qw93 qw108 qw1712) rfl rfl rfl hd_X11_asksNext ⟨by rw [hR]; exact Nat.le_of_ble_eq_true rfl, by rw [hR]; exact Nat.le_of_ble_eq_true rfl⟩) (zPV hPc hK hDc (va_recv (q := (RX11, TX11, 41)) hK hP (ci := 11) (q0 := 0) rfl rfl)) rfl rfl hl.1 rfl (lv_room (Nat.le_of_ble_eq_true rfl)) dX11_layMatch_69 ⟨Nat.zero_le _, Nat.zero_le _⟩) hS (fun q _ h => hFc q h) hFc (fun v69 u69 t H locs ht hvm hw hB hz1 hk1 hS9 => ?_)
                            replace hP := zkeep hP hk1
                            replace hS := hS9
                            clear hPc hDc hFc hk1 hz1 hvm hS9
                            obtain ⟨f69_0, f69_1, f69_2, f69_3⟩ : ((-1) ≤ v69.toInt) ∧ (v69.toInt ≤ 4) ∧ (zAk (m53_A_aA m53_L_2.toInt.toNat) np v69) ∧ (∀ kc : zK3, chP fPa np.toInt kc → gsF (keyA kc.2.2) np.toInt.toNat (m53_A_aA m53_L_2.toInt.toNat) v69) := hw
                            have F69 := f69_3
                            have q72 := zAk_d f60_2 f69_2 (by omega) (by omega)
                            refine lv_istore_n (lv' := [(3, .int v69), (2, .int m53_L_2), (1, .int m43_L_1), (0, .ref h0)]) hx hb dX11_layMatch_72 rfl hl (by decide) rfl (fun ls hl => ?_)
                            refine lv_aload_n hx hb dX11_layMatch_73 rfl (lv_at hl 3 rfl) ?_
                            refine va_get (D := (dC, dI)) (ci := 11) (v := .ref aA) (C := RX11) (T := TX11) (N := 41) hx hb hts iX11 hown hK hP 0 rfl rfl 37 (by decide) (hts _ qw1164) (fun _ h9 => h9) rfl dX11_layMatch_74 ?_
                            refine lv_iload_n hx hb dX11_layMatch_77 rfl (lv_at hl 1 rfl) ?_
                            refine lv_dup2_11 hx hb dX11_layMatch_78 rfl rfl ?_
                            refine va_iald hx hb hK hP 3 0 rfl rfl (vp_in_iff.mpr ⟨by omega, by omega⟩) dX11_layMatch_79 ?_
                            refine lv_topi (fun v79 e79 => ?_)
                            refine lv_iconst (v := 1) hx hb dX11_layMatch_80 (by decide) ?_
                            refine lv_iload_n hx hb dX11_layMatch_81 rfl (lv_at hl 0 rfl) ?_
                            refine lv_ishl hx hb dX11_layMatch_82 ?_
                            refine lv_topi (fun v82 e82 => ?_)
                            have i82 : 1 ≤ v82.toInt ∧ v82.toInt ≤ 32 := zshl1 e82 (by omega) (by omega)
                            refine lv_ior hx hb dX11_layMatch_83 ?_
                            refine lv_topi (fun v83 e83 => ?_)
                            refine va_iast hx hb hK hP hD hS 3 0 rfl rfl (vp_in_iff.mpr ⟨by omega, by omega⟩) dX11_layMatch_84 (fun H locs hP9 hD9 hS9 => ?_)
                            clear hP hD hS
                            obtain ⟨v84_f, e84⟩ : ∃ g : Nat → Int32, g = upd m53_A_aA (m53_L_2).toNatClampNeg v83 := ⟨_, rfl⟩
                            rw [← e84] at hP9 hD9
                            obtain ⟨hP, hD⟩ := zst (wX := [(h0, .inr (11, [.int th, .ref tB, .int tsz, .int tat, .int wr, .int dp, .ref rC, .ref rV, .ref rD, .ref rK, .ref rT, .ref rS, .ref rU, .int lw, .int tx, .ref rL, .ref rX, .ref qR, .ref qB, .ref qP, .int qnb, .int qnp, .ref aR, .ref aB, .ref aP, .int nb, .int np, .ref aN, .ref rf, .int ho, .int br, .ref aK, .int ac, .long dw, .ref aE, .int sr, .int sf, .ref aA, .ref aH, .ref aI, .int hi])), (aP, .inl (cI, 20, .inl fPa)), (aN, .inl (cI, 97, .inl fN)), (aA, .inl (cI, 6, .inl v84_f)), (aH, .inl (cI, 5, .inl m53_A_aH))]) hP9 hD9 rfl
                            have hS := hS9
                            clear hP9 hD9 hS9
                            have cq84_zAs : zAs v84_f := (zMs_lt (by assumption) f69_2 (by omega) (by omega) (by omega) (by omega) e79 e82 e83 e84).1
                            have q85 := (zMs_lt (by assumption) f69_2 (by omega) (by omega) (by omega) (by omega) e79 e82 e83 e84).2
                            refine lv_aload_n hx hb dX11_layMatch_85 rfl (lv_at hl 3 rfl) ?_
                            refine va_get (D := (dC, dI)) (ci := 11) (v := .ref aH) (C := RX11) (T := TX11) (N := 41) hx hb hts iX11 hown hK hP 0 rfl rfl 38 (by decide) (hts _ qw1165) (fun _ h9 => h9) rfl dX11_layMatch_86 ?_
                            refine lv_iload_n hx hb dX11_layMatch_89 rfl (lv_at hl 0 rfl) ?_
                            refine va_iald hx hb hK hP 4 0 rfl rfl (vp_in_iff.mpr ⟨by omega, by omega⟩) dX11_layMatch_90 ?_
                            refine lv_topi (fun v90 e90 => ?_)
                            have i90 : -1 ≤ v90.toInt ∧ v90.toInt ≤ 5 := zHo_g (by assumption) e90 (by omega) (by omega)
                            refine lv_istore (lv' := [(4, .int v90), (3, .int v69), (2, .int m53_L_2), (1, .int m43_L_1), (0, .ref h0)]) hx hb dX11_layMatch_91 hl (by decide) rfl (fun ls hl => ?_)
                            refine lv_iload hx hb dX11_layMatch_93 (lv_at hl 0 rfl) ?_
                            refine lv_iconst (v := (-1)) hx hb dX11_layMatch_95 (by decide) ?_
                            refine lv_icmp_eq (tgt := 109) hx hb dX11_layMatch_96 (by decide) (fun c96 => ?_) (fun c96 => ?_)
                            · have c96 : v90.toInt = (-1) := z5 rfl (by decide) c96
                              refine lv_aload_n hx hb dX11_layMatch_109 rfl (lv_at hl 4 rfl) ?_
                              refine va_get (D := (dC, dI)) (ci := 11) (v := .ref aH) (C := RX11) (T := TX11) (N := 41) hx hb hts iX11 hown hK hP 0 rfl rfl 38 (by decide) (hts _ qw1165) (fun _ h9 => h9) rfl dX11_layMatch_110 ?_
                              refine lv_iload_n hx hb dX11_layMatch_113 rfl (lv_at hl 1 rfl) ?_
                              refine lv_iload_n hx hb dX11_layMatch_114 rfl (lv_at hl 2 rfl) ?_
                              refine va_iast hx hb hK hP hD hS 4 0 rfl rfl (vp_in_iff.mpr ⟨by omega, by omega⟩) dX11_layMatch_115 (fun H locs hP9 hD9 hS9 => ?_)
                              clear hP hD hS
                              obtain ⟨v115_f, e115⟩ : ∃ g : Nat → Int32, g = upd m53_A_aH (v69).toNatClampNeg m53_L_2 := ⟨_, rfl⟩
                              rw [← e115] at hP9 hD9
                              obtain ⟨hP, hD⟩ := zst (wX := [(h0, .inr (11, [.int th, .ref tB, .int tsz, .int tat, .int wr, .int dp, .ref rC, .ref rV, .ref rD, .ref rK, .ref rT, .ref rS, .ref rU, .int lw, .int tx, .ref rL, .ref rX, .ref qR, .ref qB, .ref qP, .int qnb, .int qnp, .ref aR, .ref aB, .ref aP, .int nb, .int np, .ref aN, .ref rf, .int ho, .int br, .ref aK, .int ac, .long dw, .ref aE, .int sr, .int sf, .ref aA, .ref aH, .ref aI, .int hi])), (aP, .inl (cI, 20, .inl fPa)), (aN, .inl (cI, 97, .inl fN)), (aA, .inl (cI, 6, .inl v84_f)), (aH, .inl (cI, 5, .inl v115_f))]) hP9 hD9 rfl
                              have hS := hS9
                              clear hP9 hD9 hS9
                              have cq115_zHo : zHo v115_f := zHo_u (by assumption) e115 (by omega)
                              refine lv_iload hx hb dX11_layMatch_116 (lv_at hl 0 rfl) ?_
                              refine lv_istore_n (lv' := [(2, .int v90), (4, .int v90), (3, .int v69), (1, .int m43_L_1), (0, .ref h0)]) hx hb dX11_layMatch_118 rfl hl (by decide) rfl (fun ls hl => ?_)
                              refine lv_goto (tgt := 53) hx hb dX11_layMatch_119 (by decide) ?_
                              exact ih53 _ (by omega) v84_f v115_f v90 (by omega) (fun kc kY hP hY => by have fa := F69 kc hP; have kb := gsS_b (jv53_0 kc kY hP hY) (by omega); first | (have fb := F103 kY hY (by omega) (by have kh := gsS_h (jv53_0 kc kY hP hY) (p := v69) (by omega) (by have := (f69_2.2 (by omega)).1; omega) e90 (by omega); omega); first | (rcases fb with g | g; rotate_left; (exfalso; omega); exact gsS_put (keyA_i (by have := hP.2.2.2; omega)) (by omega) (jv53_0 kc kY hP hY) (by omega) fa (by omega) (zbit_s (hz53 m53_L_2.toInt.toNat (by omega)) ⟨by omega, by omega⟩ e79 e82 e83 e84) e90 (Or.inr (fun g0 hg => by have e : v90.toInt.toNat = g0 := (by omega); have y := g.2; rw [e] at y; exact y)) e115) | (rcases fb with g | g; (exfalso; omega); exact gsS_pass (keyA_i (by have := hP.2.2.2; omega)) (by omega) (jv53_0 kc kY hP hY) (by omega) fa (by omega) (zbit_s (hz53 m53_L_2.toInt.toNat (by omega)) ⟨by omega, by omega⟩ e79 e82 e83 e84) e90 (by omega) (by have := g.2; omega))) | exact gsS_put (keyA_i (by have := hP.2.2.2; omega)) (by omega) (jv53_0 kc kY hP hY) (by omega) fa (by omega) (zbit_s (hz53 m53_L_2.toInt.toNat (by omega)) ⟨by omega, by omega⟩ e79 e82 e83 e84) e90 (Or.inl (by omega)) e115) cq84_zAs cq115_zHo rfl H locs ls hP hD hS (lv_sub hl [0, 3, 4] rfl)
                            · have c96 : ¬ v90.toInt = (-1) := z6 rfl (by decide) c96
                              refine lv_aload_n hx hb dX11_layMatch_99 rfl (lv_at hl 4 rfl) ?_
                              refine lv_iload_n hx hb dX11_layMatch_100 rfl (lv_at hl 2 rfl) ?_
                              refine lv_iload hx hb dX11_layMatch_101 (lv_at hl 0 rfl) ?_
                              obtain ⟨hPc, hDc⟩ := zc2 (wc := [(h0, .inr (11, [.int th, .ref tB, .int tsz, .int tat, .int wr, .int dp, .ref rC, .ref rV, .ref rD, .ref rK, .ref rT, .ref rS, .ref rU, .int lw, .int tx, .ref rL, .ref rX, .ref qR, .ref qB, .ref qP, .int qnb, .int qnp, .ref aR, .ref aB, .ref aP, .int nb, .int np, .ref aN, .ref rf, .int ho, .int br, .ref aK, .int ac, .long dw, .ref aE, .int sr, .int sf, .ref aA, .ref aH, .ref aI, .int hi])), (aN, .inl (cI, 97, .inl fN))]) hP hD [0, 2] (by decide +kernel) rfl
                              have hFc := zfr hS hA
                              refine va_calli (va_runV (As := [.int m53_L_2, .int v90]) (rest := []) ⟨hx, hb, hml, hown, hts⟩ (g_X11_isBetter l dC dI cI cJ h0 m53_L_2 v90 th tB tsz tat wr dp rC rV rD rK rT rS rU lw tx rL rX qR qB qP qnb qnp aR aB aP nb np aN rf ho br aK ac dw aE sr sf aA aH aI hi fN H.size y_ac y_hi y_ho y_lw n_nb n_np (by omega) (by omega) y_qnb y_qnp y_tat y_tsz y_wr) (cwV 2 hts (zgV qw1713 qw1715 qw94 qw108 qw1716) rfl rfl rfl hd_X11_isBetter ⟨by rw [hR]; exact Nat.le_of_ble_eq_true rfl, by rw [hR]; exact Nat.le_of_ble_eq_true rfl⟩) (zPV hPc hK hDc (va_recv (q := (RX11, TX11, 41)) hK hP (ci := 11) (q0 := 0) rfl rfl)) rfl rfl hl.1 rfl (lv_room (Nat.le_of_ble_eq_true rfl)) dX11_layMatch_103 ⟨Nat.zero_le _, Nat.zero_le _⟩) hS (fun q _ h => hFc q h) hFc (fun v103 u103 t H locs ht hvm hw hB hz1 hk1 hS9 => ?_)
                              replace hP := zkeep hP hk1
                              replace hS := hS9
                              clear hPc hDc hFc hk1 hz1 hvm hS9
                              obtain ⟨f103_0, f103_1, f103_2⟩ : (0 ≤ v103.toInt) ∧ (v103.toInt ≤ 1) ∧ (∀ kY : Nat → Int32, chY fN nb.toInt kY → m53_L_2.toInt < nb.toInt → v90.toInt < nb.toInt → (v103.toInt = 1 ∧ keyP kY m53_L_2.toInt.toNat < keyP kY v90.toInt.toNat) ∨ (v103.toInt = 0 ∧ ¬ keyP kY m53_L_2.toInt.toNat < keyP kY v90.toInt.toNat)) := hw
                              have F103 := f103_2
                              refine lv_if_eq (tgt := 119) hx hb dX11_layMatch_106 (by decide) (fun c106 => ?_) (fun c106 => ?_)
                              · have c106 : v103.toInt = 0 := z5 rfl (by decide) c106
                                refine lv_goto (tgt := 53) hx hb dX11_layMatch_119 (by decide) ?_
                                exact ih53 _ (by omega) v84_f m53_A_aH m53_L_2 jf53_0 (fun kc kY hP hY => by have fa := F69 kc hP; have kb := gsS_b (jv53_0 kc kY hP hY) (by omega); first | (have fb := F103 kY hY (by omega) (by have kh := gsS_h (jv53_0 kc kY hP hY) (p := v69) (by omega) (by have := (f69_2.2 (by omega)).1; omega) e90 (by omega); omega); first | (rcases fb with g | g; rotate_left; (exfalso; omega); exact gsS_put (keyA_i (by have := hP.2.2.2; omega)) (by omega) (jv53_0 kc kY hP hY) (by omega) fa (by omega) (zbit_s (hz53 m53_L_2.toInt.toNat (by omega)) ⟨by omega, by omega⟩ e79 e82 e83 e84) e90 (Or.inr (fun g0 hg => by have e : v90.toInt.toNat = g0 := (by omega); have y := g.2; rw [e] at y; exact y)) e115) | (rcases fb with g | g; (exfalso; omega); exact gsS_pass (keyA_i (by have := hP.2.2.2; omega)) (by omega) (jv53_0 kc kY hP hY) (by omega) fa (by omega) (zbit_s (hz53 m53_L_2.toInt.toNat (by omega)) ⟨by omega, by omega⟩ e79 e82 e83 e84) e90 (by omega) (by have := g.2; omega))) | exact gsS_put (keyA_i (by have := hP.2.2.2; omega)) (by omega) (jv53_0 kc kY hP hY) (by omega) fa (by omega) (zbit_s (hz53 m53_L_2.toInt.toNat (by omega)) ⟨by omega, by omega⟩ e79 e82 e83 e84) e90 (Or.inl (by omega)) e115) cq84_zAs jf53_3 rfl H locs ls hP hD hS (lv_sub hl [2, 3, 4] rfl)
                              · have c106 : ¬ v103.toInt = 0 := z6 rfl (by decide) c106
                                refine lv_aload_n hx hb dX11_layMatch_109 rfl (lv_at hl 4 rfl) ?_
                                refine va_get (D := (dC, dI)) (ci := 11) (v := .ref aH) (C := RX11) (T := TX11) (N := 41) hx hb hts iX11 hown hK hP 0 rfl rfl 38 (by decide) (hts _ qw1165) (fun _ h9 => h9) rfl dX11_layMatch_110 ?_
                                refine lv_iload_n hx hb dX11_layMatch_113 rfl (lv_at hl 1 rfl) ?_
                                refine lv_iload_n hx hb dX11_layMatch_114 rfl (lv_at hl 2 rfl) ?_
                                refine va_iast hx hb hK hP hD hS 4 0 rfl rfl (vp_in_iff.mpr ⟨by omega, by omega⟩) dX11_layMatch_115 (fun H locs hP9 hD9 hS9 => ?_)
                                clear hP hD hS
                                obtain ⟨v115_f, e115⟩ : ∃ g : Nat → Int32, g = upd m53_A_aH (v69).toNatClampNeg m53_L_2 := ⟨_, rfl⟩
                                rw [← e115] at hP9 hD9
                                obtain ⟨hP, hD⟩ := zst (wX := [(h0, .inr (11, [.int th, .ref tB, .int tsz, .int tat, .int wr, .int dp, .ref rC, .ref rV, .ref rD, .ref rK, .ref rT, .ref rS, .ref rU, .int lw, .int tx, .ref rL, .ref rX, .ref qR, .ref qB, .ref qP, .int qnb, .int qnp, .ref aR, .ref aB, .ref aP, .int nb, .int np, .ref aN, .ref rf, .int ho, .int br, .ref aK, .int ac, .long dw, .ref aE, .int sr, .int sf, .ref aA, .ref aH, .ref aI, .int hi])), (aP, .inl (cI, 20, .inl fPa)), (aN, .inl (cI, 97, .inl fN)), (aA, .inl (cI, 6, .inl v84_f)), (aH, .inl (cI, 5, .inl v115_f))]) hP9 hD9 rfl
                                have hS := hS9
                                clear hP9 hD9 hS9
                                have cq115_zHo : zHo v115_f := zHo_u (by assumption) e115 (by omega)
                                refine lv_iload hx hb dX11_layMatch_116 (lv_at hl 0 rfl) ?_
                                refine lv_istore_n (lv' := [(2, .int v90), (4, .int v90), (3, .int v69), (1, .int m43_L_1), (0, .ref h0)]) hx hb dX11_layMatch_118 rfl hl (by decide) rfl (fun ls hl => ?_)
                                refine lv_goto (tgt := 53) hx hb dX11_layMatch_119 (by decide) ?_
                                exact ih53 _ (by omega) v84_f v115_f v90 (by omega) (fun kc kY hP hY => by have fa := F69 kc hP; have kb := gsS_b (jv53_0 kc kY hP hY) (by omega); first | (have fb := F103 kY hY (by omega) (by have kh := gsS_h (jv53_0 kc kY hP hY) (p := v69) (by omega) (by have := (f69_2.2 (by omega)).1; omega) e90 (by omega); omega); first | (rcases fb with g | g; rotate_left; (exfalso; omega); exact gsS_put (keyA_i (by have := hP.2.2.2; omega)) (by omega) (jv53_0 kc kY hP hY) (by omega) fa (by omega) (zbit_s (hz53 m53_L_2.toInt.toNat (by omega)) ⟨by omega, by omega⟩ e79 e82 e83 e84) e90 (Or.inr (fun g0 hg => by have e : v90.toInt.toNat = g0 := (by omega); have y := g.2; rw [e] at y; exact y)) e115) | (rcases fb with g | g; (exfalso; omega); exact gsS_pass (keyA_i (by have := hP.2.2.2; omega)) (by omega) (jv53_0 kc kY hP hY) (by omega) fa (by omega) (zbit_s (hz53 m53_L_2.toInt.toNat (by omega)) ⟨by omega, by omega⟩ e79 e82 e83 e84) e90 (by omega) (by have := g.2; omega))) | exact gsS_put (keyA_i (by have := hP.2.2.2; omega)) (by omega) (jv53_0 kc kY hP hY) (by omega) fa (by omega) (zbit_s (hz53 m53_L_2.toInt.toNat (by omega)) ⟨by omega, by omega⟩ e79 e82 e83 e84) e90 (Or.inl (by omega)) e115) cq84_zAs cq115_zHo rfl H locs ls hP hD hS (lv_sub hl [0, 3, 4] rfl)
                    refine lv_istore_n (lv' := [(2, .int m43_L_1), (1, .int m43_L_1), (0, .ref h0)]) hx hb dX11_layMatch_52 rfl hl (by decide) rfl (fun ls hl => ?_)
                    exact J53 _ m43_A_aA m43_A_aH m43_L_1 (by omega) (fun kc kY hP hY => gsS_in (jv43_0 kc kY hP hY) (by omega) (by omega)) jf43_3 jf43_4 rfl H locs ls hP hD hS (lv_sub hl [0, 1, 2] rfl)
              refine lv_istore_n (lv' := [(1, .int 0), (0, .ref h0)]) hx hb dX11_layMatch_42 rfl hl (by decide) rfl (fun ls hl => ?_)
              have zj43_m43_L_1 : (0 : Int32).toInt = 0 := by decide
              exact J43 _ m2_A_aA m23_A_aH 0 (by decide) (fun kc kY hP hY => gsS_0 (fun j hj => jv2_0 j (by omega)) (fun j hj => jv23_0 j (by omega)) (by omega)) (by omega) jf2_2 jf23_2 rfl H locs ls hP hD hS (lv_sub hl [0, 1] rfl)
            · have c25 : m23_L_1.toInt < 5 := z4 (by decide) rfl c25
              refine lv_aload_n hx hb dX11_layMatch_28 rfl (lv_at hl 1 rfl) ?_
              refine va_get (D := (dC, dI)) (ci := 11) (v := .ref aH) (C := RX11) (T := TX11) (N := 41) hx hb hts iX11 hown hK hP 0 rfl rfl 38 (by decide) (hts _ qw1165) (fun _ h9 => h9) rfl dX11_layMatch_29 ?_
              refine lv_iload_n hx hb dX11_layMatch_32 rfl (lv_at hl 0 rfl) ?_
              refine lv_iconst (v := (-1)) hx hb dX11_layMatch_33 (by decide) ?_
              refine va_iast hx hb hK hP hD hS 4 0 rfl rfl (vp_in_iff.mpr ⟨by omega, by omega⟩) dX11_layMatch_34 (fun H locs hP9 hD9 hS9 => ?_)
              clear hP hD hS
              obtain ⟨v34_f, e34⟩ : ∃ g : Nat → Int32, g = upd m23_A_aH (m23_L_1).toNatClampNeg (-1) := ⟨_, rfl⟩
              rw [← e34] at hP9 hD9
              obtain ⟨hP, hD⟩ := zst (wX := [(h0, .inr (11, [.int th, .ref tB, .int tsz, .int tat, .int wr, .int dp, .ref rC, .ref rV, .ref rD, .ref rK, .ref rT, .ref rS, .ref rU, .int lw, .int tx, .ref rL, .ref rX, .ref qR, .ref qB, .ref qP, .int qnb, .int qnp, .ref aR, .ref aB, .ref aP, .int nb, .int np, .ref aN, .ref rf, .int ho, .int br, .ref aK, .int ac, .long dw, .ref aE, .int sr, .int sf, .ref aA, .ref aH, .ref aI, .int hi])), (aP, .inl (cI, 20, .inl fPa)), (aN, .inl (cI, 97, .inl fN)), (aA, .inl (cI, 6, .inl m2_A_aA)), (aH, .inl (cI, 5, .inl v34_f))]) hP9 hD9 rfl
              have hS := hS9
              clear hP9 hD9 hS9
              have cq34_zHo : zHo v34_f := zHo_u (by assumption) e34 (by decide)
              obtain ⟨v35, e35⟩ : ∃ y : Int32, y = m23_L_1 + Int32.ofInt (1) := ⟨_, rfl⟩
              refine lv_iinc (v := v35) (lv' := [(1, .int v35), (0, .ref h0)]) hx hb dX11_layMatch_35 hl (k := 0) rfl e35.symm (by decide) rfl (fun ls hl => ?_)
              have i35 : v35.toInt = m23_L_1.toInt + 1 := zaddI e35 (by decide) (by omega) (by omega)
              refine lv_goto (tgt := 23) hx hb dX11_layMatch_38 (by decide) ?_
              exact ih23 _ (by omega) v34_f v35 (by omega) (zBlS (B := fun _ => -1) jv23_0 (by omega) i35 e34 rfl) cq34_zHo rfl H locs ls hP hD hS (lv_sub hl [0, 1] rfl)
        refine lv_istore_n (lv' := [(1, .int 0), (0, .ref h0)]) hx hb dX11_layMatch_22 rfl hl (by decide) rfl (fun ls hl => ?_)
        have zj23_m23_L_1 : (0 : Int32).toInt = 0 := by decide
        exact J23 _ fH 0 (by decide) (fun j hj => by exfalso; have z1 : (0 : Int32).toInt = 0 := (by decide); omega) ci_fH_zHo rfl H locs ls hP hD hS (lv_sub hl [0, 1] rfl)
      · have c5 : m2_L_1.toInt < 6 := z4 (by decide) rfl c5
        refine lv_aload_n hx hb dX11_layMatch_8 rfl (lv_at hl 1 rfl) ?_
        refine va_get (D := (dC, dI)) (ci := 11) (v := .ref aA) (C := RX11) (T := TX11) (N := 41) hx hb hts iX11 hown hK hP 0 rfl rfl 37 (by decide) (hts _ qw1164) (fun _ h9 => h9) rfl dX11_layMatch_9 ?_
        refine lv_iload_n hx hb dX11_layMatch_12 rfl (lv_at hl 0 rfl) ?_
        refine lv_iconst (v := 0) hx hb dX11_layMatch_13 (by decide) ?_
        refine va_iast hx hb hK hP hD hS 3 0 rfl rfl (vp_in_iff.mpr ⟨by omega, by omega⟩) dX11_layMatch_14 (fun H locs hP9 hD9 hS9 => ?_)
        clear hP hD hS
        obtain ⟨v14_f, e14⟩ : ∃ g : Nat → Int32, g = upd m2_A_aA (m2_L_1).toNatClampNeg 0 := ⟨_, rfl⟩
        rw [← e14] at hP9 hD9
        obtain ⟨hP, hD⟩ := zst (wX := [(h0, .inr (11, [.int th, .ref tB, .int tsz, .int tat, .int wr, .int dp, .ref rC, .ref rV, .ref rD, .ref rK, .ref rT, .ref rS, .ref rU, .int lw, .int tx, .ref rL, .ref rX, .ref qR, .ref qB, .ref qP, .int qnb, .int qnp, .ref aR, .ref aB, .ref aP, .int nb, .int np, .ref aN, .ref rf, .int ho, .int br, .ref aK, .int ac, .long dw, .ref aE, .int sr, .int sf, .ref aA, .ref aH, .ref aI, .int hi])), (aP, .inl (cI, 20, .inl fPa)), (aN, .inl (cI, 97, .inl fN)), (aA, .inl (cI, 6, .inl v14_f)), (aH, .inl (cI, 5, .inl fH))]) hP9 hD9 rfl
        have hS := hS9
        clear hP9 hD9 hS9
        have cq14_zAs : zAs v14_f := zAs_u (by assumption) e14 (by decide)
        obtain ⟨v15, e15⟩ : ∃ y : Int32, y = m2_L_1 + Int32.ofInt (1) := ⟨_, rfl⟩
        refine lv_iinc (v := v15) (lv' := [(1, .int v15), (0, .ref h0)]) hx hb dX11_layMatch_15 hl (k := 0) rfl e15.symm (by decide) rfl (fun ls hl => ?_)
        have i15 : v15.toInt = m2_L_1.toInt + 1 := zaddI e15 (by decide) (by omega) (by omega)
        refine lv_goto (tgt := 2) hx hb dX11_layMatch_18 (by decide) ?_
        exact ih2 _ (by omega) v14_f v15 (by omega) (zBlS (B := fun _ => 0) jv2_0 (by omega) i15 e14 rfl) cq14_zAs rfl H locs ls hP hD hS (lv_sub hl [0, 1] rfl)
  refine lv_istore_n (lv' := [(1, .int 0), (0, .ref h0)]) hx hb dX11_layMatch_1 rfl hl (by decide) rfl (fun ls hl => ?_)
  have zj2_m2_L_1 : (0 : Int32).toInt = 0 := by decide
  exact J2 _ fA 0 (by decide) (fun j hj => by exfalso; have z1 : (0 : Int32).toInt = 0 := (by decide); omega) ci_fA_zAs rfl H locs ls hP hD hS (lv_sub hl [0, 1] rfl)
set_option maxHeartbeats 4000000 in
set_option maxRecDepth 100000 in
theorem g_X11_matched (l : Launch) (dC : Nat → ClassId) (dI : Nat → Nat → Nat) (cI cJ : ClassId) (h0 : Nat) (p0 : Int32) (th : Int32) (tB : Nat) (tsz : Int32) (tat : Int32) (wr : Int32) (dp : Int32) (rC : Nat) (rV : Nat) (rD : Nat) (rK : Nat) (rT : Nat) (rS : Nat) (rU : Nat) (lw : Int32) (tx : Int32) (rL : Nat) (rX : Nat) (qR : Nat) (qB : Nat) (qP : Nat) (qnb : Int32) (qnp : Int32) (aR : Nat) (aB : Nat) (aP : Nat) (nb : Int32) (np : Int32) (aN : Nat) (rf : Nat) (ho : Int32) (br : Int32) (aK : Nat) (ac : Int32) (dw : Int64) (aE : Nat) (sr : Int32) (sf : Int32) (aA : Nat) (aH : Nat) (aI : Nat) (hi : Int32) (fPa : Nat → Int32) (fN : Nat → Int32) (fA : Nat → Int32) (fH : Nat → Int32) (sz : Nat) (n_ac : 0 ≤ ac.toInt ∧ ac.toInt ≤ 40) (n_hi : 0 ≤ hi.toInt ∧ hi.toInt ≤ 1) (n_ho : (-1) ≤ ho.toInt ∧ ho.toInt ≤ 3) (n_lw : 0 ≤ lw.toInt ∧ lw.toInt ≤ 4) (n_nb : 0 ≤ nb.toInt ∧ nb.toInt ≤ 6) (n_np : 0 ≤ np.toInt ∧ np.toInt ≤ 5) (n_qnb : 0 ≤ qnb.toInt ∧ qnb.toInt ≤ 6) (n_qnp : 0 ≤ qnp.toInt ∧ qnp.toInt ≤ 5) (n_tat : 0 ≤ tat.toInt ∧ tat.toInt ≤ 260) (n_tsz : 0 ≤ tsz.toInt ∧ tsz.toInt ≤ 240) (n_wr : (-1) ≤ wr.toInt ∧ wr.toInt ≤ 260)  (ci_fA_zAs : zAs fA) (ci_fH_zHo : zHo fH)  : Met l yX11_matched (.code yX11_matched cX11_matched 4 (some .int) :: wA) ({ frames := 3, cells := 0, slots := 0, locals := 69 }) (zP (dC, dI) [(cI, .int), (cJ, .long)] [.ref h0, .int p0] sz [(h0, .inr (11, [.int th, .ref tB, .int tsz, .int tat, .int wr, .int dp, .ref rC, .ref rV, .ref rD, .ref rK, .ref rT, .ref rS, .ref rU, .int lw, .int tx, .ref rL, .ref rX, .ref qR, .ref qB, .ref qP, .int qnb, .int qnp, .ref aR, .ref aB, .ref aP, .int nb, .int np, .ref aN, .ref rf, .int ho, .int br, .ref aK, .int ac, .long dw, .ref aE, .int sr, .int sf, .ref aA, .ref aH, .ref aI, .int hi])), (aP, .inl (cI, 20, .inl fPa)), (aN, .inl (cI, 97, .inl fN)), (aA, .inl (cI, 6, .inl fA)), (aH, .inl (cI, 5, .inl fH))]) (va_Qi (fun (r : Int32) (u : (Nat → Int32) × (Nat → Int32)) => ((-1) ≤ r.toInt) ∧ (r.toInt ≤ 4) ∧ (∀ (kc : zK3) (kT : zT) (q_fR : Nat → Int32) (q_fBr : Nat → Int32) (q_fKp : Nat → Int32) (q_frf : Nat → Int32), zCn q_fR q_fBr fPa nb.toInt np.toInt kc → zKo nb.toInt np.toInt kc kT → zTr nb.toInt np.toInt kT fN q_fKp ac q_frf → r.toInt = sV_mat nb.toInt np.toInt kc kT.1.1 p0) ∧ (zAs u.1) ∧ (zHo u.2)) (fun (u : (Nat → Int32) × (Nat → Int32)) (t : State) => va_P (dC, dI) vwCl [(h0, .inr (11, [.int th, .ref tB, .int tsz, .int tat, .int wr, .int dp, .ref rC, .ref rV, .ref rD, .ref rK, .ref rT, .ref rS, .ref rU, .int lw, .int tx, .ref rL, .ref rX, .ref qR, .ref qB, .ref qP, .int qnb, .int qnp, .ref aR, .ref aB, .ref aP, .int nb, .int np, .ref aN, .ref rf, .int ho, .int br, .ref aK, .int ac, .long dw, .ref aE, .int sr, .int sf, .ref aA, .ref aH, .ref aI, .int hi])), (aP, .inl (cI, 20, .inl fPa)), (aN, .inl (cI, 97, .inl fN)), (aA, .inl (cI, 6, .inl u.1)), (aH, .inl (cI, 5, .inl u.2))] t.heap ∧ va_D (va_A [(h0, .inr (11, [.int th, .ref tB, .int tsz, .int tat, .int wr, .int dp, .ref rC, .ref rV, .ref rD, .ref rK, .ref rT, .ref rS, .ref rU, .int lw, .int tx, .ref rL, .ref rX, .ref qR, .ref qB, .ref qP, .int qnb, .int qnp, .ref aR, .ref aB, .ref aP, .int nb, .int np, .ref aN, .ref rf, .int ho, .int br, .ref aK, .int ac, .long dw, .ref aE, .int sr, .int sf, .ref aA, .ref aH, .ref aI, .int hi])), (aP, .inl (cI, 20, .inl fPa)), (aN, .inl (cI, 97, .inl fN)), (aA, .inl (cI, 6, .inl fA)), (aH, .inl (cI, 5, .inl fH))] sz) [(h0, .inr (11, [.int th, .ref tB, .int tsz, .int tat, .int wr, .int dp, .ref rC, .ref rV, .ref rD, .ref rK, .ref rT, .ref rS, .ref rU, .int lw, .int tx, .ref rL, .ref rX, .ref qR, .ref qB, .ref qP, .int qnb, .int qnp, .ref aR, .ref aB, .ref aP, .int nb, .int np, .ref aN, .ref rf, .int ho, .int br, .ref aK, .int ac, .long dw, .ref aE, .int sr, .int sf, .ref aA, .ref aH, .ref aI, .int hi])), (aP, .inl (cI, 20, .inl fPa)), (aN, .inl (cI, 97, .inl fN)), (aA, .inl (cI, 6, .inl u.1)), (aH, .inl (cI, 5, .inl u.2))]) (va_A [(h0, .inr (11, [.int th, .ref tB, .int tsz, .int tat, .int wr, .int dp, .ref rC, .ref rV, .ref rD, .ref rK, .ref rT, .ref rS, .ref rU, .int lw, .int tx, .ref rL, .ref rX, .ref qR, .ref qB, .ref qP, .int qnb, .int qnp, .ref aR, .ref aB, .ref aP, .int nb, .int np, .ref aN, .ref rf, .int ho, .int br, .ref aK, .int ac, .long dw, .ref aE, .int sr, .int sf, .ref aA, .ref aH, .ref aI, .int hi])), (aP, .inl (cI, 20, .inl fPa)), (aN, .inl (cI, 97, .inl fN)), (aA, .inl (cI, 6, .inl fA)), (aH, .inl (cI, 5, .inl fH))] sz)) 0 0 (va_A [(h0, .inr (11, [.int th, .ref tB, .int tsz, .int tat, .int wr, .int dp, .ref rC, .ref rV, .ref rD, .ref rK, .ref rT, .ref rS, .ref rU, .int lw, .int tx, .ref rL, .ref rX, .ref qR, .ref qB, .ref qP, .int qnb, .int qnp, .ref aR, .ref aB, .ref aP, .int nb, .int np, .ref aN, .ref rf, .int ho, .int br, .ref aK, .int ac, .long dw, .ref aE, .int sr, .int sf, .ref aA, .ref aH, .ref aI, .int hi])), (aP, .inl (cI, 20, .inl fPa)), (aN, .inl (cI, 97, .inl fN)), (aA, .inl (cI, 6, .inl fA)), (aH, .inl (cI, 5, .inl fH))] sz) := by
  refine Met.ofW (cc := cX11_matched) (maxL := 4) (ret := (some .int)) (by decide) rfl ?_
  intro p e s m args below meth c s₁ B hml hv
  have y_ac : zHid (0 ≤ ac.toInt ∧ ac.toInt ≤ 40) := n_ac
  have y_hi : zHid (0 ≤ hi.toInt ∧ hi.toInt ≤ 1) := n_hi
  have y_ho : zHid ((-1) ≤ ho.toInt ∧ ho.toInt ≤ 3) := n_ho
  have y_lw : zHid (0 ≤ lw.toInt ∧ lw.toInt ≤ 4) := n_lw
  have y_qnb : zHid (0 ≤ qnb.toInt ∧ qnb.toInt ≤ 6) := n_qnb
  have y_qnp : zHid (0 ≤ qnp.toInt ∧ qnp.toInt ≤ 5) := n_qnp
  have y_tat : zHid (0 ≤ tat.toInt ∧ tat.toInt ≤ 260) := n_tat
  have y_tsz : zHid (0 ≤ tsz.toInt ∧ tsz.toInt ≤ 240) := n_tsz
  have y_wr : zHid ((-1) ≤ wr.toInt ∧ wr.toInt ≤ 260) := n_wr
  clear n_ac n_hi n_ho n_lw n_qnb n_qnp n_tat n_tsz n_wr
  obtain ⟨hargs, hsz, hP, hK, hT⟩ := hv
  have hx := B.exec
  have hb := B.bytes
  have hr := B.returns
  have hts : ∀ w ∈ wA, w.before args s = true := fun w h => atoms_spec (ws := .code yX11_matched cX11_matched 4 (some .int) :: wA) B.pre w (List.mem_cons_of_mem _ h)
  have hown : s.vm.findClass RX11 = some m.cls := findClass_of_methodNamed B.named
  have hlocks := B.notSynchronized
  subst hsz
  have hD := hT.self (sz := s.heap.size)
  generalize hAe : va_A [(h0, .inr (11, [.int th, .ref tB, .int tsz, .int tat, .int wr, .int dp, .ref rC, .ref rV, .ref rD, .ref rK, .ref rT, .ref rS, .ref rU, .int lw, .int tx, .ref rL, .ref rX, .ref qR, .ref qB, .ref qP, .int qnb, .int qnp, .ref aR, .ref aB, .ref aP, .int nb, .int np, .ref aN, .ref rf, .int ho, .int br, .ref aK, .int ac, .long dw, .ref aE, .int sr, .int sf, .ref aA, .ref aH, .ref aI, .int hi])), (aP, .inl (cI, 20, .inl fPa)), (aN, .inl (cI, 97, .inl fN)), (aA, .inl (cI, 6, .inl fA)), (aH, .inl (cI, 5, .inl fH))] s.heap.size = A at hD ⊢
  have hA : ∀ q : Nat, s.heap.size ≤ q → A q := fun q h => by rw [← hAe]; exact Or.inr h
  have hl := lv_entry ([.ref h0, .int p0]) (n := 4) (Nat.le_of_ble_eq_true rfl)
  rw [show entryFrame m args 4 = entryFrame m ([.ref h0, .int p0] : List Value).toArray 4 by rw [hargs], lg_entry_eq]
  generalize (lg_sl ([.ref h0, .int p0]) ++ List.replicate (4 - (lg_sl ([.ref h0, .int p0])).length) Slot.unset).toArray = ls at hl ⊢
  have hl : lv_has ls 4 [(0, .ref h0), (1, .int p0)] := hl
  refine zstart (fun H hH => ?_)
  rw [← hH] at hP
  have hS : va_S A s.heap H [] := by rw [hH]; exact va_S.rf
  generalize ([] : List Loc) = locs at hS ⊢
  refine zgen (fun R Q hR hQ => ?_)
  refine lv_aload_n hx hb dX11_matched_0 rfl (lv_at hl 0 rfl) ?_
  refine lv_iload_n hx hb dX11_matched_1 rfl (lv_at hl 1 rfl) ?_
  obtain ⟨hPc, hDc⟩ := zc2 (wc := [(h0, .inr (11, [.int th, .ref tB, .int tsz, .int tat, .int wr, .int dp, .ref rC, .ref rV, .ref rD, .ref rK, .ref rT, .ref rS, .ref rU, .int lw, .int tx, .ref rL, .ref rX, .ref qR, .ref qB, .ref qP, .int qnb, .int qnp, .ref aR, .ref aB, .ref aP, .int nb, .int np, .ref aN, .ref rf, .int ho, .int br, .ref aK, .int ac, .long dw, .ref aE, .int sr, .int sf, .ref aA, .ref aH, .ref aI, .int hi]))]) hP hD [0] (by decide +kernel) rfl
  have hFc := zfr hS hA
  refine va_calli (va_runV (As := [.int p0]) (rest := []) ⟨hx, hb, hml, hown, hts⟩ (g_X11_isBride l dC dI cI cJ h0 p0 th tB tsz tat wr dp rC rV rD rK rT rS rU lw tx rL rX qR qB qP qnb qnp aR aB aP nb np aN rf ho br aK ac dw aE sr sf aA aH aI hi H.size y_ac y_hi y_ho y_lw n_nb n_np y_qnb y_qnp y_tat y_tsz y_wr) (cwV 1 hts (zgV qw1402 qw1404 qw56 qw108 qw1405) rfl rfl rfl hd_X11_isBride ⟨by rw [hR]; exact Nat.le_of_ble_eq_true rfl, by rw [hR]; exact Nat.le_of_ble_eq_true rfl⟩) (zPV hPc hK hDc (va_recv (q := (RX11, TX11, 41)) hK hP (ci := 11) (q0 := 0) rfl rfl)) rfl rfl hl.1 rfl (lv_room (Nat.le_of_ble_eq_true rfl)) dX11_matched_2 ⟨Nat.zero_le _, Nat.zero_le _⟩) hS (fun q _ h => hFc q h) hFc (fun v2 u2 t H locs ht hvm hw hB hz1 hk1 hS9 => ?_)
  replace hP := zkeep hP hk1
  replace hS := hS9
  clear hPc hDc hFc hk1 hz1 hvm hS9
  obtain ⟨f2_0, f2_1, f2_2, f2_3⟩ : (0 ≤ v2.toInt) ∧ (v2.toInt ≤ 1) ∧ (¬ v2.toInt = 0 → (0 ≤ p0.toInt ∧ p0.toInt < nb.toInt)) ∧ (v2.toInt = 0 → ¬ (0 ≤ p0.toInt ∧ p0.toInt < nb.toInt)) := hw
  refine lv_if_ne (tgt := 10) hx hb dX11_matched_5 (by decide) (fun c5 => ?_) (fun c5 => ?_)
  · have c5 : ¬ v2.toInt = 0 := z6 rfl (by decide) c5
    refine lv_aload_n hx hb dX11_matched_10 rfl (lv_at hl 0 rfl) ?_
    obtain ⟨hPc, hDc, hFc⟩ := zc3 (wc := [(h0, .inr (11, [.int th, .ref tB, .int tsz, .int tat, .int wr, .int dp, .ref rC, .ref rV, .ref rD, .ref rK, .ref rT, .ref rS, .ref rU, .int lw, .int tx, .ref rL, .ref rX, .ref qR, .ref qB, .ref qP, .int qnb, .int qnp, .ref aR, .ref aB, .ref aP, .int nb, .int np, .ref aN, .ref rf, .int ho, .int br, .ref aK, .int ac, .long dw, .ref aE, .int sr, .int sf, .ref aA, .ref aH, .ref aI, .int hi])), (aP, .inl (cI, 20, .inl fPa)), (aN, .inl (cI, 97, .inl fN)), (aA, .inl (cI, 6, .inl fA)), (aH, .inl (cI, 5, .inl fH))]) hP hD hS hA [0, 1, 2, 3, 4] (by decide +kernel) rfl
    refine va_callv (va_runV (As := []) (rest := []) ⟨hx, hb, hml, hown, hts⟩ (g_X11_layMatch l dC dI cI cJ h0 th tB tsz tat wr dp rC rV rD rK rT rS rU lw tx rL rX qR qB qP qnb qnp aR aB aP nb np aN rf ho br aK ac dw aE sr sf aA aH aI hi fPa fN fA fH H.size y_ac y_hi y_ho y_lw n_nb n_np y_qnb y_qnp y_tat y_tsz y_wr ci_fA_zAs ci_fH_zHo) (cwV 0 hts (zgV qw1705 qw1707 qw92 qw108 qw1708) rfl rfl rfl hd_X11_layMatch ⟨by rw [hR]; exact Nat.le_of_ble_eq_true rfl, by rw [hR]; exact Nat.le_of_ble_eq_true rfl⟩) (zPV hPc hK hDc (va_recv (q := (RX11, TX11, 41)) hK hP (ci := 11) (q0 := 0) rfl rfl)) rfl rfl hl.1 rfl (lv_room (Nat.le_of_ble_eq_true rfl)) dX11_matched_11 ⟨Nat.zero_le _, Nat.zero_le _⟩) hS (fun q _ h => hFc q h) hFc (fun u11 t H locs ht hvm hw hB hz1 hk1 hS9 => ?_)
    obtain ⟨u11_0, u11_1⟩ := u11
    obtain ⟨hP9, hD9⟩ := zj2 (wX := [(h0, .inr (11, [.int th, .ref tB, .int tsz, .int tat, .int wr, .int dp, .ref rC, .ref rV, .ref rD, .ref rK, .ref rT, .ref rS, .ref rU, .int lw, .int tx, .ref rL, .ref rX, .ref qR, .ref qB, .ref qP, .int qnb, .int qnp, .ref aR, .ref aB, .ref aP, .int nb, .int np, .ref aN, .ref rf, .int ho, .int br, .ref aK, .int ac, .long dw, .ref aE, .int sr, .int sf, .ref aA, .ref aH, .ref aI, .int hi])), (aP, .inl (cI, 20, .inl fPa)), (aN, .inl (cI, 97, .inl fN)), (aA, .inl (cI, 6, .inl u11_0)), (aH, .inl (cI, 5, .inl u11_1))]) hP hD hk1 hFc ht hB [0, 1, 2, 3, 4] [(true, 0), (true, 1), (true, 2), (true, 3), (true, 4)] rfl (by decide +kernel) (by decide +kernel) rfl
    clear hP hD hS hPc hDc hFc hB hk1 hz1 hvm
    have hP := hP9
    have hD := hD9
    have hS := hS9
    clear hP9 hD9 hS9
    obtain ⟨f11_0, f11_1, f11_2⟩ : (∀ (kc : zK3) (kY : Nat → Int32), chP fPa np.toInt kc → chY fN nb.toInt kY → ∀ b p : Nat, b < nb.toInt.toNat → p < np.toInt.toNat → ((u11_1 p).toInt = (b : Int) ↔ rnk (keyA kc.2.2) np.toInt.toNat p = rnk (keyP kY) nb.toInt.toNat b)) ∧ (zAs u11_0) ∧ (zHo u11_1) := hw
    have F11 := f11_0
    refine lv_iconst (v := (-1)) hx hb dX11_matched_14 (by decide) ?_
    refine lv_istore_n (lv' := [(2, .int (-1)), (0, .ref h0), (1, .int p0)]) hx hb dX11_matched_15 rfl hl (by decide) rfl (fun ls hl => ?_)
    refine lv_iconst (v := 0) hx hb dX11_matched_16 (by decide) ?_
    have J18 : ∀ (n : Nat) (m18_L_2 : Int32) (m18_L_3 : Int32), ((-1) ≤ m18_L_2.toInt ∧ m18_L_2.toInt ≤ 4) → (0 ≤ m18_L_3.toInt ∧ m18_L_3.toInt ≤ 5) → (∀ (kc : zK3) (kY : Nat → Int32), chP fPa np.toInt kc → chY fN nb.toInt kY → gsM (keyA kc.2.2) np.toInt.toNat (rnk (keyP kY) nb.toInt.toNat p0.toInt.toNat) m18_L_2 m18_L_3) → (m18_L_3.toInt ≤ np.toInt) → (6 - m18_L_3.toInt).toNat = n → ∀ (H : Heap) (locs : List Loc) (ls : Array Slot), va_P (dC, dI) vwCl [(h0, .inr (11, [.int th, .ref tB, .int tsz, .int tat, .int wr, .int dp, .ref rC, .ref rV, .ref rD, .ref rK, .ref rT, .ref rS, .ref rU, .int lw, .int tx, .ref rL, .ref rX, .ref qR, .ref qB, .ref qP, .int qnb, .int qnp, .ref aR, .ref aB, .ref aP, .int nb, .int np, .ref aN, .ref rf, .int ho, .int br, .ref aK, .int ac, .long dw, .ref aE, .int sr, .int sf, .ref aA, .ref aH, .ref aI, .int hi])), (aP, .inl (cI, 20, .inl fPa)), (aN, .inl (cI, 97, .inl fN)), (aA, .inl (cI, 6, .inl u11_0)), (aH, .inl (cI, 5, .inl u11_1))] H → va_D A [(h0, .inr (11, [.int th, .ref tB, .int tsz, .int tat, .int wr, .int dp, .ref rC, .ref rV, .ref rD, .ref rK, .ref rT, .ref rS, .ref rU, .int lw, .int tx, .ref rL, .ref rX, .ref qR, .ref qB, .ref qP, .int qnb, .int qnp, .ref aR, .ref aB, .ref aP, .int nb, .int np, .ref aN, .ref rf, .int ho, .int br, .ref aK, .int ac, .long dw, .ref aE, .int sr, .int sf, .ref aA, .ref aH, .ref aI, .int hi])), (aP, .inl (cI, 20, .inl fPa)), (aN, .inl (cI, 97, .inl fN)), (aA, .inl (cI, 6, .inl u11_0)), (aH, .inl (cI, 5, .inl u11_1))] → va_S A s.heap H locs → lv_has ls 4 [(3, .int m18_L_3), (2, .int m18_L_2), (0, .ref h0), (1, .int p0)] → W p l e R s m args below meth c H locs 0 0 Q (F0 m 18 ls []) := by
      intro n18
      induction n18 using Nat.strongRecOn with
      | _ n18 ih18 =>
        intro m18_L_2 m18_L_3 jf18_0 jf18_1 jv18_0 jf18_3 hmu18 H locs ls hP hD hS hl
        refine lv_iload_n hx hb dX11_matched_18 rfl (lv_at hl 0 rfl) ?_
        refine lv_aload_n hx hb dX11_matched_19 rfl (lv_at hl 2 rfl) ?_
        refine va_get (D := (dC, dI)) (ci := 11) (v := .int np) (C := RX11) (T := TX11) (N := 41) hx hb hts iX11 hown hK hP 0 rfl rfl 26 (by decide) (hts _ qw1153) (fun _ h9 => h9) rfl dX11_matched_20 ?_
        refine lv_icmp_ge (tgt := 48) hx hb dX11_matched_23 (by decide) (fun c23 => ?_) (fun c23 => ?_)
        · have c23 : np.toInt ≤ m18_L_3.toInt := z3 rfl rfl c23
          refine lv_iload_n hx hb dX11_matched_48 rfl (lv_at hl 1 rfl) ?_
          rw [hQ]
          exact W.iret (v := m18_L_2) hx hb hr (fun t ht hW => ⟨⟨m18_L_2, (u11_0, u11_1), rfl, ⟨by (try dsimp only); omega, by (try dsimp only); omega, by (try dsimp only); exact fun kc kT q_fR q_fBr q_fKp q_frf hc hb h => by have hP := chP_of hc hb (by omega) (by omega); have hY := chY_r h.1 hb (by omega) (by omega); unfold sV_mat; rw [if_pos (by omega)]; exact gsM_e (jv18_0 kc _ hP hY) (keyA_i (by omega)) (by omega), f11_1, f11_2⟩, ⟨by rw [ht]; exact hP, hD⟩⟩, hS.F ht⟩) hS.2.2 dX11_matched_49
        · have c23 : m18_L_3.toInt < np.toInt := z4 rfl rfl c23
          refine lv_aload_n hx hb dX11_matched_26 rfl (lv_at hl 2 rfl) ?_
          refine va_get (D := (dC, dI)) (ci := 11) (v := .ref aH) (C := RX11) (T := TX11) (N := 41) hx hb hts iX11 hown hK hP 0 rfl rfl 38 (by decide) (hts _ qw1165) (fun _ h9 => h9) rfl dX11_matched_27 ?_
          refine lv_iload_n hx hb dX11_matched_30 rfl (lv_at hl 0 rfl) ?_
          refine va_iald hx hb hK hP 4 0 rfl rfl (vp_in_iff.mpr ⟨by omega, by omega⟩) dX11_matched_31 ?_
          refine lv_topi (fun v31 e31 => ?_)
          refine lv_iload_n hx hb dX11_matched_32 rfl (lv_at hl 3 rfl) ?_
          refine lv_icmp_ne (tgt := 40) hx hb dX11_matched_33 (by decide) (fun c33 => ?_) (fun c33 => ?_)
          · have c33 : ¬ v31.toInt = p0.toInt := z6 rfl rfl c33
            refine lv_iload_n hx hb dX11_matched_40 rfl (lv_at hl 1 rfl) ?_
            refine lv_istore_n (lv' := [(2, .int m18_L_2), (3, .int m18_L_3), (0, .ref h0), (1, .int p0)]) hx hb dX11_matched_41 rfl hl (by decide) rfl (fun ls hl => ?_)
            obtain ⟨v42, e42⟩ : ∃ y : Int32, y = m18_L_3 + Int32.ofInt (1) := ⟨_, rfl⟩
            refine lv_iinc (v := v42) (lv' := [(3, .int v42), (2, .int m18_L_2), (0, .ref h0), (1, .int p0)]) hx hb dX11_matched_42 hl (k := 1) rfl e42.symm (by decide) rfl (fun ls hl => ?_)
            have i42 : v42.toInt = m18_L_3.toInt + 1 := zaddI e42 (by decide) (by omega) (by omega)
            refine lv_goto (tgt := 18) hx hb dX11_matched_45 (by decide) ?_
            exact ih18 _ (by omega) m18_L_2 v42 jf18_0 (by omega) (fun kc kY hP hY => by have g := F11 kc kY hP hY p0.toInt.toNat m18_L_3.toInt.toNat (by omega) (by omega); have y31 := congrArg Int32.toInt (zIxN (n := m18_L_3.toInt.toNat) e31 (by omega)); first | exact gsM_y (by omega) (by omega) (g.mp (by omega)) | exact gsM_n (jv18_0 kc kY hP hY) (by omega) (by omega) (fun z => absurd (g.mpr z) (by omega))) (by omega) rfl H locs ls hP hD hS (lv_sub hl [0, 1, 2, 3] rfl)
          · have c33 : v31.toInt = p0.toInt := z5 rfl rfl c33
            refine lv_iload_n hx hb dX11_matched_36 rfl (lv_at hl 0 rfl) ?_
            refine lv_goto (tgt := 41) hx hb dX11_matched_37 (by decide) ?_
            refine lv_istore_n (lv' := [(2, .int m18_L_3), (3, .int m18_L_3), (0, .ref h0), (1, .int p0)]) hx hb dX11_matched_41 rfl hl (by decide) rfl (fun ls hl => ?_)
            obtain ⟨v42, e42⟩ : ∃ y : Int32, y = m18_L_3 + Int32.ofInt (1) := ⟨_, rfl⟩
            refine lv_iinc (v := v42) (lv' := [(3, .int v42), (2, .int m18_L_3), (0, .ref h0), (1, .int p0)]) hx hb dX11_matched_42 hl (k := 1) rfl e42.symm (by decide) rfl (fun ls hl => ?_)
            have i42 : v42.toInt = m18_L_3.toInt + 1 := zaddI e42 (by decide) (by omega) (by omega)
            refine lv_goto (tgt := 18) hx hb dX11_matched_45 (by decide) ?_
            exact ih18 _ (by omega) m18_L_3 v42 (by omega) (by omega) (fun kc kY hP hY => by have g := F11 kc kY hP hY p0.toInt.toNat m18_L_3.toInt.toNat (by omega) (by omega); have y31 := congrArg Int32.toInt (zIxN (n := m18_L_3.toInt.toNat) e31 (by omega)); first | exact gsM_y (by omega) (by omega) (g.mp (by omega)) | exact gsM_n (jv18_0 kc kY hP hY) (by omega) (by omega) (fun z => absurd (g.mpr z) (by omega))) (by omega) rfl H locs ls hP hD hS (lv_sub hl [0, 1, 2, 3] rfl)
    refine lv_istore_n (lv' := [(3, .int 0), (2, .int (-1)), (0, .ref h0), (1, .int p0)]) hx hb dX11_matched_17 rfl hl (by decide) rfl (fun ls hl => ?_)
    have zj18_m18_L_2 : ((-1) : Int32).toInt = (-1) := by decide
    have zj18_m18_L_3 : (0 : Int32).toInt = 0 := by decide
    exact J18 _ (-1) 0 (by decide) (by decide) (fun kc kY hP hY => gsM_0) (by omega) rfl H locs ls hP hD hS (lv_sub hl [0, 1, 2, 3] rfl)
  · have c5 : v2.toInt = 0 := z5 rfl (by decide) c5
    refine lv_iconst (v := (-1)) hx hb dX11_matched_8 (by decide) ?_
    have zr0 : ((-1) : Int32).toInt = (-1) := by decide
    rw [hQ]
    exact W.iret (v := ((-1))) hx hb hr (fun t ht hW => ⟨⟨(-1), (fA, fH), rfl, ⟨by (try dsimp only); omega, by (try dsimp only); omega, by (try dsimp only); exact fun kc kT q_fR q_fBr q_fKp q_frf hc hb h => by unfold sV_mat; rw [if_neg (by omega)]; decide, ci_fA_zAs, ci_fH_zHo⟩, ⟨by rw [ht]; exact hP, hD⟩⟩, hS.F ht⟩) hS.2.2 dX11_matched_9
set_option maxHeartbeats 4000000 in
set_option maxRecDepth 100000 in
theorem g_X11_trySends_6 (l : Launch) (dC : Nat → ClassId) (dI : Nat → Nat → Nat) (cI cJ : ClassId) (h0 : Nat) (p1 : Int32) (p2 : Int32) (p3 : Int32) (p4 : Int32) (th : Int32) (tB : Nat) (tsz : Int32) (tat : Int32) (wr : Int32) (dp : Int32) (rC : Nat) (rV : Nat) (rD : Nat) (rK : Nat) (rT : Nat) (rS : Nat) (rU : Nat) (lw : Int32) (tx : Int32) (rL : Nat) (rX : Nat) (qR : Nat) (qB : Nat) (qP : Nat) (qnb : Int32) (qnp : Int32) (aR : Nat) (aB : Nat) (aP : Nat) (nb : Int32) (np : Int32) (aN : Nat) (rf : Nat) (ho : Int32) (br : Int32) (aK : Nat) (ac : Int32) (dw : Int64) (aE : Nat) (sr : Int32) (sf : Int32) (aA : Nat) (aH : Nat) (aI : Nat) (hi : Int32) (sz : Nat) (n_ac : 0 ≤ ac.toInt ∧ ac.toInt ≤ 40) (n_hi : 0 ≤ hi.toInt ∧ hi.toInt ≤ 1) (n_ho : (-1) ≤ ho.toInt ∧ ho.toInt ≤ 3) (n_lw : 0 ≤ lw.toInt ∧ lw.toInt ≤ 4) (n_nb : 6 ≤ nb.toInt ∧ nb.toInt ≤ 6) (n_np : 0 ≤ np.toInt ∧ np.toInt ≤ 5) (n_qnb : 0 ≤ qnb.toInt ∧ qnb.toInt ≤ 6) (n_qnp : 0 ≤ qnp.toInt ∧ qnp.toInt ≤ 5) (n_tat : 0 ≤ tat.toInt ∧ tat.toInt ≤ 260) (n_tsz : 0 ≤ tsz.toInt ∧ tsz.toInt ≤ 240) (n_wr : (-1) ≤ wr.toInt ∧ wr.toInt ≤ 260)    : Met l yX11_trySends (.code yX11_trySends cX11_trySends 7 none :: wA) ({ frames := 0, cells := 0, slots := 0, locals := 0 }) (zP (dC, dI) [(cI, .int), (cJ, .long)] [.ref h0, .int 6, .int p1, .int p2, .int p3, .int p4] sz [(h0, .inr (11, [.int th, .ref tB, .int tsz, .int tat, .int wr, .int dp, .ref rC, .ref rV, .ref rD, .ref rK, .ref rT, .ref rS, .ref rU, .int lw, .int tx, .ref rL, .ref rX, .ref qR, .ref qB, .ref qP, .int qnb, .int qnp, .ref aR, .ref aB, .ref aP, .int nb, .int np, .ref aN, .ref rf, .int ho, .int br, .ref aK, .int ac, .long dw, .ref aE, .int sr, .int sf, .ref aA, .ref aH, .ref aI, .int hi]))]) (va_Qv (fun (u : Int32 × Int32) => (∀ (kc : zK3) (s : List Nat), chI kc np.toInt.toNat p2 p3 p4 s 6 → (u.1.toInt, u.2.toInt) = chX (chf kc) np.toInt.toNat (chBt p1) (nb.toInt.toNat - 6) 6 s (sr.toInt, sf.toInt))) (fun (u : Int32 × Int32) (t : State) => va_P (dC, dI) vwCl [(h0, .inr (11, [.int th, .ref tB, .int tsz, .int tat, .int wr, .int dp, .ref rC, .ref rV, .ref rD, .ref rK, .ref rT, .ref rS, .ref rU, .int lw, .int tx, .ref rL, .ref rX, .ref qR, .ref qB, .ref qP, .int qnb, .int qnp, .ref aR, .ref aB, .ref aP, .int nb, .int np, .ref aN, .ref rf, .int ho, .int br, .ref aK, .int ac, .long dw, .ref aE, .int u.1, .int u.2, .ref aA, .ref aH, .ref aI, .int hi]))] t.heap ∧ va_D (va_A [(h0, .inr (11, [.int th, .ref tB, .int tsz, .int tat, .int wr, .int dp, .ref rC, .ref rV, .ref rD, .ref rK, .ref rT, .ref rS, .ref rU, .int lw, .int tx, .ref rL, .ref rX, .ref qR, .ref qB, .ref qP, .int qnb, .int qnp, .ref aR, .ref aB, .ref aP, .int nb, .int np, .ref aN, .ref rf, .int ho, .int br, .ref aK, .int ac, .long dw, .ref aE, .int sr, .int sf, .ref aA, .ref aH, .ref aI, .int hi]))] sz) [(h0, .inr (11, [.int th, .ref tB, .int tsz, .int tat, .int wr, .int dp, .ref rC, .ref rV, .ref rD, .ref rK, .ref rT, .ref rS, .ref rU, .int lw, .int tx, .ref rL, .ref rX, .ref qR, .ref qB, .ref qP, .int qnb, .int qnp, .ref aR, .ref aB, .ref aP, .int nb, .int np, .ref aN, .ref rf, .int ho, .int br, .ref aK, .int ac, .long dw, .ref aE, .int u.1, .int u.2, .ref aA, .ref aH, .ref aI, .int hi]))]) (va_A [(h0, .inr (11, [.int th, .ref tB, .int tsz, .int tat, .int wr, .int dp, .ref rC, .ref rV, .ref rD, .ref rK, .ref rT, .ref rS, .ref rU, .int lw, .int tx, .ref rL, .ref rX, .ref qR, .ref qB, .ref qP, .int qnb, .int qnp, .ref aR, .ref aB, .ref aP, .int nb, .int np, .ref aN, .ref rf, .int ho, .int br, .ref aK, .int ac, .long dw, .ref aE, .int sr, .int sf, .ref aA, .ref aH, .ref aI, .int hi]))] sz)) 0 0 (va_A [(h0, .inr (11, [.int th, .ref tB, .int tsz, .int tat, .int wr, .int dp, .ref rC, .ref rV, .ref rD, .ref rK, .ref rT, .ref rS, .ref rU, .int lw, .int tx, .ref rL, .ref rX, .ref qR, .ref qB, .ref qP, .int qnb, .int qnp, .ref aR, .ref aB, .ref aP, .int nb, .int np, .ref aN, .ref rf, .int ho, .int br, .ref aK, .int ac, .long dw, .ref aE, .int sr, .int sf, .ref aA, .ref aH, .ref aI, .int hi]))] sz) := by
  refine Met.ofW (cc := cX11_trySends) (maxL := 7) (ret := none) (by decide) rfl ?_
  intro p e s m args below meth c s₁ B hml hv
  have y_ac : zHid (0 ≤ ac.toInt ∧ ac.toInt ≤ 40) := n_ac
  have y_hi : zHid (0 ≤ hi.toInt ∧ hi.toInt ≤ 1) := n_hi
  have y_ho : zHid ((-1) ≤ ho.toInt ∧ ho.toInt ≤ 3) := n_ho
  have y_lw : zHid (0 ≤ lw.toInt ∧ lw.toInt ≤ 4) := n_lw
  have y_qnb : zHid (0 ≤ qnb.toInt ∧ qnb.toInt ≤ 6) := n_qnb
  have y_qnp : zHid (0 ≤ qnp.toInt ∧ qnp.toInt ≤ 5) := n_qnp
  have y_tat : zHid (0 ≤ tat.toInt ∧ tat.toInt ≤ 260) := n_tat
  have y_tsz : zHid (0 ≤ tsz.toInt ∧ tsz.toInt ≤ 240) := n_tsz
  have y_wr : zHid ((-1) ≤ wr.toInt ∧ wr.toInt ≤ 260) := n_wr
  clear n_ac n_hi n_ho n_lw n_qnb n_qnp n_tat n_tsz n_wr
  obtain ⟨hargs, hsz, hP, hK, hT⟩ := hv
  have hx := B.exec
  have hb := B.bytes
  have hr := B.returns
  have hts : ∀ w ∈ wA, w.before args s = true := fun w h => atoms_spec (ws := .code yX11_trySends cX11_trySends 7 none :: wA) B.pre w (List.mem_cons_of_mem _ h)
  have hown : s.vm.findClass RX11 = some m.cls := findClass_of_methodNamed B.named
  have hlocks := B.notSynchronized
  subst hsz
  have hD := hT.self (sz := s.heap.size)
  generalize hAe : va_A [(h0, .inr (11, [.int th, .ref tB, .int tsz, .int tat, .int wr, .int dp, .ref rC, .ref rV, .ref rD, .ref rK, .ref rT, .ref rS, .ref rU, .int lw, .int tx, .ref rL, .ref rX, .ref qR, .ref qB, .ref qP, .int qnb, .int qnp, .ref aR, .ref aB, .ref aP, .int nb, .int np, .ref aN, .ref rf, .int ho, .int br, .ref aK, .int ac, .long dw, .ref aE, .int sr, .int sf, .ref aA, .ref aH, .ref aI, .int hi]))] s.heap.size = A at hD ⊢
  have hA : ∀ q : Nat, s.heap.size ≤ q → A q := fun q h => by rw [← hAe]; exact Or.inr h
  have hl := lv_entry ([.ref h0, .int 6, .int p1, .int p2, .int p3, .int p4]) (n := 7) (Nat.le_of_ble_eq_true rfl)
  rw [show entryFrame m args 7 = entryFrame m ([.ref h0, .int 6, .int p1, .int p2, .int p3, .int p4] : List Value).toArray 7 by rw [hargs], lg_entry_eq]
  generalize (lg_sl ([.ref h0, .int 6, .int p1, .int p2, .int p3, .int p4]) ++ List.replicate (7 - (lg_sl ([.ref h0, .int 6, .int p1, .int p2, .int p3, .int p4])).length) Slot.unset).toArray = ls at hl ⊢
  have hl : lv_has ls 7 [(0, .ref h0), (1, .int 6), (2, .int p1), (3, .int p2), (4, .int p3), (5, .int p4)] := hl
  refine zstart (fun H hH => ?_)
  rw [← hH] at hP
  have hS : va_S A s.heap H [] := by rw [hH]; exact va_S.rf
  generalize ([] : List Loc) = locs at hS ⊢
  refine zgen (fun R Q hR hQ => ?_)
  refine lv_iload_n hx hb dX11_trySends_0 rfl (lv_at hl 1 rfl) ?_
  refine lv_aload_n hx hb dX11_trySends_1 rfl (lv_at hl 0 rfl) ?_
  refine va_get (D := (dC, dI)) (ci := 11) (v := .int nb) (C := RX11) (T := TX11) (N := 41) hx hb hts iX11 hown hK hP 0 rfl rfl 25 (by decide) (hts _ qw1152) (fun _ h9 => h9) rfl dX11_trySends_2 ?_
  refine lv_icmp_ne (tgt := 87) hx hb dX11_trySends_5 (by decide) (fun c5 => by exfalso; have c5 : ¬ 6 = nb.toInt := z6 (by decide) rfl c5; omega) (fun c5 => ?_)
  have c5 : 6 = nb.toInt := z5 (by decide) rfl c5
  refine lv_aload_n hx hb dX11_trySends_8 rfl (lv_at hl 0 rfl) ?_
  refine va_get (D := (dC, dI)) (ci := 11) (v := .int sr) (C := RX11) (T := TX11) (N := 41) hx hb hts iX11 hown hK hP 0 rfl rfl 35 (by decide) (hts _ qw1162) (fun _ h9 => h9) rfl dX11_trySends_9 ?_
  refine lv_iconst (v := (-1)) hx hb dX11_trySends_12 (by decide) ?_
  refine lv_icmp_eq (tgt := 43) hx hb dX11_trySends_13 (by decide) (fun c13 => ?_) (fun c13 => ?_)
  · have c13 : sr.toInt = (-1) := z5 rfl (by decide) c13
    refine lv_iconst (v := 1) hx hb dX11_trySends_43 (by decide) ?_
    refine lv_goto (tgt := 48) hx hb dX11_trySends_44 (by decide) ?_
    refine lv_istore (lv' := [(6, .int 1), (0, .ref h0), (1, .int 6), (2, .int p1), (3, .int p2), (4, .int p3), (5, .int p4)]) hx hb dX11_trySends_48 hl (by decide) rfl (fun ls hl => ?_)
    refine lv_aload_n hx hb dX11_trySends_50 rfl (lv_at hl 1 rfl) ?_
    refine lv_iload hx hb dX11_trySends_51 (lv_at hl 0 rfl) ?_
    refine lv_if_eq (tgt := 61) hx hb dX11_trySends_53 (by decide) (fun c => absurd c (by decide)) (fun _ => ?_)
    refine lv_iload hx hb dX11_trySends_56 (lv_at hl 5 rfl) ?_
    refine lv_goto (tgt := 65) hx hb dX11_trySends_58 (by decide) ?_
    refine va_put (D := (dC, dI)) (ci := 11) (v := .int p3) (ty := .int) (C := RX11) (T := TX11) (N := 41) hx hb hts iX11 tyX11 tyX11_ok nmX11 hown hK hP hD hS 0 rfl rfl 35 (by decide) (hts _ qw1162) (fun _ h9 => h9) rfl (by decide +kernel) rfl rfl (Nat.le_of_ble_eq_true rfl) dX11_trySends_65 (fun H locs hP9 hD9 hS9 => ?_)
    clear hP hD hS
    obtain ⟨hP, hD⟩ := zst (wX := [(h0, .inr (11, [.int th, .ref tB, .int tsz, .int tat, .int wr, .int dp, .ref rC, .ref rV, .ref rD, .ref rK, .ref rT, .ref rS, .ref rU, .int lw, .int tx, .ref rL, .ref rX, .ref qR, .ref qB, .ref qP, .int qnb, .int qnp, .ref aR, .ref aB, .ref aP, .int nb, .int np, .ref aN, .ref rf, .int ho, .int br, .ref aK, .int ac, .long dw, .ref aE, .int p3, .int sf, .ref aA, .ref aH, .ref aI, .int hi]))]) hP9 hD9 rfl
    have hS := hS9
    clear hP9 hD9 hS9
    refine lv_aload_n hx hb dX11_trySends_68 rfl (lv_at hl 1 rfl) ?_
    refine lv_iload hx hb dX11_trySends_69 (lv_at hl 0 rfl) ?_
    refine lv_if_eq (tgt := 79) hx hb dX11_trySends_71 (by decide) (fun c => absurd c (by decide)) (fun _ => ?_)
    refine lv_iload hx hb dX11_trySends_74 (lv_at hl 6 rfl) ?_
    refine lv_goto (tgt := 83) hx hb dX11_trySends_76 (by decide) ?_
    refine va_put (D := (dC, dI)) (ci := 11) (v := .int p4) (ty := .int) (C := RX11) (T := TX11) (N := 41) hx hb hts iX11 tyX11 tyX11_ok nmX11 hown hK hP hD hS 0 rfl rfl 36 (by decide) (hts _ qw1163) (fun _ h9 => h9) rfl (by decide +kernel) rfl rfl (Nat.le_of_ble_eq_true rfl) dX11_trySends_83 (fun H locs hP9 hD9 hS9 => ?_)
    clear hP hD hS
    obtain ⟨hP, hD⟩ := zst (wX := [(h0, .inr (11, [.int th, .ref tB, .int tsz, .int tat, .int wr, .int dp, .ref rC, .ref rV, .ref rD, .ref rK, .ref rT, .ref rS, .ref rU, .int lw, .int tx, .ref rL, .ref rX, .ref qR, .ref qB, .ref qP, .int qnb, .int qnp, .ref aR, .ref aB, .ref aP, .int nb, .int np, .ref aN, .ref rf, .int ho, .int br, .ref aK, .int ac, .long dw, .ref aE, .int p3, .int p4, .ref aA, .ref aH, .ref aI, .int hi]))]) hP9 hD9 rfl
    have hS := hS9
    clear hP9 hD9 hS9
    rw [hQ]
    exact W.vret hx hb hr (fun t ht hW => ⟨⟨(p3, p4), rfl, (by (try dsimp only); exact fun kc s hI => chU_y hI (by omega) (by omega)), ⟨by rw [ht]; exact hP, hD⟩⟩, hS.F ht⟩) hS.2.2 dX11_trySends_86
  · have c13 : ¬ sr.toInt = (-1) := z6 rfl (by decide) c13
    refine lv_iload hx hb dX11_trySends_16 (lv_at hl 5 rfl) ?_
    refine lv_aload_n hx hb dX11_trySends_18 rfl (lv_at hl 0 rfl) ?_
    refine va_get (D := (dC, dI)) (ci := 11) (v := .int sf) (C := RX11) (T := TX11) (N := 41) hx hb hts iX11 hown hK hP 0 rfl rfl 36 (by decide) (hts _ qw1163) (fun _ h9 => h9) rfl dX11_trySends_19 ?_
    refine lv_icmp_lt (tgt := 43) hx hb dX11_trySends_22 (by decide) (fun c22 => ?_) (fun c22 => ?_)
    · have c22 : p4.toInt < sf.toInt := z1 rfl rfl c22
      refine lv_iconst (v := 1) hx hb dX11_trySends_43 (by decide) ?_
      refine lv_goto (tgt := 48) hx hb dX11_trySends_44 (by decide) ?_
      refine lv_istore (lv' := [(6, .int 1), (0, .ref h0), (1, .int 6), (2, .int p1), (3, .int p2), (4, .int p3), (5, .int p4)]) hx hb dX11_trySends_48 hl (by decide) rfl (fun ls hl => ?_)
      refine lv_aload_n hx hb dX11_trySends_50 rfl (lv_at hl 1 rfl) ?_
      refine lv_iload hx hb dX11_trySends_51 (lv_at hl 0 rfl) ?_
      refine lv_if_eq (tgt := 61) hx hb dX11_trySends_53 (by decide) (fun c => absurd c (by decide)) (fun _ => ?_)
      refine lv_iload hx hb dX11_trySends_56 (lv_at hl 5 rfl) ?_
      refine lv_goto (tgt := 65) hx hb dX11_trySends_58 (by decide) ?_
      refine va_put (D := (dC, dI)) (ci := 11) (v := .int p3) (ty := .int) (C := RX11) (T := TX11) (N := 41) hx hb hts iX11 tyX11 tyX11_ok nmX11 hown hK hP hD hS 0 rfl rfl 35 (by decide) (hts _ qw1162) (fun _ h9 => h9) rfl (by decide +kernel) rfl rfl (Nat.le_of_ble_eq_true rfl) dX11_trySends_65 (fun H locs hP9 hD9 hS9 => ?_)
      clear hP hD hS
      obtain ⟨hP, hD⟩ := zst (wX := [(h0, .inr (11, [.int th, .ref tB, .int tsz, .int tat, .int wr, .int dp, .ref rC, .ref rV, .ref rD, .ref rK, .ref rT, .ref rS, .ref rU, .int lw, .int tx, .ref rL, .ref rX, .ref qR, .ref qB, .ref qP, .int qnb, .int qnp, .ref aR, .ref aB, .ref aP, .int nb, .int np, .ref aN, .ref rf, .int ho, .int br, .ref aK, .int ac, .long dw, .ref aE, .int p3, .int sf, .ref aA, .ref aH, .ref aI, .int hi]))]) hP9 hD9 rfl
      have hS := hS9
      clear hP9 hD9 hS9
      refine lv_aload_n hx hb dX11_trySends_68 rfl (lv_at hl 1 rfl) ?_
      refine lv_iload hx hb dX11_trySends_69 (lv_at hl 0 rfl) ?_
      refine lv_if_eq (tgt := 79) hx hb dX11_trySends_71 (by decide) (fun c => absurd c (by decide)) (fun _ => ?_)
      refine lv_iload hx hb dX11_trySends_74 (lv_at hl 6 rfl) ?_
      refine lv_goto (tgt := 83) hx hb dX11_trySends_76 (by decide) ?_
      refine va_put (D := (dC, dI)) (ci := 11) (v := .int p4) (ty := .int) (C := RX11) (T := TX11) (N := 41) hx hb hts iX11 tyX11 tyX11_ok nmX11 hown hK hP hD hS 0 rfl rfl 36 (by decide) (hts _ qw1163) (fun _ h9 => h9) rfl (by decide +kernel) rfl rfl (Nat.le_of_ble_eq_true rfl) dX11_trySends_83 (fun H locs hP9 hD9 hS9 => ?_)
      clear hP hD hS
      obtain ⟨hP, hD⟩ := zst (wX := [(h0, .inr (11, [.int th, .ref tB, .int tsz, .int tat, .int wr, .int dp, .ref rC, .ref rV, .ref rD, .ref rK, .ref rT, .ref rS, .ref rU, .int lw, .int tx, .ref rL, .ref rX, .ref qR, .ref qB, .ref qP, .int qnb, .int qnp, .ref aR, .ref aB, .ref aP, .int nb, .int np, .ref aN, .ref rf, .int ho, .int br, .ref aK, .int ac, .long dw, .ref aE, .int p3, .int p4, .ref aA, .ref aH, .ref aI, .int hi]))]) hP9 hD9 rfl
      have hS := hS9
      clear hP9 hD9 hS9
      rw [hQ]
      exact W.vret hx hb hr (fun t ht hW => ⟨⟨(p3, p4), rfl, (by (try dsimp only); exact fun kc s hI => chU_y hI (by omega) (by omega)), ⟨by rw [ht]; exact hP, hD⟩⟩, hS.F ht⟩) hS.2.2 dX11_trySends_86
    · have c22 : sf.toInt ≤ p4.toInt := z2 rfl rfl c22
      refine lv_iload hx hb dX11_trySends_25 (lv_at hl 5 rfl) ?_
      refine lv_aload_n hx hb dX11_trySends_27 rfl (lv_at hl 0 rfl) ?_
      refine va_get (D := (dC, dI)) (ci := 11) (v := .int sf) (C := RX11) (T := TX11) (N := 41) hx hb hts iX11 hown hK hP 0 rfl rfl 36 (by decide) (hts _ qw1163) (fun _ h9 => h9) rfl dX11_trySends_28 ?_
      refine lv_icmp_ne (tgt := 47) hx hb dX11_trySends_31 (by decide) (fun c31 => ?_) (fun c31 => ?_)
      · have c31 : ¬ p4.toInt = sf.toInt := z6 rfl rfl c31
        refine lv_iconst (v := 0) hx hb dX11_trySends_47 (by decide) ?_
        refine lv_istore (lv' := [(6, .int 0), (0, .ref h0), (1, .int 6), (2, .int p1), (3, .int p2), (4, .int p3), (5, .int p4)]) hx hb dX11_trySends_48 hl (by decide) rfl (fun ls hl => ?_)
        refine lv_aload_n hx hb dX11_trySends_50 rfl (lv_at hl 1 rfl) ?_
        refine lv_iload hx hb dX11_trySends_51 (lv_at hl 0 rfl) ?_
        refine lv_if_eq (tgt := 61) hx hb dX11_trySends_53 (by decide) (fun _ => ?_) (fun c => absurd (by decide) c)
        refine lv_aload_n hx hb dX11_trySends_61 rfl (lv_at hl 1 rfl) ?_
        refine va_get (D := (dC, dI)) (ci := 11) (v := .int sr) (C := RX11) (T := TX11) (N := 41) hx hb hts iX11 hown hK hP 0 rfl rfl 35 (by decide) (hts _ qw1162) (fun _ h9 => h9) rfl dX11_trySends_62 ?_
        refine va_put (D := (dC, dI)) (ci := 11) (v := .int sr) (ty := .int) (C := RX11) (T := TX11) (N := 41) hx hb hts iX11 tyX11 tyX11_ok nmX11 hown hK hP hD hS 0 rfl rfl 35 (by decide) (hts _ qw1162) (fun _ h9 => h9) rfl (by decide +kernel) rfl rfl (Nat.le_of_ble_eq_true rfl) dX11_trySends_65 (fun H locs hP9 hD9 hS9 => ?_)
        clear hP hD hS
        obtain ⟨hP, hD⟩ := zst (wX := [(h0, .inr (11, [.int th, .ref tB, .int tsz, .int tat, .int wr, .int dp, .ref rC, .ref rV, .ref rD, .ref rK, .ref rT, .ref rS, .ref rU, .int lw, .int tx, .ref rL, .ref rX, .ref qR, .ref qB, .ref qP, .int qnb, .int qnp, .ref aR, .ref aB, .ref aP, .int nb, .int np, .ref aN, .ref rf, .int ho, .int br, .ref aK, .int ac, .long dw, .ref aE, .int sr, .int sf, .ref aA, .ref aH, .ref aI, .int hi]))]) hP9 hD9 rfl
        have hS := hS9
        clear hP9 hD9 hS9
        refine lv_aload_n hx hb dX11_trySends_68 rfl (lv_at hl 1 rfl) ?_
        refine lv_iload hx hb dX11_trySends_69 (lv_at hl 0 rfl) ?_
        refine lv_if_eq (tgt := 79) hx hb dX11_trySends_71 (by decide) (fun _ => ?_) (fun c => absurd (by decide) c)
        refine lv_aload_n hx hb dX11_trySends_79 rfl (lv_at hl 1 rfl) ?_
        refine va_get (D := (dC, dI)) (ci := 11) (v := .int sf) (C := RX11) (T := TX11) (N := 41) hx hb hts iX11 hown hK hP 0 rfl rfl 36 (by decide) (hts _ qw1163) (fun _ h9 => h9) rfl dX11_trySends_80 ?_
        refine va_put (D := (dC, dI)) (ci := 11) (v := .int sf) (ty := .int) (C := RX11) (T := TX11) (N := 41) hx hb hts iX11 tyX11 tyX11_ok nmX11 hown hK hP hD hS 0 rfl rfl 36 (by decide) (hts _ qw1163) (fun _ h9 => h9) rfl (by decide +kernel) rfl rfl (Nat.le_of_ble_eq_true rfl) dX11_trySends_83 (fun H locs hP9 hD9 hS9 => ?_)
        clear hP hD hS
        obtain ⟨hP, hD⟩ := zst (wX := [(h0, .inr (11, [.int th, .ref tB, .int tsz, .int tat, .int wr, .int dp, .ref rC, .ref rV, .ref rD, .ref rK, .ref rT, .ref rS, .ref rU, .int lw, .int tx, .ref rL, .ref rX, .ref qR, .ref qB, .ref qP, .int qnb, .int qnp, .ref aR, .ref aB, .ref aP, .int nb, .int np, .ref aN, .ref rf, .int ho, .int br, .ref aK, .int ac, .long dw, .ref aE, .int sr, .int sf, .ref aA, .ref aH, .ref aI, .int hi]))]) hP9 hD9 rfl
        have hS := hS9
        clear hP9 hD9 hS9
        rw [hQ]
        exact W.vret hx hb hr (fun t ht hW => ⟨⟨(sr, sf), rfl, (by (try dsimp only); exact fun kc s hI => chU_n hI (by omega) (by omega)), ⟨by rw [ht]; exact hP, hD⟩⟩, hS.F ht⟩) hS.2.2 dX11_trySends_86
      · have c31 : p4.toInt = sf.toInt := z5 rfl rfl c31
        refine lv_iload hx hb dX11_trySends_34 (lv_at hl 4 rfl) ?_
        refine lv_aload_n hx hb dX11_trySends_36 rfl (lv_at hl 0 rfl) ?_
        refine va_get (D := (dC, dI)) (ci := 11) (v := .int sr) (C := RX11) (T := TX11) (N := 41) hx hb hts iX11 hown hK hP 0 rfl rfl 35 (by decide) (hts _ qw1162) (fun _ h9 => h9) rfl dX11_trySends_37 ?_
        refine lv_icmp_ge (tgt := 47) hx hb dX11_trySends_40 (by decide) (fun c40 => ?_) (fun c40 => ?_)
        · have c40 : sr.toInt ≤ p3.toInt := z3 rfl rfl c40
          refine lv_iconst (v := 0) hx hb dX11_trySends_47 (by decide) ?_
          refine lv_istore (lv' := [(6, .int 0), (0, .ref h0), (1, .int 6), (2, .int p1), (3, .int p2), (4, .int p3), (5, .int p4)]) hx hb dX11_trySends_48 hl (by decide) rfl (fun ls hl => ?_)
          refine lv_aload_n hx hb dX11_trySends_50 rfl (lv_at hl 1 rfl) ?_
          refine lv_iload hx hb dX11_trySends_51 (lv_at hl 0 rfl) ?_
          refine lv_if_eq (tgt := 61) hx hb dX11_trySends_53 (by decide) (fun _ => ?_) (fun c => absurd (by decide) c)
          refine lv_aload_n hx hb dX11_trySends_61 rfl (lv_at hl 1 rfl) ?_
          refine va_get (D := (dC, dI)) (ci := 11) (v := .int sr) (C := RX11) (T := TX11) (N := 41) hx hb hts iX11 hown hK hP 0 rfl rfl 35 (by decide) (hts _ qw1162) (fun _ h9 => h9) rfl dX11_trySends_62 ?_
          refine va_put (D := (dC, dI)) (ci := 11) (v := .int sr) (ty := .int) (C := RX11) (T := TX11) (N := 41) hx hb hts iX11 tyX11 tyX11_ok nmX11 hown hK hP hD hS 0 rfl rfl 35 (by decide) (hts _ qw1162) (fun _ h9 => h9) rfl (by decide +kernel) rfl rfl (Nat.le_of_ble_eq_true rfl) dX11_trySends_65 (fun H locs hP9 hD9 hS9 => ?_)
          clear hP hD hS
          obtain ⟨hP, hD⟩ := zst (wX := [(h0, .inr (11, [.int th, .ref tB, .int tsz, .int tat, .int wr, .int dp, .ref rC, .ref rV, .ref rD, .ref rK, .ref rT, .ref rS, .ref rU, .int lw, .int tx, .ref rL, .ref rX, .ref qR, .ref qB, .ref qP, .int qnb, .int qnp, .ref aR, .ref aB, .ref aP, .int nb, .int np, .ref aN, .ref rf, .int ho, .int br, .ref aK, .int ac, .long dw, .ref aE, .int sr, .int sf, .ref aA, .ref aH, .ref aI, .int hi]))]) hP9 hD9 rfl
          have hS := hS9
          clear hP9 hD9 hS9
          refine lv_aload_n hx hb dX11_trySends_68 rfl (lv_at hl 1 rfl) ?_
          refine lv_iload hx hb dX11_trySends_69 (lv_at hl 0 rfl) ?_
          refine lv_if_eq (tgt := 79) hx hb dX11_trySends_71 (by decide) (fun _ => ?_) (fun c => absurd (by decide) c)
          refine lv_aload_n hx hb dX11_trySends_79 rfl (lv_at hl 1 rfl) ?_
          refine va_get (D := (dC, dI)) (ci := 11) (v := .int sf) (C := RX11) (T := TX11) (N := 41) hx hb hts iX11 hown hK hP 0 rfl rfl 36 (by decide) (hts _ qw1163) (fun _ h9 => h9) rfl dX11_trySends_80 ?_
          refine va_put (D := (dC, dI)) (ci := 11) (v := .int sf) (ty := .int) (C := RX11) (T := TX11) (N := 41) hx hb hts iX11 tyX11 tyX11_ok nmX11 hown hK hP hD hS 0 rfl rfl 36 (by decide) (hts _ qw1163) (fun _ h9 => h9) rfl (by decide +kernel) rfl rfl (Nat.le_of_ble_eq_true rfl) dX11_trySends_83 (fun H locs hP9 hD9 hS9 => ?_)
          clear hP hD hS
          obtain ⟨hP, hD⟩ := zst (wX := [(h0, .inr (11, [.int th, .ref tB, .int tsz, .int tat, .int wr, .int dp, .ref rC, .ref rV, .ref rD, .ref rK, .ref rT, .ref rS, .ref rU, .int lw, .int tx, .ref rL, .ref rX, .ref qR, .ref qB, .ref qP, .int qnb, .int qnp, .ref aR, .ref aB, .ref aP, .int nb, .int np, .ref aN, .ref rf, .int ho, .int br, .ref aK, .int ac, .long dw, .ref aE, .int sr, .int sf, .ref aA, .ref aH, .ref aI, .int hi]))]) hP9 hD9 rfl
          have hS := hS9
          clear hP9 hD9 hS9
          rw [hQ]
          exact W.vret hx hb hr (fun t ht hW => ⟨⟨(sr, sf), rfl, (by (try dsimp only); exact fun kc s hI => chU_n hI (by omega) (by omega)), ⟨by rw [ht]; exact hP, hD⟩⟩, hS.F ht⟩) hS.2.2 dX11_trySends_86
        · have c40 : p3.toInt < sr.toInt := z4 rfl rfl c40
          refine lv_iconst (v := 1) hx hb dX11_trySends_43 (by decide) ?_
          refine lv_goto (tgt := 48) hx hb dX11_trySends_44 (by decide) ?_
          refine lv_istore (lv' := [(6, .int 1), (0, .ref h0), (1, .int 6), (2, .int p1), (3, .int p2), (4, .int p3), (5, .int p4)]) hx hb dX11_trySends_48 hl (by decide) rfl (fun ls hl => ?_)
          refine lv_aload_n hx hb dX11_trySends_50 rfl (lv_at hl 1 rfl) ?_
          refine lv_iload hx hb dX11_trySends_51 (lv_at hl 0 rfl) ?_
          refine lv_if_eq (tgt := 61) hx hb dX11_trySends_53 (by decide) (fun c => absurd c (by decide)) (fun _ => ?_)
          refine lv_iload hx hb dX11_trySends_56 (lv_at hl 5 rfl) ?_
          refine lv_goto (tgt := 65) hx hb dX11_trySends_58 (by decide) ?_
          refine va_put (D := (dC, dI)) (ci := 11) (v := .int p3) (ty := .int) (C := RX11) (T := TX11) (N := 41) hx hb hts iX11 tyX11 tyX11_ok nmX11 hown hK hP hD hS 0 rfl rfl 35 (by decide) (hts _ qw1162) (fun _ h9 => h9) rfl (by decide +kernel) rfl rfl (Nat.le_of_ble_eq_true rfl) dX11_trySends_65 (fun H locs hP9 hD9 hS9 => ?_)
          clear hP hD hS
          obtain ⟨hP, hD⟩ := zst (wX := [(h0, .inr (11, [.int th, .ref tB, .int tsz, .int tat, .int wr, .int dp, .ref rC, .ref rV, .ref rD, .ref rK, .ref rT, .ref rS, .ref rU, .int lw, .int tx, .ref rL, .ref rX, .ref qR, .ref qB, .ref qP, .int qnb, .int qnp, .ref aR, .ref aB, .ref aP, .int nb, .int np, .ref aN, .ref rf, .int ho, .int br, .ref aK, .int ac, .long dw, .ref aE, .int p3, .int sf, .ref aA, .ref aH, .ref aI, .int hi]))]) hP9 hD9 rfl
          have hS := hS9
          clear hP9 hD9 hS9
          refine lv_aload_n hx hb dX11_trySends_68 rfl (lv_at hl 1 rfl) ?_
          refine lv_iload hx hb dX11_trySends_69 (lv_at hl 0 rfl) ?_
          refine lv_if_eq (tgt := 79) hx hb dX11_trySends_71 (by decide) (fun c => absurd c (by decide)) (fun _ => ?_)
          refine lv_iload hx hb dX11_trySends_74 (lv_at hl 6 rfl) ?_
          refine lv_goto (tgt := 83) hx hb dX11_trySends_76 (by decide) ?_
          refine va_put (D := (dC, dI)) (ci := 11) (v := .int p4) (ty := .int) (C := RX11) (T := TX11) (N := 41) hx hb hts iX11 tyX11 tyX11_ok nmX11 hown hK hP hD hS 0 rfl rfl 36 (by decide) (hts _ qw1163) (fun _ h9 => h9) rfl (by decide +kernel) rfl rfl (Nat.le_of_ble_eq_true rfl) dX11_trySends_83 (fun H locs hP9 hD9 hS9 => ?_)
          clear hP hD hS
          obtain ⟨hP, hD⟩ := zst (wX := [(h0, .inr (11, [.int th, .ref tB, .int tsz, .int tat, .int wr, .int dp, .ref rC, .ref rV, .ref rD, .ref rK, .ref rT, .ref rS, .ref rU, .int lw, .int tx, .ref rL, .ref rX, .ref qR, .ref qB, .ref qP, .int qnb, .int qnp, .ref aR, .ref aB, .ref aP, .int nb, .int np, .ref aN, .ref rf, .int ho, .int br, .ref aK, .int ac, .long dw, .ref aE, .int p3, .int p4, .ref aA, .ref aH, .ref aI, .int hi]))]) hP9 hD9 rfl
          have hS := hS9
          clear hP9 hD9 hS9
          rw [hQ]
          exact W.vret hx hb hr (fun t ht hW => ⟨⟨(p3, p4), rfl, (by (try dsimp only); exact fun kc s hI => chU_y hI (by omega) (by omega)), ⟨by rw [ht]; exact hP, hD⟩⟩, hS.F ht⟩) hS.2.2 dX11_trySends_86
set_option maxHeartbeats 4000000 in
set_option maxRecDepth 100000 in
theorem g_X11_trySends_5 (l : Launch) (dC : Nat → ClassId) (dI : Nat → Nat → Nat) (cI cJ : ClassId) (h0 : Nat) (p1 : Int32) (p2 : Int32) (p3 : Int32) (p4 : Int32) (th : Int32) (tB : Nat) (tsz : Int32) (tat : Int32) (wr : Int32) (dp : Int32) (rC : Nat) (rV : Nat) (rD : Nat) (rK : Nat) (rT : Nat) (rS : Nat) (rU : Nat) (lw : Int32) (tx : Int32) (rL : Nat) (rX : Nat) (qR : Nat) (qB : Nat) (qP : Nat) (qnb : Int32) (qnp : Int32) (aR : Nat) (aB : Nat) (aP : Nat) (nb : Int32) (np : Int32) (aN : Nat) (rf : Nat) (ho : Int32) (br : Int32) (aK : Nat) (ac : Int32) (dw : Int64) (aE : Nat) (sr : Int32) (sf : Int32) (aA : Nat) (aH : Nat) (aI : Nat) (hi : Int32) (fPa : Nat → Int32) (sz : Nat) (n_ac : 0 ≤ ac.toInt ∧ ac.toInt ≤ 40) (n_hi : 0 ≤ hi.toInt ∧ hi.toInt ≤ 1) (n_ho : (-1) ≤ ho.toInt ∧ ho.toInt ≤ 3) (n_lw : 0 ≤ lw.toInt ∧ lw.toInt ≤ 4) (n_nb : 5 ≤ nb.toInt ∧ nb.toInt ≤ 6) (n_np : 0 ≤ np.toInt ∧ np.toInt ≤ 5) (n_qnb : 0 ≤ qnb.toInt ∧ qnb.toInt ≤ 6) (n_qnp : 0 ≤ qnp.toInt ∧ qnp.toInt ≤ 5) (n_tat : 0 ≤ tat.toInt ∧ tat.toInt ≤ 260) (n_tsz : 0 ≤ tsz.toInt ∧ tsz.toInt ≤ 240) (n_wr : (-1) ≤ wr.toInt ∧ wr.toInt ≤ 260)    : Met l yX11_trySends (.code yX11_trySends cX11_trySends 7 none :: wA) ({ frames := 1, cells := 0, slots := 0, locals := 26 }) (zP (dC, dI) [(cI, .int), (cJ, .long)] [.ref h0, .int 5, .int p1, .int p2, .int p3, .int p4] sz [(h0, .inr (11, [.int th, .ref tB, .int tsz, .int tat, .int wr, .int dp, .ref rC, .ref rV, .ref rD, .ref rK, .ref rT, .ref rS, .ref rU, .int lw, .int tx, .ref rL, .ref rX, .ref qR, .ref qB, .ref qP, .int qnb, .int qnp, .ref aR, .ref aB, .ref aP, .int nb, .int np, .ref aN, .ref rf, .int ho, .int br, .ref aK, .int ac, .long dw, .ref aE, .int sr, .int sf, .ref aA, .ref aH, .ref aI, .int hi])), (aP, .inl (cI, 20, .inl fPa))]) (va_Qv (fun (u : Int32 × Int32) => (∀ (kc : zK3) (s : List Nat), chP fPa np.toInt kc → chI kc np.toInt.toNat p2 p3 p4 s 5 → (u.1.toInt, u.2.toInt) = chX (chf kc) np.toInt.toNat (chBt p1) (nb.toInt.toNat - 5) 5 s (sr.toInt, sf.toInt))) (fun (u : Int32 × Int32) (t : State) => va_P (dC, dI) vwCl [(h0, .inr (11, [.int th, .ref tB, .int tsz, .int tat, .int wr, .int dp, .ref rC, .ref rV, .ref rD, .ref rK, .ref rT, .ref rS, .ref rU, .int lw, .int tx, .ref rL, .ref rX, .ref qR, .ref qB, .ref qP, .int qnb, .int qnp, .ref aR, .ref aB, .ref aP, .int nb, .int np, .ref aN, .ref rf, .int ho, .int br, .ref aK, .int ac, .long dw, .ref aE, .int u.1, .int u.2, .ref aA, .ref aH, .ref aI, .int hi])), (aP, .inl (cI, 20, .inl fPa))] t.heap ∧ va_D (va_A [(h0, .inr (11, [.int th, .ref tB, .int tsz, .int tat, .int wr, .int dp, .ref rC, .ref rV, .ref rD, .ref rK, .ref rT, .ref rS, .ref rU, .int lw, .int tx, .ref rL, .ref rX, .ref qR, .ref qB, .ref qP, .int qnb, .int qnp, .ref aR, .ref aB, .ref aP, .int nb, .int np, .ref aN, .ref rf, .int ho, .int br, .ref aK, .int ac, .long dw, .ref aE, .int sr, .int sf, .ref aA, .ref aH, .ref aI, .int hi])), (aP, .inl (cI, 20, .inl fPa))] sz) [(h0, .inr (11, [.int th, .ref tB, .int tsz, .int tat, .int wr, .int dp, .ref rC, .ref rV, .ref rD, .ref rK, .ref rT, .ref rS, .ref rU, .int lw, .int tx, .ref rL, .ref rX, .ref qR, .ref qB, .ref qP, .int qnb, .int qnp, .ref aR, .ref aB, .ref aP, .int nb, .int np, .ref aN, .ref rf, .int ho, .int br, .ref aK, .int ac, .long dw, .ref aE, .int u.1, .int u.2, .ref aA, .ref aH, .ref aI, .int hi])), (aP, .inl (cI, 20, .inl fPa))]) (va_A [(h0, .inr (11, [.int th, .ref tB, .int tsz, .int tat, .int wr, .int dp, .ref rC, .ref rV, .ref rD, .ref rK, .ref rT, .ref rS, .ref rU, .int lw, .int tx, .ref rL, .ref rX, .ref qR, .ref qB, .ref qP, .int qnb, .int qnp, .ref aR, .ref aB, .ref aP, .int nb, .int np, .ref aN, .ref rf, .int ho, .int br, .ref aK, .int ac, .long dw, .ref aE, .int sr, .int sf, .ref aA, .ref aH, .ref aI, .int hi])), (aP, .inl (cI, 20, .inl fPa))] sz)) 0 0 (va_A [(h0, .inr (11, [.int th, .ref tB, .int tsz, .int tat, .int wr, .int dp, .ref rC, .ref rV, .ref rD, .ref rK, .ref rT, .ref rS, .ref rU, .int lw, .int tx, .ref rL, .ref rX, .ref qR, .ref qB, .ref qP, .int qnb, .int qnp, .ref aR, .ref aB, .ref aP, .int nb, .int np, .ref aN, .ref rf, .int ho, .int br, .ref aK, .int ac, .long dw, .ref aE, .int sr, .int sf, .ref aA, .ref aH, .ref aI, .int hi])), (aP, .inl (cI, 20, .inl fPa))] sz) := by
  refine Met.ofW (cc := cX11_trySends) (maxL := 7) (ret := none) (by decide) rfl ?_
  intro p e s m args below meth c s₁ B hml hv
  have y_ac : zHid (0 ≤ ac.toInt ∧ ac.toInt ≤ 40) := n_ac
  have y_hi : zHid (0 ≤ hi.toInt ∧ hi.toInt ≤ 1) := n_hi
  have y_ho : zHid ((-1) ≤ ho.toInt ∧ ho.toInt ≤ 3) := n_ho
  have y_lw : zHid (0 ≤ lw.toInt ∧ lw.toInt ≤ 4) := n_lw
  have y_qnb : zHid (0 ≤ qnb.toInt ∧ qnb.toInt ≤ 6) := n_qnb
  have y_qnp : zHid (0 ≤ qnp.toInt ∧ qnp.toInt ≤ 5) := n_qnp
  have y_tat : zHid (0 ≤ tat.toInt ∧ tat.toInt ≤ 260) := n_tat
  have y_tsz : zHid (0 ≤ tsz.toInt ∧ tsz.toInt ≤ 240) := n_tsz
  have y_wr : zHid ((-1) ≤ wr.toInt ∧ wr.toInt ≤ 260) := n_wr
  clear n_ac n_hi n_ho n_lw n_qnb n_qnp n_tat n_tsz n_wr
  obtain ⟨hargs, hsz, hP, hK, hT⟩ := hv
  have hx := B.exec
  have hb := B.bytes
  have hr := B.returns
  have hts : ∀ w ∈ wA, w.before args s = true := fun w h => atoms_spec (ws := .code yX11_trySends cX11_trySends 7 none :: wA) B.pre w (List.mem_cons_of_mem _ h)
  have hown : s.vm.findClass RX11 = some m.cls := findClass_of_methodNamed B.named
  have hlocks := B.notSynchronized
  subst hsz
  have hD := hT.self (sz := s.heap.size)
  generalize hAe : va_A [(h0, .inr (11, [.int th, .ref tB, .int tsz, .int tat, .int wr, .int dp, .ref rC, .ref rV, .ref rD, .ref rK, .ref rT, .ref rS, .ref rU, .int lw, .int tx, .ref rL, .ref rX, .ref qR, .ref qB, .ref qP, .int qnb, .int qnp, .ref aR, .ref aB, .ref aP, .int nb, .int np, .ref aN, .ref rf, .int ho, .int br, .ref aK, .int ac, .long dw, .ref aE, .int sr, .int sf, .ref aA, .ref aH, .ref aI, .int hi])), (aP, .inl (cI, 20, .inl fPa))] s.heap.size = A at hD ⊢
  have hA : ∀ q : Nat, s.heap.size ≤ q → A q := fun q h => by rw [← hAe]; exact Or.inr h
  have hl := lv_entry ([.ref h0, .int 5, .int p1, .int p2, .int p3, .int p4]) (n := 7) (Nat.le_of_ble_eq_true rfl)
  rw [show entryFrame m args 7 = entryFrame m ([.ref h0, .int 5, .int p1, .int p2, .int p3, .int p4] : List Value).toArray 7 by rw [hargs], lg_entry_eq]
  generalize (lg_sl ([.ref h0, .int 5, .int p1, .int p2, .int p3, .int p4]) ++ List.replicate (7 - (lg_sl ([.ref h0, .int 5, .int p1, .int p2, .int p3, .int p4])).length) Slot.unset).toArray = ls at hl ⊢
  have hl : lv_has ls 7 [(0, .ref h0), (1, .int 5), (2, .int p1), (3, .int p2), (4, .int p3), (5, .int p4)] := hl
  refine zstart (fun H hH => ?_)
  rw [← hH] at hP
  have hS : va_S A s.heap H [] := by rw [hH]; exact va_S.rf
  generalize ([] : List Loc) = locs at hS ⊢
  refine zgen (fun R Q hR hQ => ?_)
  refine lv_iload_n hx hb dX11_trySends_0 rfl (lv_at hl 1 rfl) ?_
  refine lv_aload_n hx hb dX11_trySends_1 rfl (lv_at hl 0 rfl) ?_
  refine va_get (D := (dC, dI)) (ci := 11) (v := .int nb) (C := RX11) (T := TX11) (N := 41) hx hb hts iX11 hown hK hP 0 rfl rfl 25 (by decide) (hts _ qw1152) (fun _ h9 => h9) rfl dX11_trySends_2 ?_
  refine lv_icmp_ne (tgt := 87) hx hb dX11_trySends_5 (by decide) (fun c5 => ?_) (fun c5 => ?_)
  · have c5 : ¬ 5 = nb.toInt := z6 (by decide) rfl c5
    refine lv_iload_n hx hb dX11_trySends_87 rfl (lv_at hl 2 rfl) ?_
    refine lv_iload_n hx hb dX11_trySends_88 rfl (lv_at hl 1 rfl) ?_
    have hPc : va_P (dC, dI) vwCl [] H := zP0
    have hDc : va_D (fun _ => True) [] := zD0
    have hFc := zfr hS hA
    refine va_calli (va_runS (As := [.int p1, .int 5]) (rest := []) ⟨hx, hb, hml, hown, hts⟩ (g_X11_has l dC dI cI cJ p1 5 H.size) (cwS 2 hts (zgS qw1288 qw1289 qw108 qw1290) rfl rfl rfl hd_X11_has ⟨by rw [hR]; exact Nat.le_of_ble_eq_true rfl, by rw [hR]; exact Nat.le_of_ble_eq_true rfl⟩) (zPS hPc hK hDc) rfl rfl hl.1 rfl (lv_room (Nat.le_of_ble_eq_true rfl)) dX11_trySends_89 ⟨Nat.zero_le _, Nat.zero_le _⟩) hS (fun q _ h => hFc q h) hFc (fun v89 u89 t H locs ht hvm hw hB hz1 hk1 hS9 => ?_)
    replace hP := zkeep hP hk1
    replace hS := hS9
    clear hPc hDc hFc hk1 hz1 hvm hS9
    obtain ⟨f89_0, f89_1, f89_2, f89_3⟩ : (0 ≤ v89.toInt) ∧ (v89.toInt ≤ 1) ∧ (v89.toInt = ((p1 >>> (5 &&& 31)) &&& 1).toInt) ∧ (v89.toInt = (cBt p1 5).toInt) := hw
    have F89 := f89_3
    refine lv_if_ne (tgt := 109) hx hb dX11_trySends_92 (by decide) (fun c92 => ?_) (fun c92 => ?_)
    · have c92 : ¬ v89.toInt = 0 := z6 rfl (by decide) c92
      refine lv_iconst (v := 0) hx hb dX11_trySends_109 (by decide) ?_
      have J112 : ∀ (n : Nat) (m112_F_h0_35 : Int32) (m112_F_h0_36 : Int32) (m112_L_6 : Int32), (0 ≤ m112_L_6.toInt ∧ m112_L_6.toInt ≤ 5) → (∀ (kc : zK3) (s : List Nat), chP fPa np.toInt kc → chI kc np.toInt.toNat p2 p3 p4 s 5 → (m112_F_h0_35.toInt, m112_F_h0_36.toInt) = chL (chf kc) np.toInt.toNat (chBt p1) (nb.toInt.toNat - 6) 5 s (sr.toInt, sf.toInt) m112_L_6.toInt.toNat) → (m112_L_6.toInt ≤ np.toInt) → (6 - m112_L_6.toInt).toNat = n → ∀ (H : Heap) (locs : List Loc) (ls : Array Slot), va_P (dC, dI) vwCl [(h0, .inr (11, [.int th, .ref tB, .int tsz, .int tat, .int wr, .int dp, .ref rC, .ref rV, .ref rD, .ref rK, .ref rT, .ref rS, .ref rU, .int lw, .int tx, .ref rL, .ref rX, .ref qR, .ref qB, .ref qP, .int qnb, .int qnp, .ref aR, .ref aB, .ref aP, .int nb, .int np, .ref aN, .ref rf, .int ho, .int br, .ref aK, .int ac, .long dw, .ref aE, .int m112_F_h0_35, .int m112_F_h0_36, .ref aA, .ref aH, .ref aI, .int hi])), (aP, .inl (cI, 20, .inl fPa))] H → va_D A [(h0, .inr (11, [.int th, .ref tB, .int tsz, .int tat, .int wr, .int dp, .ref rC, .ref rV, .ref rD, .ref rK, .ref rT, .ref rS, .ref rU, .int lw, .int tx, .ref rL, .ref rX, .ref qR, .ref qB, .ref qP, .int qnb, .int qnp, .ref aR, .ref aB, .ref aP, .int nb, .int np, .ref aN, .ref rf, .int ho, .int br, .ref aK, .int ac, .long dw, .ref aE, .int m112_F_h0_35, .int m112_F_h0_36, .ref aA, .ref aH, .ref aI, .int hi])), (aP, .inl (cI, 20, .inl fPa))] → va_S A s.heap H locs → lv_has ls 7 [(6, .int m112_L_6), (0, .ref h0), (1, .int 5), (2, .int p1), (3, .int p2), (4, .int p3), (5, .int p4)] → W p l e R s m args below meth c H locs 0 0 Q (F0 m 112 ls []) := by
        intro n112
        induction n112 using Nat.strongRecOn with
        | _ n112 ih112 =>
          intro m112_F_h0_35 m112_F_h0_36 m112_L_6 jf112_0 jv112_0 jf112_2 hmu112 H locs ls hP hD hS hl
          refine lv_iload hx hb dX11_trySends_112 (lv_at hl 0 rfl) ?_
          refine lv_aload_n hx hb dX11_trySends_114 rfl (lv_at hl 1 rfl) ?_
          refine va_get (D := (dC, dI)) (ci := 11) (v := .int np) (C := RX11) (T := TX11) (N := 41) hx hb hts iX11 hown hK hP 0 rfl rfl 26 (by decide) (hts _ qw1153) (fun _ h9 => h9) rfl dX11_trySends_115 ?_
          refine lv_icmp_ge (tgt := 168) hx hb dX11_trySends_118 (by decide) (fun c118 => ?_) (fun c118 => ?_)
          · have c118 : np.toInt ≤ m112_L_6.toInt := z3 rfl rfl c118
            rw [hQ]
            exact W.vret hx hb hr (fun t ht hW => ⟨⟨(m112_F_h0_35, m112_F_h0_36), rfl, (by (try dsimp only); exact fun kc s hP hI => by have g89 : (chBt p1 5 = true ↔ v89.toInt = 1) := (by rw [F89]; exact decide_eq_true_iff); exact chX_l (k' := (nb.toInt.toNat - 6)) (m := m112_L_6.toInt.toNat) (g89.mpr (by omega)) (by omega) (by omega) (jv112_0 kc s hP hI)), ⟨by rw [ht]; exact hP, hD⟩⟩, hS.F ht⟩) hS.2.2 dX11_trySends_168
          · have c118 : m112_L_6.toInt < np.toInt := z4 rfl rfl c118
            refine lv_iload_n hx hb dX11_trySends_121 rfl (lv_at hl 4 rfl) ?_
            refine lv_iload hx hb dX11_trySends_122 (lv_at hl 0 rfl) ?_
            have hPc : va_P (dC, dI) vwCl [] H := zP0
            have hDc : va_D (fun _ => True) [] := zD0
            have hFc := zfr hS hA
            refine va_calli (va_runS (As := [.int p2, .int m112_L_6]) (rest := []) ⟨hx, hb, hml, hown, hts⟩ (g_X11_has l dC dI cI cJ p2 m112_L_6 H.size) (cwS 2 hts (zgS qw1288 qw1289 qw108 qw1290) rfl rfl rfl hd_X11_has ⟨by rw [hR]; exact Nat.le_of_ble_eq_true rfl, by rw [hR]; exact Nat.le_of_ble_eq_true rfl⟩) (zPS hPc hK hDc) rfl rfl hl.1 rfl (lv_room (Nat.le_of_ble_eq_true rfl)) dX11_trySends_124 ⟨Nat.zero_le _, Nat.zero_le _⟩) hS (fun q _ h => hFc q h) hFc (fun v124 u124 t H locs ht hvm hw hB hz1 hk1 hS9 => ?_)
            replace hP := zkeep hP hk1
            replace hS := hS9
            clear hPc hDc hFc hk1 hz1 hvm hS9
            obtain ⟨f124_0, f124_1, f124_2, f124_3⟩ : (0 ≤ v124.toInt) ∧ (v124.toInt ≤ 1) ∧ (v124.toInt = ((p2 >>> (m112_L_6 &&& 31)) &&& 1).toInt) ∧ (v124.toInt = (cBt p2 m112_L_6).toInt) := hw
            have F124 := f124_3
            refine lv_if_ne (tgt := 162) hx hb dX11_trySends_127 (by decide) (fun c127 => ?_) (fun c127 => ?_)
            · have c127 : ¬ v124.toInt = 0 := z6 rfl (by decide) c127
              obtain ⟨v162, e162⟩ : ∃ y : Int32, y = m112_L_6 + Int32.ofInt (1) := ⟨_, rfl⟩
              refine lv_iinc (v := v162) (lv' := [(6, .int v162), (0, .ref h0), (1, .int 5), (2, .int p1), (3, .int p2), (4, .int p3), (5, .int p4)]) hx hb dX11_trySends_162 hl (k := 0) rfl e162.symm (by decide) rfl (fun ls hl => ?_)
              have i162 : v162.toInt = m112_L_6.toInt + 1 := zaddI e162 (by decide) (by omega) (by omega)
              refine lv_goto (tgt := 112) hx hb dX11_trySends_165 (by decide) ?_
              exact ih112 _ (by omega) m112_F_h0_35 m112_F_h0_36 v162 (by omega) (fun kc s hP hI => by have m := chI_m hI (i := m112_L_6) (by omega) (by omega) F124; first | exact chL_y (jv112_0 kc s hP hI) (by omega) i162 (m.mp (by omega)) | exact chL_n (jv112_0 kc s hP hI) (by omega) i162 (fun z => absurd (m.mpr z) (by omega)) (F159 kc _ (chI_s hI hP (by decide) (by omega) (by omega) e139 e140 e145 e148 F155 e158))) (by omega) rfl H locs ls hP hD hS (lv_sub hl [0, 1, 2, 3, 4, 5, 6] rfl)
            · have c127 : v124.toInt = 0 := z5 rfl (by decide) c127
              refine lv_aload_n hx hb dX11_trySends_130 rfl (lv_at hl 1 rfl) ?_
              refine lv_iload_n hx hb dX11_trySends_131 rfl (lv_at hl 2 rfl) ?_
              refine lv_iconst (v := 1) hx hb dX11_trySends_132 (by decide) ?_
              refine lv_iadd hx hb dX11_trySends_133 ?_
              refine lv_topi (fun v133 e133 => ?_)
              obtain rfl : v133 = 6 := e133.trans (by decide)
              refine lv_iload_n hx hb dX11_trySends_134 rfl (lv_at hl 3 rfl) ?_
              refine lv_iload_n hx hb dX11_trySends_135 rfl (lv_at hl 4 rfl) ?_
              refine lv_iconst (v := 1) hx hb dX11_trySends_136 (by decide) ?_
              refine lv_iload hx hb dX11_trySends_137 (lv_at hl 0 rfl) ?_
              refine lv_ishl hx hb dX11_trySends_139 ?_
              refine lv_topi (fun v139 e139 => ?_)
              have i139 : 1 ≤ v139.toInt ∧ v139.toInt ≤ 32 := zshl1 e139 (by omega) (by omega)
              refine lv_ior hx hb dX11_trySends_140 ?_
              refine lv_topi (fun v140 e140 => ?_)
              refine lv_bipush (v := 10) hx hb dX11_trySends_141 (by decide) ?_
              refine lv_iload hx hb dX11_trySends_143 (lv_at hl 5 rfl) ?_
              refine lv_imul hx hb dX11_trySends_145 ?_
              refine lv_topi (fun v145 e145 => ?_)
              refine lv_iload hx hb dX11_trySends_146 (lv_at hl 0 rfl) ?_
              refine lv_iadd hx hb dX11_trySends_148 ?_
              refine lv_topi (fun v148 e148 => ?_)
              refine lv_iload hx hb dX11_trySends_149 (lv_at hl 6 rfl) ?_
              refine lv_aload_n hx hb dX11_trySends_151 rfl (lv_at hl 1 rfl) ?_
              refine lv_iload hx hb dX11_trySends_152 (lv_at hl 0 rfl) ?_
              refine lv_iconst (v := 1) hx hb dX11_trySends_154 (by decide) ?_
              obtain ⟨hPc, hDc⟩ := zc2 (wc := [(h0, .inr (11, [.int th, .ref tB, .int tsz, .int tat, .int wr, .int dp, .ref rC, .ref rV, .ref rD, .ref rK, .ref rT, .ref rS, .ref rU, .int lw, .int tx, .ref rL, .ref rX, .ref qR, .ref qB, .ref qP, .int qnb, .int qnp, .ref aR, .ref aB, .ref aP, .int nb, .int np, .ref aN, .ref rf, .int ho, .int br, .ref aK, .int ac, .long dw, .ref aE, .int m112_F_h0_35, .int m112_F_h0_36, .ref aA, .ref aH, .ref aI, .int hi])), (aP, .inl (cI, 20, .inl fPa))]) hP hD [0, 1] (by decide +kernel) rfl
              have hFc := zfr hS hA
              refine va_calli (va_runV (As := [.int m112_L_6, .int 1]) (rest := [.int p4, .int v148, .int v140, .int p1, .int 6, .ref h0]) ⟨hx, hb, hml, hown, hts⟩ (g_X11_by_1 l dC dI cI cJ h0 m112_L_6 th tB tsz tat wr dp rC rV rD rK rT rS rU lw tx rL rX qR qB qP qnb qnp aR aB aP nb np aN rf ho br aK ac dw aE m112_F_h0_35 m112_F_h0_36 aA aH aI hi fPa H.size y_ac y_hi y_ho y_lw (by omega) n_np (by omega) y_qnb y_qnp y_tat y_tsz y_wr) (cwV 2 hts (zgV qw1390 qw1392 qw55 qw108 qw1393) rfl rfl rfl hd_X11_by ⟨by rw [hR]; exact Nat.le_of_ble_eq_true rfl, by rw [hR]; exact Nat.le_of_ble_eq_true rfl⟩) (zPV hPc hK hDc (va_recv (q := (RX11, TX11, 41)) hK hP (ci := 11) (q0 := 0) rfl rfl)) rfl rfl hl.1 rfl (lv_room (Nat.le_of_ble_eq_true rfl)) dX11_trySends_155 ⟨Nat.zero_le _, Nat.zero_le _⟩) hS (fun q _ h => hFc q h) hFc (fun v155 u155 t H locs ht hvm hw hB hz1 hk1 hS9 => ?_)
              replace hP := zkeep hP hk1
              replace hS := hS9
              clear hPc hDc hFc hk1 hz1 hvm hS9
              obtain ⟨f155_0, f155_1⟩ : (v155.toInt = (fPa (4 * m112_L_6.toInt.toNat + 1)).toInt) ∧ (v155 = fPa (4 * m112_L_6.toInt.toNat + 1)) := hw
              have F155 := f155_1
              refine lv_iadd hx hb dX11_trySends_158 ?_
              refine lv_topi (fun v158 e158 => ?_)
              obtain ⟨hPc, hDc, hFc⟩ := zc3 (wc := [(h0, .inr (11, [.int th, .ref tB, .int tsz, .int tat, .int wr, .int dp, .ref rC, .ref rV, .ref rD, .ref rK, .ref rT, .ref rS, .ref rU, .int lw, .int tx, .ref rL, .ref rX, .ref qR, .ref qB, .ref qP, .int qnb, .int qnp, .ref aR, .ref aB, .ref aP, .int nb, .int np, .ref aN, .ref rf, .int ho, .int br, .ref aK, .int ac, .long dw, .ref aE, .int m112_F_h0_35, .int m112_F_h0_36, .ref aA, .ref aH, .ref aI, .int hi]))]) hP hD hS hA [0] (by decide +kernel) rfl
              refine va_callv (va_runV (As := [.int 6, .int p1, .int v140, .int v148, .int v158]) (rest := []) ⟨hx, hb, hml, hown, hts⟩ (g_X11_trySends_6 l dC dI cI cJ h0 p1 v140 v148 v158 th tB tsz tat wr dp rC rV rD rK rT rS rU lw tx rL rX qR qB qP qnb qnp aR aB aP nb np aN rf ho br aK ac dw aE m112_F_h0_35 m112_F_h0_36 aA aH aI hi H.size y_ac y_hi y_ho y_lw (by omega) n_np y_qnb y_qnp y_tat y_tsz y_wr) (cwV 5 hts (zgV qw1683 qw1685 qw91 qw108 qw1686) rfl rfl rfl hd_X11_trySends ⟨by rw [hR]; exact Nat.le_of_ble_eq_true rfl, by rw [hR]; exact Nat.le_of_ble_eq_true rfl⟩) (zPV hPc hK hDc (va_recv (q := (RX11, TX11, 41)) hK hP (ci := 11) (q0 := 0) rfl rfl)) rfl rfl hl.1 rfl (lv_room (Nat.le_of_ble_eq_true rfl)) dX11_trySends_159 ⟨Nat.zero_le _, Nat.zero_le _⟩) hS (fun q _ h => hFc q h) hFc (fun u159 t H locs ht hvm hw hB hz1 hk1 hS9 => ?_)
              obtain ⟨u159_0, u159_1⟩ := u159
              obtain ⟨hP9, hD9⟩ := zj2 (wX := [(h0, .inr (11, [.int th, .ref tB, .int tsz, .int tat, .int wr, .int dp, .ref rC, .ref rV, .ref rD, .ref rK, .ref rT, .ref rS, .ref rU, .int lw, .int tx, .ref rL, .ref rX, .ref qR, .ref qB, .ref qP, .int qnb, .int qnp, .ref aR, .ref aB, .ref aP, .int nb, .int np, .ref aN, .ref rf, .int ho, .int br, .ref aK, .int ac, .long dw, .ref aE, .int u159_0, .int u159_1, .ref aA, .ref aH, .ref aI, .int hi])), (aP, .inl (cI, 20, .inl fPa))]) hP hD hk1 hFc ht hB [0] [(true, 0), (false, 1)] rfl (by decide +kernel) (by decide +kernel) rfl
              clear hP hD hS hPc hDc hFc hB hk1 hz1 hvm
              have hP := hP9
              have hD := hD9
              have hS := hS9
              clear hP9 hD9 hS9
              have f159_0 : (∀ (kc : zK3) (s : List Nat), chI kc np.toInt.toNat v140 v148 v158 s 6 → (u159_0.toInt, u159_1.toInt) = chX (chf kc) np.toInt.toNat (chBt p1) (nb.toInt.toNat - 6) 6 s (m112_F_h0_35.toInt, m112_F_h0_36.toInt)) := hw
              have F159 := f159_0
              obtain ⟨v162, e162⟩ : ∃ y : Int32, y = m112_L_6 + Int32.ofInt (1) := ⟨_, rfl⟩
              refine lv_iinc (v := v162) (lv' := [(6, .int v162), (0, .ref h0), (1, .int 5), (2, .int p1), (3, .int p2), (4, .int p3), (5, .int p4)]) hx hb dX11_trySends_162 hl (k := 0) rfl e162.symm (by decide) rfl (fun ls hl => ?_)
              have i162 : v162.toInt = m112_L_6.toInt + 1 := zaddI e162 (by decide) (by omega) (by omega)
              refine lv_goto (tgt := 112) hx hb dX11_trySends_165 (by decide) ?_
              exact ih112 _ (by omega) u159_0 u159_1 v162 (by omega) (fun kc s hP hI => by have m := chI_m hI (i := m112_L_6) (by omega) (by omega) F124; first | exact chL_y (jv112_0 kc s hP hI) (by omega) i162 (m.mp (by omega)) | exact chL_n (jv112_0 kc s hP hI) (by omega) i162 (fun z => absurd (m.mpr z) (by omega)) (F159 kc _ (chI_s hI hP (by decide) (by omega) (by omega) e139 e140 e145 e148 F155 e158))) (by omega) rfl H locs ls hP hD hS (lv_sub hl [0, 1, 2, 3, 4, 5, 6] rfl)
      refine lv_istore (lv' := [(6, .int 0), (0, .ref h0), (1, .int 5), (2, .int p1), (3, .int p2), (4, .int p3), (5, .int p4)]) hx hb dX11_trySends_110 hl (by decide) rfl (fun ls hl => ?_)
      have zj112_m112_L_6 : (0 : Int32).toInt = 0 := by decide
      exact J112 _ sr sf 0 (by decide) (fun kc s hP hI => chL_0.symm) (by omega) rfl H locs ls hP hD hS (lv_sub hl [0, 1, 2, 3, 4, 5, 6] rfl)
    · have c92 : v89.toInt = 0 := z5 rfl (by decide) c92
      refine lv_aload_n hx hb dX11_trySends_95 rfl (lv_at hl 0 rfl) ?_
      refine lv_iload_n hx hb dX11_trySends_96 rfl (lv_at hl 1 rfl) ?_
      refine lv_iconst (v := 1) hx hb dX11_trySends_97 (by decide) ?_
      refine lv_iadd hx hb dX11_trySends_98 ?_
      refine lv_topi (fun v98 e98 => ?_)
      obtain rfl : v98 = 6 := e98.trans (by decide)
      refine lv_iload_n hx hb dX11_trySends_99 rfl (lv_at hl 2 rfl) ?_
      refine lv_iload_n hx hb dX11_trySends_100 rfl (lv_at hl 3 rfl) ?_
      refine lv_iload hx hb dX11_trySends_101 (lv_at hl 4 rfl) ?_
      refine lv_iload hx hb dX11_trySends_103 (lv_at hl 5 rfl) ?_
      obtain ⟨hPc, hDc, hFc⟩ := zc3 (wc := [(h0, .inr (11, [.int th, .ref tB, .int tsz, .int tat, .int wr, .int dp, .ref rC, .ref rV, .ref rD, .ref rK, .ref rT, .ref rS, .ref rU, .int lw, .int tx, .ref rL, .ref rX, .ref qR, .ref qB, .ref qP, .int qnb, .int qnp, .ref aR, .ref aB, .ref aP, .int nb, .int np, .ref aN, .ref rf, .int ho, .int br, .ref aK, .int ac, .long dw, .ref aE, .int sr, .int sf, .ref aA, .ref aH, .ref aI, .int hi]))]) hP hD hS hA [0] (by decide +kernel) rfl
      refine va_callv (va_runV (As := [.int 6, .int p1, .int p2, .int p3, .int p4]) (rest := []) ⟨hx, hb, hml, hown, hts⟩ (g_X11_trySends_6 l dC dI cI cJ h0 p1 p2 p3 p4 th tB tsz tat wr dp rC rV rD rK rT rS rU lw tx rL rX qR qB qP qnb qnp aR aB aP nb np aN rf ho br aK ac dw aE sr sf aA aH aI hi H.size y_ac y_hi y_ho y_lw (by omega) n_np y_qnb y_qnp y_tat y_tsz y_wr) (cwV 5 hts (zgV qw1683 qw1685 qw91 qw108 qw1686) rfl rfl rfl hd_X11_trySends ⟨by rw [hR]; exact Nat.le_of_ble_eq_true rfl, by rw [hR]; exact Nat.le_of_ble_eq_true rfl⟩) (zPV hPc hK hDc (va_recv (q := (RX11, TX11, 41)) hK hP (ci := 11) (q0 := 0) rfl rfl)) rfl rfl hl.1 rfl (lv_room (Nat.le_of_ble_eq_true rfl)) dX11_trySends_105 ⟨Nat.zero_le _, Nat.zero_le _⟩) hS (fun q _ h => hFc q h) hFc (fun u105 t H locs ht hvm hw hB hz1 hk1 hS9 => ?_)
      obtain ⟨u105_0, u105_1⟩ := u105
      obtain ⟨hP9, hD9⟩ := zj2 (wX := [(h0, .inr (11, [.int th, .ref tB, .int tsz, .int tat, .int wr, .int dp, .ref rC, .ref rV, .ref rD, .ref rK, .ref rT, .ref rS, .ref rU, .int lw, .int tx, .ref rL, .ref rX, .ref qR, .ref qB, .ref qP, .int qnb, .int qnp, .ref aR, .ref aB, .ref aP, .int nb, .int np, .ref aN, .ref rf, .int ho, .int br, .ref aK, .int ac, .long dw, .ref aE, .int u105_0, .int u105_1, .ref aA, .ref aH, .ref aI, .int hi])), (aP, .inl (cI, 20, .inl fPa))]) hP hD hk1 hFc ht hB [0] [(true, 0), (false, 1)] rfl (by decide +kernel) (by decide +kernel) rfl
      clear hP hD hS hPc hDc hFc hB hk1 hz1 hvm
      have hP := hP9
      have hD := hD9
      have hS := hS9
      clear hP9 hD9 hS9
      have f105_0 : (∀ (kc : zK3) (s : List Nat), chI kc np.toInt.toNat p2 p3 p4 s 6 → (u105_0.toInt, u105_1.toInt) = chX (chf kc) np.toInt.toNat (chBt p1) (nb.toInt.toNat - 6) 6 s (sr.toInt, sf.toInt)) := hw
      have F105 := f105_0
      rw [hQ]
      exact W.vret hx hb hr (fun t ht hW => ⟨⟨(u105_0, u105_1), rfl, (by (try dsimp only); exact fun kc s hP hI => by have g89 : (chBt p1 5 = true ↔ v89.toInt = 1) := (by rw [F89]; exact decide_eq_true_iff); exact chX_v (k' := (nb.toInt.toNat - 6)) (fun z => absurd (g89.mp z) (by omega)) (by omega) (F105 kc s (chI_w hI (by decide)))), ⟨by rw [ht]; exact hP, hD⟩⟩, hS.F ht⟩) hS.2.2 dX11_trySends_108
  · have c5 : 5 = nb.toInt := z5 (by decide) rfl c5
    refine lv_aload_n hx hb dX11_trySends_8 rfl (lv_at hl 0 rfl) ?_
    refine va_get (D := (dC, dI)) (ci := 11) (v := .int sr) (C := RX11) (T := TX11) (N := 41) hx hb hts iX11 hown hK hP 0 rfl rfl 35 (by decide) (hts _ qw1162) (fun _ h9 => h9) rfl dX11_trySends_9 ?_
    refine lv_iconst (v := (-1)) hx hb dX11_trySends_12 (by decide) ?_
    refine lv_icmp_eq (tgt := 43) hx hb dX11_trySends_13 (by decide) (fun c13 => ?_) (fun c13 => ?_)
    · have c13 : sr.toInt = (-1) := z5 rfl (by decide) c13
      refine lv_iconst (v := 1) hx hb dX11_trySends_43 (by decide) ?_
      refine lv_goto (tgt := 48) hx hb dX11_trySends_44 (by decide) ?_
      refine lv_istore (lv' := [(6, .int 1), (0, .ref h0), (1, .int 5), (2, .int p1), (3, .int p2), (4, .int p3), (5, .int p4)]) hx hb dX11_trySends_48 hl (by decide) rfl (fun ls hl => ?_)
      refine lv_aload_n hx hb dX11_trySends_50 rfl (lv_at hl 1 rfl) ?_
      refine lv_iload hx hb dX11_trySends_51 (lv_at hl 0 rfl) ?_
      refine lv_if_eq (tgt := 61) hx hb dX11_trySends_53 (by decide) (fun c => absurd c (by decide)) (fun _ => ?_)
      refine lv_iload hx hb dX11_trySends_56 (lv_at hl 5 rfl) ?_
      refine lv_goto (tgt := 65) hx hb dX11_trySends_58 (by decide) ?_
      refine va_put (D := (dC, dI)) (ci := 11) (v := .int p3) (ty := .int) (C := RX11) (T := TX11) (N := 41) hx hb hts iX11 tyX11 tyX11_ok nmX11 hown hK hP hD hS 0 rfl rfl 35 (by decide) (hts _ qw1162) (fun _ h9 => h9) rfl (by decide +kernel) rfl rfl (Nat.le_of_ble_eq_true rfl) dX11_trySends_65 (fun H locs hP9 hD9 hS9 => ?_)
      clear hP hD hS
      obtain ⟨hP, hD⟩ := zst (wX := [(h0, .inr (11, [.int th, .ref tB, .int tsz, .int tat, .int wr, .int dp, .ref rC, .ref rV, .ref rD, .ref rK, .ref rT, .ref rS, .ref rU, .int lw, .int tx, .ref rL, .ref rX, .ref qR, .ref qB, .ref qP, .int qnb, .int qnp, .ref aR, .ref aB, .ref aP, .int nb, .int np, .ref aN, .ref rf, .int ho, .int br, .ref aK, .int ac, .long dw, .ref aE, .int p3, .int sf, .ref aA, .ref aH, .ref aI, .int hi])), (aP, .inl (cI, 20, .inl fPa))]) hP9 hD9 rfl
      have hS := hS9
      clear hP9 hD9 hS9
      refine lv_aload_n hx hb dX11_trySends_68 rfl (lv_at hl 1 rfl) ?_
      refine lv_iload hx hb dX11_trySends_69 (lv_at hl 0 rfl) ?_
      refine lv_if_eq (tgt := 79) hx hb dX11_trySends_71 (by decide) (fun c => absurd c (by decide)) (fun _ => ?_)
      refine lv_iload hx hb dX11_trySends_74 (lv_at hl 6 rfl) ?_
      refine lv_goto (tgt := 83) hx hb dX11_trySends_76 (by decide) ?_
      refine va_put (D := (dC, dI)) (ci := 11) (v := .int p4) (ty := .int) (C := RX11) (T := TX11) (N := 41) hx hb hts iX11 tyX11 tyX11_ok nmX11 hown hK hP hD hS 0 rfl rfl 36 (by decide) (hts _ qw1163) (fun _ h9 => h9) rfl (by decide +kernel) rfl rfl (Nat.le_of_ble_eq_true rfl) dX11_trySends_83 (fun H locs hP9 hD9 hS9 => ?_)
      clear hP hD hS
      obtain ⟨hP, hD⟩ := zst (wX := [(h0, .inr (11, [.int th, .ref tB, .int tsz, .int tat, .int wr, .int dp, .ref rC, .ref rV, .ref rD, .ref rK, .ref rT, .ref rS, .ref rU, .int lw, .int tx, .ref rL, .ref rX, .ref qR, .ref qB, .ref qP, .int qnb, .int qnp, .ref aR, .ref aB, .ref aP, .int nb, .int np, .ref aN, .ref rf, .int ho, .int br, .ref aK, .int ac, .long dw, .ref aE, .int p3, .int p4, .ref aA, .ref aH, .ref aI, .int hi])), (aP, .inl (cI, 20, .inl fPa))]) hP9 hD9 rfl
      have hS := hS9
      clear hP9 hD9 hS9
      rw [hQ]
      exact W.vret hx hb hr (fun t ht hW => ⟨⟨(p3, p4), rfl, (by (try dsimp only); exact fun kc s hP hI => chU_y hI (by omega) (by omega)), ⟨by rw [ht]; exact hP, hD⟩⟩, hS.F ht⟩) hS.2.2 dX11_trySends_86
    · have c13 : ¬ sr.toInt = (-1) := z6 rfl (by decide) c13
      refine lv_iload hx hb dX11_trySends_16 (lv_at hl 5 rfl) ?_
      refine lv_aload_n hx hb dX11_trySends_18 rfl (lv_at hl 0 rfl) ?_
      refine va_get (D := (dC, dI)) (ci := 11) (v := .int sf) (C := RX11) (T := TX11) (N := 41) hx hb hts iX11 hown hK hP 0 rfl rfl 36 (by decide) (hts _ qw1163) (fun _ h9 => h9) rfl dX11_trySends_19 ?_
      refine lv_icmp_lt (tgt := 43) hx hb dX11_trySends_22 (by decide) (fun c22 => ?_) (fun c22 => ?_)
      · have c22 : p4.toInt < sf.toInt := z1 rfl rfl c22
        refine lv_iconst (v := 1) hx hb dX11_trySends_43 (by decide) ?_
        refine lv_goto (tgt := 48) hx hb dX11_trySends_44 (by decide) ?_
        refine lv_istore (lv' := [(6, .int 1), (0, .ref h0), (1, .int 5), (2, .int p1), (3, .int p2), (4, .int p3), (5, .int p4)]) hx hb dX11_trySends_48 hl (by decide) rfl (fun ls hl => ?_)
        refine lv_aload_n hx hb dX11_trySends_50 rfl (lv_at hl 1 rfl) ?_
        refine lv_iload hx hb dX11_trySends_51 (lv_at hl 0 rfl) ?_
        refine lv_if_eq (tgt := 61) hx hb dX11_trySends_53 (by decide) (fun c => absurd c (by decide)) (fun _ => ?_)
        refine lv_iload hx hb dX11_trySends_56 (lv_at hl 5 rfl) ?_
        refine lv_goto (tgt := 65) hx hb dX11_trySends_58 (by decide) ?_
        refine va_put (D := (dC, dI)) (ci := 11) (v := .int p3) (ty := .int) (C := RX11) (T := TX11) (N := 41) hx hb hts iX11 tyX11 tyX11_ok nmX11 hown hK hP hD hS 0 rfl rfl 35 (by decide) (hts _ qw1162) (fun _ h9 => h9) rfl (by decide +kernel) rfl rfl (Nat.le_of_ble_eq_true rfl) dX11_trySends_65 (fun H locs hP9 hD9 hS9 => ?_)
        clear hP hD hS
        obtain ⟨hP, hD⟩ := zst (wX := [(h0, .inr (11, [.int th, .ref tB, .int tsz, .int tat, .int wr, .int dp, .ref rC, .ref rV, .ref rD, .ref rK, .ref rT, .ref rS, .ref rU, .int lw, .int tx, .ref rL, .ref rX, .ref qR, .ref qB, .ref qP, .int qnb, .int qnp, .ref aR, .ref aB, .ref aP, .int nb, .int np, .ref aN, .ref rf, .int ho, .int br, .ref aK, .int ac, .long dw, .ref aE, .int p3, .int sf, .ref aA, .ref aH, .ref aI, .int hi])), (aP, .inl (cI, 20, .inl fPa))]) hP9 hD9 rfl
        have hS := hS9
        clear hP9 hD9 hS9
        refine lv_aload_n hx hb dX11_trySends_68 rfl (lv_at hl 1 rfl) ?_
        refine lv_iload hx hb dX11_trySends_69 (lv_at hl 0 rfl) ?_
        refine lv_if_eq (tgt := 79) hx hb dX11_trySends_71 (by decide) (fun c => absurd c (by decide)) (fun _ => ?_)
        refine lv_iload hx hb dX11_trySends_74 (lv_at hl 6 rfl) ?_
        refine lv_goto (tgt := 83) hx hb dX11_trySends_76 (by decide) ?_
        refine va_put (D := (dC, dI)) (ci := 11) (v := .int p4) (ty := .int) (C := RX11) (T := TX11) (N := 41) hx hb hts iX11 tyX11 tyX11_ok nmX11 hown hK hP hD hS 0 rfl rfl 36 (by decide) (hts _ qw1163) (fun _ h9 => h9) rfl (by decide +kernel) rfl rfl (Nat.le_of_ble_eq_true rfl) dX11_trySends_83 (fun H locs hP9 hD9 hS9 => ?_)
        clear hP hD hS
        obtain ⟨hP, hD⟩ := zst (wX := [(h0, .inr (11, [.int th, .ref tB, .int tsz, .int tat, .int wr, .int dp, .ref rC, .ref rV, .ref rD, .ref rK, .ref rT, .ref rS, .ref rU, .int lw, .int tx, .ref rL, .ref rX, .ref qR, .ref qB, .ref qP, .int qnb, .int qnp, .ref aR, .ref aB, .ref aP, .int nb, .int np, .ref aN, .ref rf, .int ho, .int br, .ref aK, .int ac, .long dw, .ref aE, .int p3, .int p4, .ref aA, .ref aH, .ref aI, .int hi])), (aP, .inl (cI, 20, .inl fPa))]) hP9 hD9 rfl
        have hS := hS9
        clear hP9 hD9 hS9
        rw [hQ]
        exact W.vret hx hb hr (fun t ht hW => ⟨⟨(p3, p4), rfl, (by (try dsimp only); exact fun kc s hP hI => chU_y hI (by omega) (by omega)), ⟨by rw [ht]; exact hP, hD⟩⟩, hS.F ht⟩) hS.2.2 dX11_trySends_86
      · have c22 : sf.toInt ≤ p4.toInt := z2 rfl rfl c22
        refine lv_iload hx hb dX11_trySends_25 (lv_at hl 5 rfl) ?_
        refine lv_aload_n hx hb dX11_trySends_27 rfl (lv_at hl 0 rfl) ?_
        refine va_get (D := (dC, dI)) (ci := 11) (v := .int sf) (C := RX11) (T := TX11) (N := 41) hx hb hts iX11 hown hK hP 0 rfl rfl 36 (by decide) (hts _ qw1163) (fun _ h9 => h9) rfl dX11_trySends_28 ?_
        refine lv_icmp_ne (tgt := 47) hx hb dX11_trySends_31 (by decide) (fun c31 => ?_) (fun c31 => ?_)
        · have c31 : ¬ p4.toInt = sf.toInt := z6 rfl rfl c31
          refine lv_iconst (v := 0) hx hb dX11_trySends_47 (by decide) ?_
          refine lv_istore (lv' := [(6, .int 0), (0, .ref h0), (1, .int 5), (2, .int p1), (3, .int p2), (4, .int p3), (5, .int p4)]) hx hb dX11_trySends_48 hl (by decide) rfl (fun ls hl => ?_)
          refine lv_aload_n hx hb dX11_trySends_50 rfl (lv_at hl 1 rfl) ?_
          refine lv_iload hx hb dX11_trySends_51 (lv_at hl 0 rfl) ?_
          refine lv_if_eq (tgt := 61) hx hb dX11_trySends_53 (by decide) (fun _ => ?_) (fun c => absurd (by decide) c)
          refine lv_aload_n hx hb dX11_trySends_61 rfl (lv_at hl 1 rfl) ?_
          refine va_get (D := (dC, dI)) (ci := 11) (v := .int sr) (C := RX11) (T := TX11) (N := 41) hx hb hts iX11 hown hK hP 0 rfl rfl 35 (by decide) (hts _ qw1162) (fun _ h9 => h9) rfl dX11_trySends_62 ?_
          refine va_put (D := (dC, dI)) (ci := 11) (v := .int sr) (ty := .int) (C := RX11) (T := TX11) (N := 41) hx hb hts iX11 tyX11 tyX11_ok nmX11 hown hK hP hD hS 0 rfl rfl 35 (by decide) (hts _ qw1162) (fun _ h9 => h9) rfl (by decide +kernel) rfl rfl (Nat.le_of_ble_eq_true rfl) dX11_trySends_65 (fun H locs hP9 hD9 hS9 => ?_)
          clear hP hD hS
          obtain ⟨hP, hD⟩ := zst (wX := [(h0, .inr (11, [.int th, .ref tB, .int tsz, .int tat, .int wr, .int dp, .ref rC, .ref rV, .ref rD, .ref rK, .ref rT, .ref rS, .ref rU, .int lw, .int tx, .ref rL, .ref rX, .ref qR, .ref qB, .ref qP, .int qnb, .int qnp, .ref aR, .ref aB, .ref aP, .int nb, .int np, .ref aN, .ref rf, .int ho, .int br, .ref aK, .int ac, .long dw, .ref aE, .int sr, .int sf, .ref aA, .ref aH, .ref aI, .int hi])), (aP, .inl (cI, 20, .inl fPa))]) hP9 hD9 rfl
          have hS := hS9
          clear hP9 hD9 hS9
          refine lv_aload_n hx hb dX11_trySends_68 rfl (lv_at hl 1 rfl) ?_
          refine lv_iload hx hb dX11_trySends_69 (lv_at hl 0 rfl) ?_
          refine lv_if_eq (tgt := 79) hx hb dX11_trySends_71 (by decide) (fun _ => ?_) (fun c => absurd (by decide) c)
          refine lv_aload_n hx hb dX11_trySends_79 rfl (lv_at hl 1 rfl) ?_
          refine va_get (D := (dC, dI)) (ci := 11) (v := .int sf) (C := RX11) (T := TX11) (N := 41) hx hb hts iX11 hown hK hP 0 rfl rfl 36 (by decide) (hts _ qw1163) (fun _ h9 => h9) rfl dX11_trySends_80 ?_
          refine va_put (D := (dC, dI)) (ci := 11) (v := .int sf) (ty := .int) (C := RX11) (T := TX11) (N := 41) hx hb hts iX11 tyX11 tyX11_ok nmX11 hown hK hP hD hS 0 rfl rfl 36 (by decide) (hts _ qw1163) (fun _ h9 => h9) rfl (by decide +kernel) rfl rfl (Nat.le_of_ble_eq_true rfl) dX11_trySends_83 (fun H locs hP9 hD9 hS9 => ?_)
          clear hP hD hS
          obtain ⟨hP, hD⟩ := zst (wX := [(h0, .inr (11, [.int th, .ref tB, .int tsz, .int tat, .int wr, .int dp, .ref rC, .ref rV, .ref rD, .ref rK, .ref rT, .ref rS, .ref rU, .int lw, .int tx, .ref rL, .ref rX, .ref qR, .ref qB, .ref qP, .int qnb, .int qnp, .ref aR, .ref aB, .ref aP, .int nb, .int np, .ref aN, .ref rf, .int ho, .int br, .ref aK, .int ac, .long dw, .ref aE, .int sr, .int sf, .ref aA, .ref aH, .ref aI, .int hi])), (aP, .inl (cI, 20, .inl fPa))]) hP9 hD9 rfl
          have hS := hS9
          clear hP9 hD9 hS9
          rw [hQ]
          exact W.vret hx hb hr (fun t ht hW => ⟨⟨(sr, sf), rfl, (by (try dsimp only); exact fun kc s hP hI => chU_n hI (by omega) (by omega)), ⟨by rw [ht]; exact hP, hD⟩⟩, hS.F ht⟩) hS.2.2 dX11_trySends_86
        · have c31 : p4.toInt = sf.toInt := z5 rfl rfl c31
          refine lv_iload hx hb dX11_trySends_34 (lv_at hl 4 rfl) ?_
          refine lv_aload_n hx hb dX11_trySends_36 rfl (lv_at hl 0 rfl) ?_
          refine va_get (D := (dC, dI)) (ci := 11) (v := .int sr) (C := RX11) (T := TX11) (N := 41) hx hb hts iX11 hown hK hP 0 rfl rfl 35 (by decide) (hts _ qw1162) (fun _ h9 => h9) rfl dX11_trySends_37 ?_
          refine lv_icmp_ge (tgt := 47) hx hb dX11_trySends_40 (by decide) (fun c40 => ?_) (fun c40 => ?_)
          · have c40 : sr.toInt ≤ p3.toInt := z3 rfl rfl c40
            refine lv_iconst (v := 0) hx hb dX11_trySends_47 (by decide) ?_
            refine lv_istore (lv' := [(6, .int 0), (0, .ref h0), (1, .int 5), (2, .int p1), (3, .int p2), (4, .int p3), (5, .int p4)]) hx hb dX11_trySends_48 hl (by decide) rfl (fun ls hl => ?_)
            refine lv_aload_n hx hb dX11_trySends_50 rfl (lv_at hl 1 rfl) ?_
            refine lv_iload hx hb dX11_trySends_51 (lv_at hl 0 rfl) ?_
            refine lv_if_eq (tgt := 61) hx hb dX11_trySends_53 (by decide) (fun _ => ?_) (fun c => absurd (by decide) c)
            refine lv_aload_n hx hb dX11_trySends_61 rfl (lv_at hl 1 rfl) ?_
            refine va_get (D := (dC, dI)) (ci := 11) (v := .int sr) (C := RX11) (T := TX11) (N := 41) hx hb hts iX11 hown hK hP 0 rfl rfl 35 (by decide) (hts _ qw1162) (fun _ h9 => h9) rfl dX11_trySends_62 ?_
            refine va_put (D := (dC, dI)) (ci := 11) (v := .int sr) (ty := .int) (C := RX11) (T := TX11) (N := 41) hx hb hts iX11 tyX11 tyX11_ok nmX11 hown hK hP hD hS 0 rfl rfl 35 (by decide) (hts _ qw1162) (fun _ h9 => h9) rfl (by decide +kernel) rfl rfl (Nat.le_of_ble_eq_true rfl) dX11_trySends_65 (fun H locs hP9 hD9 hS9 => ?_)
            clear hP hD hS
            obtain ⟨hP, hD⟩ := zst (wX := [(h0, .inr (11, [.int th, .ref tB, .int tsz, .int tat, .int wr, .int dp, .ref rC, .ref rV, .ref rD, .ref rK, .ref rT, .ref rS, .ref rU, .int lw, .int tx, .ref rL, .ref rX, .ref qR, .ref qB, .ref qP, .int qnb, .int qnp, .ref aR, .ref aB, .ref aP, .int nb, .int np, .ref aN, .ref rf, .int ho, .int br, .ref aK, .int ac, .long dw, .ref aE, .int sr, .int sf, .ref aA, .ref aH, .ref aI, .int hi])), (aP, .inl (cI, 20, .inl fPa))]) hP9 hD9 rfl
            have hS := hS9
            clear hP9 hD9 hS9
            refine lv_aload_n hx hb dX11_trySends_68 rfl (lv_at hl 1 rfl) ?_
            refine lv_iload hx hb dX11_trySends_69 (lv_at hl 0 rfl) ?_
            refine lv_if_eq (tgt := 79) hx hb dX11_trySends_71 (by decide) (fun _ => ?_) (fun c => absurd (by decide) c)
            refine lv_aload_n hx hb dX11_trySends_79 rfl (lv_at hl 1 rfl) ?_
            refine va_get (D := (dC, dI)) (ci := 11) (v := .int sf) (C := RX11) (T := TX11) (N := 41) hx hb hts iX11 hown hK hP 0 rfl rfl 36 (by decide) (hts _ qw1163) (fun _ h9 => h9) rfl dX11_trySends_80 ?_
            refine va_put (D := (dC, dI)) (ci := 11) (v := .int sf) (ty := .int) (C := RX11) (T := TX11) (N := 41) hx hb hts iX11 tyX11 tyX11_ok nmX11 hown hK hP hD hS 0 rfl rfl 36 (by decide) (hts _ qw1163) (fun _ h9 => h9) rfl (by decide +kernel) rfl rfl (Nat.le_of_ble_eq_true rfl) dX11_trySends_83 (fun H locs hP9 hD9 hS9 => ?_)
            clear hP hD hS
            obtain ⟨hP, hD⟩ := zst (wX := [(h0, .inr (11, [.int th, .ref tB, .int tsz, .int tat, .int wr, .int dp, .ref rC, .ref rV, .ref rD, .ref rK, .ref rT, .ref rS, .ref rU, .int lw, .int tx, .ref rL, .ref rX, .ref qR, .ref qB, .ref qP, .int qnb, .int qnp, .ref aR, .ref aB, .ref aP, .int nb, .int np, .ref aN, .ref rf, .int ho, .int br, .ref aK, .int ac, .long dw, .ref aE, .int sr, .int sf, .ref aA, .ref aH, .ref aI, .int hi])), (aP, .inl (cI, 20, .inl fPa))]) hP9 hD9 rfl
            have hS := hS9
            clear hP9 hD9 hS9
            rw [hQ]
            exact W.vret hx hb hr (fun t ht hW => ⟨⟨(sr, sf), rfl, (by (try dsimp only); exact fun kc s hP hI => chU_n hI (by omega) (by omega)), ⟨by rw [ht]; exact hP, hD⟩⟩, hS.F ht⟩) hS.2.2 dX11_trySends_86
          · have c40 : p3.toInt < sr.toInt := z4 rfl rfl c40
            refine lv_iconst (v := 1) hx hb dX11_trySends_43 (by decide) ?_
            refine lv_goto (tgt := 48) hx hb dX11_trySends_44 (by decide) ?_
            refine lv_istore (lv' := [(6, .int 1), (0, .ref h0), (1, .int 5), (2, .int p1), (3, .int p2), (4, .int p3), (5, .int p4)]) hx hb dX11_trySends_48 hl (by decide) rfl (fun ls hl => ?_)
            refine lv_aload_n hx hb dX11_trySends_50 rfl (lv_at hl 1 rfl) ?_
            refine lv_iload hx hb dX11_trySends_51 (lv_at hl 0 rfl) ?_
            refine lv_if_eq (tgt := 61) hx hb dX11_trySends_53 (by decide) (fun c => absurd c (by decide)) (fun _ => ?_)
            refine lv_iload hx hb dX11_trySends_56 (lv_at hl 5 rfl) ?_
            refine lv_goto (tgt := 65) hx hb dX11_trySends_58 (by decide) ?_
            refine va_put (D := (dC, dI)) (ci := 11) (v := .int p3) (ty := .int) (C := RX11) (T := TX11) (N := 41) hx hb hts iX11 tyX11 tyX11_ok nmX11 hown hK hP hD hS 0 rfl rfl 35 (by decide) (hts _ qw1162) (fun _ h9 => h9) rfl (by decide +kernel) rfl rfl (Nat.le_of_ble_eq_true rfl) dX11_trySends_65 (fun H locs hP9 hD9 hS9 => ?_)
            clear hP hD hS
            obtain ⟨hP, hD⟩ := zst (wX := [(h0, .inr (11, [.int th, .ref tB, .int tsz, .int tat, .int wr, .int dp, .ref rC, .ref rV, .ref rD, .ref rK, .ref rT, .ref rS, .ref rU, .int lw, .int tx, .ref rL, .ref rX, .ref qR, .ref qB, .ref qP, .int qnb, .int qnp, .ref aR, .ref aB, .ref aP, .int nb, .int np, .ref aN, .ref rf, .int ho, .int br, .ref aK, .int ac, .long dw, .ref aE, .int p3, .int sf, .ref aA, .ref aH, .ref aI, .int hi])), (aP, .inl (cI, 20, .inl fPa))]) hP9 hD9 rfl
            have hS := hS9
            clear hP9 hD9 hS9
            refine lv_aload_n hx hb dX11_trySends_68 rfl (lv_at hl 1 rfl) ?_
            refine lv_iload hx hb dX11_trySends_69 (lv_at hl 0 rfl) ?_
            refine lv_if_eq (tgt := 79) hx hb dX11_trySends_71 (by decide) (fun c => absurd c (by decide)) (fun _ => ?_)
            refine lv_iload hx hb dX11_trySends_74 (lv_at hl 6 rfl) ?_
            refine lv_goto (tgt := 83) hx hb dX11_trySends_76 (by decide) ?_
            refine va_put (D := (dC, dI)) (ci := 11) (v := .int p4) (ty := .int) (C := RX11) (T := TX11) (N := 41) hx hb hts iX11 tyX11 tyX11_ok nmX11 hown hK hP hD hS 0 rfl rfl 36 (by decide) (hts _ qw1163) (fun _ h9 => h9) rfl (by decide +kernel) rfl rfl (Nat.le_of_ble_eq_true rfl) dX11_trySends_83 (fun H locs hP9 hD9 hS9 => ?_)
            clear hP hD hS
            obtain ⟨hP, hD⟩ := zst (wX := [(h0, .inr (11, [.int th, .ref tB, .int tsz, .int tat, .int wr, .int dp, .ref rC, .ref rV, .ref rD, .ref rK, .ref rT, .ref rS, .ref rU, .int lw, .int tx, .ref rL, .ref rX, .ref qR, .ref qB, .ref qP, .int qnb, .int qnp, .ref aR, .ref aB, .ref aP, .int nb, .int np, .ref aN, .ref rf, .int ho, .int br, .ref aK, .int ac, .long dw, .ref aE, .int p3, .int p4, .ref aA, .ref aH, .ref aI, .int hi])), (aP, .inl (cI, 20, .inl fPa))]) hP9 hD9 rfl
            have hS := hS9
            clear hP9 hD9 hS9
            rw [hQ]
            exact W.vret hx hb hr (fun t ht hW => ⟨⟨(p3, p4), rfl, (by (try dsimp only); exact fun kc s hP hI => chU_y hI (by omega) (by omega)), ⟨by rw [ht]; exact hP, hD⟩⟩, hS.F ht⟩) hS.2.2 dX11_trySends_86
set_option maxHeartbeats 4000000 in
set_option maxRecDepth 100000 in
theorem g_X11_trySends_4 (l : Launch) (dC : Nat → ClassId) (dI : Nat → Nat → Nat) (cI cJ : ClassId) (h0 : Nat) (p1 : Int32) (p2 : Int32) (p3 : Int32) (p4 : Int32) (th : Int32) (tB : Nat) (tsz : Int32) (tat : Int32) (wr : Int32) (dp : Int32) (rC : Nat) (rV : Nat) (rD : Nat) (rK : Nat) (rT : Nat) (rS : Nat) (rU : Nat) (lw : Int32) (tx : Int32) (rL : Nat) (rX : Nat) (qR : Nat) (qB : Nat) (qP : Nat) (qnb : Int32) (qnp : Int32) (aR : Nat) (aB : Nat) (aP : Nat) (nb : Int32) (np : Int32) (aN : Nat) (rf : Nat) (ho : Int32) (br : Int32) (aK : Nat) (ac : Int32) (dw : Int64) (aE : Nat) (sr : Int32) (sf : Int32) (aA : Nat) (aH : Nat) (aI : Nat) (hi : Int32) (fPa : Nat → Int32) (sz : Nat) (n_ac : 0 ≤ ac.toInt ∧ ac.toInt ≤ 40) (n_hi : 0 ≤ hi.toInt ∧ hi.toInt ≤ 1) (n_ho : (-1) ≤ ho.toInt ∧ ho.toInt ≤ 3) (n_lw : 0 ≤ lw.toInt ∧ lw.toInt ≤ 4) (n_nb : 4 ≤ nb.toInt ∧ nb.toInt ≤ 6) (n_np : 0 ≤ np.toInt ∧ np.toInt ≤ 5) (n_qnb : 0 ≤ qnb.toInt ∧ qnb.toInt ≤ 6) (n_qnp : 0 ≤ qnp.toInt ∧ qnp.toInt ≤ 5) (n_tat : 0 ≤ tat.toInt ∧ tat.toInt ≤ 260) (n_tsz : 0 ≤ tsz.toInt ∧ tsz.toInt ≤ 240) (n_wr : (-1) ≤ wr.toInt ∧ wr.toInt ≤ 260)    : Met l yX11_trySends (.code yX11_trySends cX11_trySends 7 none :: wA) ({ frames := 2, cells := 0, slots := 0, locals := 52 }) (zP (dC, dI) [(cI, .int), (cJ, .long)] [.ref h0, .int 4, .int p1, .int p2, .int p3, .int p4] sz [(h0, .inr (11, [.int th, .ref tB, .int tsz, .int tat, .int wr, .int dp, .ref rC, .ref rV, .ref rD, .ref rK, .ref rT, .ref rS, .ref rU, .int lw, .int tx, .ref rL, .ref rX, .ref qR, .ref qB, .ref qP, .int qnb, .int qnp, .ref aR, .ref aB, .ref aP, .int nb, .int np, .ref aN, .ref rf, .int ho, .int br, .ref aK, .int ac, .long dw, .ref aE, .int sr, .int sf, .ref aA, .ref aH, .ref aI, .int hi])), (aP, .inl (cI, 20, .inl fPa))]) (va_Qv (fun (u : Int32 × Int32) => (∀ (kc : zK3) (s : List Nat), chP fPa np.toInt kc → chI kc np.toInt.toNat p2 p3 p4 s 4 → (u.1.toInt, u.2.toInt) = chX (chf kc) np.toInt.toNat (chBt p1) (nb.toInt.toNat - 4) 4 s (sr.toInt, sf.toInt))) (fun (u : Int32 × Int32) (t : State) => va_P (dC, dI) vwCl [(h0, .inr (11, [.int th, .ref tB, .int tsz, .int tat, .int wr, .int dp, .ref rC, .ref rV, .ref rD, .ref rK, .ref rT, .ref rS, .ref rU, .int lw, .int tx, .ref rL, .ref rX, .ref qR, .ref qB, .ref qP, .int qnb, .int qnp, .ref aR, .ref aB, .ref aP, .int nb, .int np, .ref aN, .ref rf, .int ho, .int br, .ref aK, .int ac, .long dw, .ref aE, .int u.1, .int u.2, .ref aA, .ref aH, .ref aI, .int hi])), (aP, .inl (cI, 20, .inl fPa))] t.heap ∧ va_D (va_A [(h0, .inr (11, [.int th, .ref tB, .int tsz, .int tat, .int wr, .int dp, .ref rC, .ref rV, .ref rD, .ref rK, .ref rT, .ref rS, .ref rU, .int lw, .int tx, .ref rL, .ref rX, .ref qR, .ref qB, .ref qP, .int qnb, .int qnp, .ref aR, .ref aB, .ref aP, .int nb, .int np, .ref aN, .ref rf, .int ho, .int br, .ref aK, .int ac, .long dw, .ref aE, .int sr, .int sf, .ref aA, .ref aH, .ref aI, .int hi])), (aP, .inl (cI, 20, .inl fPa))] sz) [(h0, .inr (11, [.int th, .ref tB, .int tsz, .int tat, .int wr, .int dp, .ref rC, .ref rV, .ref rD, .ref rK, .ref rT, .ref rS, .ref rU, .int lw, .int tx, .ref rL, .ref rX, .ref qR, .ref qB, .ref qP, .int qnb, .int qnp, .ref aR, .ref aB, .ref aP, .int nb, .int np, .ref aN, .ref rf, .int ho, .int br, .ref aK, .int ac, .long dw, .ref aE, .int u.1, .int u.2, .ref aA, .ref aH, .ref aI, .int hi])), (aP, .inl (cI, 20, .inl fPa))]) (va_A [(h0, .inr (11, [.int th, .ref tB, .int tsz, .int tat, .int wr, .int dp, .ref rC, .ref rV, .ref rD, .ref rK, .ref rT, .ref rS, .ref rU, .int lw, .int tx, .ref rL, .ref rX, .ref qR, .ref qB, .ref qP, .int qnb, .int qnp, .ref aR, .ref aB, .ref aP, .int nb, .int np, .ref aN, .ref rf, .int ho, .int br, .ref aK, .int ac, .long dw, .ref aE, .int sr, .int sf, .ref aA, .ref aH, .ref aI, .int hi])), (aP, .inl (cI, 20, .inl fPa))] sz)) 0 0 (va_A [(h0, .inr (11, [.int th, .ref tB, .int tsz, .int tat, .int wr, .int dp, .ref rC, .ref rV, .ref rD, .ref rK, .ref rT, .ref rS, .ref rU, .int lw, .int tx, .ref rL, .ref rX, .ref qR, .ref qB, .ref qP, .int qnb, .int qnp, .ref aR, .ref aB, .ref aP, .int nb, .int np, .ref aN, .ref rf, .int ho, .int br, .ref aK, .int ac, .long dw, .ref aE, .int sr, .int sf, .ref aA, .ref aH, .ref aI, .int hi])), (aP, .inl (cI, 20, .inl fPa))] sz) := by
  refine Met.ofW (cc := cX11_trySends) (maxL := 7) (ret := none) (by decide) rfl ?_
  intro p e s m args below meth c s₁ B hml hv
  have y_ac : zHid (0 ≤ ac.toInt ∧ ac.toInt ≤ 40) := n_ac
  have y_hi : zHid (0 ≤ hi.toInt ∧ hi.toInt ≤ 1) := n_hi
  have y_ho : zHid ((-1) ≤ ho.toInt ∧ ho.toInt ≤ 3) := n_ho
  have y_lw : zHid (0 ≤ lw.toInt ∧ lw.toInt ≤ 4) := n_lw
  have y_qnb : zHid (0 ≤ qnb.toInt ∧ qnb.toInt ≤ 6) := n_qnb
  have y_qnp : zHid (0 ≤ qnp.toInt ∧ qnp.toInt ≤ 5) := n_qnp
  have y_tat : zHid (0 ≤ tat.toInt ∧ tat.toInt ≤ 260) := n_tat
  have y_tsz : zHid (0 ≤ tsz.toInt ∧ tsz.toInt ≤ 240) := n_tsz
  have y_wr : zHid ((-1) ≤ wr.toInt ∧ wr.toInt ≤ 260) := n_wr
  clear n_ac n_hi n_ho n_lw n_qnb n_qnp n_tat n_tsz n_wr
  obtain ⟨hargs, hsz, hP, hK, hT⟩ := hv
  have hx := B.exec
  have hb := B.bytes
  have hr := B.returns
  have hts : ∀ w ∈ wA, w.before args s = true := fun w h => atoms_spec (ws := .code yX11_trySends cX11_trySends 7 none :: wA) B.pre w (List.mem_cons_of_mem _ h)
  have hown : s.vm.findClass RX11 = some m.cls := findClass_of_methodNamed B.named
  have hlocks := B.notSynchronized
  subst hsz
  have hD := hT.self (sz := s.heap.size)
  generalize hAe : va_A [(h0, .inr (11, [.int th, .ref tB, .int tsz, .int tat, .int wr, .int dp, .ref rC, .ref rV, .ref rD, .ref rK, .ref rT, .ref rS, .ref rU, .int lw, .int tx, .ref rL, .ref rX, .ref qR, .ref qB, .ref qP, .int qnb, .int qnp, .ref aR, .ref aB, .ref aP, .int nb, .int np, .ref aN, .ref rf, .int ho, .int br, .ref aK, .int ac, .long dw, .ref aE, .int sr, .int sf, .ref aA, .ref aH, .ref aI, .int hi])), (aP, .inl (cI, 20, .inl fPa))] s.heap.size = A at hD ⊢
  have hA : ∀ q : Nat, s.heap.size ≤ q → A q := fun q h => by rw [← hAe]; exact Or.inr h
  have hl := lv_entry ([.ref h0, .int 4, .int p1, .int p2, .int p3, .int p4]) (n := 7) (Nat.le_of_ble_eq_true rfl)
  rw [show entryFrame m args 7 = entryFrame m ([.ref h0, .int 4, .int p1, .int p2, .int p3, .int p4] : List Value).toArray 7 by rw [hargs], lg_entry_eq]
  generalize (lg_sl ([.ref h0, .int 4, .int p1, .int p2, .int p3, .int p4]) ++ List.replicate (7 - (lg_sl ([.ref h0, .int 4, .int p1, .int p2, .int p3, .int p4])).length) Slot.unset).toArray = ls at hl ⊢
  have hl : lv_has ls 7 [(0, .ref h0), (1, .int 4), (2, .int p1), (3, .int p2), (4, .int p3), (5, .int p4)] := hl
  refine zstart (fun H hH => ?_)
  rw [← hH] at hP
  have hS : va_S A s.heap H [] := by rw [hH]; exact va_S.rf
  generalize ([] : List Loc) = locs at hS ⊢
  refine zgen (fun R Q hR hQ => ?_)
  refine lv_iload_n hx hb dX11_trySends_0 rfl (lv_at hl 1 rfl) ?_
  refine lv_aload_n hx hb dX11_trySends_1 rfl (lv_at hl 0 rfl) ?_
  refine va_get (D := (dC, dI)) (ci := 11) (v := .int nb) (C := RX11) (T := TX11) (N := 41) hx hb hts iX11 hown hK hP 0 rfl rfl 25 (by decide) (hts _ qw1152) (fun _ h9 => h9) rfl dX11_trySends_2 ?_
  refine lv_icmp_ne (tgt := 87) hx hb dX11_trySends_5 (by decide) (fun c5 => ?_) (fun c5 => ?_)
  · have c5 : ¬ 4 = nb.toInt := z6 (by decide) rfl c5
    refine lv_iload_n hx hb dX11_trySends_87 rfl (lv_at hl 2 rfl) ?_
    refine lv_iload_n hx hb dX11_trySends_88 rfl (lv_at hl 1 rfl) ?_
    have hPc : va_P (dC, dI) vwCl [] H := zP0
    have hDc : va_D (fun _ => True) [] := zD0
    have hFc := zfr hS hA
    refine va_calli (va_runS (As := [.int p1, .int 4]) (rest := []) ⟨hx, hb, hml, hown, hts⟩ (g_X11_has l dC dI cI cJ p1 4 H.size) (cwS 2 hts (zgS qw1288 qw1289 qw108 qw1290) rfl rfl rfl hd_X11_has ⟨by rw [hR]; exact Nat.le_of_ble_eq_true rfl, by rw [hR]; exact Nat.le_of_ble_eq_true rfl⟩) (zPS hPc hK hDc) rfl rfl hl.1 rfl (lv_room (Nat.le_of_ble_eq_true rfl)) dX11_trySends_89 ⟨Nat.zero_le _, Nat.zero_le _⟩) hS (fun q _ h => hFc q h) hFc (fun v89 u89 t H locs ht hvm hw hB hz1 hk1 hS9 => ?_)
    replace hP := zkeep hP hk1
    replace hS := hS9
    clear hPc hDc hFc hk1 hz1 hvm hS9
    obtain ⟨f89_0, f89_1, f89_2, f89_3⟩ : (0 ≤ v89.toInt) ∧ (v89.toInt ≤ 1) ∧ (v89.toInt = ((p1 >>> (4 &&& 31)) &&& 1).toInt) ∧ (v89.toInt = (cBt p1 4).toInt) := hw
    have F89 := f89_3
    refine lv_if_ne (tgt := 109) hx hb dX11_trySends_92 (by decide) (fun c92 => ?_) (fun c92 => ?_)
    · have c92 : ¬ v89.toInt = 0 := z6 rfl (by decide) c92
      refine lv_iconst (v := 0) hx hb dX11_trySends_109 (by decide) ?_
      have J112 : ∀ (n : Nat) (m112_F_h0_35 : Int32) (m112_F_h0_36 : Int32) (m112_L_6 : Int32), (0 ≤ m112_L_6.toInt ∧ m112_L_6.toInt ≤ 5) → (∀ (kc : zK3) (s : List Nat), chP fPa np.toInt kc → chI kc np.toInt.toNat p2 p3 p4 s 4 → (m112_F_h0_35.toInt, m112_F_h0_36.toInt) = chL (chf kc) np.toInt.toNat (chBt p1) (nb.toInt.toNat - 5) 4 s (sr.toInt, sf.toInt) m112_L_6.toInt.toNat) → (m112_L_6.toInt ≤ np.toInt) → (6 - m112_L_6.toInt).toNat = n → ∀ (H : Heap) (locs : List Loc) (ls : Array Slot), va_P (dC, dI) vwCl [(h0, .inr (11, [.int th, .ref tB, .int tsz, .int tat, .int wr, .int dp, .ref rC, .ref rV, .ref rD, .ref rK, .ref rT, .ref rS, .ref rU, .int lw, .int tx, .ref rL, .ref rX, .ref qR, .ref qB, .ref qP, .int qnb, .int qnp, .ref aR, .ref aB, .ref aP, .int nb, .int np, .ref aN, .ref rf, .int ho, .int br, .ref aK, .int ac, .long dw, .ref aE, .int m112_F_h0_35, .int m112_F_h0_36, .ref aA, .ref aH, .ref aI, .int hi])), (aP, .inl (cI, 20, .inl fPa))] H → va_D A [(h0, .inr (11, [.int th, .ref tB, .int tsz, .int tat, .int wr, .int dp, .ref rC, .ref rV, .ref rD, .ref rK, .ref rT, .ref rS, .ref rU, .int lw, .int tx, .ref rL, .ref rX, .ref qR, .ref qB, .ref qP, .int qnb, .int qnp, .ref aR, .ref aB, .ref aP, .int nb, .int np, .ref aN, .ref rf, .int ho, .int br, .ref aK, .int ac, .long dw, .ref aE, .int m112_F_h0_35, .int m112_F_h0_36, .ref aA, .ref aH, .ref aI, .int hi])), (aP, .inl (cI, 20, .inl fPa))] → va_S A s.heap H locs → lv_has ls 7 [(6, .int m112_L_6), (0, .ref h0), (1, .int 4), (2, .int p1), (3, .int p2), (4, .int p3), (5, .int p4)] → W p l e R s m args below meth c H locs 0 0 Q (F0 m 112 ls []) := by
        intro n112
        induction n112 using Nat.strongRecOn with
        | _ n112 ih112 =>
          intro m112_F_h0_35 m112_F_h0_36 m112_L_6 jf112_0 jv112_0 jf112_2 hmu112 H locs ls hP hD hS hl
          refine lv_iload hx hb dX11_trySends_112 (lv_at hl 0 rfl) ?_
          refine lv_aload_n hx hb dX11_trySends_114 rfl (lv_at hl 1 rfl) ?_
          refine va_get (D := (dC, dI)) (ci := 11) (v := .int np) (C := RX11) (T := TX11) (N := 41) hx hb hts iX11 hown hK hP 0 rfl rfl 26 (by decide) (hts _ qw1153) (fun _ h9 => h9) rfl dX11_trySends_115 ?_
          refine lv_icmp_ge (tgt := 168) hx hb dX11_trySends_118 (by decide) (fun c118 => ?_) (fun c118 => ?_)
          · have c118 : np.toInt ≤ m112_L_6.toInt := z3 rfl rfl c118
            rw [hQ]
            exact W.vret hx hb hr (fun t ht hW => ⟨⟨(m112_F_h0_35, m112_F_h0_36), rfl, (by (try dsimp only); exact fun kc s hP hI => by have g89 : (chBt p1 4 = true ↔ v89.toInt = 1) := (by rw [F89]; exact decide_eq_true_iff); exact chX_l (k' := (nb.toInt.toNat - 5)) (m := m112_L_6.toInt.toNat) (g89.mpr (by omega)) (by omega) (by omega) (jv112_0 kc s hP hI)), ⟨by rw [ht]; exact hP, hD⟩⟩, hS.F ht⟩) hS.2.2 dX11_trySends_168
          · have c118 : m112_L_6.toInt < np.toInt := z4 rfl rfl c118
            refine lv_iload_n hx hb dX11_trySends_121 rfl (lv_at hl 4 rfl) ?_
            refine lv_iload hx hb dX11_trySends_122 (lv_at hl 0 rfl) ?_
            have hPc : va_P (dC, dI) vwCl [] H := zP0
            have hDc : va_D (fun _ => True) [] := zD0
            have hFc := zfr hS hA
            refine va_calli (va_runS (As := [.int p2, .int m112_L_6]) (rest := []) ⟨hx, hb, hml, hown, hts⟩ (g_X11_has l dC dI cI cJ p2 m112_L_6 H.size) (cwS 2 hts (zgS qw1288 qw1289 qw108 qw1290) rfl rfl rfl hd_X11_has ⟨by rw [hR]; exact Nat.le_of_ble_eq_true rfl, by rw [hR]; exact Nat.le_of_ble_eq_true rfl⟩) (zPS hPc hK hDc) rfl rfl hl.1 rfl (lv_room (Nat.le_of_ble_eq_true rfl)) dX11_trySends_124 ⟨Nat.zero_le _, Nat.zero_le _⟩) hS (fun q _ h => hFc q h) hFc (fun v124 u124 t H locs ht hvm hw hB hz1 hk1 hS9 => ?_)
            replace hP := zkeep hP hk1
            replace hS := hS9
            clear hPc hDc hFc hk1 hz1 hvm hS9
            obtain ⟨f124_0, f124_1, f124_2, f124_3⟩ : (0 ≤ v124.toInt) ∧ (v124.toInt ≤ 1) ∧ (v124.toInt = ((p2 >>> (m112_L_6 &&& 31)) &&& 1).toInt) ∧ (v124.toInt = (cBt p2 m112_L_6).toInt) := hw
            have F124 := f124_3
            refine lv_if_ne (tgt := 162) hx hb dX11_trySends_127 (by decide) (fun c127 => ?_) (fun c127 => ?_)
            · have c127 : ¬ v124.toInt = 0 := z6 rfl (by decide) c127
              obtain ⟨v162, e162⟩ : ∃ y : Int32, y = m112_L_6 + Int32.ofInt (1) := ⟨_, rfl⟩
              refine lv_iinc (v := v162) (lv' := [(6, .int v162), (0, .ref h0), (1, .int 4), (2, .int p1), (3, .int p2), (4, .int p3), (5, .int p4)]) hx hb dX11_trySends_162 hl (k := 0) rfl e162.symm (by decide) rfl (fun ls hl => ?_)
              have i162 : v162.toInt = m112_L_6.toInt + 1 := zaddI e162 (by decide) (by omega) (by omega)
              refine lv_goto (tgt := 112) hx hb dX11_trySends_165 (by decide) ?_
              exact ih112 _ (by omega) m112_F_h0_35 m112_F_h0_36 v162 (by omega) (fun kc s hP hI => by have m := chI_m hI (i := m112_L_6) (by omega) (by omega) F124; first | exact chL_y (jv112_0 kc s hP hI) (by omega) i162 (m.mp (by omega)) | exact chL_n (jv112_0 kc s hP hI) (by omega) i162 (fun z => absurd (m.mpr z) (by omega)) (F159 kc _ hP (chI_s hI hP (by decide) (by omega) (by omega) e139 e140 e145 e148 F155 e158))) (by omega) rfl H locs ls hP hD hS (lv_sub hl [0, 1, 2, 3, 4, 5, 6] rfl)
            · have c127 : v124.toInt = 0 := z5 rfl (by decide) c127
              refine lv_aload_n hx hb dX11_trySends_130 rfl (lv_at hl 1 rfl) ?_
              refine lv_iload_n hx hb dX11_trySends_131 rfl (lv_at hl 2 rfl) ?_
              refine lv_iconst (v := 1) hx hb dX11_trySends_132 (by decide) ?_
              refine lv_iadd hx hb dX11_trySends_133 ?_
              refine lv_topi (fun v133 e133 => ?_)
              obtain rfl : v133 = 5 := e133.trans (by decide)
              refine lv_iload_n hx hb dX11_trySends_134 rfl (lv_at hl 3 rfl) ?_
              refine lv_iload_n hx hb dX11_trySends_135 rfl (lv_at hl 4 rfl) ?_
              refine lv_iconst (v := 1) hx hb dX11_trySends_136 (by decide) ?_
              refine lv_iload hx hb dX11_trySends_137 (lv_at hl 0 rfl) ?_
              refine lv_ishl hx hb dX11_trySends_139 ?_
              refine lv_topi (fun v139 e139 => ?_)
              have i139 : 1 ≤ v139.toInt ∧ v139.toInt ≤ 32 := zshl1 e139 (by omega) (by omega)
              refine lv_ior hx hb dX11_trySends_140 ?_
              refine lv_topi (fun v140 e140 => ?_)
              refine lv_bipush (v := 10) hx hb dX11_trySends_141 (by decide) ?_
              refine lv_iload hx hb dX11_trySends_143 (lv_at hl 5 rfl) ?_
              refine lv_imul hx hb dX11_trySends_145 ?_
              refine lv_topi (fun v145 e145 => ?_)
              refine lv_iload hx hb dX11_trySends_146 (lv_at hl 0 rfl) ?_
              refine lv_iadd hx hb dX11_trySends_148 ?_
              refine lv_topi (fun v148 e148 => ?_)
              refine lv_iload hx hb dX11_trySends_149 (lv_at hl 6 rfl) ?_
              refine lv_aload_n hx hb dX11_trySends_151 rfl (lv_at hl 1 rfl) ?_
              refine lv_iload hx hb dX11_trySends_152 (lv_at hl 0 rfl) ?_
              refine lv_iconst (v := 1) hx hb dX11_trySends_154 (by decide) ?_
              obtain ⟨hPc, hDc⟩ := zc2 (wc := [(h0, .inr (11, [.int th, .ref tB, .int tsz, .int tat, .int wr, .int dp, .ref rC, .ref rV, .ref rD, .ref rK, .ref rT, .ref rS, .ref rU, .int lw, .int tx, .ref rL, .ref rX, .ref qR, .ref qB, .ref qP, .int qnb, .int qnp, .ref aR, .ref aB, .ref aP, .int nb, .int np, .ref aN, .ref rf, .int ho, .int br, .ref aK, .int ac, .long dw, .ref aE, .int m112_F_h0_35, .int m112_F_h0_36, .ref aA, .ref aH, .ref aI, .int hi])), (aP, .inl (cI, 20, .inl fPa))]) hP hD [0, 1] (by decide +kernel) rfl
              have hFc := zfr hS hA
              refine va_calli (va_runV (As := [.int m112_L_6, .int 1]) (rest := [.int p4, .int v148, .int v140, .int p1, .int 5, .ref h0]) ⟨hx, hb, hml, hown, hts⟩ (g_X11_by_1 l dC dI cI cJ h0 m112_L_6 th tB tsz tat wr dp rC rV rD rK rT rS rU lw tx rL rX qR qB qP qnb qnp aR aB aP nb np aN rf ho br aK ac dw aE m112_F_h0_35 m112_F_h0_36 aA aH aI hi fPa H.size y_ac y_hi y_ho y_lw (by omega) n_np (by omega) y_qnb y_qnp y_tat y_tsz y_wr) (cwV 2 hts (zgV qw1390 qw1392 qw55 qw108 qw1393) rfl rfl rfl hd_X11_by ⟨by rw [hR]; exact Nat.le_of_ble_eq_true rfl, by rw [hR]; exact Nat.le_of_ble_eq_true rfl⟩) (zPV hPc hK hDc (va_recv (q := (RX11, TX11, 41)) hK hP (ci := 11) (q0 := 0) rfl rfl)) rfl rfl hl.1 rfl (lv_room (Nat.le_of_ble_eq_true rfl)) dX11_trySends_155 ⟨Nat.zero_le _, Nat.zero_le _⟩) hS (fun q _ h => hFc q h) hFc (fun v155 u155 t H locs ht hvm hw hB hz1 hk1 hS9 => ?_)
              replace hP := zkeep hP hk1
              replace hS := hS9
              clear hPc hDc hFc hk1 hz1 hvm hS9
              obtain ⟨f155_0, f155_1⟩ : (v155.toInt = (fPa (4 * m112_L_6.toInt.toNat + 1)).toInt) ∧ (v155 = fPa (4 * m112_L_6.toInt.toNat + 1)) := hw
              have F155 := f155_1
              refine lv_iadd hx hb dX11_trySends_158 ?_
              refine lv_topi (fun v158 e158 => ?_)
              obtain ⟨hPc, hDc, hFc⟩ := zc3 (wc := [(h0, .inr (11, [.int th, .ref tB, .int tsz, .int tat, .int wr, .int dp, .ref rC, .ref rV, .ref rD, .ref rK, .ref rT, .ref rS, .ref rU, .int lw, .int tx, .ref rL, .ref rX, .ref qR, .ref qB, .ref qP, .int qnb, .int qnp, .ref aR, .ref aB, .ref aP, .int nb, .int np, .ref aN, .ref rf, .int ho, .int br, .ref aK, .int ac, .long dw, .ref aE, .int m112_F_h0_35, .int m112_F_h0_36, .ref aA, .ref aH, .ref aI, .int hi])), (aP, .inl (cI, 20, .inl fPa))]) hP hD hS hA [0, 1] (by decide +kernel) rfl
              refine va_callv (va_runV (As := [.int 5, .int p1, .int v140, .int v148, .int v158]) (rest := []) ⟨hx, hb, hml, hown, hts⟩ (g_X11_trySends_5 l dC dI cI cJ h0 p1 v140 v148 v158 th tB tsz tat wr dp rC rV rD rK rT rS rU lw tx rL rX qR qB qP qnb qnp aR aB aP nb np aN rf ho br aK ac dw aE m112_F_h0_35 m112_F_h0_36 aA aH aI hi fPa H.size y_ac y_hi y_ho y_lw (by omega) n_np y_qnb y_qnp y_tat y_tsz y_wr) (cwV 5 hts (zgV qw1683 qw1685 qw91 qw108 qw1686) rfl rfl rfl hd_X11_trySends ⟨by rw [hR]; exact Nat.le_of_ble_eq_true rfl, by rw [hR]; exact Nat.le_of_ble_eq_true rfl⟩) (zPV hPc hK hDc (va_recv (q := (RX11, TX11, 41)) hK hP (ci := 11) (q0 := 0) rfl rfl)) rfl rfl hl.1 rfl (lv_room (Nat.le_of_ble_eq_true rfl)) dX11_trySends_159 ⟨Nat.zero_le _, Nat.zero_le _⟩) hS (fun q _ h => hFc q h) hFc (fun u159 t H locs ht hvm hw hB hz1 hk1 hS9 => ?_)
              obtain ⟨u159_0, u159_1⟩ := u159
              obtain ⟨hP9, hD9⟩ := zj2 (wX := [(h0, .inr (11, [.int th, .ref tB, .int tsz, .int tat, .int wr, .int dp, .ref rC, .ref rV, .ref rD, .ref rK, .ref rT, .ref rS, .ref rU, .int lw, .int tx, .ref rL, .ref rX, .ref qR, .ref qB, .ref qP, .int qnb, .int qnp, .ref aR, .ref aB, .ref aP, .int nb, .int np, .ref aN, .ref rf, .int ho, .int br, .ref aK, .int ac, .long dw, .ref aE, .int u159_0, .int u159_1, .ref aA, .ref aH, .ref aI, .int hi])), (aP, .inl (cI, 20, .inl fPa))]) hP hD hk1 hFc ht hB [0, 1] [(true, 0), (true, 1)] rfl (by decide +kernel) (by decide +kernel) rfl
              clear hP hD hS hPc hDc hFc hB hk1 hz1 hvm
              have hP := hP9
              have hD := hD9
              have hS := hS9
              clear hP9 hD9 hS9
              have f159_0 : (∀ (kc : zK3) (s : List Nat), chP fPa np.toInt kc → chI kc np.toInt.toNat v140 v148 v158 s 5 → (u159_0.toInt, u159_1.toInt) = chX (chf kc) np.toInt.toNat (chBt p1) (nb.toInt.toNat - 5) 5 s (m112_F_h0_35.toInt, m112_F_h0_36.toInt)) := hw
              have F159 := f159_0
              obtain ⟨v162, e162⟩ : ∃ y : Int32, y = m112_L_6 + Int32.ofInt (1) := ⟨_, rfl⟩
              refine lv_iinc (v := v162) (lv' := [(6, .int v162), (0, .ref h0), (1, .int 4), (2, .int p1), (3, .int p2), (4, .int p3), (5, .int p4)]) hx hb dX11_trySends_162 hl (k := 0) rfl e162.symm (by decide) rfl (fun ls hl => ?_)
              have i162 : v162.toInt = m112_L_6.toInt + 1 := zaddI e162 (by decide) (by omega) (by omega)
              refine lv_goto (tgt := 112) hx hb dX11_trySends_165 (by decide) ?_
              exact ih112 _ (by omega) u159_0 u159_1 v162 (by omega) (fun kc s hP hI => by have m := chI_m hI (i := m112_L_6) (by omega) (by omega) F124; first | exact chL_y (jv112_0 kc s hP hI) (by omega) i162 (m.mp (by omega)) | exact chL_n (jv112_0 kc s hP hI) (by omega) i162 (fun z => absurd (m.mpr z) (by omega)) (F159 kc _ hP (chI_s hI hP (by decide) (by omega) (by omega) e139 e140 e145 e148 F155 e158))) (by omega) rfl H locs ls hP hD hS (lv_sub hl [0, 1, 2, 3, 4, 5, 6] rfl)
      refine lv_istore (lv' := [(6, .int 0), (0, .ref h0), (1, .int 4), (2, .int p1), (3, .int p2), (4, .int p3), (5, .int p4)]) hx hb dX11_trySends_110 hl (by decide) rfl (fun ls hl => ?_)
      have zj112_m112_L_6 : (0 : Int32).toInt = 0 := by decide
      exact J112 _ sr sf 0 (by decide) (fun kc s hP hI => chL_0.symm) (by omega) rfl H locs ls hP hD hS (lv_sub hl [0, 1, 2, 3, 4, 5, 6] rfl)
    · have c92 : v89.toInt = 0 := z5 rfl (by decide) c92
      refine lv_aload_n hx hb dX11_trySends_95 rfl (lv_at hl 0 rfl) ?_
      refine lv_iload_n hx hb dX11_trySends_96 rfl (lv_at hl 1 rfl) ?_
      refine lv_iconst (v := 1) hx hb dX11_trySends_97 (by decide) ?_
      refine lv_iadd hx hb dX11_trySends_98 ?_
      refine lv_topi (fun v98 e98 => ?_)
      obtain rfl : v98 = 5 := e98.trans (by decide)
      refine lv_iload_n hx hb dX11_trySends_99 rfl (lv_at hl 2 rfl) ?_
      refine lv_iload_n hx hb dX11_trySends_100 rfl (lv_at hl 3 rfl) ?_
      refine lv_iload hx hb dX11_trySends_101 (lv_at hl 4 rfl) ?_
      refine lv_iload hx hb dX11_trySends_103 (lv_at hl 5 rfl) ?_
      obtain ⟨hPc, hDc, hFc⟩ := zc3 (wc := [(h0, .inr (11, [.int th, .ref tB, .int tsz, .int tat, .int wr, .int dp, .ref rC, .ref rV, .ref rD, .ref rK, .ref rT, .ref rS, .ref rU, .int lw, .int tx, .ref rL, .ref rX, .ref qR, .ref qB, .ref qP, .int qnb, .int qnp, .ref aR, .ref aB, .ref aP, .int nb, .int np, .ref aN, .ref rf, .int ho, .int br, .ref aK, .int ac, .long dw, .ref aE, .int sr, .int sf, .ref aA, .ref aH, .ref aI, .int hi])), (aP, .inl (cI, 20, .inl fPa))]) hP hD hS hA [0, 1] (by decide +kernel) rfl
      refine va_callv (va_runV (As := [.int 5, .int p1, .int p2, .int p3, .int p4]) (rest := []) ⟨hx, hb, hml, hown, hts⟩ (g_X11_trySends_5 l dC dI cI cJ h0 p1 p2 p3 p4 th tB tsz tat wr dp rC rV rD rK rT rS rU lw tx rL rX qR qB qP qnb qnp aR aB aP nb np aN rf ho br aK ac dw aE sr sf aA aH aI hi fPa H.size y_ac y_hi y_ho y_lw (by omega) n_np y_qnb y_qnp y_tat y_tsz y_wr) (cwV 5 hts (zgV qw1683 qw1685 qw91 qw108 qw1686) rfl rfl rfl hd_X11_trySends ⟨by rw [hR]; exact Nat.le_of_ble_eq_true rfl, by rw [hR]; exact Nat.le_of_ble_eq_true rfl⟩) (zPV hPc hK hDc (va_recv (q := (RX11, TX11, 41)) hK hP (ci := 11) (q0 := 0) rfl rfl)) rfl rfl hl.1 rfl (lv_room (Nat.le_of_ble_eq_true rfl)) dX11_trySends_105 ⟨Nat.zero_le _, Nat.zero_le _⟩) hS (fun q _ h => hFc q h) hFc (fun u105 t H locs ht hvm hw hB hz1 hk1 hS9 => ?_)
      obtain ⟨u105_0, u105_1⟩ := u105
      obtain ⟨hP9, hD9⟩ := zj2 (wX := [(h0, .inr (11, [.int th, .ref tB, .int tsz, .int tat, .int wr, .int dp, .ref rC, .ref rV, .ref rD, .ref rK, .ref rT, .ref rS, .ref rU, .int lw, .int tx, .ref rL, .ref rX, .ref qR, .ref qB, .ref qP, .int qnb, .int qnp, .ref aR, .ref aB, .ref aP, .int nb, .int np, .ref aN, .ref rf, .int ho, .int br, .ref aK, .int ac, .long dw, .ref aE, .int u105_0, .int u105_1, .ref aA, .ref aH, .ref aI, .int hi])), (aP, .inl (cI, 20, .inl fPa))]) hP hD hk1 hFc ht hB [0, 1] [(true, 0), (true, 1)] rfl (by decide +kernel) (by decide +kernel) rfl
      clear hP hD hS hPc hDc hFc hB hk1 hz1 hvm
      have hP := hP9
      have hD := hD9
      have hS := hS9
      clear hP9 hD9 hS9
      have f105_0 : (∀ (kc : zK3) (s : List Nat), chP fPa np.toInt kc → chI kc np.toInt.toNat p2 p3 p4 s 5 → (u105_0.toInt, u105_1.toInt) = chX (chf kc) np.toInt.toNat (chBt p1) (nb.toInt.toNat - 5) 5 s (sr.toInt, sf.toInt)) := hw
      have F105 := f105_0
      rw [hQ]
      exact W.vret hx hb hr (fun t ht hW => ⟨⟨(u105_0, u105_1), rfl, (by (try dsimp only); exact fun kc s hP hI => by have g89 : (chBt p1 4 = true ↔ v89.toInt = 1) := (by rw [F89]; exact decide_eq_true_iff); exact chX_v (k' := (nb.toInt.toNat - 5)) (fun z => absurd (g89.mp z) (by omega)) (by omega) (F105 kc s hP (chI_w hI (by decide)))), ⟨by rw [ht]; exact hP, hD⟩⟩, hS.F ht⟩) hS.2.2 dX11_trySends_108
  · have c5 : 4 = nb.toInt := z5 (by decide) rfl c5
    refine lv_aload_n hx hb dX11_trySends_8 rfl (lv_at hl 0 rfl) ?_
    refine va_get (D := (dC, dI)) (ci := 11) (v := .int sr) (C := RX11) (T := TX11) (N := 41) hx hb hts iX11 hown hK hP 0 rfl rfl 35 (by decide) (hts _ qw1162) (fun _ h9 => h9) rfl dX11_trySends_9 ?_
    refine lv_iconst (v := (-1)) hx hb dX11_trySends_12 (by decide) ?_
    refine lv_icmp_eq (tgt := 43) hx hb dX11_trySends_13 (by decide) (fun c13 => ?_) (fun c13 => ?_)
    · have c13 : sr.toInt = (-1) := z5 rfl (by decide) c13
      refine lv_iconst (v := 1) hx hb dX11_trySends_43 (by decide) ?_
      refine lv_goto (tgt := 48) hx hb dX11_trySends_44 (by decide) ?_
      refine lv_istore (lv' := [(6, .int 1), (0, .ref h0), (1, .int 4), (2, .int p1), (3, .int p2), (4, .int p3), (5, .int p4)]) hx hb dX11_trySends_48 hl (by decide) rfl (fun ls hl => ?_)
      refine lv_aload_n hx hb dX11_trySends_50 rfl (lv_at hl 1 rfl) ?_
      refine lv_iload hx hb dX11_trySends_51 (lv_at hl 0 rfl) ?_
      refine lv_if_eq (tgt := 61) hx hb dX11_trySends_53 (by decide) (fun c => absurd c (by decide)) (fun _ => ?_)
      refine lv_iload hx hb dX11_trySends_56 (lv_at hl 5 rfl) ?_
      refine lv_goto (tgt := 65) hx hb dX11_trySends_58 (by decide) ?_
      refine va_put (D := (dC, dI)) (ci := 11) (v := .int p3) (ty := .int) (C := RX11) (T := TX11) (N := 41) hx hb hts iX11 tyX11 tyX11_ok nmX11 hown hK hP hD hS 0 rfl rfl 35 (by decide) (hts _ qw1162) (fun _ h9 => h9) rfl (by decide +kernel) rfl rfl (Nat.le_of_ble_eq_true rfl) dX11_trySends_65 (fun H locs hP9 hD9 hS9 => ?_)
      clear hP hD hS
      obtain ⟨hP, hD⟩ := zst (wX := [(h0, .inr (11, [.int th, .ref tB, .int tsz, .int tat, .int wr, .int dp, .ref rC, .ref rV, .ref rD, .ref rK, .ref rT, .ref rS, .ref rU, .int lw, .int tx, .ref rL, .ref rX, .ref qR, .ref qB, .ref qP, .int qnb, .int qnp, .ref aR, .ref aB, .ref aP, .int nb, .int np, .ref aN, .ref rf, .int ho, .int br, .ref aK, .int ac, .long dw, .ref aE, .int p3, .int sf, .ref aA, .ref aH, .ref aI, .int hi])), (aP, .inl (cI, 20, .inl fPa))]) hP9 hD9 rfl
      have hS := hS9
      clear hP9 hD9 hS9
      refine lv_aload_n hx hb dX11_trySends_68 rfl (lv_at hl 1 rfl) ?_
      refine lv_iload hx hb dX11_trySends_69 (lv_at hl 0 rfl) ?_
      refine lv_if_eq (tgt := 79) hx hb dX11_trySends_71 (by decide) (fun c => absurd c (by decide)) (fun _ => ?_)
      refine lv_iload hx hb dX11_trySends_74 (lv_at hl 6 rfl) ?_
      refine lv_goto (tgt := 83) hx hb dX11_trySends_76 (by decide) ?_
      refine va_put (D := (dC, dI)) (ci := 11) (v := .int p4) (ty := .int) (C := RX11) (T := TX11) (N := 41) hx hb hts iX11 tyX11 tyX11_ok nmX11 hown hK hP hD hS 0 rfl rfl 36 (by decide) (hts _ qw1163) (fun _ h9 => h9) rfl (by decide +kernel) rfl rfl (Nat.le_of_ble_eq_true rfl) dX11_trySends_83 (fun H locs hP9 hD9 hS9 => ?_)
      clear hP hD hS
      obtain ⟨hP, hD⟩ := zst (wX := [(h0, .inr (11, [.int th, .ref tB, .int tsz, .int tat, .int wr, .int dp, .ref rC, .ref rV, .ref rD, .ref rK, .ref rT, .ref rS, .ref rU, .int lw, .int tx, .ref rL, .ref rX, .ref qR, .ref qB, .ref qP, .int qnb, .int qnp, .ref aR, .ref aB, .ref aP, .int nb, .int np, .ref aN, .ref rf, .int ho, .int br, .ref aK, .int ac, .long dw, .ref aE, .int p3, .int p4, .ref aA, .ref aH, .ref aI, .int hi])), (aP, .inl (cI, 20, .inl fPa))]) hP9 hD9 rfl
      have hS := hS9
      clear hP9 hD9 hS9
      rw [hQ]
      exact W.vret hx hb hr (fun t ht hW => ⟨⟨(p3, p4), rfl, (by (try dsimp only); exact fun kc s hP hI => chU_y hI (by omega) (by omega)), ⟨by rw [ht]; exact hP, hD⟩⟩, hS.F ht⟩) hS.2.2 dX11_trySends_86
    · have c13 : ¬ sr.toInt = (-1) := z6 rfl (by decide) c13
      refine lv_iload hx hb dX11_trySends_16 (lv_at hl 5 rfl) ?_
      refine lv_aload_n hx hb dX11_trySends_18 rfl (lv_at hl 0 rfl) ?_
      refine va_get (D := (dC, dI)) (ci := 11) (v := .int sf) (C := RX11) (T := TX11) (N := 41) hx hb hts iX11 hown hK hP 0 rfl rfl 36 (by decide) (hts _ qw1163) (fun _ h9 => h9) rfl dX11_trySends_19 ?_
      refine lv_icmp_lt (tgt := 43) hx hb dX11_trySends_22 (by decide) (fun c22 => ?_) (fun c22 => ?_)
      · have c22 : p4.toInt < sf.toInt := z1 rfl rfl c22
        refine lv_iconst (v := 1) hx hb dX11_trySends_43 (by decide) ?_
        refine lv_goto (tgt := 48) hx hb dX11_trySends_44 (by decide) ?_
        refine lv_istore (lv' := [(6, .int 1), (0, .ref h0), (1, .int 4), (2, .int p1), (3, .int p2), (4, .int p3), (5, .int p4)]) hx hb dX11_trySends_48 hl (by decide) rfl (fun ls hl => ?_)
        refine lv_aload_n hx hb dX11_trySends_50 rfl (lv_at hl 1 rfl) ?_
        refine lv_iload hx hb dX11_trySends_51 (lv_at hl 0 rfl) ?_
        refine lv_if_eq (tgt := 61) hx hb dX11_trySends_53 (by decide) (fun c => absurd c (by decide)) (fun _ => ?_)
        refine lv_iload hx hb dX11_trySends_56 (lv_at hl 5 rfl) ?_
        refine lv_goto (tgt := 65) hx hb dX11_trySends_58 (by decide) ?_
        refine va_put (D := (dC, dI)) (ci := 11) (v := .int p3) (ty := .int) (C := RX11) (T := TX11) (N := 41) hx hb hts iX11 tyX11 tyX11_ok nmX11 hown hK hP hD hS 0 rfl rfl 35 (by decide) (hts _ qw1162) (fun _ h9 => h9) rfl (by decide +kernel) rfl rfl (Nat.le_of_ble_eq_true rfl) dX11_trySends_65 (fun H locs hP9 hD9 hS9 => ?_)
        clear hP hD hS
        obtain ⟨hP, hD⟩ := zst (wX := [(h0, .inr (11, [.int th, .ref tB, .int tsz, .int tat, .int wr, .int dp, .ref rC, .ref rV, .ref rD, .ref rK, .ref rT, .ref rS, .ref rU, .int lw, .int tx, .ref rL, .ref rX, .ref qR, .ref qB, .ref qP, .int qnb, .int qnp, .ref aR, .ref aB, .ref aP, .int nb, .int np, .ref aN, .ref rf, .int ho, .int br, .ref aK, .int ac, .long dw, .ref aE, .int p3, .int sf, .ref aA, .ref aH, .ref aI, .int hi])), (aP, .inl (cI, 20, .inl fPa))]) hP9 hD9 rfl
        have hS := hS9
        clear hP9 hD9 hS9
        refine lv_aload_n hx hb dX11_trySends_68 rfl (lv_at hl 1 rfl) ?_
        refine lv_iload hx hb dX11_trySends_69 (lv_at hl 0 rfl) ?_
        refine lv_if_eq (tgt := 79) hx hb dX11_trySends_71 (by decide) (fun c => absurd c (by decide)) (fun _ => ?_)
        refine lv_iload hx hb dX11_trySends_74 (lv_at hl 6 rfl) ?_
        refine lv_goto (tgt := 83) hx hb dX11_trySends_76 (by decide) ?_
        refine va_put (D := (dC, dI)) (ci := 11) (v := .int p4) (ty := .int) (C := RX11) (T := TX11) (N := 41) hx hb hts iX11 tyX11 tyX11_ok nmX11 hown hK hP hD hS 0 rfl rfl 36 (by decide) (hts _ qw1163) (fun _ h9 => h9) rfl (by decide +kernel) rfl rfl (Nat.le_of_ble_eq_true rfl) dX11_trySends_83 (fun H locs hP9 hD9 hS9 => ?_)
        clear hP hD hS
        obtain ⟨hP, hD⟩ := zst (wX := [(h0, .inr (11, [.int th, .ref tB, .int tsz, .int tat, .int wr, .int dp, .ref rC, .ref rV, .ref rD, .ref rK, .ref rT, .ref rS, .ref rU, .int lw, .int tx, .ref rL, .ref rX, .ref qR, .ref qB, .ref qP, .int qnb, .int qnp, .ref aR, .ref aB, .ref aP, .int nb, .int np, .ref aN, .ref rf, .int ho, .int br, .ref aK, .int ac, .long dw, .ref aE, .int p3, .int p4, .ref aA, .ref aH, .ref aI, .int hi])), (aP, .inl (cI, 20, .inl fPa))]) hP9 hD9 rfl
        have hS := hS9
        clear hP9 hD9 hS9
        rw [hQ]
        exact W.vret hx hb hr (fun t ht hW => ⟨⟨(p3, p4), rfl, (by (try dsimp only); exact fun kc s hP hI => chU_y hI (by omega) (by omega)), ⟨by rw [ht]; exact hP, hD⟩⟩, hS.F ht⟩) hS.2.2 dX11_trySends_86
      · have c22 : sf.toInt ≤ p4.toInt := z2 rfl rfl c22
        refine lv_iload hx hb dX11_trySends_25 (lv_at hl 5 rfl) ?_
        refine lv_aload_n hx hb dX11_trySends_27 rfl (lv_at hl 0 rfl) ?_
        refine va_get (D := (dC, dI)) (ci := 11) (v := .int sf) (C := RX11) (T := TX11) (N := 41) hx hb hts iX11 hown hK hP 0 rfl rfl 36 (by decide) (hts _ qw1163) (fun _ h9 => h9) rfl dX11_trySends_28 ?_
        refine lv_icmp_ne (tgt := 47) hx hb dX11_trySends_31 (by decide) (fun c31 => ?_) (fun c31 => ?_)
        · have c31 : ¬ p4.toInt = sf.toInt := z6 rfl rfl c31
          refine lv_iconst (v := 0) hx hb dX11_trySends_47 (by decide) ?_
          refine lv_istore (lv' := [(6, .int 0), (0, .ref h0), (1, .int 4), (2, .int p1), (3, .int p2), (4, .int p3), (5, .int p4)]) hx hb dX11_trySends_48 hl (by decide) rfl (fun ls hl => ?_)
          refine lv_aload_n hx hb dX11_trySends_50 rfl (lv_at hl 1 rfl) ?_
          refine lv_iload hx hb dX11_trySends_51 (lv_at hl 0 rfl) ?_
          refine lv_if_eq (tgt := 61) hx hb dX11_trySends_53 (by decide) (fun _ => ?_) (fun c => absurd (by decide) c)
          refine lv_aload_n hx hb dX11_trySends_61 rfl (lv_at hl 1 rfl) ?_
          refine va_get (D := (dC, dI)) (ci := 11) (v := .int sr) (C := RX11) (T := TX11) (N := 41) hx hb hts iX11 hown hK hP 0 rfl rfl 35 (by decide) (hts _ qw1162) (fun _ h9 => h9) rfl dX11_trySends_62 ?_
          refine va_put (D := (dC, dI)) (ci := 11) (v := .int sr) (ty := .int) (C := RX11) (T := TX11) (N := 41) hx hb hts iX11 tyX11 tyX11_ok nmX11 hown hK hP hD hS 0 rfl rfl 35 (by decide) (hts _ qw1162) (fun _ h9 => h9) rfl (by decide +kernel) rfl rfl (Nat.le_of_ble_eq_true rfl) dX11_trySends_65 (fun H locs hP9 hD9 hS9 => ?_)
          clear hP hD hS
          obtain ⟨hP, hD⟩ := zst (wX := [(h0, .inr (11, [.int th, .ref tB, .int tsz, .int tat, .int wr, .int dp, .ref rC, .ref rV, .ref rD, .ref rK, .ref rT, .ref rS, .ref rU, .int lw, .int tx, .ref rL, .ref rX, .ref qR, .ref qB, .ref qP, .int qnb, .int qnp, .ref aR, .ref aB, .ref aP, .int nb, .int np, .ref aN, .ref rf, .int ho, .int br, .ref aK, .int ac, .long dw, .ref aE, .int sr, .int sf, .ref aA, .ref aH, .ref aI, .int hi])), (aP, .inl (cI, 20, .inl fPa))]) hP9 hD9 rfl
          have hS := hS9
          clear hP9 hD9 hS9
          refine lv_aload_n hx hb dX11_trySends_68 rfl (lv_at hl 1 rfl) ?_
          refine lv_iload hx hb dX11_trySends_69 (lv_at hl 0 rfl) ?_
          refine lv_if_eq (tgt := 79) hx hb dX11_trySends_71 (by decide) (fun _ => ?_) (fun c => absurd (by decide) c)
          refine lv_aload_n hx hb dX11_trySends_79 rfl (lv_at hl 1 rfl) ?_
          refine va_get (D := (dC, dI)) (ci := 11) (v := .int sf) (C := RX11) (T := TX11) (N := 41) hx hb hts iX11 hown hK hP 0 rfl rfl 36 (by decide) (hts _ qw1163) (fun _ h9 => h9) rfl dX11_trySends_80 ?_
          refine va_put (D := (dC, dI)) (ci := 11) (v := .int sf) (ty := .int) (C := RX11) (T := TX11) (N := 41) hx hb hts iX11 tyX11 tyX11_ok nmX11 hown hK hP hD hS 0 rfl rfl 36 (by decide) (hts _ qw1163) (fun _ h9 => h9) rfl (by decide +kernel) rfl rfl (Nat.le_of_ble_eq_true rfl) dX11_trySends_83 (fun H locs hP9 hD9 hS9 => ?_)
          clear hP hD hS
          obtain ⟨hP, hD⟩ := zst (wX := [(h0, .inr (11, [.int th, .ref tB, .int tsz, .int tat, .int wr, .int dp, .ref rC, .ref rV, .ref rD, .ref rK, .ref rT, .ref rS, .ref rU, .int lw, .int tx, .ref rL, .ref rX, .ref qR, .ref qB, .ref qP, .int qnb, .int qnp, .ref aR, .ref aB, .ref aP, .int nb, .int np, .ref aN, .ref rf, .int ho, .int br, .ref aK, .int ac, .long dw, .ref aE, .int sr, .int sf, .ref aA, .ref aH, .ref aI, .int hi])), (aP, .inl (cI, 20, .inl fPa))]) hP9 hD9 rfl
          have hS := hS9
          clear hP9 hD9 hS9
          rw [hQ]
          exact W.vret hx hb hr (fun t ht hW => ⟨⟨(sr, sf), rfl, (by (try dsimp only); exact fun kc s hP hI => chU_n hI (by omega) (by omega)), ⟨by rw [ht]; exact hP, hD⟩⟩, hS.F ht⟩) hS.2.2 dX11_trySends_86
        · have c31 : p4.toInt = sf.toInt := z5 rfl rfl c31
          refine lv_iload hx hb dX11_trySends_34 (lv_at hl 4 rfl) ?_
          refine lv_aload_n hx hb dX11_trySends_36 rfl (lv_at hl 0 rfl) ?_
          refine va_get (D := (dC, dI)) (ci := 11) (v := .int sr) (C := RX11) (T := TX11) (N := 41) hx hb hts iX11 hown hK hP 0 rfl rfl 35 (by decide) (hts _ qw1162) (fun _ h9 => h9) rfl dX11_trySends_37 ?_
          refine lv_icmp_ge (tgt := 47) hx hb dX11_trySends_40 (by decide) (fun c40 => ?_) (fun c40 => ?_)
          · have c40 : sr.toInt ≤ p3.toInt := z3 rfl rfl c40
            refine lv_iconst (v := 0) hx hb dX11_trySends_47 (by decide) ?_
            refine lv_istore (lv' := [(6, .int 0), (0, .ref h0), (1, .int 4), (2, .int p1), (3, .int p2), (4, .int p3), (5, .int p4)]) hx hb dX11_trySends_48 hl (by decide) rfl (fun ls hl => ?_)
            refine lv_aload_n hx hb dX11_trySends_50 rfl (lv_at hl 1 rfl) ?_
            refine lv_iload hx hb dX11_trySends_51 (lv_at hl 0 rfl) ?_
            refine lv_if_eq (tgt := 61) hx hb dX11_trySends_53 (by decide) (fun _ => ?_) (fun c => absurd (by decide) c)
            refine lv_aload_n hx hb dX11_trySends_61 rfl (lv_at hl 1 rfl) ?_
            refine va_get (D := (dC, dI)) (ci := 11) (v := .int sr) (C := RX11) (T := TX11) (N := 41) hx hb hts iX11 hown hK hP 0 rfl rfl 35 (by decide) (hts _ qw1162) (fun _ h9 => h9) rfl dX11_trySends_62 ?_
            refine va_put (D := (dC, dI)) (ci := 11) (v := .int sr) (ty := .int) (C := RX11) (T := TX11) (N := 41) hx hb hts iX11 tyX11 tyX11_ok nmX11 hown hK hP hD hS 0 rfl rfl 35 (by decide) (hts _ qw1162) (fun _ h9 => h9) rfl (by decide +kernel) rfl rfl (Nat.le_of_ble_eq_true rfl) dX11_trySends_65 (fun H locs hP9 hD9 hS9 => ?_)
            clear hP hD hS
            obtain ⟨hP, hD⟩ := zst (wX := [(h0, .inr (11, [.int th, .ref tB, .int tsz, .int tat, .int wr, .int dp, .ref rC, .ref rV, .ref rD, .ref rK, .ref rT, .ref rS, .ref rU, .int lw, .int tx, .ref rL, .ref rX, .ref qR, .ref qB, .ref qP, .int qnb, .int qnp, .ref aR, .ref aB, .ref aP, .int nb, .int np, .ref aN, .ref rf, .int ho, .int br, .ref aK, .int ac, .long dw, .ref aE, .int sr, .int sf, .ref aA, .ref aH, .ref aI, .int hi])), (aP, .inl (cI, 20, .inl fPa))]) hP9 hD9 rfl
            have hS := hS9
            clear hP9 hD9 hS9
            refine lv_aload_n hx hb dX11_trySends_68 rfl (lv_at hl 1 rfl) ?_
            refine lv_iload hx hb dX11_trySends_69 (lv_at hl 0 rfl) ?_
            refine lv_if_eq (tgt := 79) hx hb dX11_trySends_71 (by decide) (fun _ => ?_) (fun c => absurd (by decide) c)
            refine lv_aload_n hx hb dX11_trySends_79 rfl (lv_at hl 1 rfl) ?_
            refine va_get (D := (dC, dI)) (ci := 11) (v := .int sf) (C := RX11) (T := TX11) (N := 41) hx hb hts iX11 hown hK hP 0 rfl rfl 36 (by decide) (hts _ qw1163) (fun _ h9 => h9) rfl dX11_trySends_80 ?_
            refine va_put (D := (dC, dI)) (ci := 11) (v := .int sf) (ty := .int) (C := RX11) (T := TX11) (N := 41) hx hb hts iX11 tyX11 tyX11_ok nmX11 hown hK hP hD hS 0 rfl rfl 36 (by decide) (hts _ qw1163) (fun _ h9 => h9) rfl (by decide +kernel) rfl rfl (Nat.le_of_ble_eq_true rfl) dX11_trySends_83 (fun H locs hP9 hD9 hS9 => ?_)
            clear hP hD hS
            obtain ⟨hP, hD⟩ := zst (wX := [(h0, .inr (11, [.int th, .ref tB, .int tsz, .int tat, .int wr, .int dp, .ref rC, .ref rV, .ref rD, .ref rK, .ref rT, .ref rS, .ref rU, .int lw, .int tx, .ref rL, .ref rX, .ref qR, .ref qB, .ref qP, .int qnb, .int qnp, .ref aR, .ref aB, .ref aP, .int nb, .int np, .ref aN, .ref rf, .int ho, .int br, .ref aK, .int ac, .long dw, .ref aE, .int sr, .int sf, .ref aA, .ref aH, .ref aI, .int hi])), (aP, .inl (cI, 20, .inl fPa))]) hP9 hD9 rfl
            have hS := hS9
            clear hP9 hD9 hS9
            rw [hQ]
            exact W.vret hx hb hr (fun t ht hW => ⟨⟨(sr, sf), rfl, (by (try dsimp only); exact fun kc s hP hI => chU_n hI (by omega) (by omega)), ⟨by rw [ht]; exact hP, hD⟩⟩, hS.F ht⟩) hS.2.2 dX11_trySends_86
          · have c40 : p3.toInt < sr.toInt := z4 rfl rfl c40
            refine lv_iconst (v := 1) hx hb dX11_trySends_43 (by decide) ?_
            refine lv_goto (tgt := 48) hx hb dX11_trySends_44 (by decide) ?_
            refine lv_istore (lv' := [(6, .int 1), (0, .ref h0), (1, .int 4), (2, .int p1), (3, .int p2), (4, .int p3), (5, .int p4)]) hx hb dX11_trySends_48 hl (by decide) rfl (fun ls hl => ?_)
            refine lv_aload_n hx hb dX11_trySends_50 rfl (lv_at hl 1 rfl) ?_
            refine lv_iload hx hb dX11_trySends_51 (lv_at hl 0 rfl) ?_
            refine lv_if_eq (tgt := 61) hx hb dX11_trySends_53 (by decide) (fun c => absurd c (by decide)) (fun _ => ?_)
            refine lv_iload hx hb dX11_trySends_56 (lv_at hl 5 rfl) ?_
            refine lv_goto (tgt := 65) hx hb dX11_trySends_58 (by decide) ?_
            refine va_put (D := (dC, dI)) (ci := 11) (v := .int p3) (ty := .int) (C := RX11) (T := TX11) (N := 41) hx hb hts iX11 tyX11 tyX11_ok nmX11 hown hK hP hD hS 0 rfl rfl 35 (by decide) (hts _ qw1162) (fun _ h9 => h9) rfl (by decide +kernel) rfl rfl (Nat.le_of_ble_eq_true rfl) dX11_trySends_65 (fun H locs hP9 hD9 hS9 => ?_)
            clear hP hD hS
            obtain ⟨hP, hD⟩ := zst (wX := [(h0, .inr (11, [.int th, .ref tB, .int tsz, .int tat, .int wr, .int dp, .ref rC, .ref rV, .ref rD, .ref rK, .ref rT, .ref rS, .ref rU, .int lw, .int tx, .ref rL, .ref rX, .ref qR, .ref qB, .ref qP, .int qnb, .int qnp, .ref aR, .ref aB, .ref aP, .int nb, .int np, .ref aN, .ref rf, .int ho, .int br, .ref aK, .int ac, .long dw, .ref aE, .int p3, .int sf, .ref aA, .ref aH, .ref aI, .int hi])), (aP, .inl (cI, 20, .inl fPa))]) hP9 hD9 rfl
            have hS := hS9
            clear hP9 hD9 hS9
            refine lv_aload_n hx hb dX11_trySends_68 rfl (lv_at hl 1 rfl) ?_
            refine lv_iload hx hb dX11_trySends_69 (lv_at hl 0 rfl) ?_
            refine lv_if_eq (tgt := 79) hx hb dX11_trySends_71 (by decide) (fun c => absurd c (by decide)) (fun _ => ?_)
            refine lv_iload hx hb dX11_trySends_74 (lv_at hl 6 rfl) ?_
            refine lv_goto (tgt := 83) hx hb dX11_trySends_76 (by decide) ?_
            refine va_put (D := (dC, dI)) (ci := 11) (v := .int p4) (ty := .int) (C := RX11) (T := TX11) (N := 41) hx hb hts iX11 tyX11 tyX11_ok nmX11 hown hK hP hD hS 0 rfl rfl 36 (by decide) (hts _ qw1163) (fun _ h9 => h9) rfl (by decide +kernel) rfl rfl (Nat.le_of_ble_eq_true rfl) dX11_trySends_83 (fun H locs hP9 hD9 hS9 => ?_)
            clear hP hD hS
            obtain ⟨hP, hD⟩ := zst (wX := [(h0, .inr (11, [.int th, .ref tB, .int tsz, .int tat, .int wr, .int dp, .ref rC, .ref rV, .ref rD, .ref rK, .ref rT, .ref rS, .ref rU, .int lw, .int tx, .ref rL, .ref rX, .ref qR, .ref qB, .ref qP, .int qnb, .int qnp, .ref aR, .ref aB, .ref aP, .int nb, .int np, .ref aN, .ref rf, .int ho, .int br, .ref aK, .int ac, .long dw, .ref aE, .int p3, .int p4, .ref aA, .ref aH, .ref aI, .int hi])), (aP, .inl (cI, 20, .inl fPa))]) hP9 hD9 rfl
            have hS := hS9
            clear hP9 hD9 hS9
            rw [hQ]
            exact W.vret hx hb hr (fun t ht hW => ⟨⟨(p3, p4), rfl, (by (try dsimp only); exact fun kc s hP hI => chU_y hI (by omega) (by omega)), ⟨by rw [ht]; exact hP, hD⟩⟩, hS.F ht⟩) hS.2.2 dX11_trySends_86
set_option maxHeartbeats 4000000 in
set_option maxRecDepth 100000 in
theorem g_X11_trySends_3 (l : Launch) (dC : Nat → ClassId) (dI : Nat → Nat → Nat) (cI cJ : ClassId) (h0 : Nat) (p1 : Int32) (p2 : Int32) (p3 : Int32) (p4 : Int32) (th : Int32) (tB : Nat) (tsz : Int32) (tat : Int32) (wr : Int32) (dp : Int32) (rC : Nat) (rV : Nat) (rD : Nat) (rK : Nat) (rT : Nat) (rS : Nat) (rU : Nat) (lw : Int32) (tx : Int32) (rL : Nat) (rX : Nat) (qR : Nat) (qB : Nat) (qP : Nat) (qnb : Int32) (qnp : Int32) (aR : Nat) (aB : Nat) (aP : Nat) (nb : Int32) (np : Int32) (aN : Nat) (rf : Nat) (ho : Int32) (br : Int32) (aK : Nat) (ac : Int32) (dw : Int64) (aE : Nat) (sr : Int32) (sf : Int32) (aA : Nat) (aH : Nat) (aI : Nat) (hi : Int32) (fPa : Nat → Int32) (sz : Nat) (n_ac : 0 ≤ ac.toInt ∧ ac.toInt ≤ 40) (n_hi : 0 ≤ hi.toInt ∧ hi.toInt ≤ 1) (n_ho : (-1) ≤ ho.toInt ∧ ho.toInt ≤ 3) (n_lw : 0 ≤ lw.toInt ∧ lw.toInt ≤ 4) (n_nb : 3 ≤ nb.toInt ∧ nb.toInt ≤ 6) (n_np : 0 ≤ np.toInt ∧ np.toInt ≤ 5) (n_qnb : 0 ≤ qnb.toInt ∧ qnb.toInt ≤ 6) (n_qnp : 0 ≤ qnp.toInt ∧ qnp.toInt ≤ 5) (n_tat : 0 ≤ tat.toInt ∧ tat.toInt ≤ 260) (n_tsz : 0 ≤ tsz.toInt ∧ tsz.toInt ≤ 240) (n_wr : (-1) ≤ wr.toInt ∧ wr.toInt ≤ 260)    : Met l yX11_trySends (.code yX11_trySends cX11_trySends 7 none :: wA) ({ frames := 3, cells := 0, slots := 0, locals := 78 }) (zP (dC, dI) [(cI, .int), (cJ, .long)] [.ref h0, .int 3, .int p1, .int p2, .int p3, .int p4] sz [(h0, .inr (11, [.int th, .ref tB, .int tsz, .int tat, .int wr, .int dp, .ref rC, .ref rV, .ref rD, .ref rK, .ref rT, .ref rS, .ref rU, .int lw, .int tx, .ref rL, .ref rX, .ref qR, .ref qB, .ref qP, .int qnb, .int qnp, .ref aR, .ref aB, .ref aP, .int nb, .int np, .ref aN, .ref rf, .int ho, .int br, .ref aK, .int ac, .long dw, .ref aE, .int sr, .int sf, .ref aA, .ref aH, .ref aI, .int hi])), (aP, .inl (cI, 20, .inl fPa))]) (va_Qv (fun (u : Int32 × Int32) => (∀ (kc : zK3) (s : List Nat), chP fPa np.toInt kc → chI kc np.toInt.toNat p2 p3 p4 s 3 → (u.1.toInt, u.2.toInt) = chX (chf kc) np.toInt.toNat (chBt p1) (nb.toInt.toNat - 3) 3 s (sr.toInt, sf.toInt))) (fun (u : Int32 × Int32) (t : State) => va_P (dC, dI) vwCl [(h0, .inr (11, [.int th, .ref tB, .int tsz, .int tat, .int wr, .int dp, .ref rC, .ref rV, .ref rD, .ref rK, .ref rT, .ref rS, .ref rU, .int lw, .int tx, .ref rL, .ref rX, .ref qR, .ref qB, .ref qP, .int qnb, .int qnp, .ref aR, .ref aB, .ref aP, .int nb, .int np, .ref aN, .ref rf, .int ho, .int br, .ref aK, .int ac, .long dw, .ref aE, .int u.1, .int u.2, .ref aA, .ref aH, .ref aI, .int hi])), (aP, .inl (cI, 20, .inl fPa))] t.heap ∧ va_D (va_A [(h0, .inr (11, [.int th, .ref tB, .int tsz, .int tat, .int wr, .int dp, .ref rC, .ref rV, .ref rD, .ref rK, .ref rT, .ref rS, .ref rU, .int lw, .int tx, .ref rL, .ref rX, .ref qR, .ref qB, .ref qP, .int qnb, .int qnp, .ref aR, .ref aB, .ref aP, .int nb, .int np, .ref aN, .ref rf, .int ho, .int br, .ref aK, .int ac, .long dw, .ref aE, .int sr, .int sf, .ref aA, .ref aH, .ref aI, .int hi])), (aP, .inl (cI, 20, .inl fPa))] sz) [(h0, .inr (11, [.int th, .ref tB, .int tsz, .int tat, .int wr, .int dp, .ref rC, .ref rV, .ref rD, .ref rK, .ref rT, .ref rS, .ref rU, .int lw, .int tx, .ref rL, .ref rX, .ref qR, .ref qB, .ref qP, .int qnb, .int qnp, .ref aR, .ref aB, .ref aP, .int nb, .int np, .ref aN, .ref rf, .int ho, .int br, .ref aK, .int ac, .long dw, .ref aE, .int u.1, .int u.2, .ref aA, .ref aH, .ref aI, .int hi])), (aP, .inl (cI, 20, .inl fPa))]) (va_A [(h0, .inr (11, [.int th, .ref tB, .int tsz, .int tat, .int wr, .int dp, .ref rC, .ref rV, .ref rD, .ref rK, .ref rT, .ref rS, .ref rU, .int lw, .int tx, .ref rL, .ref rX, .ref qR, .ref qB, .ref qP, .int qnb, .int qnp, .ref aR, .ref aB, .ref aP, .int nb, .int np, .ref aN, .ref rf, .int ho, .int br, .ref aK, .int ac, .long dw, .ref aE, .int sr, .int sf, .ref aA, .ref aH, .ref aI, .int hi])), (aP, .inl (cI, 20, .inl fPa))] sz)) 0 0 (va_A [(h0, .inr (11, [.int th, .ref tB, .int tsz, .int tat, .int wr, .int dp, .ref rC, .ref rV, .ref rD, .ref rK, .ref rT, .ref rS, .ref rU, .int lw, .int tx, .ref rL, .ref rX, .ref qR, .ref qB, .ref qP, .int qnb, .int qnp, .ref aR, .ref aB, .ref aP, .int nb, .int np, .ref aN, .ref rf, .int ho, .int br, .ref aK, .int ac, .long dw, .ref aE, .int sr, .int sf, .ref aA, .ref aH, .ref aI, .int hi])), (aP, .inl (cI, 20, .inl fPa))] sz) := by
  refine Met.ofW (cc := cX11_trySends) (maxL := 7) (ret := none) (by decide) rfl ?_
  intro p e s m args below meth c s₁ B hml hv
  have y_ac : zHid (0 ≤ ac.toInt ∧ ac.toInt ≤ 40) := n_ac
  have y_hi : zHid (0 ≤ hi.toInt ∧ hi.toInt ≤ 1) := n_hi
  have y_ho : zHid ((-1) ≤ ho.toInt ∧ ho.toInt ≤ 3) := n_ho
  have y_lw : zHid (0 ≤ lw.toInt ∧ lw.toInt ≤ 4) := n_lw
  have y_qnb : zHid (0 ≤ qnb.toInt ∧ qnb.toInt ≤ 6) := n_qnb
  have y_qnp : zHid (0 ≤ qnp.toInt ∧ qnp.toInt ≤ 5) := n_qnp
  have y_tat : zHid (0 ≤ tat.toInt ∧ tat.toInt ≤ 260) := n_tat
  have y_tsz : zHid (0 ≤ tsz.toInt ∧ tsz.toInt ≤ 240) := n_tsz
  have y_wr : zHid ((-1) ≤ wr.toInt ∧ wr.toInt ≤ 260) := n_wr
  clear n_ac n_hi n_ho n_lw n_qnb n_qnp n_tat n_tsz n_wr
  obtain ⟨hargs, hsz, hP, hK, hT⟩ := hv
  have hx := B.exec
  have hb := B.bytes
  have hr := B.returns
  have hts : ∀ w ∈ wA, w.before args s = true := fun w h => atoms_spec (ws := .code yX11_trySends cX11_trySends 7 none :: wA) B.pre w (List.mem_cons_of_mem _ h)
  have hown : s.vm.findClass RX11 = some m.cls := findClass_of_methodNamed B.named
  have hlocks := B.notSynchronized
  subst hsz
  have hD := hT.self (sz := s.heap.size)
  generalize hAe : va_A [(h0, .inr (11, [.int th, .ref tB, .int tsz, .int tat, .int wr, .int dp, .ref rC, .ref rV, .ref rD, .ref rK, .ref rT, .ref rS, .ref rU, .int lw, .int tx, .ref rL, .ref rX, .ref qR, .ref qB, .ref qP, .int qnb, .int qnp, .ref aR, .ref aB, .ref aP, .int nb, .int np, .ref aN, .ref rf, .int ho, .int br, .ref aK, .int ac, .long dw, .ref aE, .int sr, .int sf, .ref aA, .ref aH, .ref aI, .int hi])), (aP, .inl (cI, 20, .inl fPa))] s.heap.size = A at hD ⊢
  have hA : ∀ q : Nat, s.heap.size ≤ q → A q := fun q h => by rw [← hAe]; exact Or.inr h
  have hl := lv_entry ([.ref h0, .int 3, .int p1, .int p2, .int p3, .int p4]) (n := 7) (Nat.le_of_ble_eq_true rfl)
  rw [show entryFrame m args 7 = entryFrame m ([.ref h0, .int 3, .int p1, .int p2, .int p3, .int p4] : List Value).toArray 7 by rw [hargs], lg_entry_eq]
  generalize (lg_sl ([.ref h0, .int 3, .int p1, .int p2, .int p3, .int p4]) ++ List.replicate (7 - (lg_sl ([.ref h0, .int 3, .int p1, .int p2, .int p3, .int p4])).length) Slot.unset).toArray = ls at hl ⊢
  have hl : lv_has ls 7 [(0, .ref h0), (1, .int 3), (2, .int p1), (3, .int p2), (4, .int p3), (5, .int p4)] := hl
  refine zstart (fun H hH => ?_)
  rw [← hH] at hP
  have hS : va_S A s.heap H [] := by rw [hH]; exact va_S.rf
  generalize ([] : List Loc) = locs at hS ⊢
  refine zgen (fun R Q hR hQ => ?_)
  refine lv_iload_n hx hb dX11_trySends_0 rfl (lv_at hl 1 rfl) ?_
  refine lv_aload_n hx hb dX11_trySends_1 rfl (lv_at hl 0 rfl) ?_
  refine va_get (D := (dC, dI)) (ci := 11) (v := .int nb) (C := RX11) (T := TX11) (N := 41) hx hb hts iX11 hown hK hP 0 rfl rfl 25 (by decide) (hts _ qw1152) (fun _ h9 => h9) rfl dX11_trySends_2 ?_
  refine lv_icmp_ne (tgt := 87) hx hb dX11_trySends_5 (by decide) (fun c5 => ?_) (fun c5 => ?_)
  · have c5 : ¬ 3 = nb.toInt := z6 (by decide) rfl c5
    refine lv_iload_n hx hb dX11_trySends_87 rfl (lv_at hl 2 rfl) ?_
    refine lv_iload_n hx hb dX11_trySends_88 rfl (lv_at hl 1 rfl) ?_
    have hPc : va_P (dC, dI) vwCl [] H := zP0
    have hDc : va_D (fun _ => True) [] := zD0
    have hFc := zfr hS hA
    refine va_calli (va_runS (As := [.int p1, .int 3]) (rest := []) ⟨hx, hb, hml, hown, hts⟩ (g_X11_has l dC dI cI cJ p1 3 H.size) (cwS 2 hts (zgS qw1288 qw1289 qw108 qw1290) rfl rfl rfl hd_X11_has ⟨by rw [hR]; exact Nat.le_of_ble_eq_true rfl, by rw [hR]; exact Nat.le_of_ble_eq_true rfl⟩) (zPS hPc hK hDc) rfl rfl hl.1 rfl (lv_room (Nat.le_of_ble_eq_true rfl)) dX11_trySends_89 ⟨Nat.zero_le _, Nat.zero_le _⟩) hS (fun q _ h => hFc q h) hFc (fun v89 u89 t H locs ht hvm hw hB hz1 hk1 hS9 => ?_)
    replace hP := zkeep hP hk1
    replace hS := hS9
    clear hPc hDc hFc hk1 hz1 hvm hS9
    obtain ⟨f89_0, f89_1, f89_2, f89_3⟩ : (0 ≤ v89.toInt) ∧ (v89.toInt ≤ 1) ∧ (v89.toInt = ((p1 >>> (3 &&& 31)) &&& 1).toInt) ∧ (v89.toInt = (cBt p1 3).toInt) := hw
    have F89 := f89_3
    refine lv_if_ne (tgt := 109) hx hb dX11_trySends_92 (by decide) (fun c92 => ?_) (fun c92 => ?_)
    · have c92 : ¬ v89.toInt = 0 := z6 rfl (by decide) c92
      refine lv_iconst (v := 0) hx hb dX11_trySends_109 (by decide) ?_
      have J112 : ∀ (n : Nat) (m112_F_h0_35 : Int32) (m112_F_h0_36 : Int32) (m112_L_6 : Int32), (0 ≤ m112_L_6.toInt ∧ m112_L_6.toInt ≤ 5) → (∀ (kc : zK3) (s : List Nat), chP fPa np.toInt kc → chI kc np.toInt.toNat p2 p3 p4 s 3 → (m112_F_h0_35.toInt, m112_F_h0_36.toInt) = chL (chf kc) np.toInt.toNat (chBt p1) (nb.toInt.toNat - 4) 3 s (sr.toInt, sf.toInt) m112_L_6.toInt.toNat) → (m112_L_6.toInt ≤ np.toInt) → (6 - m112_L_6.toInt).toNat = n → ∀ (H : Heap) (locs : List Loc) (ls : Array Slot), va_P (dC, dI) vwCl [(h0, .inr (11, [.int th, .ref tB, .int tsz, .int tat, .int wr, .int dp, .ref rC, .ref rV, .ref rD, .ref rK, .ref rT, .ref rS, .ref rU, .int lw, .int tx, .ref rL, .ref rX, .ref qR, .ref qB, .ref qP, .int qnb, .int qnp, .ref aR, .ref aB, .ref aP, .int nb, .int np, .ref aN, .ref rf, .int ho, .int br, .ref aK, .int ac, .long dw, .ref aE, .int m112_F_h0_35, .int m112_F_h0_36, .ref aA, .ref aH, .ref aI, .int hi])), (aP, .inl (cI, 20, .inl fPa))] H → va_D A [(h0, .inr (11, [.int th, .ref tB, .int tsz, .int tat, .int wr, .int dp, .ref rC, .ref rV, .ref rD, .ref rK, .ref rT, .ref rS, .ref rU, .int lw, .int tx, .ref rL, .ref rX, .ref qR, .ref qB, .ref qP, .int qnb, .int qnp, .ref aR, .ref aB, .ref aP, .int nb, .int np, .ref aN, .ref rf, .int ho, .int br, .ref aK, .int ac, .long dw, .ref aE, .int m112_F_h0_35, .int m112_F_h0_36, .ref aA, .ref aH, .ref aI, .int hi])), (aP, .inl (cI, 20, .inl fPa))] → va_S A s.heap H locs → lv_has ls 7 [(6, .int m112_L_6), (0, .ref h0), (1, .int 3), (2, .int p1), (3, .int p2), (4, .int p3), (5, .int p4)] → W p l e R s m args below meth c H locs 0 0 Q (F0 m 112 ls []) := by
        intro n112
        induction n112 using Nat.strongRecOn with
        | _ n112 ih112 =>
          intro m112_F_h0_35 m112_F_h0_36 m112_L_6 jf112_0 jv112_0 jf112_2 hmu112 H locs ls hP hD hS hl
          refine lv_iload hx hb dX11_trySends_112 (lv_at hl 0 rfl) ?_
          refine lv_aload_n hx hb dX11_trySends_114 rfl (lv_at hl 1 rfl) ?_
          refine va_get (D := (dC, dI)) (ci := 11) (v := .int np) (C := RX11) (T := TX11) (N := 41) hx hb hts iX11 hown hK hP 0 rfl rfl 26 (by decide) (hts _ qw1153) (fun _ h9 => h9) rfl dX11_trySends_115 ?_
          refine lv_icmp_ge (tgt := 168) hx hb dX11_trySends_118 (by decide) (fun c118 => ?_) (fun c118 => ?_)
          · have c118 : np.toInt ≤ m112_L_6.toInt := z3 rfl rfl c118
            rw [hQ]
            exact W.vret hx hb hr (fun t ht hW => ⟨⟨(m112_F_h0_35, m112_F_h0_36), rfl, (by (try dsimp only); exact fun kc s hP hI => by have g89 : (chBt p1 3 = true ↔ v89.toInt = 1) := (by rw [F89]; exact decide_eq_true_iff); exact chX_l (k' := (nb.toInt.toNat - 4)) (m := m112_L_6.toInt.toNat) (g89.mpr (by omega)) (by omega) (by omega) (jv112_0 kc s hP hI)), ⟨by rw [ht]; exact hP, hD⟩⟩, hS.F ht⟩) hS.2.2 dX11_trySends_168
          · have c118 : m112_L_6.toInt < np.toInt := z4 rfl rfl c118
            refine lv_iload_n hx hb dX11_trySends_121 rfl (lv_at hl 4 rfl) ?_
            refine lv_iload hx hb dX11_trySends_122 (lv_at hl 0 rfl) ?_
            have hPc : va_P (dC, dI) vwCl [] H := zP0
            have hDc : va_D (fun _ => True) [] := zD0
            have hFc := zfr hS hA
            refine va_calli (va_runS (As := [.int p2, .int m112_L_6]) (rest := []) ⟨hx, hb, hml, hown, hts⟩ (g_X11_has l dC dI cI cJ p2 m112_L_6 H.size) (cwS 2 hts (zgS qw1288 qw1289 qw108 qw1290) rfl rfl rfl hd_X11_has ⟨by rw [hR]; exact Nat.le_of_ble_eq_true rfl, by rw [hR]; exact Nat.le_of_ble_eq_true rfl⟩) (zPS hPc hK hDc) rfl rfl hl.1 rfl (lv_room (Nat.le_of_ble_eq_true rfl)) dX11_trySends_124 ⟨Nat.zero_le _, Nat.zero_le _⟩) hS (fun q _ h => hFc q h) hFc (fun v124 u124 t H locs ht hvm hw hB hz1 hk1 hS9 => ?_)
            replace hP := zkeep hP hk1
            replace hS := hS9
            clear hPc hDc hFc hk1 hz1 hvm hS9
            obtain ⟨f124_0, f124_1, f124_2, f124_3⟩ : (0 ≤ v124.toInt) ∧ (v124.toInt ≤ 1) ∧ (v124.toInt = ((p2 >>> (m112_L_6 &&& 31)) &&& 1).toInt) ∧ (v124.toInt = (cBt p2 m112_L_6).toInt) := hw
            have F124 := f124_3
            refine lv_if_ne (tgt := 162) hx hb dX11_trySends_127 (by decide) (fun c127 => ?_) (fun c127 => ?_)
            · have c127 : ¬ v124.toInt = 0 := z6 rfl (by decide) c127
              obtain ⟨v162, e162⟩ : ∃ y : Int32, y = m112_L_6 + Int32.ofInt (1) := ⟨_, rfl⟩
              refine lv_iinc (v := v162) (lv' := [(6, .int v162), (0, .ref h0), (1, .int 3), (2, .int p1), (3, .int p2), (4, .int p3), (5, .int p4)]) hx hb dX11_trySends_162 hl (k := 0) rfl e162.symm (by decide) rfl (fun ls hl => ?_)
              have i162 : v162.toInt = m112_L_6.toInt + 1 := zaddI e162 (by decide) (by omega) (by omega)
              refine lv_goto (tgt := 112) hx hb dX11_trySends_165 (by decide) ?_
              exact ih112 _ (by omega) m112_F_h0_35 m112_F_h0_36 v162 (by omega) (fun kc s hP hI => by have m := chI_m hI (i := m112_L_6) (by omega) (by omega) F124; first | exact chL_y (jv112_0 kc s hP hI) (by omega) i162 (m.mp (by omega)) | exact chL_n (jv112_0 kc s hP hI) (by omega) i162 (fun z => absurd (m.mpr z) (by omega)) (F159 kc _ hP (chI_s hI hP (by decide) (by omega) (by omega) e139 e140 e145 e148 F155 e158))) (by omega) rfl H locs ls hP hD hS (lv_sub hl [0, 1, 2, 3, 4, 5, 6] rfl)
            · have c127 : v124.toInt = 0 := z5 rfl (by decide) c127
              refine lv_aload_n hx hb dX11_trySends_130 rfl (lv_at hl 1 rfl) ?_
              refine lv_iload_n hx hb dX11_trySends_131 rfl (lv_at hl 2 rfl) ?_
              refine lv_iconst (v := 1) hx hb dX11_trySends_132 (by decide) ?_
              refine lv_iadd hx hb dX11_trySends_133 ?_
              refine lv_topi (fun v133 e133 => ?_)
              obtain rfl : v133 = 4 := e133.trans (by decide)
              refine lv_iload_n hx hb dX11_trySends_134 rfl (lv_at hl 3 rfl) ?_
              refine lv_iload_n hx hb dX11_trySends_135 rfl (lv_at hl 4 rfl) ?_
              refine lv_iconst (v := 1) hx hb dX11_trySends_136 (by decide) ?_
              refine lv_iload hx hb dX11_trySends_137 (lv_at hl 0 rfl) ?_
              refine lv_ishl hx hb dX11_trySends_139 ?_
              refine lv_topi (fun v139 e139 => ?_)
              have i139 : 1 ≤ v139.toInt ∧ v139.toInt ≤ 32 := zshl1 e139 (by omega) (by omega)
              refine lv_ior hx hb dX11_trySends_140 ?_
              refine lv_topi (fun v140 e140 => ?_)
              refine lv_bipush (v := 10) hx hb dX11_trySends_141 (by decide) ?_
              refine lv_iload hx hb dX11_trySends_143 (lv_at hl 5 rfl) ?_
              refine lv_imul hx hb dX11_trySends_145 ?_
              refine lv_topi (fun v145 e145 => ?_)
              refine lv_iload hx hb dX11_trySends_146 (lv_at hl 0 rfl) ?_
              refine lv_iadd hx hb dX11_trySends_148 ?_
              refine lv_topi (fun v148 e148 => ?_)
              refine lv_iload hx hb dX11_trySends_149 (lv_at hl 6 rfl) ?_
              refine lv_aload_n hx hb dX11_trySends_151 rfl (lv_at hl 1 rfl) ?_
              refine lv_iload hx hb dX11_trySends_152 (lv_at hl 0 rfl) ?_
              refine lv_iconst (v := 1) hx hb dX11_trySends_154 (by decide) ?_
              obtain ⟨hPc, hDc⟩ := zc2 (wc := [(h0, .inr (11, [.int th, .ref tB, .int tsz, .int tat, .int wr, .int dp, .ref rC, .ref rV, .ref rD, .ref rK, .ref rT, .ref rS, .ref rU, .int lw, .int tx, .ref rL, .ref rX, .ref qR, .ref qB, .ref qP, .int qnb, .int qnp, .ref aR, .ref aB, .ref aP, .int nb, .int np, .ref aN, .ref rf, .int ho, .int br, .ref aK, .int ac, .long dw, .ref aE, .int m112_F_h0_35, .int m112_F_h0_36, .ref aA, .ref aH, .ref aI, .int hi])), (aP, .inl (cI, 20, .inl fPa))]) hP hD [0, 1] (by decide +kernel) rfl
              have hFc := zfr hS hA
              refine va_calli (va_runV (As := [.int m112_L_6, .int 1]) (rest := [.int p4, .int v148, .int v140, .int p1, .int 4, .ref h0]) ⟨hx, hb, hml, hown, hts⟩ (g_X11_by_1 l dC dI cI cJ h0 m112_L_6 th tB tsz tat wr dp rC rV rD rK rT rS rU lw tx rL rX qR qB qP qnb qnp aR aB aP nb np aN rf ho br aK ac dw aE m112_F_h0_35 m112_F_h0_36 aA aH aI hi fPa H.size y_ac y_hi y_ho y_lw (by omega) n_np (by omega) y_qnb y_qnp y_tat y_tsz y_wr) (cwV 2 hts (zgV qw1390 qw1392 qw55 qw108 qw1393) rfl rfl rfl hd_X11_by ⟨by rw [hR]; exact Nat.le_of_ble_eq_true rfl, by rw [hR]; exact Nat.le_of_ble_eq_true rfl⟩) (zPV hPc hK hDc (va_recv (q := (RX11, TX11, 41)) hK hP (ci := 11) (q0 := 0) rfl rfl)) rfl rfl hl.1 rfl (lv_room (Nat.le_of_ble_eq_true rfl)) dX11_trySends_155 ⟨Nat.zero_le _, Nat.zero_le _⟩) hS (fun q _ h => hFc q h) hFc (fun v155 u155 t H locs ht hvm hw hB hz1 hk1 hS9 => ?_)
              replace hP := zkeep hP hk1
              replace hS := hS9
              clear hPc hDc hFc hk1 hz1 hvm hS9
              obtain ⟨f155_0, f155_1⟩ : (v155.toInt = (fPa (4 * m112_L_6.toInt.toNat + 1)).toInt) ∧ (v155 = fPa (4 * m112_L_6.toInt.toNat + 1)) := hw
              have F155 := f155_1
              refine lv_iadd hx hb dX11_trySends_158 ?_
              refine lv_topi (fun v158 e158 => ?_)
              obtain ⟨hPc, hDc, hFc⟩ := zc3 (wc := [(h0, .inr (11, [.int th, .ref tB, .int tsz, .int tat, .int wr, .int dp, .ref rC, .ref rV, .ref rD, .ref rK, .ref rT, .ref rS, .ref rU, .int lw, .int tx, .ref rL, .ref rX, .ref qR, .ref qB, .ref qP, .int qnb, .int qnp, .ref aR, .ref aB, .ref aP, .int nb, .int np, .ref aN, .ref rf, .int ho, .int br, .ref aK, .int ac, .long dw, .ref aE, .int m112_F_h0_35, .int m112_F_h0_36, .ref aA, .ref aH, .ref aI, .int hi])), (aP, .inl (cI, 20, .inl fPa))]) hP hD hS hA [0, 1] (by decide +kernel) rfl
              refine va_callv (va_runV (As := [.int 4, .int p1, .int v140, .int v148, .int v158]) (rest := []) ⟨hx, hb, hml, hown, hts⟩ (g_X11_trySends_4 l dC dI cI cJ h0 p1 v140 v148 v158 th tB tsz tat wr dp rC rV rD rK rT rS rU lw tx rL rX qR qB qP qnb qnp aR aB aP nb np aN rf ho br aK ac dw aE m112_F_h0_35 m112_F_h0_36 aA aH aI hi fPa H.size y_ac y_hi y_ho y_lw (by omega) n_np y_qnb y_qnp y_tat y_tsz y_wr) (cwV 5 hts (zgV qw1683 qw1685 qw91 qw108 qw1686) rfl rfl rfl hd_X11_trySends ⟨by rw [hR]; exact Nat.le_of_ble_eq_true rfl, by rw [hR]; exact Nat.le_of_ble_eq_true rfl⟩) (zPV hPc hK hDc (va_recv (q := (RX11, TX11, 41)) hK hP (ci := 11) (q0 := 0) rfl rfl)) rfl rfl hl.1 rfl (lv_room (Nat.le_of_ble_eq_true rfl)) dX11_trySends_159 ⟨Nat.zero_le _, Nat.zero_le _⟩) hS (fun q _ h => hFc q h) hFc (fun u159 t H locs ht hvm hw hB hz1 hk1 hS9 => ?_)
              obtain ⟨u159_0, u159_1⟩ := u159
              obtain ⟨hP9, hD9⟩ := zj2 (wX := [(h0, .inr (11, [.int th, .ref tB, .int tsz, .int tat, .int wr, .int dp, .ref rC, .ref rV, .ref rD, .ref rK, .ref rT, .ref rS, .ref rU, .int lw, .int tx, .ref rL, .ref rX, .ref qR, .ref qB, .ref qP, .int qnb, .int qnp, .ref aR, .ref aB, .ref aP, .int nb, .int np, .ref aN, .ref rf, .int ho, .int br, .ref aK, .int ac, .long dw, .ref aE, .int u159_0, .int u159_1, .ref aA, .ref aH, .ref aI, .int hi])), (aP, .inl (cI, 20, .inl fPa))]) hP hD hk1 hFc ht hB [0, 1] [(true, 0), (true, 1)] rfl (by decide +kernel) (by decide +kernel) rfl
              clear hP hD hS hPc hDc hFc hB hk1 hz1 hvm
              have hP := hP9
              have hD := hD9
              have hS := hS9
              clear hP9 hD9 hS9
              have f159_0 : (∀ (kc : zK3) (s : List Nat), chP fPa np.toInt kc → chI kc np.toInt.toNat v140 v148 v158 s 4 → (u159_0.toInt, u159_1.toInt) = chX (chf kc) np.toInt.toNat (chBt p1) (nb.toInt.toNat - 4) 4 s (m112_F_h0_35.toInt, m112_F_h0_36.toInt)) := hw
              have F159 := f159_0
              obtain ⟨v162, e162⟩ : ∃ y : Int32, y = m112_L_6 + Int32.ofInt (1) := ⟨_, rfl⟩
              refine lv_iinc (v := v162) (lv' := [(6, .int v162), (0, .ref h0), (1, .int 3), (2, .int p1), (3, .int p2), (4, .int p3), (5, .int p4)]) hx hb dX11_trySends_162 hl (k := 0) rfl e162.symm (by decide) rfl (fun ls hl => ?_)
              have i162 : v162.toInt = m112_L_6.toInt + 1 := zaddI e162 (by decide) (by omega) (by omega)
              refine lv_goto (tgt := 112) hx hb dX11_trySends_165 (by decide) ?_
              exact ih112 _ (by omega) u159_0 u159_1 v162 (by omega) (fun kc s hP hI => by have m := chI_m hI (i := m112_L_6) (by omega) (by omega) F124; first | exact chL_y (jv112_0 kc s hP hI) (by omega) i162 (m.mp (by omega)) | exact chL_n (jv112_0 kc s hP hI) (by omega) i162 (fun z => absurd (m.mpr z) (by omega)) (F159 kc _ hP (chI_s hI hP (by decide) (by omega) (by omega) e139 e140 e145 e148 F155 e158))) (by omega) rfl H locs ls hP hD hS (lv_sub hl [0, 1, 2, 3, 4, 5, 6] rfl)
      refine lv_istore (lv' := [(6, .int 0), (0, .ref h0), (1, .int 3), (2, .int p1), (3, .int p2), (4, .int p3), (5, .int p4)]) hx hb dX11_trySends_110 hl (by decide) rfl (fun ls hl => ?_)
      have zj112_m112_L_6 : (0 : Int32).toInt = 0 := by decide
      exact J112 _ sr sf 0 (by decide) (fun kc s hP hI => chL_0.symm) (by omega) rfl H locs ls hP hD hS (lv_sub hl [0, 1, 2, 3, 4, 5, 6] rfl)
    · have c92 : v89.toInt = 0 := z5 rfl (by decide) c92
      refine lv_aload_n hx hb dX11_trySends_95 rfl (lv_at hl 0 rfl) ?_
      refine lv_iload_n hx hb dX11_trySends_96 rfl (lv_at hl 1 rfl) ?_
      refine lv_iconst (v := 1) hx hb dX11_trySends_97 (by decide) ?_
      refine lv_iadd hx hb dX11_trySends_98 ?_
      refine lv_topi (fun v98 e98 => ?_)
      obtain rfl : v98 = 4 := e98.trans (by decide)
      refine lv_iload_n hx hb dX11_trySends_99 rfl (lv_at hl 2 rfl) ?_
      refine lv_iload_n hx hb dX11_trySends_100 rfl (lv_at hl 3 rfl) ?_
      refine lv_iload hx hb dX11_trySends_101 (lv_at hl 4 rfl) ?_
      refine lv_iload hx hb dX11_trySends_103 (lv_at hl 5 rfl) ?_
      obtain ⟨hPc, hDc, hFc⟩ := zc3 (wc := [(h0, .inr (11, [.int th, .ref tB, .int tsz, .int tat, .int wr, .int dp, .ref rC, .ref rV, .ref rD, .ref rK, .ref rT, .ref rS, .ref rU, .int lw, .int tx, .ref rL, .ref rX, .ref qR, .ref qB, .ref qP, .int qnb, .int qnp, .ref aR, .ref aB, .ref aP, .int nb, .int np, .ref aN, .ref rf, .int ho, .int br, .ref aK, .int ac, .long dw, .ref aE, .int sr, .int sf, .ref aA, .ref aH, .ref aI, .int hi])), (aP, .inl (cI, 20, .inl fPa))]) hP hD hS hA [0, 1] (by decide +kernel) rfl
      refine va_callv (va_runV (As := [.int 4, .int p1, .int p2, .int p3, .int p4]) (rest := []) ⟨hx, hb, hml, hown, hts⟩ (g_X11_trySends_4 l dC dI cI cJ h0 p1 p2 p3 p4 th tB tsz tat wr dp rC rV rD rK rT rS rU lw tx rL rX qR qB qP qnb qnp aR aB aP nb np aN rf ho br aK ac dw aE sr sf aA aH aI hi fPa H.size y_ac y_hi y_ho y_lw (by omega) n_np y_qnb y_qnp y_tat y_tsz y_wr) (cwV 5 hts (zgV qw1683 qw1685 qw91 qw108 qw1686) rfl rfl rfl hd_X11_trySends ⟨by rw [hR]; exact Nat.le_of_ble_eq_true rfl, by rw [hR]; exact Nat.le_of_ble_eq_true rfl⟩) (zPV hPc hK hDc (va_recv (q := (RX11, TX11, 41)) hK hP (ci := 11) (q0 := 0) rfl rfl)) rfl rfl hl.1 rfl (lv_room (Nat.le_of_ble_eq_true rfl)) dX11_trySends_105 ⟨Nat.zero_le _, Nat.zero_le _⟩) hS (fun q _ h => hFc q h) hFc (fun u105 t H locs ht hvm hw hB hz1 hk1 hS9 => ?_)
      obtain ⟨u105_0, u105_1⟩ := u105
      obtain ⟨hP9, hD9⟩ := zj2 (wX := [(h0, .inr (11, [.int th, .ref tB, .int tsz, .int tat, .int wr, .int dp, .ref rC, .ref rV, .ref rD, .ref rK, .ref rT, .ref rS, .ref rU, .int lw, .int tx, .ref rL, .ref rX, .ref qR, .ref qB, .ref qP, .int qnb, .int qnp, .ref aR, .ref aB, .ref aP, .int nb, .int np, .ref aN, .ref rf, .int ho, .int br, .ref aK, .int ac, .long dw, .ref aE, .int u105_0, .int u105_1, .ref aA, .ref aH, .ref aI, .int hi])), (aP, .inl (cI, 20, .inl fPa))]) hP hD hk1 hFc ht hB [0, 1] [(true, 0), (true, 1)] rfl (by decide +kernel) (by decide +kernel) rfl
      clear hP hD hS hPc hDc hFc hB hk1 hz1 hvm
      have hP := hP9
      have hD := hD9
      have hS := hS9
      clear hP9 hD9 hS9
      have f105_0 : (∀ (kc : zK3) (s : List Nat), chP fPa np.toInt kc → chI kc np.toInt.toNat p2 p3 p4 s 4 → (u105_0.toInt, u105_1.toInt) = chX (chf kc) np.toInt.toNat (chBt p1) (nb.toInt.toNat - 4) 4 s (sr.toInt, sf.toInt)) := hw
      have F105 := f105_0
      rw [hQ]
      exact W.vret hx hb hr (fun t ht hW => ⟨⟨(u105_0, u105_1), rfl, (by (try dsimp only); exact fun kc s hP hI => by have g89 : (chBt p1 3 = true ↔ v89.toInt = 1) := (by rw [F89]; exact decide_eq_true_iff); exact chX_v (k' := (nb.toInt.toNat - 4)) (fun z => absurd (g89.mp z) (by omega)) (by omega) (F105 kc s hP (chI_w hI (by decide)))), ⟨by rw [ht]; exact hP, hD⟩⟩, hS.F ht⟩) hS.2.2 dX11_trySends_108
  · have c5 : 3 = nb.toInt := z5 (by decide) rfl c5
    refine lv_aload_n hx hb dX11_trySends_8 rfl (lv_at hl 0 rfl) ?_
    refine va_get (D := (dC, dI)) (ci := 11) (v := .int sr) (C := RX11) (T := TX11) (N := 41) hx hb hts iX11 hown hK hP 0 rfl rfl 35 (by decide) (hts _ qw1162) (fun _ h9 => h9) rfl dX11_trySends_9 ?_
    refine lv_iconst (v := (-1)) hx hb dX11_trySends_12 (by decide) ?_
    refine lv_icmp_eq (tgt := 43) hx hb dX11_trySends_13 (by decide) (fun c13 => ?_) (fun c13 => ?_)
    · have c13 : sr.toInt = (-1) := z5 rfl (by decide) c13
      refine lv_iconst (v := 1) hx hb dX11_trySends_43 (by decide) ?_
      refine lv_goto (tgt := 48) hx hb dX11_trySends_44 (by decide) ?_
      refine lv_istore (lv' := [(6, .int 1), (0, .ref h0), (1, .int 3), (2, .int p1), (3, .int p2), (4, .int p3), (5, .int p4)]) hx hb dX11_trySends_48 hl (by decide) rfl (fun ls hl => ?_)
      refine lv_aload_n hx hb dX11_trySends_50 rfl (lv_at hl 1 rfl) ?_
      refine lv_iload hx hb dX11_trySends_51 (lv_at hl 0 rfl) ?_
      refine lv_if_eq (tgt := 61) hx hb dX11_trySends_53 (by decide) (fun c => absurd c (by decide)) (fun _ => ?_)
      refine lv_iload hx hb dX11_trySends_56 (lv_at hl 5 rfl) ?_
      refine lv_goto (tgt := 65) hx hb dX11_trySends_58 (by decide) ?_
      refine va_put (D := (dC, dI)) (ci := 11) (v := .int p3) (ty := .int) (C := RX11) (T := TX11) (N := 41) hx hb hts iX11 tyX11 tyX11_ok nmX11 hown hK hP hD hS 0 rfl rfl 35 (by decide) (hts _ qw1162) (fun _ h9 => h9) rfl (by decide +kernel) rfl rfl (Nat.le_of_ble_eq_true rfl) dX11_trySends_65 (fun H locs hP9 hD9 hS9 => ?_)
      clear hP hD hS
      obtain ⟨hP, hD⟩ := zst (wX := [(h0, .inr (11, [.int th, .ref tB, .int tsz, .int tat, .int wr, .int dp, .ref rC, .ref rV, .ref rD, .ref rK, .ref rT, .ref rS, .ref rU, .int lw, .int tx, .ref rL, .ref rX, .ref qR, .ref qB, .ref qP, .int qnb, .int qnp, .ref aR, .ref aB, .ref aP, .int nb, .int np, .ref aN, .ref rf, .int ho, .int br, .ref aK, .int ac, .long dw, .ref aE, .int p3, .int sf, .ref aA, .ref aH, .ref aI, .int hi])), (aP, .inl (cI, 20, .inl fPa))]) hP9 hD9 rfl
      have hS := hS9
      clear hP9 hD9 hS9
      refine lv_aload_n hx hb dX11_trySends_68 rfl (lv_at hl 1 rfl) ?_
      refine lv_iload hx hb dX11_trySends_69 (lv_at hl 0 rfl) ?_
      refine lv_if_eq (tgt := 79) hx hb dX11_trySends_71 (by decide) (fun c => absurd c (by decide)) (fun _ => ?_)
      refine lv_iload hx hb dX11_trySends_74 (lv_at hl 6 rfl) ?_
      refine lv_goto (tgt := 83) hx hb dX11_trySends_76 (by decide) ?_
      refine va_put (D := (dC, dI)) (ci := 11) (v := .int p4) (ty := .int) (C := RX11) (T := TX11) (N := 41) hx hb hts iX11 tyX11 tyX11_ok nmX11 hown hK hP hD hS 0 rfl rfl 36 (by decide) (hts _ qw1163) (fun _ h9 => h9) rfl (by decide +kernel) rfl rfl (Nat.le_of_ble_eq_true rfl) dX11_trySends_83 (fun H locs hP9 hD9 hS9 => ?_)
      clear hP hD hS
      obtain ⟨hP, hD⟩ := zst (wX := [(h0, .inr (11, [.int th, .ref tB, .int tsz, .int tat, .int wr, .int dp, .ref rC, .ref rV, .ref rD, .ref rK, .ref rT, .ref rS, .ref rU, .int lw, .int tx, .ref rL, .ref rX, .ref qR, .ref qB, .ref qP, .int qnb, .int qnp, .ref aR, .ref aB, .ref aP, .int nb, .int np, .ref aN, .ref rf, .int ho, .int br, .ref aK, .int ac, .long dw, .ref aE, .int p3, .int p4, .ref aA, .ref aH, .ref aI, .int hi])), (aP, .inl (cI, 20, .inl fPa))]) hP9 hD9 rfl
      have hS := hS9
      clear hP9 hD9 hS9
      rw [hQ]
      exact W.vret hx hb hr (fun t ht hW => ⟨⟨(p3, p4), rfl, (by (try dsimp only); exact fun kc s hP hI => chU_y hI (by omega) (by omega)), ⟨by rw [ht]; exact hP, hD⟩⟩, hS.F ht⟩) hS.2.2 dX11_trySends_86
    · have c13 : ¬ sr.toInt = (-1) := z6 rfl (by decide) c13
      refine lv_iload hx hb dX11_trySends_16 (lv_at hl 5 rfl) ?_
      refine lv_aload_n hx hb dX11_trySends_18 rfl (lv_at hl 0 rfl) ?_
      refine va_get (D := (dC, dI)) (ci := 11) (v := .int sf) (C := RX11) (T := TX11) (N := 41) hx hb hts iX11 hown hK hP 0 rfl rfl 36 (by decide) (hts _ qw1163) (fun _ h9 => h9) rfl dX11_trySends_19 ?_
      refine lv_icmp_lt (tgt := 43) hx hb dX11_trySends_22 (by decide) (fun c22 => ?_) (fun c22 => ?_)
      · have c22 : p4.toInt < sf.toInt := z1 rfl rfl c22
        refine lv_iconst (v := 1) hx hb dX11_trySends_43 (by decide) ?_
        refine lv_goto (tgt := 48) hx hb dX11_trySends_44 (by decide) ?_
        refine lv_istore (lv' := [(6, .int 1), (0, .ref h0), (1, .int 3), (2, .int p1), (3, .int p2), (4, .int p3), (5, .int p4)]) hx hb dX11_trySends_48 hl (by decide) rfl (fun ls hl => ?_)
        refine lv_aload_n hx hb dX11_trySends_50 rfl (lv_at hl 1 rfl) ?_
        refine lv_iload hx hb dX11_trySends_51 (lv_at hl 0 rfl) ?_
        refine lv_if_eq (tgt := 61) hx hb dX11_trySends_53 (by decide) (fun c => absurd c (by decide)) (fun _ => ?_)
        refine lv_iload hx hb dX11_trySends_56 (lv_at hl 5 rfl) ?_
        refine lv_goto (tgt := 65) hx hb dX11_trySends_58 (by decide) ?_
        refine va_put (D := (dC, dI)) (ci := 11) (v := .int p3) (ty := .int) (C := RX11) (T := TX11) (N := 41) hx hb hts iX11 tyX11 tyX11_ok nmX11 hown hK hP hD hS 0 rfl rfl 35 (by decide) (hts _ qw1162) (fun _ h9 => h9) rfl (by decide +kernel) rfl rfl (Nat.le_of_ble_eq_true rfl) dX11_trySends_65 (fun H locs hP9 hD9 hS9 => ?_)
        clear hP hD hS
        obtain ⟨hP, hD⟩ := zst (wX := [(h0, .inr (11, [.int th, .ref tB, .int tsz, .int tat, .int wr, .int dp, .ref rC, .ref rV, .ref rD, .ref rK, .ref rT, .ref rS, .ref rU, .int lw, .int tx, .ref rL, .ref rX, .ref qR, .ref qB, .ref qP, .int qnb, .int qnp, .ref aR, .ref aB, .ref aP, .int nb, .int np, .ref aN, .ref rf, .int ho, .int br, .ref aK, .int ac, .long dw, .ref aE, .int p3, .int sf, .ref aA, .ref aH, .ref aI, .int hi])), (aP, .inl (cI, 20, .inl fPa))]) hP9 hD9 rfl
        have hS := hS9
        clear hP9 hD9 hS9
        refine lv_aload_n hx hb dX11_trySends_68 rfl (lv_at hl 1 rfl) ?_
        refine lv_iload hx hb dX11_trySends_69 (lv_at hl 0 rfl) ?_
        refine lv_if_eq (tgt := 79) hx hb dX11_trySends_71 (by decide) (fun c => absurd c (by decide)) (fun _ => ?_)
        refine lv_iload hx hb dX11_trySends_74 (lv_at hl 6 rfl) ?_
        refine lv_goto (tgt := 83) hx hb dX11_trySends_76 (by decide) ?_
        refine va_put (D := (dC, dI)) (ci := 11) (v := .int p4) (ty := .int) (C := RX11) (T := TX11) (N := 41) hx hb hts iX11 tyX11 tyX11_ok nmX11 hown hK hP hD hS 0 rfl rfl 36 (by decide) (hts _ qw1163) (fun _ h9 => h9) rfl (by decide +kernel) rfl rfl (Nat.le_of_ble_eq_true rfl) dX11_trySends_83 (fun H locs hP9 hD9 hS9 => ?_)
        clear hP hD hS
        obtain ⟨hP, hD⟩ := zst (wX := [(h0, .inr (11, [.int th, .ref tB, .int tsz, .int tat, .int wr, .int dp, .ref rC, .ref rV, .ref rD, .ref rK, .ref rT, .ref rS, .ref rU, .int lw, .int tx, .ref rL, .ref rX, .ref qR, .ref qB, .ref qP, .int qnb, .int qnp, .ref aR, .ref aB, .ref aP, .int nb, .int np, .ref aN, .ref rf, .int ho, .int br, .ref aK, .int ac, .long dw, .ref aE, .int p3, .int p4, .ref aA, .ref aH, .ref aI, .int hi])), (aP, .inl (cI, 20, .inl fPa))]) hP9 hD9 rfl
        have hS := hS9
        clear hP9 hD9 hS9
        rw [hQ]
        exact W.vret hx hb hr (fun t ht hW => ⟨⟨(p3, p4), rfl, (by (try dsimp only); exact fun kc s hP hI => chU_y hI (by omega) (by omega)), ⟨by rw [ht]; exact hP, hD⟩⟩, hS.F ht⟩) hS.2.2 dX11_trySends_86
      · have c22 : sf.toInt ≤ p4.toInt := z2 rfl rfl c22
        refine lv_iload hx hb dX11_trySends_25 (lv_at hl 5 rfl) ?_
        refine lv_aload_n hx hb dX11_trySends_27 rfl (lv_at hl 0 rfl) ?_
        refine va_get (D := (dC, dI)) (ci := 11) (v := .int sf) (C := RX11) (T := TX11) (N := 41) hx hb hts iX11 hown hK hP 0 rfl rfl 36 (by decide) (hts _ qw1163) (fun _ h9 => h9) rfl dX11_trySends_28 ?_
        refine lv_icmp_ne (tgt := 47) hx hb dX11_trySends_31 (by decide) (fun c31 => ?_) (fun c31 => ?_)
        · have c31 : ¬ p4.toInt = sf.toInt := z6 rfl rfl c31
          refine lv_iconst (v := 0) hx hb dX11_trySends_47 (by decide) ?_
          refine lv_istore (lv' := [(6, .int 0), (0, .ref h0), (1, .int 3), (2, .int p1), (3, .int p2), (4, .int p3), (5, .int p4)]) hx hb dX11_trySends_48 hl (by decide) rfl (fun ls hl => ?_)
          refine lv_aload_n hx hb dX11_trySends_50 rfl (lv_at hl 1 rfl) ?_
          refine lv_iload hx hb dX11_trySends_51 (lv_at hl 0 rfl) ?_
          refine lv_if_eq (tgt := 61) hx hb dX11_trySends_53 (by decide) (fun _ => ?_) (fun c => absurd (by decide) c)
          refine lv_aload_n hx hb dX11_trySends_61 rfl (lv_at hl 1 rfl) ?_
          refine va_get (D := (dC, dI)) (ci := 11) (v := .int sr) (C := RX11) (T := TX11) (N := 41) hx hb hts iX11 hown hK hP 0 rfl rfl 35 (by decide) (hts _ qw1162) (fun _ h9 => h9) rfl dX11_trySends_62 ?_
          refine va_put (D := (dC, dI)) (ci := 11) (v := .int sr) (ty := .int) (C := RX11) (T := TX11) (N := 41) hx hb hts iX11 tyX11 tyX11_ok nmX11 hown hK hP hD hS 0 rfl rfl 35 (by decide) (hts _ qw1162) (fun _ h9 => h9) rfl (by decide +kernel) rfl rfl (Nat.le_of_ble_eq_true rfl) dX11_trySends_65 (fun H locs hP9 hD9 hS9 => ?_)
          clear hP hD hS
          obtain ⟨hP, hD⟩ := zst (wX := [(h0, .inr (11, [.int th, .ref tB, .int tsz, .int tat, .int wr, .int dp, .ref rC, .ref rV, .ref rD, .ref rK, .ref rT, .ref rS, .ref rU, .int lw, .int tx, .ref rL, .ref rX, .ref qR, .ref qB, .ref qP, .int qnb, .int qnp, .ref aR, .ref aB, .ref aP, .int nb, .int np, .ref aN, .ref rf, .int ho, .int br, .ref aK, .int ac, .long dw, .ref aE, .int sr, .int sf, .ref aA, .ref aH, .ref aI, .int hi])), (aP, .inl (cI, 20, .inl fPa))]) hP9 hD9 rfl
          have hS := hS9
          clear hP9 hD9 hS9
          refine lv_aload_n hx hb dX11_trySends_68 rfl (lv_at hl 1 rfl) ?_
          refine lv_iload hx hb dX11_trySends_69 (lv_at hl 0 rfl) ?_
          refine lv_if_eq (tgt := 79) hx hb dX11_trySends_71 (by decide) (fun _ => ?_) (fun c => absurd (by decide) c)
          refine lv_aload_n hx hb dX11_trySends_79 rfl (lv_at hl 1 rfl) ?_
          refine va_get (D := (dC, dI)) (ci := 11) (v := .int sf) (C := RX11) (T := TX11) (N := 41) hx hb hts iX11 hown hK hP 0 rfl rfl 36 (by decide) (hts _ qw1163) (fun _ h9 => h9) rfl dX11_trySends_80 ?_
          refine va_put (D := (dC, dI)) (ci := 11) (v := .int sf) (ty := .int) (C := RX11) (T := TX11) (N := 41) hx hb hts iX11 tyX11 tyX11_ok nmX11 hown hK hP hD hS 0 rfl rfl 36 (by decide) (hts _ qw1163) (fun _ h9 => h9) rfl (by decide +kernel) rfl rfl (Nat.le_of_ble_eq_true rfl) dX11_trySends_83 (fun H locs hP9 hD9 hS9 => ?_)
          clear hP hD hS
          obtain ⟨hP, hD⟩ := zst (wX := [(h0, .inr (11, [.int th, .ref tB, .int tsz, .int tat, .int wr, .int dp, .ref rC, .ref rV, .ref rD, .ref rK, .ref rT, .ref rS, .ref rU, .int lw, .int tx, .ref rL, .ref rX, .ref qR, .ref qB, .ref qP, .int qnb, .int qnp, .ref aR, .ref aB, .ref aP, .int nb, .int np, .ref aN, .ref rf, .int ho, .int br, .ref aK, .int ac, .long dw, .ref aE, .int sr, .int sf, .ref aA, .ref aH, .ref aI, .int hi])), (aP, .inl (cI, 20, .inl fPa))]) hP9 hD9 rfl
          have hS := hS9
          clear hP9 hD9 hS9
          rw [hQ]
          exact W.vret hx hb hr (fun t ht hW => ⟨⟨(sr, sf), rfl, (by (try dsimp only); exact fun kc s hP hI => chU_n hI (by omega) (by omega)), ⟨by rw [ht]; exact hP, hD⟩⟩, hS.F ht⟩) hS.2.2 dX11_trySends_86
        · have c31 : p4.toInt = sf.toInt := z5 rfl rfl c31
          refine lv_iload hx hb dX11_trySends_34 (lv_at hl 4 rfl) ?_
          refine lv_aload_n hx hb dX11_trySends_36 rfl (lv_at hl 0 rfl) ?_
          refine va_get (D := (dC, dI)) (ci := 11) (v := .int sr) (C := RX11) (T := TX11) (N := 41) hx hb hts iX11 hown hK hP 0 rfl rfl 35 (by decide) (hts _ qw1162) (fun _ h9 => h9) rfl dX11_trySends_37 ?_
          refine lv_icmp_ge (tgt := 47) hx hb dX11_trySends_40 (by decide) (fun c40 => ?_) (fun c40 => ?_)
          · have c40 : sr.toInt ≤ p3.toInt := z3 rfl rfl c40
            refine lv_iconst (v := 0) hx hb dX11_trySends_47 (by decide) ?_
            refine lv_istore (lv' := [(6, .int 0), (0, .ref h0), (1, .int 3), (2, .int p1), (3, .int p2), (4, .int p3), (5, .int p4)]) hx hb dX11_trySends_48 hl (by decide) rfl (fun ls hl => ?_)
            refine lv_aload_n hx hb dX11_trySends_50 rfl (lv_at hl 1 rfl) ?_
            refine lv_iload hx hb dX11_trySends_51 (lv_at hl 0 rfl) ?_
            refine lv_if_eq (tgt := 61) hx hb dX11_trySends_53 (by decide) (fun _ => ?_) (fun c => absurd (by decide) c)
            refine lv_aload_n hx hb dX11_trySends_61 rfl (lv_at hl 1 rfl) ?_
            refine va_get (D := (dC, dI)) (ci := 11) (v := .int sr) (C := RX11) (T := TX11) (N := 41) hx hb hts iX11 hown hK hP 0 rfl rfl 35 (by decide) (hts _ qw1162) (fun _ h9 => h9) rfl dX11_trySends_62 ?_
            refine va_put (D := (dC, dI)) (ci := 11) (v := .int sr) (ty := .int) (C := RX11) (T := TX11) (N := 41) hx hb hts iX11 tyX11 tyX11_ok nmX11 hown hK hP hD hS 0 rfl rfl 35 (by decide) (hts _ qw1162) (fun _ h9 => h9) rfl (by decide +kernel) rfl rfl (Nat.le_of_ble_eq_true rfl) dX11_trySends_65 (fun H locs hP9 hD9 hS9 => ?_)
            clear hP hD hS
            obtain ⟨hP, hD⟩ := zst (wX := [(h0, .inr (11, [.int th, .ref tB, .int tsz, .int tat, .int wr, .int dp, .ref rC, .ref rV, .ref rD, .ref rK, .ref rT, .ref rS, .ref rU, .int lw, .int tx, .ref rL, .ref rX, .ref qR, .ref qB, .ref qP, .int qnb, .int qnp, .ref aR, .ref aB, .ref aP, .int nb, .int np, .ref aN, .ref rf, .int ho, .int br, .ref aK, .int ac, .long dw, .ref aE, .int sr, .int sf, .ref aA, .ref aH, .ref aI, .int hi])), (aP, .inl (cI, 20, .inl fPa))]) hP9 hD9 rfl
            have hS := hS9
            clear hP9 hD9 hS9
            refine lv_aload_n hx hb dX11_trySends_68 rfl (lv_at hl 1 rfl) ?_
            refine lv_iload hx hb dX11_trySends_69 (lv_at hl 0 rfl) ?_
            refine lv_if_eq (tgt := 79) hx hb dX11_trySends_71 (by decide) (fun _ => ?_) (fun c => absurd (by decide) c)
            refine lv_aload_n hx hb dX11_trySends_79 rfl (lv_at hl 1 rfl) ?_
            refine va_get (D := (dC, dI)) (ci := 11) (v := .int sf) (C := RX11) (T := TX11) (N := 41) hx hb hts iX11 hown hK hP 0 rfl rfl 36 (by decide) (hts _ qw1163) (fun _ h9 => h9) rfl dX11_trySends_80 ?_
            refine va_put (D := (dC, dI)) (ci := 11) (v := .int sf) (ty := .int) (C := RX11) (T := TX11) (N := 41) hx hb hts iX11 tyX11 tyX11_ok nmX11 hown hK hP hD hS 0 rfl rfl 36 (by decide) (hts _ qw1163) (fun _ h9 => h9) rfl (by decide +kernel) rfl rfl (Nat.le_of_ble_eq_true rfl) dX11_trySends_83 (fun H locs hP9 hD9 hS9 => ?_)
            clear hP hD hS
            obtain ⟨hP, hD⟩ := zst (wX := [(h0, .inr (11, [.int th, .ref tB, .int tsz, .int tat, .int wr, .int dp, .ref rC, .ref rV, .ref rD, .ref rK, .ref rT, .ref rS, .ref rU, .int lw, .int tx, .ref rL, .ref rX, .ref qR, .ref qB, .ref qP, .int qnb, .int qnp, .ref aR, .ref aB, .ref aP, .int nb, .int np, .ref aN, .ref rf, .int ho, .int br, .ref aK, .int ac, .long dw, .ref aE, .int sr, .int sf, .ref aA, .ref aH, .ref aI, .int hi])), (aP, .inl (cI, 20, .inl fPa))]) hP9 hD9 rfl
            have hS := hS9
            clear hP9 hD9 hS9
            rw [hQ]
            exact W.vret hx hb hr (fun t ht hW => ⟨⟨(sr, sf), rfl, (by (try dsimp only); exact fun kc s hP hI => chU_n hI (by omega) (by omega)), ⟨by rw [ht]; exact hP, hD⟩⟩, hS.F ht⟩) hS.2.2 dX11_trySends_86
          · have c40 : p3.toInt < sr.toInt := z4 rfl rfl c40
            refine lv_iconst (v := 1) hx hb dX11_trySends_43 (by decide) ?_
            refine lv_goto (tgt := 48) hx hb dX11_trySends_44 (by decide) ?_
            refine lv_istore (lv' := [(6, .int 1), (0, .ref h0), (1, .int 3), (2, .int p1), (3, .int p2), (4, .int p3), (5, .int p4)]) hx hb dX11_trySends_48 hl (by decide) rfl (fun ls hl => ?_)
            refine lv_aload_n hx hb dX11_trySends_50 rfl (lv_at hl 1 rfl) ?_
            refine lv_iload hx hb dX11_trySends_51 (lv_at hl 0 rfl) ?_
            refine lv_if_eq (tgt := 61) hx hb dX11_trySends_53 (by decide) (fun c => absurd c (by decide)) (fun _ => ?_)
            refine lv_iload hx hb dX11_trySends_56 (lv_at hl 5 rfl) ?_
            refine lv_goto (tgt := 65) hx hb dX11_trySends_58 (by decide) ?_
            refine va_put (D := (dC, dI)) (ci := 11) (v := .int p3) (ty := .int) (C := RX11) (T := TX11) (N := 41) hx hb hts iX11 tyX11 tyX11_ok nmX11 hown hK hP hD hS 0 rfl rfl 35 (by decide) (hts _ qw1162) (fun _ h9 => h9) rfl (by decide +kernel) rfl rfl (Nat.le_of_ble_eq_true rfl) dX11_trySends_65 (fun H locs hP9 hD9 hS9 => ?_)
            clear hP hD hS
            obtain ⟨hP, hD⟩ := zst (wX := [(h0, .inr (11, [.int th, .ref tB, .int tsz, .int tat, .int wr, .int dp, .ref rC, .ref rV, .ref rD, .ref rK, .ref rT, .ref rS, .ref rU, .int lw, .int tx, .ref rL, .ref rX, .ref qR, .ref qB, .ref qP, .int qnb, .int qnp, .ref aR, .ref aB, .ref aP, .int nb, .int np, .ref aN, .ref rf, .int ho, .int br, .ref aK, .int ac, .long dw, .ref aE, .int p3, .int sf, .ref aA, .ref aH, .ref aI, .int hi])), (aP, .inl (cI, 20, .inl fPa))]) hP9 hD9 rfl
            have hS := hS9
            clear hP9 hD9 hS9
            refine lv_aload_n hx hb dX11_trySends_68 rfl (lv_at hl 1 rfl) ?_
            refine lv_iload hx hb dX11_trySends_69 (lv_at hl 0 rfl) ?_
            refine lv_if_eq (tgt := 79) hx hb dX11_trySends_71 (by decide) (fun c => absurd c (by decide)) (fun _ => ?_)
            refine lv_iload hx hb dX11_trySends_74 (lv_at hl 6 rfl) ?_
            refine lv_goto (tgt := 83) hx hb dX11_trySends_76 (by decide) ?_
            refine va_put (D := (dC, dI)) (ci := 11) (v := .int p4) (ty := .int) (C := RX11) (T := TX11) (N := 41) hx hb hts iX11 tyX11 tyX11_ok nmX11 hown hK hP hD hS 0 rfl rfl 36 (by decide) (hts _ qw1163) (fun _ h9 => h9) rfl (by decide +kernel) rfl rfl (Nat.le_of_ble_eq_true rfl) dX11_trySends_83 (fun H locs hP9 hD9 hS9 => ?_)
            clear hP hD hS
            obtain ⟨hP, hD⟩ := zst (wX := [(h0, .inr (11, [.int th, .ref tB, .int tsz, .int tat, .int wr, .int dp, .ref rC, .ref rV, .ref rD, .ref rK, .ref rT, .ref rS, .ref rU, .int lw, .int tx, .ref rL, .ref rX, .ref qR, .ref qB, .ref qP, .int qnb, .int qnp, .ref aR, .ref aB, .ref aP, .int nb, .int np, .ref aN, .ref rf, .int ho, .int br, .ref aK, .int ac, .long dw, .ref aE, .int p3, .int p4, .ref aA, .ref aH, .ref aI, .int hi])), (aP, .inl (cI, 20, .inl fPa))]) hP9 hD9 rfl
            have hS := hS9
            clear hP9 hD9 hS9
            rw [hQ]
            exact W.vret hx hb hr (fun t ht hW => ⟨⟨(p3, p4), rfl, (by (try dsimp only); exact fun kc s hP hI => chU_y hI (by omega) (by omega)), ⟨by rw [ht]; exact hP, hD⟩⟩, hS.F ht⟩) hS.2.2 dX11_trySends_86
