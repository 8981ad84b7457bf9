set_option maxHeartbeats 4000000 in
set_option maxRecDepth 100000 in
theorem g_X11_looksBy (l : Launch) (dC : Nat → ClassId) (dI : Nat → Nat → Nat) (cI cJ : ClassId) (h0 : Nat) (p0 : Int32) (p1 : Int32) (p2 : Int32) (p3 : Int32) (th : Int32) (tB : Nat) (tsz : Int32) (tat : Int32) (wr : Int32) (dp : Int32) (rC : Nat) (rV : Nat) (rD : Nat) (rK : Nat) (rT : Nat) (rS : Nat) (rU : Nat) (lw : Int32) (tx : Int32) (rL : Nat) (rX : Nat) (qR : Nat) (qB : Nat) (qP : Nat) (qnb : Int32) (qnp : Int32) (aR : Nat) (aB : Nat) (aP : Nat) (nb : Int32) (np : Int32) (aN : Nat) (rf : Nat) (ho : Int32) (br : Int32) (aK : Nat) (ac : Int32) (dw : Int64) (aE : Nat) (sr : Int32) (sf : Int32) (aA : Nat) (aH : Nat) (aI : Nat) (hi : Int32) (fC : Nat → Int32) (fV : Nat → Int32) (fK : Nat → Int32) (fT : Nat → Int32) (fS : Nat → Int32) (fU : Nat → Int32) (fL : Nat → Int32) (fX : Nat → Int32) (fBr : Nat → Int32) (fPa : Nat → Int32) (fN : Nat → Int32) (sz : Nat) (n_ac : 0 ≤ ac.toInt ∧ ac.toInt ≤ 40) (n_hi : 0 ≤ hi.toInt ∧ hi.toInt ≤ 1) (n_ho : (-1) ≤ ho.toInt ∧ ho.toInt ≤ 3) (n_lw : 0 ≤ lw.toInt ∧ lw.toInt ≤ 4) (n_nb : 0 ≤ nb.toInt ∧ nb.toInt ≤ 6) (n_np : 0 ≤ np.toInt ∧ np.toInt ≤ 5) (n_p0 : 0 ≤ p0.toInt ∧ p0.toInt ≤ 4) (n_p1 : 0 ≤ p1.toInt ∧ p1.toInt ≤ 5) (n_qnb : 0 ≤ qnb.toInt ∧ qnb.toInt ≤ 6) (n_qnp : 0 ≤ qnp.toInt ∧ qnp.toInt ≤ 5) (n_tat : 0 ≤ tat.toInt ∧ tat.toInt ≤ 260) (n_tsz : 0 ≤ tsz.toInt ∧ tsz.toInt ≤ 240) (n_wr : (-1) ≤ wr.toInt ∧ wr.toInt ≤ 260) (hls : zLs ho fC fV fK fT fS fU)   : Met l yX11_looksBy (.code yX11_looksBy cX11_looksBy 6 (some .int) :: wA) ({ frames := 5, cells := 0, slots := 0, locals := 122 }) (zP (dC, dI) [(cI, .int), (cJ, .long)] [.ref h0, .int p0, .int p1, .int p2, .int p3] sz [(h0, .inr (11, [.int th, .ref tB, .int tsz, .int tat, .int wr, .int dp, .ref rC, .ref rV, .ref rD, .ref rK, .ref rT, .ref rS, .ref rU, .int lw, .int tx, .ref rL, .ref rX, .ref qR, .ref qB, .ref qP, .int qnb, .int qnp, .ref aR, .ref aB, .ref aP, .int nb, .int np, .ref aN, .ref rf, .int ho, .int br, .ref aK, .int ac, .long dw, .ref aE, .int sr, .int sf, .ref aA, .ref aH, .ref aI, .int hi])), (rC, .inl (cI, 2600, .inl fC)), (rV, .inl (cI, 2600, .inl fV)), (rK, .inl (cI, 5, .inl fK)), (rT, .inl (cI, 700, .inl fT)), (rS, .inl (cI, 700, .inl fS)), (rU, .inl (cI, 700, .inl fU)), (rL, .inl (cI, 6, .inl fL)), (rX, .inl (cI, 80, .inl fX)), (aB, .inl (cI, 24, .inl fBr)), (aP, .inl (cI, 20, .inl fPa)), (aN, .inl (cI, 97, .inl fN))]) (va_Qi (fun (r : Int32) (u : (Nat → Int32) × (Nat → Int32)) => (0 ≤ r.toInt) ∧ (r.toInt ≤ 9) ∧ (∀ lw : Option ((Int → Int) × Int), zLwR ho fC fV fK fT fS fU lw → zB5 p2 (fBr (4 * p1.toInt.toNat + 2)) p3 (fPa (4 * p0.toInt.toNat)) (fN (6 + p0.toInt.toNat)) (fN 15) → r = zLkv lw p2 (fBr (4 * p1.toInt.toNat + 2)) p3 (fPa (4 * p0.toInt.toNat)) (fN (6 + p0.toInt.toNat)) (fN 15))) (fun (u : (Nat → Int32) × (Nat → Int32)) (t : State) => va_P (dC, dI) vwCl [(h0, .inr (11, [.int th, .ref tB, .int tsz, .int tat, .int wr, .int dp, .ref rC, .ref rV, .ref rD, .ref rK, .ref rT, .ref rS, .ref rU, .int lw, .int tx, .ref rL, .ref rX, .ref qR, .ref qB, .ref qP, .int qnb, .int qnp, .ref aR, .ref aB, .ref aP, .int nb, .int np, .ref aN, .ref rf, .int ho, .int br, .ref aK, .int ac, .long dw, .ref aE, .int sr, .int sf, .ref aA, .ref aH, .ref aI, .int hi])), (rC, .inl (cI, 2600, .inl fC)), (rV, .inl (cI, 2600, .inl fV)), (rK, .inl (cI, 5, .inl fK)), (rT, .inl (cI, 700, .inl fT)), (rS, .inl (cI, 700, .inl fS)), (rU, .inl (cI, 700, .inl fU)), (rL, .inl (cI, 6, .inl u.1)), (rX, .inl (cI, 80, .inl u.2)), (aB, .inl (cI, 24, .inl fBr)), (aP, .inl (cI, 20, .inl fPa)), (aN, .inl (cI, 97, .inl fN))] t.heap ∧ va_D (va_A [(h0, .inr (11, [.int th, .ref tB, .int tsz, .int tat, .int wr, .int dp, .ref rC, .ref rV, .ref rD, .ref rK, .ref rT, .ref rS, .ref rU, .int lw, .int tx, .ref rL, .ref rX, .ref qR, .ref qB, .ref qP, .int qnb, .int qnp, .ref aR, .ref aB, .ref aP, .int nb, .int np, .ref aN, .ref rf, .int ho, .int br, .ref aK, .int ac, .long dw, .ref aE, .int sr, .int sf, .ref aA, .ref aH, .ref aI, .int hi])), (rC, .inl (cI, 2600, .inl fC)), (rV, .inl (cI, 2600, .inl fV)), (rK, .inl (cI, 5, .inl fK)), (rT, .inl (cI, 700, .inl fT)), (rS, .inl (cI, 700, .inl fS)), (rU, .inl (cI, 700, .inl fU)), (rL, .inl (cI, 6, .inl fL)), (rX, .inl (cI, 80, .inl fX)), (aB, .inl (cI, 24, .inl fBr)), (aP, .inl (cI, 20, .inl fPa)), (aN, .inl (cI, 97, .inl fN))] sz) [(h0, .inr (11, [.int th, .ref tB, .int tsz, .int tat, .int wr, .int dp, .ref rC, .ref rV, .ref rD, .ref rK, .ref rT, .ref rS, .ref rU, .int lw, .int tx, .ref rL, .ref rX, .ref qR, .ref qB, .ref qP, .int qnb, .int qnp, .ref aR, .ref aB, .ref aP, .int nb, .int np, .ref aN, .ref rf, .int ho, .int br, .ref aK, .int ac, .long dw, .ref aE, .int sr, .int sf, .ref aA, .ref aH, .ref aI, .int hi])), (rC, .inl (cI, 2600, .inl fC)), (rV, .inl (cI, 2600, .inl fV)), (rK, .inl (cI, 5, .inl fK)), (rT, .inl (cI, 700, .inl fT)), (rS, .inl (cI, 700, .inl fS)), (rU, .inl (cI, 700, .inl fU)), (rL, .inl (cI, 6, .inl u.1)), (rX, .inl (cI, 80, .inl u.2)), (aB, .inl (cI, 24, .inl fBr)), (aP, .inl (cI, 20, .inl fPa)), (aN, .inl (cI, 97, .inl fN))]) (va_A [(h0, .inr (11, [.int th, .ref tB, .int tsz, .int tat, .int wr, .int dp, .ref rC, .ref rV, .ref rD, .ref rK, .ref rT, .ref rS, .ref rU, .int lw, .int tx, .ref rL, .ref rX, .ref qR, .ref qB, .ref qP, .int qnb, .int qnp, .ref aR, .ref aB, .ref aP, .int nb, .int np, .ref aN, .ref rf, .int ho, .int br, .ref aK, .int ac, .long dw, .ref aE, .int sr, .int sf, .ref aA, .ref aH, .ref aI, .int hi])), (rC, .inl (cI, 2600, .inl fC)), (rV, .inl (cI, 2600, .inl fV)), (rK, .inl (cI, 5, .inl fK)), (rT, .inl (cI, 700, .inl fT)), (rS, .inl (cI, 700, .inl fS)), (rU, .inl (cI, 700, .inl fU)), (rL, .inl (cI, 6, .inl fL)), (rX, .inl (cI, 80, .inl fX)), (aB, .inl (cI, 24, .inl fBr)), (aP, .inl (cI, 20, .inl fPa)), (aN, .inl (cI, 97, .inl fN))] sz)) 0 0 (va_A [(h0, .inr (11, [.int th, .ref tB, .int tsz, .int tat, .int wr, .int dp, .ref rC, .ref rV, .ref rD, .ref rK, .ref rT, .ref rS, .ref rU, .int lw, .int tx, .ref rL, .ref rX, .ref qR, .ref qB, .ref qP, .int qnb, .int qnp, .ref aR, .ref aB, .ref aP, .int nb, .int np, .ref aN, .ref rf, .int ho, .int br, .ref aK, .int ac, .long dw, .ref aE, .int sr, .int sf, .ref aA, .ref aH, .ref aI, .int hi])), (rC, .inl (cI, 2600, .inl fC)), (rV, .inl (cI, 2600, .inl fV)), (rK, .inl (cI, 5, .inl fK)), (rT, .inl (cI, 700, .inl fT)), (rS, .inl (cI, 700, .inl fS)), (rU, .inl (cI, 700, .inl fU)), (rL, .inl (cI, 6, .inl fL)), (rX, .inl (cI, 80, .inl fX)), (aB, .inl (cI, 24, .inl fBr)), (aP, .inl (cI, 20, .inl fPa)), (aN, .inl (cI, 97, .inl fN))] sz) := by
  refine Met.ofW (cc := cX11_looksBy) (maxL := 6) (ret := (some .int)) (by decide) rfl ?_
  intro p e s m args below meth c s₁ B hml hv
  have y_ac : zHid (0 ≤ ac.toInt ∧ ac.toInt ≤ 40) := n_ac
  have y_hi : zHid (0 ≤ hi.toInt ∧ hi.toInt ≤ 1) := n_hi
  have y_lw : zHid (0 ≤ lw.toInt ∧ lw.toInt ≤ 4) := n_lw
  have y_nb : zHid (0 ≤ nb.toInt ∧ nb.toInt ≤ 6) := n_nb
  have y_np : zHid (0 ≤ np.toInt ∧ np.toInt ≤ 5) := n_np
  have y_qnb : zHid (0 ≤ qnb.toInt ∧ qnb.toInt ≤ 6) := n_qnb
  have y_qnp : zHid (0 ≤ qnp.toInt ∧ qnp.toInt ≤ 5) := n_qnp
  have y_tat : zHid (0 ≤ tat.toInt ∧ tat.toInt ≤ 260) := n_tat
  have y_tsz : zHid (0 ≤ tsz.toInt ∧ tsz.toInt ≤ 240) := n_tsz
  have y_wr : zHid ((-1) ≤ wr.toInt ∧ wr.toInt ≤ 260) := n_wr
  clear n_ac n_hi n_lw n_nb n_np n_qnb n_qnp n_tat n_tsz n_wr
  obtain ⟨hargs, hsz, hP, hK, hT⟩ := hv
  have hx := B.exec
  have hb := B.bytes
  have hr := B.returns
  have hts : ∀ w ∈ wA, w.before args s = true := fun w h => atoms_spec (ws := .code yX11_looksBy cX11_looksBy 6 (some .int) :: wA) B.pre w (List.mem_cons_of_mem _ h)
  have hown : s.vm.findClass RX11 = some m.cls := findClass_of_methodNamed B.named
  have hlocks := B.notSynchronized
  subst hsz
  have hD := hT.self (sz := s.heap.size)
  generalize hAe : va_A [(h0, .inr (11, [.int th, .ref tB, .int tsz, .int tat, .int wr, .int dp, .ref rC, .ref rV, .ref rD, .ref rK, .ref rT, .ref rS, .ref rU, .int lw, .int tx, .ref rL, .ref rX, .ref qR, .ref qB, .ref qP, .int qnb, .int qnp, .ref aR, .ref aB, .ref aP, .int nb, .int np, .ref aN, .ref rf, .int ho, .int br, .ref aK, .int ac, .long dw, .ref aE, .int sr, .int sf, .ref aA, .ref aH, .ref aI, .int hi])), (rC, .inl (cI, 2600, .inl fC)), (rV, .inl (cI, 2600, .inl fV)), (rK, .inl (cI, 5, .inl fK)), (rT, .inl (cI, 700, .inl fT)), (rS, .inl (cI, 700, .inl fS)), (rU, .inl (cI, 700, .inl fU)), (rL, .inl (cI, 6, .inl fL)), (rX, .inl (cI, 80, .inl fX)), (aB, .inl (cI, 24, .inl fBr)), (aP, .inl (cI, 20, .inl fPa)), (aN, .inl (cI, 97, .inl fN))] s.heap.size = A at hD ⊢
  have hA : ∀ q : Nat, s.heap.size ≤ q → A q := fun q h => by rw [← hAe]; exact Or.inr h
  have hl := lv_entry ([.ref h0, .int p0, .int p1, .int p2, .int p3]) (n := 6) (Nat.le_of_ble_eq_true rfl)
  rw [show entryFrame m args 6 = entryFrame m ([.ref h0, .int p0, .int p1, .int p2, .int p3] : List Value).toArray 6 by rw [hargs], lg_entry_eq]
  generalize (lg_sl ([.ref h0, .int p0, .int p1, .int p2, .int p3]) ++ List.replicate (6 - (lg_sl ([.ref h0, .int p0, .int p1, .int p2, .int p3])).length) Slot.unset).toArray = ls at hl ⊢
  have hl : lv_has ls 6 [(0, .ref h0), (1, .int p0), (2, .int p1), (3, .int p2), (4, .int p3)] := hl
  refine zstart (fun H hH => ?_)
  rw [← hH] at hP
  have hS : va_S A s.heap H [] := by rw [hH]; exact va_S.rf
  generalize ([] : List Loc) = locs at hS ⊢
  refine zgen (fun R Q hR hQ => ?_)
  refine lv_iload_n hx hb dX11_looksBy_0 rfl (lv_at hl 3 rfl) ?_
  refine lv_aload_n hx hb dX11_looksBy_1 rfl (lv_at hl 0 rfl) ?_
  refine lv_iload_n hx hb dX11_looksBy_2 rfl (lv_at hl 1 rfl) ?_
  refine lv_iload hx hb dX11_looksBy_3 (lv_at hl 4 rfl) ?_
  obtain ⟨hPc, hDc⟩ := zc2 (wc := [(h0, .inr (11, [.int th, .ref tB, .int tsz, .int tat, .int wr, .int dp, .ref rC, .ref rV, .ref rD, .ref rK, .ref rT, .ref rS, .ref rU, .int lw, .int tx, .ref rL, .ref rX, .ref qR, .ref qB, .ref qP, .int qnb, .int qnp, .ref aR, .ref aB, .ref aP, .int nb, .int np, .ref aN, .ref rf, .int ho, .int br, .ref aK, .int ac, .long dw, .ref aE, .int sr, .int sf, .ref aA, .ref aH, .ref aI, .int hi])), (aN, .inl (cI, 97, .inl fN))]) hP hD [0, 11] (by decide +kernel) rfl
  have hFc := zfr hS hA
  refine va_calli (va_runV (As := [.int p0, .int p3]) (rest := [.int p2]) ⟨hx, hb, hml, hown, hts⟩ (g_X11_flatteryBy l dC dI cI cJ h0 p0 p3 th tB tsz tat wr dp rC rV rD rK rT rS rU lw tx rL rX qR qB qP qnb qnp aR aB aP nb np aN rf ho br aK ac dw aE sr sf aA aH aI hi fN H.size y_ac y_hi n_ho y_lw y_nb y_np n_p0 y_qnb y_qnp y_tat y_tsz y_wr) (cwV 2 hts (zgV qw1426 qw1428 qw59 qw108 qw1429) rfl rfl rfl hd_X11_flatteryBy ⟨by rw [hR]; exact Nat.le_of_ble_eq_true rfl, by rw [hR]; exact Nat.le_of_ble_eq_true rfl⟩) (zPV hPc hK hDc (va_recv (q := (RX11, TX11, 41)) hK hP (ci := 11) (q0 := 0) rfl rfl)) rfl rfl hl.1 rfl (lv_room (Nat.le_of_ble_eq_true rfl)) dX11_looksBy_5 ⟨Nat.zero_le _, Nat.zero_le _⟩) hS (fun q _ h => hFc q h) hFc (fun v5 u5 t H locs ht hvm hw hB hz1 hk1 hS9 => ?_)
  replace hP := zkeep hP hk1
  replace hS := hS9
  clear hPc hDc hFc hk1 hz1 hvm hS9
  obtain ⟨f5_0, f5_1⟩ : (0 ≤ v5.toInt) ∧ (v5 = zFl (fN (6 + p0.toInt.toNat)) p3) := hw
  have F5 := f5_1
  refine lv_iadd hx hb dX11_looksBy_8 ?_
  refine lv_topi (fun v8 e8 => ?_)
  refine lv_aload_n hx hb dX11_looksBy_9 rfl (lv_at hl 0 rfl) ?_
  refine lv_iload_n hx hb dX11_looksBy_10 rfl (lv_at hl 2 rfl) ?_
  refine lv_iconst (v := 2) hx hb dX11_looksBy_11 (by decide) ?_
  obtain ⟨hPc, hDc⟩ := zc2 (wc := [(h0, .inr (11, [.int th, .ref tB, .int tsz, .int tat, .int wr, .int dp, .ref rC, .ref rV, .ref rD, .ref rK, .ref rT, .ref rS, .ref rU, .int lw, .int tx, .ref rL, .ref rX, .ref qR, .ref qB, .ref qP, .int qnb, .int qnp, .ref aR, .ref aB, .ref aP, .int nb, .int np, .ref aN, .ref rf, .int ho, .int br, .ref aK, .int ac, .long dw, .ref aE, .int sr, .int sf, .ref aA, .ref aH, .ref aI, .int hi])), (aB, .inl (cI, 24, .inl fBr))]) hP hD [0, 9] (by decide +kernel) rfl
  have hFc := zfr hS hA
  refine va_calli (va_runV (As := [.int p1, .int 2]) (rest := [.int v8]) ⟨hx, hb, hml, hown, hts⟩ (g_X11_of l dC dI cI cJ h0 p1 2 th tB tsz tat wr dp rC rV rD rK rT rS rU lw tx rL rX qR qB qP qnb qnp aR aB aP nb np aN rf ho br aK ac dw aE sr sf aA aH aI hi fBr H.size y_ac y_hi n_ho y_lw y_nb y_np n_p1 (by decide) y_qnb y_qnp y_tat y_tsz y_wr) (cwV 2 hts (zgV qw1386 qw1388 qw54 qw108 qw1389) rfl rfl rfl hd_X11_of ⟨by rw [hR]; exact Nat.le_of_ble_eq_true rfl, by rw [hR]; exact Nat.le_of_ble_eq_true rfl⟩) (zPV hPc hK hDc (va_recv (q := (RX11, TX11, 41)) hK hP (ci := 11) (q0 := 0) rfl rfl)) rfl rfl hl.1 rfl (lv_room (Nat.le_of_ble_eq_true rfl)) dX11_looksBy_12 ⟨Nat.zero_le _, Nat.zero_le _⟩) hS (fun q _ h => hFc q h) hFc (fun v12 u12 t H locs ht hvm hw hB hz1 hk1 hS9 => ?_)
  replace hP := zkeep hP hk1
  replace hS := hS9
  clear hPc hDc hFc hk1 hz1 hvm hS9
  have zn12_2 : (2 : Int32).toInt = 2 := by decide
  have f12_0 : (v12 = fBr (4 * p1.toInt.toNat + (2 : Int32).toInt.toNat)) := hw
  have F12 := f12_0
  refine lv_iconst (v := 2) hx hb dX11_looksBy_15 (by decide) ?_
  refine lv_idiv hx hb dX11_looksBy_16 (by decide) ?_
  refine lv_topi (fun v16 e16 => ?_)
  refine lv_isub hx hb dX11_looksBy_17 ?_
  refine lv_topi (fun v17 e17 => ?_)
  refine lv_istore (lv' := [(5, .int v17), (0, .ref h0), (1, .int p0), (2, .int p1), (3, .int p2), (4, .int p3)]) hx hb dX11_looksBy_18 hl (by decide) rfl (fun ls hl => ?_)
  refine lv_aload_n hx hb dX11_looksBy_20 rfl (lv_at hl 1 rfl) ?_
  refine va_get (D := (dC, dI)) (ci := 11) (v := .int ho) (C := RX11) (T := TX11) (N := 41) hx hb hts iX11 hown hK hP 0 rfl rfl 29 (by decide) (hts _ qw1156) (fun _ h9 => h9) rfl dX11_looksBy_21 ?_
  refine lv_iconst (v := (-1)) hx hb dX11_looksBy_24 (by decide) ?_
  refine lv_icmp_eq (tgt := 105) hx hb dX11_looksBy_25 (by decide) (fun c25 => ?_) (fun c25 => ?_)
  · have c25 : ho.toInt = (-1) := z5 rfl (by decide) c25
    refine lv_iconst (v := 0) hx hb dX11_looksBy_105 (by decide) ?_
    refine lv_bipush (v := 9) hx hb dX11_looksBy_106 (by decide) ?_
    refine lv_iload hx hb dX11_looksBy_108 (lv_at hl 0 rfl) ?_
    refine va_mmin hx hb (by rw [hml]; exact hl.1.symm) hown (hts _ qw1468) (hts _ qw569) (hts _ qw112) (hts _ qw570) (by rw [hR]; exact Nat.le_of_ble_eq_true rfl) (by rw [hR]; exact Nat.le_of_ble_eq_true rfl) (Nat.zero_le _) (Nat.zero_le _) dX11_looksBy_110 ?_
    refine lv_topi (fun v110 e110 => ?_)
    have zc110_0 : (9 : Int32).toInt = 9 := by decide
    have i110 := zmmin e110
    refine va_mmax hx hb (by rw [hml]; exact hl.1.symm) hown (hts _ qw1430) (hts _ qw634) (hts _ qw112) (hts _ qw635) (by rw [hR]; exact Nat.le_of_ble_eq_true rfl) (by rw [hR]; exact Nat.le_of_ble_eq_true rfl) (Nat.zero_le _) (Nat.zero_le _) dX11_looksBy_113 ?_
    refine lv_topi (fun v113 e113 => ?_)
    have zc113_0 : (0 : Int32).toInt = 0 := by decide
    have i113 := zmmax e113
    rw [hQ]
    exact W.iret (v := v113) hx hb hr (fun t ht hW => ⟨⟨v113, (fL, fX), rfl, ⟨by (try dsimp only); omega, by (try dsimp only); omega, by (try dsimp only); first | exact fun lw hl hb => by rw [zLwR_n hl (by omega)]; exact zLkv_n e110 e113 (zlk_a e17 e8 e16 F5 (F12.trans (congrArg fBr (by have : (2 : Int32).toInt = 2 := (by decide); omega)))) | exact fun lw hl hb => by obtain ⟨t, et, hr⟩ := zLwR_s hl (by omega); rw [et]; exact zLkv_r hr hb (fun i hi => (zlet6 e34 e46 e54 e66 e81 e94 i hi).trans (by rw [F43.trans (congrArg fBr (show 4 * p1.toInt.toNat + (2 : Int32).toInt.toNat = 4 * p1.toInt.toNat + 2 from (by have : (2 : Int32).toInt = 2 := (by decide); omega))), F63.trans (congrArg fPa (show 4 * p0.toInt.toNat + (0 : Int32).toInt.toNat = 4 * p0.toInt.toNat from (by have : (0 : Int32).toInt = 0 := (by decide); omega))), zIxN (n := 6 + p0.toInt.toNat) e80 (by omega), zIxN (n := 15) e93 (by decide)])) F100 e110 e113⟩, ⟨by rw [ht]; exact hP, hD⟩⟩, hS.F ht⟩) hS.2.2 dX11_looksBy_116
  · have c25 : ¬ ho.toInt = (-1) := z6 rfl (by decide) c25
    refine lv_aload_n hx hb dX11_looksBy_28 rfl (lv_at hl 1 rfl) ?_
    refine va_get (D := (dC, dI)) (ci := 11) (v := .ref rL) (C := RX11) (T := TX11) (N := 41) hx hb hts iX11 hown hK hP 0 rfl rfl 15 (by decide) (hts _ qw1142) (fun _ h9 => h9) rfl dX11_looksBy_29 ?_
    refine lv_iconst (v := 0) hx hb dX11_looksBy_32 (by decide) ?_
    refine lv_iload_n hx hb dX11_looksBy_33 rfl (lv_at hl 4 rfl) ?_
    refine va_iast hx hb hK hP hD hS 7 0 rfl rfl (by unfold vp_in; decide) dX11_looksBy_34 (fun H locs hP9 hD9 hS9 => ?_)
    clear hP hD hS
    obtain ⟨v34_f, e34⟩ : ∃ g : Nat → Int32, g = upd fL (0 : Int32).toNatClampNeg p2 := ⟨_, rfl⟩
    rw [← e34] at hP9 hD9
    obtain ⟨hP, hD⟩ := zst (wX := [(h0, .inr (11, [.int th, .ref tB, .int tsz, .int tat, .int wr, .int dp, .ref rC, .ref rV, .ref rD, .ref rK, .ref rT, .ref rS, .ref rU, .int lw, .int tx, .ref rL, .ref rX, .ref qR, .ref qB, .ref qP, .int qnb, .int qnp, .ref aR, .ref aB, .ref aP, .int nb, .int np, .ref aN, .ref rf, .int ho, .int br, .ref aK, .int ac, .long dw, .ref aE, .int sr, .int sf, .ref aA, .ref aH, .ref aI, .int hi])), (rC, .inl (cI, 2600, .inl fC)), (rV, .inl (cI, 2600, .inl fV)), (rK, .inl (cI, 5, .inl fK)), (rT, .inl (cI, 700, .inl fT)), (rS, .inl (cI, 700, .inl fS)), (rU, .inl (cI, 700, .inl fU)), (rL, .inl (cI, 6, .inl v34_f)), (rX, .inl (cI, 80, .inl fX)), (aB, .inl (cI, 24, .inl fBr)), (aP, .inl (cI, 20, .inl fPa)), (aN, .inl (cI, 97, .inl fN))]) hP9 hD9 rfl
    have hS := hS9
    clear hP9 hD9 hS9
    refine lv_aload_n hx hb dX11_looksBy_35 rfl (lv_at hl 1 rfl) ?_
    refine va_get (D := (dC, dI)) (ci := 11) (v := .ref rL) (C := RX11) (T := TX11) (N := 41) hx hb hts iX11 hown hK hP 0 rfl rfl 15 (by decide) (hts _ qw1142) (fun _ h9 => h9) rfl dX11_looksBy_36 ?_
    refine lv_iconst (v := 1) hx hb dX11_looksBy_39 (by decide) ?_
    refine lv_aload_n hx hb dX11_looksBy_40 rfl (lv_at hl 1 rfl) ?_
    refine lv_iload_n hx hb dX11_looksBy_41 rfl (lv_at hl 3 rfl) ?_
    refine lv_iconst (v := 2) hx hb dX11_looksBy_42 (by decide) ?_
    obtain ⟨hPc, hDc⟩ := zc2 (wc := [(h0, .inr (11, [.int th, .ref tB, .int tsz, .int tat, .int wr, .int dp, .ref rC, .ref rV, .ref rD, .ref rK, .ref rT, .ref rS, .ref rU, .int lw, .int tx, .ref rL, .ref rX, .ref qR, .ref qB, .ref qP, .int qnb, .int qnp, .ref aR, .ref aB, .ref aP, .int nb, .int np, .ref aN, .ref rf, .int ho, .int br, .ref aK, .int ac, .long dw, .ref aE, .int sr, .int sf, .ref aA, .ref aH, .ref aI, .int hi])), (aB, .inl (cI, 24, .inl fBr))]) hP hD [0, 9] (by decide +kernel) rfl
    have hFc := zfr hS hA
    refine va_calli (va_runV (As := [.int p1, .int 2]) (rest := [.int 1, .ref rL]) ⟨hx, hb, hml, hown, hts⟩ (g_X11_of l dC dI cI cJ h0 p1 2 th tB tsz tat wr dp rC rV rD rK rT rS rU lw tx rL rX qR qB qP qnb qnp aR aB aP nb np aN rf ho br aK ac dw aE sr sf aA aH aI hi fBr H.size y_ac y_hi n_ho y_lw y_nb y_np n_p1 (by decide) y_qnb y_qnp y_tat y_tsz y_wr) (cwV 2 hts (zgV qw1386 qw1388 qw54 qw108 qw1389) rfl rfl rfl hd_X11_of ⟨by rw [hR]; exact Nat.le_of_ble_eq_true rfl, by rw [hR]; exact Nat.le_of_ble_eq_true rfl⟩) (zPV hPc hK hDc (va_recv (q := (RX11, TX11, 41)) hK hP (ci := 11) (q0 := 0) rfl rfl)) rfl rfl hl.1 rfl (lv_room (Nat.le_of_ble_eq_true rfl)) dX11_looksBy_43 ⟨Nat.zero_le _, Nat.zero_le _⟩) hS (fun q _ h => hFc q h) hFc (fun v43 u43 t H locs ht hvm hw hB hz1 hk1 hS9 => ?_)
    replace hP := zkeep hP hk1
    replace hS := hS9
    clear hPc hDc hFc hk1 hz1 hvm hS9
    have zn43_2 : (2 : Int32).toInt = 2 := by decide
    have f43_0 : (v43 = fBr (4 * p1.toInt.toNat + (2 : Int32).toInt.toNat)) := hw
    have F43 := f43_0
    refine va_iast hx hb hK hP hD hS 7 0 rfl rfl (by unfold vp_in; decide) dX11_looksBy_46 (fun H locs hP9 hD9 hS9 => ?_)
    clear hP hD hS
    obtain ⟨v46_f, e46⟩ : ∃ g : Nat → Int32, g = upd v34_f (1 : Int32).toNatClampNeg v43 := ⟨_, rfl⟩
    rw [← e46] at hP9 hD9
    obtain ⟨hP, hD⟩ := zst (wX := [(h0, .inr (11, [.int th, .ref tB, .int tsz, .int tat, .int wr, .int dp, .ref rC, .ref rV, .ref rD, .ref rK, .ref rT, .ref rS, .ref rU, .int lw, .int tx, .ref rL, .ref rX, .ref qR, .ref qB, .ref qP, .int qnb, .int qnp, .ref aR, .ref aB, .ref aP, .int nb, .int np, .ref aN, .ref rf, .int ho, .int br, .ref aK, .int ac, .long dw, .ref aE, .int sr, .int sf, .ref aA, .ref aH, .ref aI, .int hi])), (rC, .inl (cI, 2600, .inl fC)), (rV, .inl (cI, 2600, .inl fV)), (rK, .inl (cI, 5, .inl fK)), (rT, .inl (cI, 700, .inl fT)), (rS, .inl (cI, 700, .inl fS)), (rU, .inl (cI, 700, .inl fU)), (rL, .inl (cI, 6, .inl v46_f)), (rX, .inl (cI, 80, .inl fX)), (aB, .inl (cI, 24, .inl fBr)), (aP, .inl (cI, 20, .inl fPa)), (aN, .inl (cI, 97, .inl fN))]) hP9 hD9 rfl
    have hS := hS9
    clear hP9 hD9 hS9
    refine lv_aload_n hx hb dX11_looksBy_47 rfl (lv_at hl 1 rfl) ?_
    refine va_get (D := (dC, dI)) (ci := 11) (v := .ref rL) (C := RX11) (T := TX11) (N := 41) hx hb hts iX11 hown hK hP 0 rfl rfl 15 (by decide) (hts _ qw1142) (fun _ h9 => h9) rfl dX11_looksBy_48 ?_
    refine lv_iconst (v := 2) hx hb dX11_looksBy_51 (by decide) ?_
    refine lv_iload hx hb dX11_looksBy_52 (lv_at hl 5 rfl) ?_
    refine va_iast hx hb hK hP hD hS 7 0 rfl rfl (by unfold vp_in; decide) dX11_looksBy_54 (fun H locs hP9 hD9 hS9 => ?_)
    clear hP hD hS
    obtain ⟨v54_f, e54⟩ : ∃ g : Nat → Int32, g = upd v46_f (2 : Int32).toNatClampNeg p3 := ⟨_, rfl⟩
    rw [← e54] at hP9 hD9
    obtain ⟨hP, hD⟩ := zst (wX := [(h0, .inr (11, [.int th, .ref tB, .int tsz, .int tat, .int wr, .int dp, .ref rC, .ref rV, .ref rD, .ref rK, .ref rT, .ref rS, .ref rU, .int lw, .int tx, .ref rL, .ref rX, .ref qR, .ref qB, .ref qP, .int qnb, .int qnp, .ref aR, .ref aB, .ref aP, .int nb, .int np, .ref aN, .ref rf, .int ho, .int br, .ref aK, .int ac, .long dw, .ref aE, .int sr, .int sf, .ref aA, .ref aH, .ref aI, .int hi])), (rC, .inl (cI, 2600, .inl fC)), (rV, .inl (cI, 2600, .inl fV)), (rK, .inl (cI, 5, .inl fK)), (rT, .inl (cI, 700, .inl fT)), (rS, .inl (cI, 700, .inl fS)), (rU, .inl (cI, 700, .inl fU)), (rL, .inl (cI, 6, .inl v54_f)), (rX, .inl (cI, 80, .inl fX)), (aB, .inl (cI, 24, .inl fBr)), (aP, .inl (cI, 20, .inl fPa)), (aN, .inl (cI, 97, .inl fN))]) hP9 hD9 rfl
    have hS := hS9
    clear hP9 hD9 hS9
    refine lv_aload_n hx hb dX11_looksBy_55 rfl (lv_at hl 1 rfl) ?_
    refine va_get (D := (dC, dI)) (ci := 11) (v := .ref rL) (C := RX11) (T := TX11) (N := 41) hx hb hts iX11 hown hK hP 0 rfl rfl 15 (by decide) (hts _ qw1142) (fun _ h9 => h9) rfl dX11_looksBy_56 ?_
    refine lv_iconst (v := 3) hx hb dX11_looksBy_59 (by decide) ?_
    refine lv_aload_n hx hb dX11_looksBy_60 rfl (lv_at hl 1 rfl) ?_
    refine lv_iload_n hx hb dX11_looksBy_61 rfl (lv_at hl 2 rfl) ?_
    refine lv_iconst (v := 0) hx hb dX11_looksBy_62 (by decide) ?_
    obtain ⟨hPc, hDc⟩ := zc2 (wc := [(h0, .inr (11, [.int th, .ref tB, .int tsz, .int tat, .int wr, .int dp, .ref rC, .ref rV, .ref rD, .ref rK, .ref rT, .ref rS, .ref rU, .int lw, .int tx, .ref rL, .ref rX, .ref qR, .ref qB, .ref qP, .int qnb, .int qnp, .ref aR, .ref aB, .ref aP, .int nb, .int np, .ref aN, .ref rf, .int ho, .int br, .ref aK, .int ac, .long dw, .ref aE, .int sr, .int sf, .ref aA, .ref aH, .ref aI, .int hi])), (aP, .inl (cI, 20, .inl fPa))]) hP hD [0, 10] (by decide +kernel) rfl
    have hFc := zfr hS hA
    refine va_calli (va_runV (As := [.int p0, .int 0]) (rest := [.int 3, .ref rL]) ⟨hx, hb, hml, hown, hts⟩ (g_X11_by l dC dI cI cJ h0 p0 0 th tB tsz tat wr dp rC rV rD rK rT rS rU lw tx rL rX qR qB qP qnb qnp aR aB aP nb np aN rf ho br aK ac dw aE sr sf aA aH aI hi fPa H.size y_ac y_hi n_ho y_lw y_nb y_np n_p0 (by decide) y_qnb y_qnp y_tat y_tsz y_wr) (cwV 2 hts (zgV qw1390 qw1392 qw55 qw108 qw1393) rfl rfl rfl hd_X11_by ⟨by rw [hR]; exact Nat.le_of_ble_eq_true rfl, by rw [hR]; exact Nat.le_of_ble_eq_true rfl⟩) (zPV hPc hK hDc (va_recv (q := (RX11, TX11, 41)) hK hP (ci := 11) (q0 := 0) rfl rfl)) rfl rfl hl.1 rfl (lv_room (Nat.le_of_ble_eq_true rfl)) dX11_looksBy_63 ⟨Nat.zero_le _, Nat.zero_le _⟩) hS (fun q _ h => hFc q h) hFc (fun v63 u63 t H locs ht hvm hw hB hz1 hk1 hS9 => ?_)
    replace hP := zkeep hP hk1
    replace hS := hS9
    clear hPc hDc hFc hk1 hz1 hvm hS9
    have zn63_0 : (0 : Int32).toInt = 0 := by decide
    have f63_0 : (v63 = fPa (4 * p0.toInt.toNat + (0 : Int32).toInt.toNat)) := hw
    have F63 := f63_0
    refine va_iast hx hb hK hP hD hS 7 0 rfl rfl (by unfold vp_in; decide) dX11_looksBy_66 (fun H locs hP9 hD9 hS9 => ?_)
    clear hP hD hS
    obtain ⟨v66_f, e66⟩ : ∃ g : Nat → Int32, g = upd v54_f (3 : Int32).toNatClampNeg v63 := ⟨_, rfl⟩
    rw [← e66] at hP9 hD9
    obtain ⟨hP, hD⟩ := zst (wX := [(h0, .inr (11, [.int th, .ref tB, .int tsz, .int tat, .int wr, .int dp, .ref rC, .ref rV, .ref rD, .ref rK, .ref rT, .ref rS, .ref rU, .int lw, .int tx, .ref rL, .ref rX, .ref qR, .ref qB, .ref qP, .int qnb, .int qnp, .ref aR, .ref aB, .ref aP, .int nb, .int np, .ref aN, .ref rf, .int ho, .int br, .ref aK, .int ac, .long dw, .ref aE, .int sr, .int sf, .ref aA, .ref aH, .ref aI, .int hi])), (rC, .inl (cI, 2600, .inl fC)), (rV, .inl (cI, 2600, .inl fV)), (rK, .inl (cI, 5, .inl fK)), (rT, .inl (cI, 700, .inl fT)), (rS, .inl (cI, 700, .inl fS)), (rU, .inl (cI, 700, .inl fU)), (rL, .inl (cI, 6, .inl v66_f)), (rX, .inl (cI, 80, .inl fX)), (aB, .inl (cI, 24, .inl fBr)), (aP, .inl (cI, 20, .inl fPa)), (aN, .inl (cI, 97, .inl fN))]) hP9 hD9 rfl
    have hS := hS9
    clear hP9 hD9 hS9
    refine lv_aload_n hx hb dX11_looksBy_67 rfl (lv_at hl 1 rfl) ?_
    refine va_get (D := (dC, dI)) (ci := 11) (v := .ref rL) (C := RX11) (T := TX11) (N := 41) hx hb hts iX11 hown hK hP 0 rfl rfl 15 (by decide) (hts _ qw1142) (fun _ h9 => h9) rfl dX11_looksBy_68 ?_
    refine lv_iconst (v := 4) hx hb dX11_looksBy_71 (by decide) ?_
    refine lv_aload_n hx hb dX11_looksBy_72 rfl (lv_at hl 1 rfl) ?_
    refine va_get (D := (dC, dI)) (ci := 11) (v := .ref aN) (C := RX11) (T := TX11) (N := 41) hx hb hts iX11 hown hK hP 0 rfl rfl 27 (by decide) (hts _ qw1154) (fun _ h9 => h9) rfl dX11_looksBy_73 ?_
    refine lv_bipush (v := 6) hx hb dX11_looksBy_76 (by decide) ?_
    refine lv_iload_n hx hb dX11_looksBy_78 rfl (lv_at hl 2 rfl) ?_
    refine lv_iadd hx hb dX11_looksBy_79 ?_
    refine lv_topi (fun v79 e79 => ?_)
    have i79 : v79.toInt = 6 + p0.toInt := zadd e79 (by decide) rfl (by omega) (by omega)
    refine va_iald hx hb hK hP 11 0 rfl rfl (vp_in_iff.mpr ⟨by omega, by omega⟩) dX11_looksBy_80 ?_
    refine lv_topi (fun v80 e80 => ?_)
    refine va_iast hx hb hK hP hD hS 7 0 rfl rfl (by unfold vp_in; decide) dX11_looksBy_81 (fun H locs hP9 hD9 hS9 => ?_)
    clear hP hD hS
    obtain ⟨v81_f, e81⟩ : ∃ g : Nat → Int32, g = upd v66_f (4 : Int32).toNatClampNeg v80 := ⟨_, rfl⟩
    rw [← e81] at hP9 hD9
    obtain ⟨hP, hD⟩ := zst (wX := [(h0, .inr (11, [.int th, .ref tB, .int tsz, .int tat, .int wr, .int dp, .ref rC, .ref rV, .ref rD, .ref rK, .ref rT, .ref rS, .ref rU, .int lw, .int tx, .ref rL, .ref rX, .ref qR, .ref qB, .ref qP, .int qnb, .int qnp, .ref aR, .ref aB, .ref aP, .int nb, .int np, .ref aN, .ref rf, .int ho, .int br, .ref aK, .int ac, .long dw, .ref aE, .int sr, .int sf, .ref aA, .ref aH, .ref aI, .int hi])), (rC, .inl (cI, 2600, .inl fC)), (rV, .inl (cI, 2600, .inl fV)), (rK, .inl (cI, 5, .inl fK)), (rT, .inl (cI, 700, .inl fT)), (rS, .inl (cI, 700, .inl fS)), (rU, .inl (cI, 700, .inl fU)), (rL, .inl (cI, 6, .inl v81_f)), (rX, .inl (cI, 80, .inl fX)), (aB, .inl (cI, 24, .inl fBr)), (aP, .inl (cI, 20, .inl fPa)), (aN, .inl (cI, 97, .inl fN))]) hP9 hD9 rfl
    have hS := hS9
    clear hP9 hD9 hS9
    refine lv_aload_n hx hb dX11_looksBy_82 rfl (lv_at hl 1 rfl) ?_
    refine va_get (D := (dC, dI)) (ci := 11) (v := .ref rL) (C := RX11) (T := TX11) (N := 41) hx hb hts iX11 hown hK hP 0 rfl rfl 15 (by decide) (hts _ qw1142) (fun _ h9 => h9) rfl dX11_looksBy_83 ?_
    refine lv_iconst (v := 5) hx hb dX11_looksBy_86 (by decide) ?_
    refine lv_aload_n hx hb dX11_looksBy_87 rfl (lv_at hl 1 rfl) ?_
    refine va_get (D := (dC, dI)) (ci := 11) (v := .ref aN) (C := RX11) (T := TX11) (N := 41) hx hb hts iX11 hown hK hP 0 rfl rfl 27 (by decide) (hts _ qw1154) (fun _ h9 => h9) rfl dX11_looksBy_88 ?_
    refine lv_bipush (v := 15) hx hb dX11_looksBy_91 (by decide) ?_
    refine va_iald hx hb hK hP 11 0 rfl rfl (by unfold vp_in; decide) dX11_looksBy_93 ?_
    refine lv_topi (fun v93 e93 => ?_)
    refine va_iast hx hb hK hP hD hS 7 0 rfl rfl (by unfold vp_in; decide) dX11_looksBy_94 (fun H locs hP9 hD9 hS9 => ?_)
    clear hP hD hS
    obtain ⟨v94_f, e94⟩ : ∃ g : Nat → Int32, g = upd v81_f (5 : Int32).toNatClampNeg v93 := ⟨_, rfl⟩
    rw [← e94] at hP9 hD9
    obtain ⟨hP, hD⟩ := zst (wX := [(h0, .inr (11, [.int th, .ref tB, .int tsz, .int tat, .int wr, .int dp, .ref rC, .ref rV, .ref rD, .ref rK, .ref rT, .ref rS, .ref rU, .int lw, .int tx, .ref rL, .ref rX, .ref qR, .ref qB, .ref qP, .int qnb, .int qnp, .ref aR, .ref aB, .ref aP, .int nb, .int np, .ref aN, .ref rf, .int ho, .int br, .ref aK, .int ac, .long dw, .ref aE, .int sr, .int sf, .ref aA, .ref aH, .ref aI, .int hi])), (rC, .inl (cI, 2600, .inl fC)), (rV, .inl (cI, 2600, .inl fV)), (rK, .inl (cI, 5, .inl fK)), (rT, .inl (cI, 700, .inl fT)), (rS, .inl (cI, 700, .inl fS)), (rU, .inl (cI, 700, .inl fU)), (rL, .inl (cI, 6, .inl v94_f)), (rX, .inl (cI, 80, .inl fX)), (aB, .inl (cI, 24, .inl fBr)), (aP, .inl (cI, 20, .inl fPa)), (aN, .inl (cI, 97, .inl fN))]) hP9 hD9 rfl
    have hS := hS9
    clear hP9 hD9 hS9
    refine lv_aload_n hx hb dX11_looksBy_95 rfl (lv_at hl 1 rfl) ?_
    refine lv_aload_n hx hb dX11_looksBy_96 rfl (lv_at hl 1 rfl) ?_
    refine va_get (D := (dC, dI)) (ci := 11) (v := .int ho) (C := RX11) (T := TX11) (N := 41) hx hb hts iX11 hown hK hP 0 rfl rfl 29 (by decide) (hts _ qw1156) (fun _ h9 => h9) rfl dX11_looksBy_97 ?_
    obtain ⟨hPc, hDc, hFc⟩ := zc3 (wc := [(h0, .inr (11, [.int th, .ref tB, .int tsz, .int tat, .int wr, .int dp, .ref rC, .ref rV, .ref rD, .ref rK, .ref rT, .ref rS, .ref rU, .int lw, .int tx, .ref rL, .ref rX, .ref qR, .ref qB, .ref qP, .int qnb, .int qnp, .ref aR, .ref aB, .ref aP, .int nb, .int np, .ref aN, .ref rf, .int ho, .int br, .ref aK, .int ac, .long dw, .ref aE, .int sr, .int sf, .ref aA, .ref aH, .ref aI, .int hi])), (rC, .inl (cI, 2600, .inl fC)), (rV, .inl (cI, 2600, .inl fV)), (rK, .inl (cI, 5, .inl fK)), (rT, .inl (cI, 700, .inl fT)), (rS, .inl (cI, 700, .inl fS)), (rU, .inl (cI, 700, .inl fU)), (rL, .inl (cI, 6, .inl v94_f)), (rX, .inl (cI, 80, .inl fX))]) hP hD hS hA [0, 1, 2, 3, 4, 5, 6, 7, 8] (by decide +kernel) rfl
    refine va_calli (va_runV (As := [.int ho]) (rest := []) ⟨hx, hb, hml, hown, hts⟩ (g_X11_worthOf l dC dI cI cJ h0 ho th tB tsz tat wr dp rC rV rD rK rT rS rU lw tx rL rX qR qB qP qnb qnp aR aB aP nb np aN rf ho br aK ac dw aE sr sf aA aH aI hi fC fV fK fT fS fU v94_f fX H.size y_ac y_hi n_ho y_lw y_nb y_np (by omega) y_qnb y_qnp y_tat y_tsz y_wr (hls.2 (by omega))) (cwV 1 hts (zgV qw1446 qw1448 qw62 qw108 qw1449) rfl rfl rfl hd_X11_worthOf ⟨by rw [hR]; exact Nat.le_of_ble_eq_true rfl, by rw [hR]; exact Nat.le_of_ble_eq_true rfl⟩) (zPV hPc hK hDc (va_recv (q := (RX11, TX11, 41)) hK hP (ci := 11) (q0 := 0) rfl rfl)) rfl rfl hl.1 rfl (lv_room (Nat.le_of_ble_eq_true rfl)) dX11_looksBy_100 ⟨Nat.zero_le _, Nat.zero_le _⟩) hS (fun q _ h => hFc q h) hFc (fun v100 u100 t H locs ht hvm hw hB hz1 hk1 hS9 => ?_)
    obtain ⟨u100_0, rfl⟩ : ∃ z, z = u100 := ⟨_, rfl⟩
    obtain ⟨hP9, hD9⟩ := zj2 (wX := [(h0, .inr (11, [.int th, .ref tB, .int tsz, .int tat, .int wr, .int dp, .ref rC, .ref rV, .ref rD, .ref rK, .ref rT, .ref rS, .ref rU, .int lw, .int tx, .ref rL, .ref rX, .ref qR, .ref qB, .ref qP, .int qnb, .int qnp, .ref aR, .ref aB, .ref aP, .int nb, .int np, .ref aN, .ref rf, .int ho, .int br, .ref aK, .int ac, .long dw, .ref aE, .int sr, .int sf, .ref aA, .ref aH, .ref aI, .int hi])), (rC, .inl (cI, 2600, .inl fC)), (rV, .inl (cI, 2600, .inl fV)), (rK, .inl (cI, 5, .inl fK)), (rT, .inl (cI, 700, .inl fT)), (rS, .inl (cI, 700, .inl fS)), (rU, .inl (cI, 700, .inl fU)), (rL, .inl (cI, 6, .inl v94_f)), (rX, .inl (cI, 80, .inl u100_0)), (aB, .inl (cI, 24, .inl fBr)), (aP, .inl (cI, 20, .inl fPa)), (aN, .inl (cI, 97, .inl fN))]) hP hD hk1 hFc ht hB [0, 1, 2, 3, 4, 5, 6, 7, 8] [(true, 0), (true, 1), (true, 2), (true, 3), (true, 4), (true, 5), (true, 6), (true, 7), (true, 8), (false, 9), (false, 10), (false, 11)] rfl (by decide +kernel) (by decide +kernel) rfl
    clear hP hD hS hPc hDc hFc hB hk1 hz1 hvm
    have hP := hP9
    have hD := hD9
    have hS := hS9
    clear hP9 hD9 hS9
    have f100_0 : (∀ (g : Int → Int) (n : Int), zLR g n fC fV fK fT fS fU ho.toInt.toNat → (∀ i : Nat, i < 6 → zB6 (v94_f i)) → v100 = rWo v94_f g n (eCs g n)) := hw
    have F100 := f100_0
    refine lv_istore (lv' := [(5, .int v100), (0, .ref h0), (1, .int p0), (2, .int p1), (3, .int p2), (4, .int p3)]) hx hb dX11_looksBy_103 hl (by decide) rfl (fun ls hl => ?_)
    refine lv_iconst (v := 0) hx hb dX11_looksBy_105 (by decide) ?_
    refine lv_bipush (v := 9) hx hb dX11_looksBy_106 (by decide) ?_
    refine lv_iload hx hb dX11_looksBy_108 (lv_at hl 0 rfl) ?_
    refine va_mmin hx hb (by rw [hml]; exact hl.1.symm) hown (hts _ qw1468) (hts _ qw569) (hts _ qw112) (hts _ qw570) (by rw [hR]; exact Nat.le_of_ble_eq_true rfl) (by rw [hR]; exact Nat.le_of_ble_eq_true rfl) (Nat.zero_le _) (Nat.zero_le _) dX11_looksBy_110 ?_
    refine lv_topi (fun v110 e110 => ?_)
    have zc110_0 : (9 : Int32).toInt = 9 := by decide
    have i110 := zmmin e110
    refine va_mmax hx hb (by rw [hml]; exact hl.1.symm) hown (hts _ qw1430) (hts _ qw634) (hts _ qw112) (hts _ qw635) (by rw [hR]; exact Nat.le_of_ble_eq_true rfl) (by rw [hR]; exact Nat.le_of_ble_eq_true rfl) (Nat.zero_le _) (Nat.zero_le _) dX11_looksBy_113 ?_
    refine lv_topi (fun v113 e113 => ?_)
    have zc113_0 : (0 : Int32).toInt = 0 := by decide
    have i113 := zmmax e113
    rw [hQ]
    exact W.iret (v := v113) hx hb hr (fun t ht hW => ⟨⟨v113, (v94_f, u100_0), rfl, ⟨by (try dsimp only); omega, by (try dsimp only); omega, by (try dsimp only); first | exact fun lw hl hb => by rw [zLwR_n hl (by omega)]; exact zLkv_n e110 e113 (zlk_a e17 e8 e16 F5 (F12.trans (congrArg fBr (by have : (2 : Int32).toInt = 2 := (by decide); omega)))) | exact fun lw hl hb => by obtain ⟨t, et, hr⟩ := zLwR_s hl (by omega); rw [et]; exact zLkv_r hr hb (fun i hi => (zlet6 e34 e46 e54 e66 e81 e94 i hi).trans (by rw [F43.trans (congrArg fBr (show 4 * p1.toInt.toNat + (2 : Int32).toInt.toNat = 4 * p1.toInt.toNat + 2 from (by have : (2 : Int32).toInt = 2 := (by decide); omega))), F63.trans (congrArg fPa (show 4 * p0.toInt.toNat + (0 : Int32).toInt.toNat = 4 * p0.toInt.toNat from (by have : (0 : Int32).toInt = 0 := (by decide); omega))), zIxN (n := 6 + p0.toInt.toNat) e80 (by omega), zIxN (n := 15) e93 (by decide)])) F100 e110 e113⟩, ⟨by rw [ht]; exact hP, hD⟩⟩, hS.F ht⟩) hS.2.2 dX11_looksBy_116
set_option maxHeartbeats 4000000 in
set_option maxRecDepth 100000 in
theorem g_X11_shownOf (l : Launch) (dC : Nat → ClassId) (dI : Nat → Nat → Nat) (cI cJ : ClassId) (h0 : Nat) (p0 : Int32) (p1 : Int32) (p2 : Int32) (th : Int32) (tB : Nat) (tsz : Int32) (tat : Int32) (wr : Int32) (dp : Int32) (rC : Nat) (rV : Nat) (rD : Nat) (rK : Nat) (rT : Nat) (rS : Nat) (rU : Nat) (lw : Int32) (tx : Int32) (rL : Nat) (rX : Nat) (qR : Nat) (qB : Nat) (qP : Nat) (qnb : Int32) (qnp : Int32) (aR : Nat) (aB : Nat) (aP : Nat) (nb : Int32) (np : Int32) (aN : Nat) (rf : Nat) (ho : Int32) (br : Int32) (aK : Nat) (ac : Int32) (dw : Int64) (aE : Nat) (sr : Int32) (sf : Int32) (aA : Nat) (aH : Nat) (aI : Nat) (hi : Int32) (fC : Nat → Int32) (fV : Nat → Int32) (fK : Nat → Int32) (fT : Nat → Int32) (fS : Nat → Int32) (fU : Nat → Int32) (fL : Nat → Int32) (fX : Nat → Int32) (fBr : Nat → Int32) (fPa : Nat → Int32) (fN : Nat → Int32) (sz : Nat) (n_ac : 0 ≤ ac.toInt ∧ ac.toInt ≤ 40) (n_hi : 0 ≤ hi.toInt ∧ hi.toInt ≤ 1) (n_ho : (-1) ≤ ho.toInt ∧ ho.toInt ≤ 3) (n_lw : 0 ≤ lw.toInt ∧ lw.toInt ≤ 4) (n_nb : 0 ≤ nb.toInt ∧ nb.toInt ≤ 6) (n_np : 0 ≤ np.toInt ∧ np.toInt ≤ 5) (n_p0 : 0 ≤ p0.toInt ∧ p0.toInt ≤ 4) (n_p1 : 0 ≤ p1.toInt ∧ p1.toInt ≤ 5) (n_qnb : 0 ≤ qnb.toInt ∧ qnb.toInt ≤ 6) (n_qnp : 0 ≤ qnp.toInt ∧ qnp.toInt ≤ 5) (n_tat : 0 ≤ tat.toInt ∧ tat.toInt ≤ 260) (n_tsz : 0 ≤ tsz.toInt ∧ tsz.toInt ≤ 240) (n_wr : (-1) ≤ wr.toInt ∧ wr.toInt ≤ 260) (hls : zLs ho fC fV fK fT fS fU) (ci_fBr_zBr_nb : zBr nb fBr) (ci_fN_zNw_np : zNw np fN) (ci_fPa_zBr_np : zBr np fPa)  : Met l yX11_shownOf (.code yX11_shownOf cX11_shownOf 5 (some .int) :: wA) ({ frames := 6, cells := 0, slots := 0, locals := 147 }) (zP (dC, dI) [(cI, .int), (cJ, .long)] [.ref h0, .int p0, .int p1, .int p2] sz [(h0, .inr (11, [.int th, .ref tB, .int tsz, .int tat, .int wr, .int dp, .ref rC, .ref rV, .ref rD, .ref rK, .ref rT, .ref rS, .ref rU, .int lw, .int tx, .ref rL, .ref rX, .ref qR, .ref qB, .ref qP, .int qnb, .int qnp, .ref aR, .ref aB, .ref aP, .int nb, .int np, .ref aN, .ref rf, .int ho, .int br, .ref aK, .int ac, .long dw, .ref aE, .int sr, .int sf, .ref aA, .ref aH, .ref aI, .int hi])), (rC, .inl (cI, 2600, .inl fC)), (rV, .inl (cI, 2600, .inl fV)), (rK, .inl (cI, 5, .inl fK)), (rT, .inl (cI, 700, .inl fT)), (rS, .inl (cI, 700, .inl fS)), (rU, .inl (cI, 700, .inl fU)), (rL, .inl (cI, 6, .inl fL)), (rX, .inl (cI, 80, .inl fX)), (aB, .inl (cI, 24, .inl fBr)), (aP, .inl (cI, 20, .inl fPa)), (aN, .inl (cI, 97, .inl fN))]) (va_Qi (fun (r : Int32) (u : (Nat → Int32) × (Nat → Int32)) => ((-1) ≤ r.toInt) ∧ (r.toInt ≤ 9) ∧ (∀ lw : Option ((Int → Int) × Int), zLwR ho fC fV fK fT fS fU lw → zB5 p2 (fBr (4 * p1.toInt.toNat + 2)) (fN p1.toInt.toNat) (fPa (4 * p0.toInt.toNat)) (fN (6 + p0.toInt.toNat)) (fN 15) → r = zSh (fPa (4 * p0.toInt.toNat + 3)) (zLat (fun i => fN (17 + i)) p0 (fN 16).toInt.toNat) (zLkv lw p2 (fBr (4 * p1.toInt.toNat + 2)) (fN p1.toInt.toNat) (fPa (4 * p0.toInt.toNat)) (fN (6 + p0.toInt.toNat)) (fN 15)))) (fun (u : (Nat → Int32) × (Nat → Int32)) (t : State) => va_P (dC, dI) vwCl [(h0, .inr (11, [.int th, .ref tB, .int tsz, .int tat, .int wr, .int dp, .ref rC, .ref rV, .ref rD, .ref rK, .ref rT, .ref rS, .ref rU, .int lw, .int tx, .ref rL, .ref rX, .ref qR, .ref qB, .ref qP, .int qnb, .int qnp, .ref aR, .ref aB, .ref aP, .int nb, .int np, .ref aN, .ref rf, .int ho, .int br, .ref aK, .int ac, .long dw, .ref aE, .int sr, .int sf, .ref aA, .ref aH, .ref aI, .int hi])), (rC, .inl (cI, 2600, .inl fC)), (rV, .inl (cI, 2600, .inl fV)), (rK, .inl (cI, 5, .inl fK)), (rT, .inl (cI, 700, .inl fT)), (rS, .inl (cI, 700, .inl fS)), (rU, .inl (cI, 700, .inl fU)), (rL, .inl (cI, 6, .inl u.1)), (rX, .inl (cI, 80, .inl u.2)), (aB, .inl (cI, 24, .inl fBr)), (aP, .inl (cI, 20, .inl fPa)), (aN, .inl (cI, 97, .inl fN))] t.heap ∧ va_D (va_A [(h0, .inr (11, [.int th, .ref tB, .int tsz, .int tat, .int wr, .int dp, .ref rC, .ref rV, .ref rD, .ref rK, .ref rT, .ref rS, .ref rU, .int lw, .int tx, .ref rL, .ref rX, .ref qR, .ref qB, .ref qP, .int qnb, .int qnp, .ref aR, .ref aB, .ref aP, .int nb, .int np, .ref aN, .ref rf, .int ho, .int br, .ref aK, .int ac, .long dw, .ref aE, .int sr, .int sf, .ref aA, .ref aH, .ref aI, .int hi])), (rC, .inl (cI, 2600, .inl fC)), (rV, .inl (cI, 2600, .inl fV)), (rK, .inl (cI, 5, .inl fK)), (rT, .inl (cI, 700, .inl fT)), (rS, .inl (cI, 700, .inl fS)), (rU, .inl (cI, 700, .inl fU)), (rL, .inl (cI, 6, .inl fL)), (rX, .inl (cI, 80, .inl fX)), (aB, .inl (cI, 24, .inl fBr)), (aP, .inl (cI, 20, .inl fPa)), (aN, .inl (cI, 97, .inl fN))] sz) [(h0, .inr (11, [.int th, .ref tB, .int tsz, .int tat, .int wr, .int dp, .ref rC, .ref rV, .ref rD, .ref rK, .ref rT, .ref rS, .ref rU, .int lw, .int tx, .ref rL, .ref rX, .ref qR, .ref qB, .ref qP, .int qnb, .int qnp, .ref aR, .ref aB, .ref aP, .int nb, .int np, .ref aN, .ref rf, .int ho, .int br, .ref aK, .int ac, .long dw, .ref aE, .int sr, .int sf, .ref aA, .ref aH, .ref aI, .int hi])), (rC, .inl (cI, 2600, .inl fC)), (rV, .inl (cI, 2600, .inl fV)), (rK, .inl (cI, 5, .inl fK)), (rT, .inl (cI, 700, .inl fT)), (rS, .inl (cI, 700, .inl fS)), (rU, .inl (cI, 700, .inl fU)), (rL, .inl (cI, 6, .inl u.1)), (rX, .inl (cI, 80, .inl u.2)), (aB, .inl (cI, 24, .inl fBr)), (aP, .inl (cI, 20, .inl fPa)), (aN, .inl (cI, 97, .inl fN))]) (va_A [(h0, .inr (11, [.int th, .ref tB, .int tsz, .int tat, .int wr, .int dp, .ref rC, .ref rV, .ref rD, .ref rK, .ref rT, .ref rS, .ref rU, .int lw, .int tx, .ref rL, .ref rX, .ref qR, .ref qB, .ref qP, .int qnb, .int qnp, .ref aR, .ref aB, .ref aP, .int nb, .int np, .ref aN, .ref rf, .int ho, .int br, .ref aK, .int ac, .long dw, .ref aE, .int sr, .int sf, .ref aA, .ref aH, .ref aI, .int hi])), (rC, .inl (cI, 2600, .inl fC)), (rV, .inl (cI, 2600, .inl fV)), (rK, .inl (cI, 5, .inl fK)), (rT, .inl (cI, 700, .inl fT)), (rS, .inl (cI, 700, .inl fS)), (rU, .inl (cI, 700, .inl fU)), (rL, .inl (cI, 6, .inl fL)), (rX, .inl (cI, 80, .inl fX)), (aB, .inl (cI, 24, .inl fBr)), (aP, .inl (cI, 20, .inl fPa)), (aN, .inl (cI, 97, .inl fN))] sz)) 0 0 (va_A [(h0, .inr (11, [.int th, .ref tB, .int tsz, .int tat, .int wr, .int dp, .ref rC, .ref rV, .ref rD, .ref rK, .ref rT, .ref rS, .ref rU, .int lw, .int tx, .ref rL, .ref rX, .ref qR, .ref qB, .ref qP, .int qnb, .int qnp, .ref aR, .ref aB, .ref aP, .int nb, .int np, .ref aN, .ref rf, .int ho, .int br, .ref aK, .int ac, .long dw, .ref aE, .int sr, .int sf, .ref aA, .ref aH, .ref aI, .int hi])), (rC, .inl (cI, 2600, .inl fC)), (rV, .inl (cI, 2600, .inl fV)), (rK, .inl (cI, 5, .inl fK)), (rT, .inl (cI, 700, .inl fT)), (rS, .inl (cI, 700, .inl fS)), (rU, .inl (cI, 700, .inl fU)), (rL, .inl (cI, 6, .inl fL)), (rX, .inl (cI, 80, .inl fX)), (aB, .inl (cI, 24, .inl fBr)), (aP, .inl (cI, 20, .inl fPa)), (aN, .inl (cI, 97, .inl fN))] sz) := by
  refine Met.ofW (cc := cX11_shownOf) (maxL := 5) (ret := (some .int)) (by decide) rfl ?_
  intro p e s m args below meth c s₁ B hml hv
  have y_ac : zHid (0 ≤ ac.toInt ∧ ac.toInt ≤ 40) := n_ac
  have y_hi : zHid (0 ≤ hi.toInt ∧ hi.toInt ≤ 1) := n_hi
  have y_ho : zHid ((-1) ≤ ho.toInt ∧ ho.toInt ≤ 3) := n_ho
  have y_lw : zHid (0 ≤ lw.toInt ∧ lw.toInt ≤ 4) := n_lw
  have y_nb : zHid (0 ≤ nb.toInt ∧ nb.toInt ≤ 6) := n_nb
  have y_np : zHid (0 ≤ np.toInt ∧ np.toInt ≤ 5) := n_np
  have y_qnb : zHid (0 ≤ qnb.toInt ∧ qnb.toInt ≤ 6) := n_qnb
  have y_qnp : zHid (0 ≤ qnp.toInt ∧ qnp.toInt ≤ 5) := n_qnp
  have y_tat : zHid (0 ≤ tat.toInt ∧ tat.toInt ≤ 260) := n_tat
  have y_tsz : zHid (0 ≤ tsz.toInt ∧ tsz.toInt ≤ 240) := n_tsz
  have y_wr : zHid ((-1) ≤ wr.toInt ∧ wr.toInt ≤ 260) := n_wr
  clear n_ac n_hi n_ho n_lw n_nb n_np n_qnb n_qnp n_tat n_tsz n_wr
  obtain ⟨hargs, hsz, hP, hK, hT⟩ := hv
  have hx := B.exec
  have hb := B.bytes
  have hr := B.returns
  have hts : ∀ w ∈ wA, w.before args s = true := fun w h => atoms_spec (ws := .code yX11_shownOf cX11_shownOf 5 (some .int) :: wA) B.pre w (List.mem_cons_of_mem _ h)
  have hown : s.vm.findClass RX11 = some m.cls := findClass_of_methodNamed B.named
  have hlocks := B.notSynchronized
  subst hsz
  have hD := hT.self (sz := s.heap.size)
  generalize hAe : va_A [(h0, .inr (11, [.int th, .ref tB, .int tsz, .int tat, .int wr, .int dp, .ref rC, .ref rV, .ref rD, .ref rK, .ref rT, .ref rS, .ref rU, .int lw, .int tx, .ref rL, .ref rX, .ref qR, .ref qB, .ref qP, .int qnb, .int qnp, .ref aR, .ref aB, .ref aP, .int nb, .int np, .ref aN, .ref rf, .int ho, .int br, .ref aK, .int ac, .long dw, .ref aE, .int sr, .int sf, .ref aA, .ref aH, .ref aI, .int hi])), (rC, .inl (cI, 2600, .inl fC)), (rV, .inl (cI, 2600, .inl fV)), (rK, .inl (cI, 5, .inl fK)), (rT, .inl (cI, 700, .inl fT)), (rS, .inl (cI, 700, .inl fS)), (rU, .inl (cI, 700, .inl fU)), (rL, .inl (cI, 6, .inl fL)), (rX, .inl (cI, 80, .inl fX)), (aB, .inl (cI, 24, .inl fBr)), (aP, .inl (cI, 20, .inl fPa)), (aN, .inl (cI, 97, .inl fN))] s.heap.size = A at hD ⊢
  have hA : ∀ q : Nat, s.heap.size ≤ q → A q := fun q h => by rw [← hAe]; exact Or.inr h
  have hl := lv_entry ([.ref h0, .int p0, .int p1, .int p2]) (n := 5) (Nat.le_of_ble_eq_true rfl)
  rw [show entryFrame m args 5 = entryFrame m ([.ref h0, .int p0, .int p1, .int p2] : List Value).toArray 5 by rw [hargs], lg_entry_eq]
  generalize (lg_sl ([.ref h0, .int p0, .int p1, .int p2]) ++ List.replicate (5 - (lg_sl ([.ref h0, .int p0, .int p1, .int p2])).length) Slot.unset).toArray = ls at hl ⊢
  have hl : lv_has ls 5 [(0, .ref h0), (1, .int p0), (2, .int p1), (3, .int p2)] := hl
  refine zstart (fun H hH => ?_)
  rw [← hH] at hP
  have hS : va_S A s.heap H [] := by rw [hH]; exact va_S.rf
  generalize ([] : List Loc) = locs at hS ⊢
  refine zgen (fun R Q hR hQ => ?_)
  refine lv_aload_n hx hb dX11_shownOf_0 rfl (lv_at hl 0 rfl) ?_
  refine lv_iload_n hx hb dX11_shownOf_1 rfl (lv_at hl 1 rfl) ?_
  refine lv_iload_n hx hb dX11_shownOf_2 rfl (lv_at hl 2 rfl) ?_
  refine lv_iload_n hx hb dX11_shownOf_3 rfl (lv_at hl 3 rfl) ?_
  refine lv_aload_n hx hb dX11_shownOf_4 rfl (lv_at hl 0 rfl) ?_
  refine va_get (D := (dC, dI)) (ci := 11) (v := .ref aN) (C := RX11) (T := TX11) (N := 41) hx hb hts iX11 hown hK hP 0 rfl rfl 27 (by decide) (hts _ qw1154) (fun _ h9 => h9) rfl dX11_shownOf_5 ?_
  refine lv_iconst (v := 0) hx hb dX11_shownOf_8 (by decide) ?_
  refine lv_iload_n hx hb dX11_shownOf_9 rfl (lv_at hl 2 rfl) ?_
  refine lv_iadd hx hb dX11_shownOf_10 ?_
  refine lv_topi (fun v10 e10 => ?_)
  have i10 : v10.toInt = 0 + p1.toInt := zadd e10 (by decide) rfl (by omega) (by omega)
  refine va_iald hx hb hK hP 11 0 rfl rfl (vp_in_iff.mpr ⟨by omega, by omega⟩) dX11_shownOf_11 ?_
  refine lv_topi (fun v11 e11 => ?_)
  obtain ⟨hPc, hDc, hFc⟩ := zc3 (wc := [(h0, .inr (11, [.int th, .ref tB, .int tsz, .int tat, .int wr, .int dp, .ref rC, .ref rV, .ref rD, .ref rK, .ref rT, .ref rS, .ref rU, .int lw, .int tx, .ref rL, .ref rX, .ref qR, .ref qB, .ref qP, .int qnb, .int qnp, .ref aR, .ref aB, .ref aP, .int nb, .int np, .ref aN, .ref rf, .int ho, .int br, .ref aK, .int ac, .long dw, .ref aE, .int sr, .int sf, .ref aA, .ref aH, .ref aI, .int hi])), (rC, .inl (cI, 2600, .inl fC)), (rV, .inl (cI, 2600, .inl fV)), (rK, .inl (cI, 5, .inl fK)), (rT, .inl (cI, 700, .inl fT)), (rS, .inl (cI, 700, .inl fS)), (rU, .inl (cI, 700, .inl fU)), (rL, .inl (cI, 6, .inl fL)), (rX, .inl (cI, 80, .inl fX)), (aB, .inl (cI, 24, .inl fBr)), (aP, .inl (cI, 20, .inl fPa)), (aN, .inl (cI, 97, .inl fN))]) hP hD hS hA [0, 1, 2, 3, 4, 5, 6, 7, 8, 9, 10, 11] (by decide +kernel) rfl
  refine va_calli (va_runV (As := [.int p0, .int p1, .int p2, .int v11]) (rest := []) ⟨hx, hb, hml, hown, hts⟩ (g_X11_looksBy l dC dI cI cJ h0 p0 p1 p2 v11 th tB tsz tat wr dp rC rV rD rK rT rS rU lw tx rL rX qR qB qP qnb qnp aR aB aP nb np aN rf ho br aK ac dw aE sr sf aA aH aI hi fC fV fK fT fS fU fL fX fBr fPa fN H.size y_ac y_hi y_ho y_lw y_nb y_np n_p0 n_p1 y_qnb y_qnp y_tat y_tsz y_wr (hls)) (cwV 4 hts (zgV qw1442 qw1444 qw61 qw108 qw1445) rfl rfl rfl hd_X11_looksBy ⟨by rw [hR]; exact Nat.le_of_ble_eq_true rfl, by rw [hR]; exact Nat.le_of_ble_eq_true rfl⟩) (zPV hPc hK hDc (va_recv (q := (RX11, TX11, 41)) hK hP (ci := 11) (q0 := 0) rfl rfl)) rfl rfl hl.1 rfl (lv_room (Nat.le_of_ble_eq_true rfl)) dX11_shownOf_12 ⟨Nat.zero_le _, Nat.zero_le _⟩) hS (fun q _ h => hFc q h) hFc (fun v12 u12 t H locs ht hvm hw hB hz1 hk1 hS9 => ?_)
  obtain ⟨u12_0, u12_1⟩ := u12
  obtain ⟨hP9, hD9⟩ := zj2 (wX := [(h0, .inr (11, [.int th, .ref tB, .int tsz, .int tat, .int wr, .int dp, .ref rC, .ref rV, .ref rD, .ref rK, .ref rT, .ref rS, .ref rU, .int lw, .int tx, .ref rL, .ref rX, .ref qR, .ref qB, .ref qP, .int qnb, .int qnp, .ref aR, .ref aB, .ref aP, .int nb, .int np, .ref aN, .ref rf, .int ho, .int br, .ref aK, .int ac, .long dw, .ref aE, .int sr, .int sf, .ref aA, .ref aH, .ref aI, .int hi])), (rC, .inl (cI, 2600, .inl fC)), (rV, .inl (cI, 2600, .inl fV)), (rK, .inl (cI, 5, .inl fK)), (rT, .inl (cI, 700, .inl fT)), (rS, .inl (cI, 700, .inl fS)), (rU, .inl (cI, 700, .inl fU)), (rL, .inl (cI, 6, .inl u12_0)), (rX, .inl (cI, 80, .inl u12_1)), (aB, .inl (cI, 24, .inl fBr)), (aP, .inl (cI, 20, .inl fPa)), (aN, .inl (cI, 97, .inl fN))]) hP hD hk1 hFc ht hB [0, 1, 2, 3, 4, 5, 6, 7, 8, 9, 10, 11] [(true, 0), (true, 1), (true, 2), (true, 3), (true, 4), (true, 5), (true, 6), (true, 7), (true, 8), (true, 9), (true, 10), (true, 11)] rfl (by decide +kernel) (by decide +kernel) rfl
  clear hP hD hS hPc hDc hFc hB hk1 hz1 hvm
  have hP := hP9
  have hD := hD9
  have hS := hS9
  clear hP9 hD9 hS9
  obtain ⟨f12_0, f12_1, f12_2⟩ : (0 ≤ v12.toInt) ∧ (v12.toInt ≤ 9) ∧ (∀ lw : Option ((Int → Int) × Int), zLwR ho fC fV fK fT fS fU lw → zB5 p2 (fBr (4 * p1.toInt.toNat + 2)) v11 (fPa (4 * p0.toInt.toNat)) (fN (6 + p0.toInt.toNat)) (fN 15) → v12 = zLkv lw p2 (fBr (4 * p1.toInt.toNat + 2)) v11 (fPa (4 * p0.toInt.toNat)) (fN (6 + p0.toInt.toNat)) (fN 15)) := hw
  have F12 := f12_2
  refine lv_istore (lv' := [(4, .int v12), (0, .ref h0), (1, .int p0), (2, .int p1), (3, .int p2)]) hx hb dX11_shownOf_15 hl (by decide) rfl (fun ls hl => ?_)
  refine lv_aload_n hx hb dX11_shownOf_17 rfl (lv_at hl 1 rfl) ?_
  refine lv_iload_n hx hb dX11_shownOf_18 rfl (lv_at hl 2 rfl) ?_
  refine lv_iconst (v := 3) hx hb dX11_shownOf_19 (by decide) ?_
  obtain ⟨hPc, hDc⟩ := zc2 (wc := [(h0, .inr (11, [.int th, .ref tB, .int tsz, .int tat, .int wr, .int dp, .ref rC, .ref rV, .ref rD, .ref rK, .ref rT, .ref rS, .ref rU, .int lw, .int tx, .ref rL, .ref rX, .ref qR, .ref qB, .ref qP, .int qnb, .int qnp, .ref aR, .ref aB, .ref aP, .int nb, .int np, .ref aN, .ref rf, .int ho, .int br, .ref aK, .int ac, .long dw, .ref aE, .int sr, .int sf, .ref aA, .ref aH, .ref aI, .int hi])), (aP, .inl (cI, 20, .inl fPa))]) hP hD [0, 10] (by decide +kernel) rfl
  have hFc := zfr hS hA
  refine va_calli (va_runV (As := [.int p0, .int 3]) (rest := []) ⟨hx, hb, hml, hown, hts⟩ (g_X11_by l dC dI cI cJ h0 p0 3 th tB tsz tat wr dp rC rV rD rK rT rS rU lw tx rL rX qR qB qP qnb qnp aR aB aP nb np aN rf ho br aK ac dw aE sr sf aA aH aI hi fPa H.size y_ac y_hi y_ho y_lw y_nb y_np n_p0 (by decide) y_qnb y_qnp y_tat y_tsz y_wr) (cwV 2 hts (zgV qw1390 qw1392 qw55 qw108 qw1393) rfl rfl rfl hd_X11_by ⟨by rw [hR]; exact Nat.le_of_ble_eq_true rfl, by rw [hR]; exact Nat.le_of_ble_eq_true rfl⟩) (zPV hPc hK hDc (va_recv (q := (RX11, TX11, 41)) hK hP (ci := 11) (q0 := 0) rfl rfl)) rfl rfl hl.1 rfl (lv_room (Nat.le_of_ble_eq_true rfl)) dX11_shownOf_20 ⟨Nat.zero_le _, Nat.zero_le _⟩) hS (fun q _ h => hFc q h) hFc (fun v20 u20 t H locs ht hvm hw hB hz1 hk1 hS9 => ?_)
  replace hP := zkeep hP hk1
  replace hS := hS9
  clear hPc hDc hFc hk1 hz1 hvm hS9
  have zn20_3 : (3 : Int32).toInt = 3 := by decide
  have f20_0 : (v20 = fPa (4 * p0.toInt.toNat + (3 : Int32).toInt.toNat)) := hw
  have F20 := f20_0
  rcases (show (v20.toInt < 1 ∨ 3 < v20.toInt) ∨ v20.toInt = 1 ∨ v20.toInt = 2 ∨ v20.toInt = 3 by omega) with c23 | c23 | c23 | c23
  · refine lv_tableOut (tgt := 85) hx hb dX11_shownOf_23 c23 (by decide) ?_
    refine lv_iload hx hb dX11_shownOf_85 (lv_at hl 0 rfl) ?_
    rw [hQ]
    exact W.iret (v := v12) hx hb hr (fun t ht hW => ⟨⟨v12, (u12_0, u12_1), rfl, ⟨by (try dsimp only); omega, by (try dsimp only); omega, by (try dsimp only); exact fun lw hl hb => by have a1 := F12 lw hl (by rw [zIxN (n := p1.toInt.toNat) e11 (by omega)]; exact hb); rw [zIxN (n := p1.toInt.toNat) e11 (by omega)] at a1; have a2 : v20 = fPa (4 * p0.toInt.toNat + 3) := F20.trans (congrArg fPa (by have : (3 : Int32).toInt = 3 := (by decide); omega)); rw [← a1, ← a2]; exact zSh_o (by omega) (by omega) (Or.inl (by omega))⟩, ⟨by rw [ht]; exact hP, hD⟩⟩, hS.F ht⟩) hS.2.2 dX11_shownOf_87
  · refine lv_tableIn (off := 25) (tgt := 48) hx hb dX11_shownOf_23 (by omega) (by omega) (by rw [c23]; rfl) (by decide) ?_
    refine lv_iload hx hb dX11_shownOf_48 (lv_at hl 0 rfl) ?_
    refine lv_bipush (v := 7) hx hb dX11_shownOf_50 (by decide) ?_
    refine lv_iadd hx hb dX11_shownOf_52 ?_
    refine lv_topi (fun v52 e52 => ?_)
    have i52 : v52.toInt = v12.toInt + 7 := zadd e52 rfl (by decide) (by omega) (by omega)
    refine lv_iconst (v := 2) hx hb dX11_shownOf_53 (by decide) ?_
    refine lv_idiv hx hb dX11_shownOf_54 (by decide) ?_
    refine lv_topi (fun v54 e54 => ?_)
    have i54 : v54.toInt = v52.toInt / 2 := zdiv e54 rfl (by decide) (by omega) (by omega)
    rw [hQ]
    exact W.iret (v := v54) hx hb hr (fun t ht hW => ⟨⟨v54, (u12_0, u12_1), rfl, ⟨by (try dsimp only); omega, by (try dsimp only); omega, by (try dsimp only); exact fun lw hl hb => by have a1 := F12 lw hl (by rw [zIxN (n := p1.toInt.toNat) e11 (by omega)]; exact hb); rw [zIxN (n := p1.toInt.toNat) e11 (by omega)] at a1; have a2 : v20 = fPa (4 * p0.toInt.toNat + 3) := F20.trans (congrArg fPa (by have : (3 : Int32).toInt = 3 := (by decide); omega)); rw [← a1, ← a2]; exact zSh_1 (by omega) e52 e54⟩, ⟨by rw [ht]; exact hP, hD⟩⟩, hS.F ht⟩) hS.2.2 dX11_shownOf_55
  · refine lv_tableIn (off := 33) (tgt := 56) hx hb dX11_shownOf_23 (by omega) (by omega) (by rw [c23]; rfl) (by decide) ?_
    refine lv_iconst (v := 0) hx hb dX11_shownOf_56 (by decide) ?_
    refine lv_iload hx hb dX11_shownOf_57 (lv_at hl 0 rfl) ?_
    refine lv_iconst (v := 2) hx hb dX11_shownOf_59 (by decide) ?_
    refine lv_isub hx hb dX11_shownOf_60 ?_
    refine lv_topi (fun v60 e60 => ?_)
    have i60 : v60.toInt = v12.toInt - 2 := zsub e60 rfl (by decide) (by omega) (by omega)
    refine va_mmax hx hb (by rw [hml]; exact hl.1.symm) hown (hts _ qw1430) (hts _ qw634) (hts _ qw112) (hts _ qw635) (by rw [hR]; exact Nat.le_of_ble_eq_true rfl) (by rw [hR]; exact Nat.le_of_ble_eq_true rfl) (Nat.zero_le _) (Nat.zero_le _) dX11_shownOf_61 ?_
    refine lv_topi (fun v61 e61 => ?_)
    have zc61_0 : (0 : Int32).toInt = 0 := by decide
    have i61 := zmmax e61
    rw [hQ]
    exact W.iret (v := v61) hx hb hr (fun t ht hW => ⟨⟨v61, (u12_0, u12_1), rfl, ⟨by (try dsimp only); omega, by (try dsimp only); omega, by (try dsimp only); exact fun lw hl hb => by have a1 := F12 lw hl (by rw [zIxN (n := p1.toInt.toNat) e11 (by omega)]; exact hb); rw [zIxN (n := p1.toInt.toNat) e11 (by omega)] at a1; have a2 : v20 = fPa (4 * p0.toInt.toNat + 3) := F20.trans (congrArg fPa (by have : (3 : Int32).toInt = 3 := (by decide); omega)); rw [← a1, ← a2]; exact zSh_2 (by omega) e60 e61⟩, ⟨by rw [ht]; exact hP, hD⟩⟩, hS.F ht⟩) hS.2.2 dX11_shownOf_64
  · refine lv_tableIn (off := 42) (tgt := 65) hx hb dX11_shownOf_23 (by omega) (by omega) (by rw [c23]; rfl) (by decide) ?_
    refine lv_aload_n hx hb dX11_shownOf_65 rfl (lv_at hl 1 rfl) ?_
    refine lv_iload_n hx hb dX11_shownOf_66 rfl (lv_at hl 2 rfl) ?_
    obtain ⟨hPc, hDc⟩ := zc2 (wc := [(h0, .inr (11, [.int th, .ref tB, .int tsz, .int tat, .int wr, .int dp, .ref rC, .ref rV, .ref rD, .ref rK, .ref rT, .ref rS, .ref rU, .int lw, .int tx, .ref rL, .ref rX, .ref qR, .ref qB, .ref qP, .int qnb, .int qnp, .ref aR, .ref aB, .ref aP, .int nb, .int np, .ref aN, .ref rf, .int ho, .int br, .ref aK, .int ac, .long dw, .ref aE, .int sr, .int sf, .ref aA, .ref aH, .ref aI, .int hi])), (aN, .inl (cI, 97, .inl fN))]) hP hD [0, 11] (by decide +kernel) rfl
    have hFc := zfr hS hA
    refine va_calli (va_runV (As := [.int p0]) (rest := []) ⟨hx, hb, hml, hown, hts⟩ (g_X11_latestOf l dC dI cI cJ h0 p0 th tB tsz tat wr dp rC rV rD rK rT rS rU lw tx rL rX qR qB qP qnb qnp aR aB aP nb np aN rf ho br aK ac dw aE sr sf aA aH aI hi fN H.size y_ac y_hi y_ho y_lw y_nb y_np y_qnb y_qnp y_tat y_tsz y_wr ci_fN_zNw_np) (cwV 1 hts (zgV qw1469 qw1471 qw64 qw108 qw1472) rfl rfl rfl hd_X11_latestOf ⟨by rw [hR]; exact Nat.le_of_ble_eq_true rfl, by rw [hR]; exact Nat.le_of_ble_eq_true rfl⟩) (zPV hPc hK hDc (va_recv (q := (RX11, TX11, 41)) hK hP (ci := 11) (q0 := 0) rfl rfl)) rfl rfl hl.1 rfl (lv_room (Nat.le_of_ble_eq_true rfl)) dX11_shownOf_67 ⟨Nat.zero_le _, Nat.zero_le _⟩) hS (fun q _ h => hFc q h) hFc (fun v67 u67 t H locs ht hvm hw hB hz1 hk1 hS9 => ?_)
    replace hP := zkeep hP hk1
    replace hS := hS9
    clear hPc hDc hFc hk1 hz1 hvm hS9
    obtain ⟨f67_0, f67_1, f67_2⟩ : ((-1) ≤ v67.toInt) ∧ (v67.toInt ≤ 9) ∧ (v67 = zLat (fun i => fN (17 + i)) p0 (fN 16).toInt.toNat) := hw
    have F67 := f67_2
    refine lv_iconst (v := (-1)) hx hb dX11_shownOf_70 (by decide) ?_
    refine lv_icmp_ne (tgt := 79) hx hb dX11_shownOf_71 (by decide) (fun c71 => ?_) (fun c71 => ?_)
    · have c71 : ¬ v67.toInt = (-1) := z6 rfl (by decide) c71
      refine lv_aload_n hx hb dX11_shownOf_79 rfl (lv_at hl 1 rfl) ?_
      refine lv_iload_n hx hb dX11_shownOf_80 rfl (lv_at hl 2 rfl) ?_
      obtain ⟨hPc, hDc⟩ := zc2 (wc := [(h0, .inr (11, [.int th, .ref tB, .int tsz, .int tat, .int wr, .int dp, .ref rC, .ref rV, .ref rD, .ref rK, .ref rT, .ref rS, .ref rU, .int lw, .int tx, .ref rL, .ref rX, .ref qR, .ref qB, .ref qP, .int qnb, .int qnp, .ref aR, .ref aB, .ref aP, .int nb, .int np, .ref aN, .ref rf, .int ho, .int br, .ref aK, .int ac, .long dw, .ref aE, .int sr, .int sf, .ref aA, .ref aH, .ref aI, .int hi])), (aN, .inl (cI, 97, .inl fN))]) hP hD [0, 11] (by decide +kernel) rfl
      have hFc := zfr hS hA
      refine va_calli (va_runV (As := [.int p0]) (rest := []) ⟨hx, hb, hml, hown, hts⟩ (g_X11_latestOf l dC dI cI cJ h0 p0 th tB tsz tat wr dp rC rV rD rK rT rS rU lw tx rL rX qR qB qP qnb qnp aR aB aP nb np aN rf ho br aK ac dw aE sr sf aA aH aI hi fN H.size y_ac y_hi y_ho y_lw y_nb y_np y_qnb y_qnp y_tat y_tsz y_wr ci_fN_zNw_np) (cwV 1 hts (zgV qw1469 qw1471 qw64 qw108 qw1472) rfl rfl rfl hd_X11_latestOf ⟨by rw [hR]; exact Nat.le_of_ble_eq_true rfl, by rw [hR]; exact Nat.le_of_ble_eq_true rfl⟩) (zPV hPc hK hDc (va_recv (q := (RX11, TX11, 41)) hK hP (ci := 11) (q0 := 0) rfl rfl)) rfl rfl hl.1 rfl (lv_room (Nat.le_of_ble_eq_true rfl)) dX11_shownOf_81 ⟨Nat.zero_le _, Nat.zero_le _⟩) hS (fun q _ h => hFc q h) hFc (fun v81 u81 t H locs ht hvm hw hB hz1 hk1 hS9 => ?_)
      replace hP := zkeep hP hk1
      replace hS := hS9
      clear hPc hDc hFc hk1 hz1 hvm hS9
      obtain ⟨f81_0, f81_1, f81_2⟩ : ((-1) ≤ v81.toInt) ∧ (v81.toInt ≤ 9) ∧ (v81 = zLat (fun i => fN (17 + i)) p0 (fN 16).toInt.toNat) := hw
      have F81 := f81_2
      rw [hQ]
      exact W.iret (v := v81) hx hb hr (fun t ht hW => ⟨⟨v81, (u12_0, u12_1), rfl, ⟨by (try dsimp only); omega, by (try dsimp only); omega, by (try dsimp only); exact fun lw hl hb => by have a1 := F12 lw hl (by rw [zIxN (n := p1.toInt.toNat) e11 (by omega)]; exact hb); rw [zIxN (n := p1.toInt.toNat) e11 (by omega)] at a1; have a2 : v20 = fPa (4 * p0.toInt.toNat + 3) := F20.trans (congrArg fPa (by have : (3 : Int32).toInt = 3 := (by decide); omega)); rw [← a1, ← a2]; rw [← F81]; exact zSh_3 (by omega) (by rw [F81, ← F67]; omega)⟩, ⟨by rw [ht]; exact hP, hD⟩⟩, hS.F ht⟩) hS.2.2 dX11_shownOf_84
    · have c71 : v67.toInt = (-1) := z5 rfl (by decide) c71
      refine lv_iload hx hb dX11_shownOf_74 (lv_at hl 0 rfl) ?_
      refine lv_goto (tgt := 84) hx hb dX11_shownOf_76 (by decide) ?_
      rw [hQ]
      exact W.iret (v := v12) hx hb hr (fun t ht hW => ⟨⟨v12, (u12_0, u12_1), rfl, ⟨by (try dsimp only); omega, by (try dsimp only); omega, by (try dsimp only); exact fun lw hl hb => by have a1 := F12 lw hl (by rw [zIxN (n := p1.toInt.toNat) e11 (by omega)]; exact hb); rw [zIxN (n := p1.toInt.toNat) e11 (by omega)] at a1; have a2 : v20 = fPa (4 * p0.toInt.toNat + 3) := F20.trans (congrArg fPa (by have : (3 : Int32).toInt = 3 := (by decide); omega)); rw [← a1, ← a2]; exact zSh_o (by omega) (by omega) (Or.inr (by rw [← F67]; omega))⟩, ⟨by rw [ht]; exact hP, hD⟩⟩, hS.F ht⟩) hS.2.2 dX11_shownOf_84
set_option maxHeartbeats 4000000 in
set_option maxRecDepth 100000 in
theorem g_X11_weightOf (l : Launch) (dC : Nat → ClassId) (dI : Nat → Nat → Nat) (cI cJ : ClassId) (h0 : Nat) (p0 : Int32) (p1 : Int32) (th : Int32) (tB : Nat) (tsz : Int32) (tat : Int32) (wr : Int32) (dp : Int32) (rC : Nat) (rV : Nat) (rD : Nat) (rK : Nat) (rT : Nat) (rS : Nat) (rU : Nat) (lw : Int32) (tx : Int32) (rL : Nat) (rX : Nat) (qR : Nat) (qB : Nat) (qP : Nat) (qnb : Int32) (qnp : Int32) (aR : Nat) (aB : Nat) (aP : Nat) (nb : Int32) (np : Int32) (aN : Nat) (rf : Nat) (ho : Int32) (br : Int32) (aK : Nat) (ac : Int32) (dw : Int64) (aE : Nat) (sr : Int32) (sf : Int32) (aA : Nat) (aH : Nat) (aI : Nat) (hi : Int32) (fC : Nat → Int32) (fV : Nat → Int32) (fK : Nat → Int32) (fT : Nat → Int32) (fS : Nat → Int32) (fU : Nat → Int32) (fL : Nat → Int32) (fX : Nat → Int32) (fBr : Nat → Int32) (fPa : Nat → Int32) (fN : Nat → Int32) (sz : Nat) (n_ac : 0 ≤ ac.toInt ∧ ac.toInt ≤ 40) (n_hi : 0 ≤ hi.toInt ∧ hi.toInt ≤ 1) (n_ho : (-1) ≤ ho.toInt ∧ ho.toInt ≤ 3) (n_lw : 0 ≤ lw.toInt ∧ lw.toInt ≤ 4) (n_nb : 0 ≤ nb.toInt ∧ nb.toInt ≤ 6) (n_np : 0 ≤ np.toInt ∧ np.toInt ≤ 5) (n_p0 : 0 ≤ p0.toInt ∧ p0.toInt ≤ 5) (n_qnb : 0 ≤ qnb.toInt ∧ qnb.toInt ≤ 6) (n_qnp : 0 ≤ qnp.toInt ∧ qnp.toInt ≤ 5) (n_tat : 0 ≤ tat.toInt ∧ tat.toInt ≤ 260) (n_tsz : 0 ≤ tsz.toInt ∧ tsz.toInt ≤ 240) (n_wr : (-1) ≤ wr.toInt ∧ wr.toInt ≤ 260) (hls : zLs ho fC fV fK fT fS fU) (ci_fBr_zBr_nb : zBr nb fBr) (ci_fN_zNw_np : zNw np fN) (ci_fPa_zBr_np : zBr np fPa)  : Met l yX11_weightOf (.code yX11_weightOf cX11_weightOf 8 (some .long) :: wA) ({ frames := 7, cells := 0, slots := 0, locals := 171 }) (zP (dC, dI) [(cI, .int), (cJ, .long)] [.ref h0, .int p0, .int p1] sz [(h0, .inr (11, [.int th, .ref tB, .int tsz, .int tat, .int wr, .int dp, .ref rC, .ref rV, .ref rD, .ref rK, .ref rT, .ref rS, .ref rU, .int lw, .int tx, .ref rL, .ref rX, .ref qR, .ref qB, .ref qP, .int qnb, .int qnp, .ref aR, .ref aB, .ref aP, .int nb, .int np, .ref aN, .ref rf, .int ho, .int br, .ref aK, .int ac, .long dw, .ref aE, .int sr, .int sf, .ref aA, .ref aH, .ref aI, .int hi])), (rC, .inl (cI, 2600, .inl fC)), (rV, .inl (cI, 2600, .inl fV)), (rK, .inl (cI, 5, .inl fK)), (rT, .inl (cI, 700, .inl fT)), (rS, .inl (cI, 700, .inl fS)), (rU, .inl (cI, 700, .inl fU)), (rL, .inl (cI, 6, .inl fL)), (rX, .inl (cI, 80, .inl fX)), (aB, .inl (cI, 24, .inl fBr)), (aP, .inl (cI, 20, .inl fPa)), (aN, .inl (cI, 97, .inl fN))]) (va_Ql (fun (r : Int64) (u : (Nat → Int32) × (Nat → Int32)) => (1 ≤ r.toInt) ∧ (r.toInt ≤ 1000000000000) ∧ (∀ (kc : zK3) (kT : zT) (q_fR : Nat → Int32) (kl : Option ((Int → Int) × Int)), zCn q_fR fBr fPa nb.toInt np.toInt kc → zKo nb.toInt np.toInt kc kT → zSr nb.toInt np.toInt kT.1 fN → zLwR ho fC fV fK fT fS fU kl → (0 ≤ p0.toInt ∧ p0.toInt < nb.toInt) → (0 ≤ p1.toInt ∧ p1.toInt ≤ 9) → r = sWl kc kT.1 kl p0 p1 kT.1.2.2.2.1.2.2.toInt.toNat 12 1)) (fun (u : (Nat → Int32) × (Nat → Int32)) (t : State) => va_P (dC, dI) vwCl [(h0, .inr (11, [.int th, .ref tB, .int tsz, .int tat, .int wr, .int dp, .ref rC, .ref rV, .ref rD, .ref rK, .ref rT, .ref rS, .ref rU, .int lw, .int tx, .ref rL, .ref rX, .ref qR, .ref qB, .ref qP, .int qnb, .int qnp, .ref aR, .ref aB, .ref aP, .int nb, .int np, .ref aN, .ref rf, .int ho, .int br, .ref aK, .int ac, .long dw, .ref aE, .int sr, .int sf, .ref aA, .ref aH, .ref aI, .int hi])), (rC, .inl (cI, 2600, .inl fC)), (rV, .inl (cI, 2600, .inl fV)), (rK, .inl (cI, 5, .inl fK)), (rT, .inl (cI, 700, .inl fT)), (rS, .inl (cI, 700, .inl fS)), (rU, .inl (cI, 700, .inl fU)), (rL, .inl (cI, 6, .inl u.1)), (rX, .inl (cI, 80, .inl u.2)), (aB, .inl (cI, 24, .inl fBr)), (aP, .inl (cI, 20, .inl fPa)), (aN, .inl (cI, 97, .inl fN))] t.heap ∧ va_D (va_A [(h0, .inr (11, [.int th, .ref tB, .int tsz, .int tat, .int wr, .int dp, .ref rC, .ref rV, .ref rD, .ref rK, .ref rT, .ref rS, .ref rU, .int lw, .int tx, .ref rL, .ref rX, .ref qR, .ref qB, .ref qP, .int qnb, .int qnp, .ref aR, .ref aB, .ref aP, .int nb, .int np, .ref aN, .ref rf, .int ho, .int br, .ref aK, .int ac, .long dw, .ref aE, .int sr, .int sf, .ref aA, .ref aH, .ref aI, .int hi])), (rC, .inl (cI, 2600, .inl fC)), (rV, .inl (cI, 2600, .inl fV)), (rK, .inl (cI, 5, .inl fK)), (rT, .inl (cI, 700, .inl fT)), (rS, .inl (cI, 700, .inl fS)), (rU, .inl (cI, 700, .inl fU)), (rL, .inl (cI, 6, .inl fL)), (rX, .inl (cI, 80, .inl fX)), (aB, .inl (cI, 24, .inl fBr)), (aP, .inl (cI, 20, .inl fPa)), (aN, .inl (cI, 97, .inl fN))] sz) [(h0, .inr (11, [.int th, .ref tB, .int tsz, .int tat, .int wr, .int dp, .ref rC, .ref rV, .ref rD, .ref rK, .ref rT, .ref rS, .ref rU, .int lw, .int tx, .ref rL, .ref rX, .ref qR, .ref qB, .ref qP, .int qnb, .int qnp, .ref aR, .ref aB, .ref aP, .int nb, .int np, .ref aN, .ref rf, .int ho, .int br, .ref aK, .int ac, .long dw, .ref aE, .int sr, .int sf, .ref aA, .ref aH, .ref aI, .int hi])), (rC, .inl (cI, 2600, .inl fC)), (rV, .inl (cI, 2600, .inl fV)), (rK, .inl (cI, 5, .inl fK)), (rT, .inl (cI, 700, .inl fT)), (rS, .inl (cI, 700, .inl fS)), (rU, .inl (cI, 700, .inl fU)), (rL, .inl (cI, 6, .inl u.1)), (rX, .inl (cI, 80, .inl u.2)), (aB, .inl (cI, 24, .inl fBr)), (aP, .inl (cI, 20, .inl fPa)), (aN, .inl (cI, 97, .inl fN))]) (va_A [(h0, .inr (11, [.int th, .ref tB, .int tsz, .int tat, .int wr, .int dp, .ref rC, .ref rV, .ref rD, .ref rK, .ref rT, .ref rS, .ref rU, .int lw, .int tx, .ref rL, .ref rX, .ref qR, .ref qB, .ref qP, .int qnb, .int qnp, .ref aR, .ref aB, .ref aP, .int nb, .int np, .ref aN, .ref rf, .int ho, .int br, .ref aK, .int ac, .long dw, .ref aE, .int sr, .int sf, .ref aA, .ref aH, .ref aI, .int hi])), (rC, .inl (cI, 2600, .inl fC)), (rV, .inl (cI, 2600, .inl fV)), (rK, .inl (cI, 5, .inl fK)), (rT, .inl (cI, 700, .inl fT)), (rS, .inl (cI, 700, .inl fS)), (rU, .inl (cI, 700, .inl fU)), (rL, .inl (cI, 6, .inl fL)), (rX, .inl (cI, 80, .inl fX)), (aB, .inl (cI, 24, .inl fBr)), (aP, .inl (cI, 20, .inl fPa)), (aN, .inl (cI, 97, .inl fN))] sz)) 0 0 (va_A [(h0, .inr (11, [.int th, .ref tB, .int tsz, .int tat, .int wr, .int dp, .ref rC, .ref rV, .ref rD, .ref rK, .ref rT, .ref rS, .ref rU, .int lw, .int tx, .ref rL, .ref rX, .ref qR, .ref qB, .ref qP, .int qnb, .int qnp, .ref aR, .ref aB, .ref aP, .int nb, .int np, .ref aN, .ref rf, .int ho, .int br, .ref aK, .int ac, .long dw, .ref aE, .int sr, .int sf, .ref aA, .ref aH, .ref aI, .int hi])), (rC, .inl (cI, 2600, .inl fC)), (rV, .inl (cI, 2600, .inl fV)), (rK, .inl (cI, 5, .inl fK)), (rT, .inl (cI, 700, .inl fT)), (rS, .inl (cI, 700, .inl fS)), (rU, .inl (cI, 700, .inl fU)), (rL, .inl (cI, 6, .inl fL)), (rX, .inl (cI, 80, .inl fX)), (aB, .inl (cI, 24, .inl fBr)), (aP, .inl (cI, 20, .inl fPa)), (aN, .inl (cI, 97, .inl fN))] sz) := by
  refine Met.ofW (cc := cX11_weightOf) (maxL := 8) (ret := (some .long)) (by decide) rfl ?_
  intro p e s m args below meth c s₁ B hml hv
  have y_ac : zHid (0 ≤ ac.toInt ∧ ac.toInt ≤ 40) := n_ac
  have y_hi : zHid (0 ≤ hi.toInt ∧ hi.toInt ≤ 1) := n_hi
  have y_ho : zHid ((-1) ≤ ho.toInt ∧ ho.toInt ≤ 3) := n_ho
  have y_lw : zHid (0 ≤ lw.toInt ∧ lw.toInt ≤ 4) := n_lw
  have y_qnb : zHid (0 ≤ qnb.toInt ∧ qnb.toInt ≤ 6) := n_qnb
  have y_qnp : zHid (0 ≤ qnp.toInt ∧ qnp.toInt ≤ 5) := n_qnp
  have y_tat : zHid (0 ≤ tat.toInt ∧ tat.toInt ≤ 260) := n_tat
  have y_tsz : zHid (0 ≤ tsz.toInt ∧ tsz.toInt ≤ 240) := n_tsz
  have y_wr : zHid ((-1) ≤ wr.toInt ∧ wr.toInt ≤ 260) := n_wr
  clear n_ac n_hi n_ho n_lw n_qnb n_qnp n_tat n_tsz n_wr
  obtain ⟨hargs, hsz, hP, hK, hT⟩ := hv
  have hx := B.exec
  have hb := B.bytes
  have hr := B.returns
  have hts : ∀ w ∈ wA, w.before args s = true := fun w h => atoms_spec (ws := .code yX11_weightOf cX11_weightOf 8 (some .long) :: wA) B.pre w (List.mem_cons_of_mem _ h)
  have hown : s.vm.findClass RX11 = some m.cls := findClass_of_methodNamed B.named
  have hlocks := B.notSynchronized
  subst hsz
  have hD := hT.self (sz := s.heap.size)
  generalize hAe : va_A [(h0, .inr (11, [.int th, .ref tB, .int tsz, .int tat, .int wr, .int dp, .ref rC, .ref rV, .ref rD, .ref rK, .ref rT, .ref rS, .ref rU, .int lw, .int tx, .ref rL, .ref rX, .ref qR, .ref qB, .ref qP, .int qnb, .int qnp, .ref aR, .ref aB, .ref aP, .int nb, .int np, .ref aN, .ref rf, .int ho, .int br, .ref aK, .int ac, .long dw, .ref aE, .int sr, .int sf, .ref aA, .ref aH, .ref aI, .int hi])), (rC, .inl (cI, 2600, .inl fC)), (rV, .inl (cI, 2600, .inl fV)), (rK, .inl (cI, 5, .inl fK)), (rT, .inl (cI, 700, .inl fT)), (rS, .inl (cI, 700, .inl fS)), (rU, .inl (cI, 700, .inl fU)), (rL, .inl (cI, 6, .inl fL)), (rX, .inl (cI, 80, .inl fX)), (aB, .inl (cI, 24, .inl fBr)), (aP, .inl (cI, 20, .inl fPa)), (aN, .inl (cI, 97, .inl fN))] s.heap.size = A at hD ⊢
  have hA : ∀ q : Nat, s.heap.size ≤ q → A q := fun q h => by rw [← hAe]; exact Or.inr h
  have hl := lv_entry ([.ref h0, .int p0, .int p1]) (n := 8) (Nat.le_of_ble_eq_true rfl)
  rw [show entryFrame m args 8 = entryFrame m ([.ref h0, .int p0, .int p1] : List Value).toArray 8 by rw [hargs], lg_entry_eq]
  generalize (lg_sl ([.ref h0, .int p0, .int p1]) ++ List.replicate (8 - (lg_sl ([.ref h0, .int p0, .int p1])).length) Slot.unset).toArray = ls at hl ⊢
  have hl : lv_has ls 8 [(0, .ref h0), (1, .int p0), (2, .int p1)] := hl
  refine zstart (fun H hH => ?_)
  rw [← hH] at hP
  have hS : va_S A s.heap H [] := by rw [hH]; exact va_S.rf
  generalize ([] : List Loc) = locs at hS ⊢
  refine zgen (fun R Q hR hQ => ?_)
  refine lv_lconst (v := 1) hx hb dX11_weightOf_0 rfl ?_
  refine lv_lstore_n (lv' := [(3, .long 1), (0, .ref h0), (1, .int p0), (2, .int p1)]) hx hb dX11_weightOf_1 rfl hl (by decide) rfl (fun ls hl => ?_)
  refine lv_bipush (v := 12) hx hb dX11_weightOf_2 (by decide) ?_
  refine lv_istore (lv' := [(5, .int 12), (3, .long 1), (0, .ref h0), (1, .int p0), (2, .int p1)]) hx hb dX11_weightOf_4 hl (by decide) rfl (fun ls hl => ?_)
  refine lv_aload_n hx hb dX11_weightOf_6 rfl (lv_at hl 2 rfl) ?_
  refine va_get (D := (dC, dI)) (ci := 11) (v := .ref aN) (C := RX11) (T := TX11) (N := 41) hx hb hts iX11 hown hK hP 0 rfl rfl 27 (by decide) (hts _ qw1154) (fun _ h9 => h9) rfl dX11_weightOf_7 ?_
  refine lv_bipush (v := 16) hx hb dX11_weightOf_10 (by decide) ?_
  refine va_iald hx hb hK hP 11 0 rfl rfl (by unfold vp_in; decide) dX11_weightOf_12 ?_
  refine lv_topi (fun v12 e12 => ?_)
  have i12 : v12.toInt = (fN 16).toInt ∧ 0 ≤ v12.toInt ∧ v12.toInt ≤ 20 := zNw_16 ci_fN_zNw_np e12
  refine lv_iconst (v := 1) hx hb dX11_weightOf_13 (by decide) ?_
  refine lv_isub hx hb dX11_weightOf_14 ?_
  refine lv_topi (fun v14 e14 => ?_)
  have i14 : v14.toInt = v12.toInt - 1 := zsub e14 rfl (by decide) (by omega) (by omega)
  have J17 : ∀ (n : Nat) (m17_A_rL : Nat → Int32) (m17_A_rX : Nat → Int32) (m17_L_3 : Int64) (m17_L_5 : Int32) (m17_L_6 : Int32), (0 ≤ m17_L_5.toInt ∧ m17_L_5.toInt ≤ 12) → ((-1) ≤ m17_L_6.toInt ∧ m17_L_6.toInt ≤ 19) → (1 ≤ m17_L_3.toInt ∧ m17_L_3.toInt ≤ zTen (12 - m17_L_5.toInt).toNat) → (m17_L_6.toInt < (fN 16).toInt) → (∀ (kc : zK3) (kT : zT) (q_fR : Nat → Int32) (kl : Option ((Int → Int) × Int)), zCn q_fR fBr fPa nb.toInt np.toInt kc → zKo nb.toInt np.toInt kc kT → zSr nb.toInt np.toInt kT.1 fN → zLwR ho fC fV fK fT fS fU kl → (0 ≤ p0.toInt ∧ p0.toInt < nb.toInt) → (0 ≤ p1.toInt ∧ p1.toInt ≤ 9) → sWl kc kT.1 kl p0 p1 kT.1.2.2.2.1.2.2.toInt.toNat 12 1 = sWl kc kT.1 kl p0 p1 (m17_L_6.toInt + 1).toNat m17_L_5.toInt.toNat m17_L_3) → (m17_L_6.toInt - (-2)).toNat = n → ∀ (H : Heap) (locs : List Loc) (ls : Array Slot), va_P (dC, dI) vwCl [(h0, .inr (11, [.int th, .ref tB, .int tsz, .int tat, .int wr, .int dp, .ref rC, .ref rV, .ref rD, .ref rK, .ref rT, .ref rS, .ref rU, .int lw, .int tx, .ref rL, .ref rX, .ref qR, .ref qB, .ref qP, .int qnb, .int qnp, .ref aR, .ref aB, .ref aP, .int nb, .int np, .ref aN, .ref rf, .int ho, .int br, .ref aK, .int ac, .long dw, .ref aE, .int sr, .int sf, .ref aA, .ref aH, .ref aI, .int hi])), (rC, .inl (cI, 2600, .inl fC)), (rV, .inl (cI, 2600, .inl fV)), (rK, .inl (cI, 5, .inl fK)), (rT, .inl (cI, 700, .inl fT)), (rS, .inl (cI, 700, .inl fS)), (rU, .inl (cI, 700, .inl fU)), (rL, .inl (cI, 6, .inl m17_A_rL)), (rX, .inl (cI, 80, .inl m17_A_rX)), (aB, .inl (cI, 24, .inl fBr)), (aP, .inl (cI, 20, .inl fPa)), (aN, .inl (cI, 97, .inl fN))] H → va_D A [(h0, .inr (11, [.int th, .ref tB, .int tsz, .int tat, .int wr, .int dp, .ref rC, .ref rV, .ref rD, .ref rK, .ref rT, .ref rS, .ref rU, .int lw, .int tx, .ref rL, .ref rX, .ref qR, .ref qB, .ref qP, .int qnb, .int qnp, .ref aR, .ref aB, .ref aP, .int nb, .int np, .ref aN, .ref rf, .int ho, .int br, .ref aK, .int ac, .long dw, .ref aE, .int sr, .int sf, .ref aA, .ref aH, .ref aI, .int hi])), (rC, .inl (cI, 2600, .inl fC)), (rV, .inl (cI, 2600, .inl fV)), (rK, .inl (cI, 5, .inl fK)), (rT, .inl (cI, 700, .inl fT)), (rS, .inl (cI, 700, .inl fS)), (rU, .inl (cI, 700, .inl fU)), (rL, .inl (cI, 6, .inl m17_A_rL)), (rX, .inl (cI, 80, .inl m17_A_rX)), (aB, .inl (cI, 24, .inl fBr)), (aP, .inl (cI, 20, .inl fPa)), (aN, .inl (cI, 97, .inl fN))] → va_S A s.heap H locs → lv_has ls 8 [(6, .int m17_L_6), (5, .int m17_L_5), (3, .long m17_L_3), (0, .ref h0), (1, .int p0), (2, .int p1)] → W p l e R s m args below meth c H locs 0 0 Q (F0 m 17 ls []) := by
    intro n17
    induction n17 using Nat.strongRecOn with
    | _ n17 ih17 =>
      intro m17_A_rL m17_A_rX m17_L_3 m17_L_5 m17_L_6 jf17_0 jf17_1 jv17_0 jf17_3 jv17_1 hmu17 H locs ls hP hD hS hl
      refine lv_iload hx hb dX11_weightOf_17 (lv_at hl 0 rfl) ?_
      refine lv_if_lt (tgt := 104) hx hb dX11_weightOf_19 (by decide) (fun c19 => ?_) (fun c19 => ?_)
      · have c19 : m17_L_6.toInt < 0 := z1 rfl (by decide) c19
        have q104 := zTen_le (12 - m17_L_5.toInt).toNat (by omega)
        refine lv_lload_n hx hb dX11_weightOf_104 rfl (lv_at hl 2 rfl) ?_
        rw [hQ]
        exact W.lret (v := m17_L_3) hx hb hr (fun t ht hW => ⟨⟨m17_L_3, (m17_A_rL, m17_A_rX), rfl, ⟨by (try dsimp only); omega, by (try dsimp only); omega, by (try dsimp only); exact fun kc kT q_fR kl hc hb h hL hq hf => sWlE (jv17_1 kc kT _ kl hc hb h hL hq hf) (by omega)⟩, ⟨by rw [ht]; exact hP, hD⟩⟩, hS.F ht⟩) hS.2.2 dX11_weightOf_105
      · have c19 : 0 ≤ m17_L_6.toInt := z2 rfl (by decide) c19
        refine lv_iload hx hb dX11_weightOf_22 (lv_at hl 1 rfl) ?_
        refine lv_if_le (tgt := 104) hx hb dX11_weightOf_24 (by decide) (fun c24 => ?_) (fun c24 => ?_)
        · have c24 : m17_L_5.toInt ≤ 0 := z3 rfl (by decide) c24
          have q104 := zTen_le (12 - m17_L_5.toInt).toNat (by omega)
          refine lv_lload_n hx hb dX11_weightOf_104 rfl (lv_at hl 2 rfl) ?_
          rw [hQ]
          exact W.lret (v := m17_L_3) hx hb hr (fun t ht hW => ⟨⟨m17_L_3, (m17_A_rL, m17_A_rX), rfl, ⟨by (try dsimp only); omega, by (try dsimp only); omega, by (try dsimp only); exact fun kc kT q_fR kl hc hb h hL hq hf => sWlE (jv17_1 kc kT _ kl hc hb h hL hq hf) (by omega)⟩, ⟨by rw [ht]; exact hP, hD⟩⟩, hS.F ht⟩) hS.2.2 dX11_weightOf_105
        · have c24 : 0 < m17_L_5.toInt := z4 rfl (by decide) c24
          refine lv_aload_n hx hb dX11_weightOf_27 rfl (lv_at hl 3 rfl) ?_
          refine lv_iload hx hb dX11_weightOf_28 (lv_at hl 0 rfl) ?_
          refine lv_iconst (v := 1) hx hb dX11_weightOf_30 (by decide) ?_
          obtain ⟨hPc, hDc⟩ := zc2 (wc := [(h0, .inr (11, [.int th, .ref tB, .int tsz, .int tat, .int wr, .int dp, .ref rC, .ref rV, .ref rD, .ref rK, .ref rT, .ref rS, .ref rU, .int lw, .int tx, .ref rL, .ref rX, .ref qR, .ref qB, .ref qP, .int qnb, .int qnp, .ref aR, .ref aB, .ref aP, .int nb, .int np, .ref aN, .ref rf, .int ho, .int br, .ref aK, .int ac, .long dw, .ref aE, .int sr, .int sf, .ref aA, .ref aH, .ref aI, .int hi])), (aN, .inl (cI, 97, .inl fN))]) hP hD [0, 11] (by decide +kernel) rfl
          have hFc := zfr hS hA
          refine va_calli (va_runV (As := [.int m17_L_6, .int 1]) (rest := []) ⟨hx, hb, hml, hown, hts⟩ (g_X11_shot_1 l dC dI cI cJ h0 m17_L_6 th tB tsz tat wr dp rC rV rD rK rT rS rU lw tx rL rX qR qB qP qnb qnp aR aB aP nb np aN rf ho br aK ac dw aE sr sf aA aH aI hi fN H.size y_ac y_hi y_ho y_lw n_nb n_np (by omega) y_qnb y_qnp y_tat y_tsz y_wr (by omega) ci_fN_zNw_np) (cwV 2 hts (zgV qw1473 qw1475 qw65 qw108 qw1476) rfl rfl rfl hd_X11_shot ⟨by rw [hR]; exact Nat.le_of_ble_eq_true rfl, by rw [hR]; exact Nat.le_of_ble_eq_true rfl⟩) (zPV hPc hK hDc (va_recv (q := (RX11, TX11, 41)) hK hP (ci := 11) (q0 := 0) rfl rfl)) rfl rfl hl.1 rfl (lv_room (Nat.le_of_ble_eq_true rfl)) dX11_weightOf_31 ⟨Nat.zero_le _, Nat.zero_le _⟩) hS (fun q _ h => hFc q h) hFc (fun v31 u31 t H locs ht hvm hw hB hz1 hk1 hS9 => ?_)
          replace hP := zkeep hP hk1
          replace hS := hS9
          clear hPc hDc hFc hk1 hz1 hvm hS9
          obtain ⟨f31_0, f31_1, f31_2, f31_3⟩ : (0 ≤ v31.toInt) ∧ (v31.toInt ≤ 4) ∧ (v31.toInt < np.toInt) ∧ (v31 = fN (17 + (4 * m17_L_6.toInt.toNat + 1))) := hw
          have F31 := f31_3
          refine lv_istore (lv' := [(7, .int v31), (6, .int m17_L_6), (5, .int m17_L_5), (3, .long m17_L_3), (0, .ref h0), (1, .int p0), (2, .int p1)]) hx hb dX11_weightOf_34 hl (by decide) rfl (fun ls hl => ?_)
          refine lv_aload_n hx hb dX11_weightOf_36 rfl (lv_at hl 4 rfl) ?_
          refine lv_iload hx hb dX11_weightOf_37 (lv_at hl 1 rfl) ?_
          refine lv_iconst (v := 0) hx hb dX11_weightOf_39 (by decide) ?_
          obtain ⟨hPc, hDc⟩ := zc2 (wc := [(h0, .inr (11, [.int th, .ref tB, .int tsz, .int tat, .int wr, .int dp, .ref rC, .ref rV, .ref rD, .ref rK, .ref rT, .ref rS, .ref rU, .int lw, .int tx, .ref rL, .ref rX, .ref qR, .ref qB, .ref qP, .int qnb, .int qnp, .ref aR, .ref aB, .ref aP, .int nb, .int np, .ref aN, .ref rf, .int ho, .int br, .ref aK, .int ac, .long dw, .ref aE, .int sr, .int sf, .ref aA, .ref aH, .ref aI, .int hi])), (aN, .inl (cI, 97, .inl fN))]) hP hD [0, 11] (by decide +kernel) rfl
          have hFc := zfr hS hA
          refine va_calli (va_runV (As := [.int m17_L_6, .int 0]) (rest := []) ⟨hx, hb, hml, hown, hts⟩ (g_X11_shot_0 l dC dI cI cJ h0 m17_L_6 th tB tsz tat wr dp rC rV rD rK rT rS rU lw tx rL rX qR qB qP qnb qnp aR aB aP nb np aN rf ho br aK ac dw aE sr sf aA aH aI hi fN H.size y_ac y_hi y_ho y_lw n_nb n_np (by omega) y_qnb y_qnp y_tat y_tsz y_wr (by omega) ci_fN_zNw_np) (cwV 2 hts (zgV qw1473 qw1475 qw65 qw108 qw1476) rfl rfl rfl hd_X11_shot ⟨by rw [hR]; exact Nat.le_of_ble_eq_true rfl, by rw [hR]; exact Nat.le_of_ble_eq_true rfl⟩) (zPV hPc hK hDc (va_recv (q := (RX11, TX11, 41)) hK hP (ci := 11) (q0 := 0) rfl rfl)) rfl rfl hl.1 rfl (lv_room (Nat.le_of_ble_eq_true rfl)) dX11_weightOf_40 ⟨Nat.zero_le _, Nat.zero_le _⟩) hS (fun q _ h => hFc q h) hFc (fun v40 u40 t H locs ht hvm hw hB hz1 hk1 hS9 => ?_)
          replace hP := zkeep hP hk1
          replace hS := hS9
          clear hPc hDc hFc hk1 hz1 hvm hS9
          obtain ⟨f40_0, f40_1, f40_2, f40_3⟩ : (0 ≤ v40.toInt) ∧ (v40.toInt ≤ 5) ∧ (v40.toInt = (fN (17 + 4 * m17_L_6.toInt.toNat)).toInt) ∧ (v40 = fN (17 + 4 * m17_L_6.toInt.toNat)) := hw
          have F40 := f40_3
          refine lv_iload_n hx hb dX11_weightOf_43 rfl (lv_at hl 5 rfl) ?_
          refine lv_icmp_ne (tgt := 98) hx hb dX11_weightOf_44 (by decide) (fun c44 => ?_) (fun c44 => ?_)
          · have c44 : ¬ v40.toInt = p0.toInt := z6 rfl rfl c44
            obtain ⟨v98, e98⟩ : ∃ y : Int32, y = m17_L_6 + Int32.ofInt (-1) := ⟨_, rfl⟩
            refine lv_iinc (v := v98) (lv' := [(6, .int v98), (7, .int v31), (5, .int m17_L_5), (3, .long m17_L_3), (0, .ref h0), (1, .int p0), (2, .int p1)]) hx hb dX11_weightOf_98 hl (k := 1) rfl e98.symm (by decide) rfl (fun ls hl => ?_)
            have i98 : v98.toInt = m17_L_6.toInt + (-1) := zaddI e98 (by decide) (by omega) (by omega)
            refine lv_goto (tgt := 17) hx hb dX11_weightOf_101 (by decide) ?_
            exact ih17 _ (by omega) m17_A_rL m17_A_rX m17_L_3 m17_L_5 v98 jf17_0 (by omega) (by first | exact jv17_0 | exact zwt e93 e92 jv17_0.1 jv17_0.2 (by omega) (by omega) (by omega) (by omega) (by omega)) (by omega) (fun kc kT q_fR kl hc hb h hL hq hf => by have zn := ci_fN_zNw_np.2.1; have y40 : v40 = kT.1.2.2.2.2 (4 * m17_L_6.toInt.toNat) := F40.trans (h.2.2.2.2 _ (by omega)); have z40 := congrArg Int32.toInt y40; have y31 : v31 = kT.1.2.2.2.2 (4 * m17_L_6.toInt.toNat + 1) := F31.trans (h.2.2.2.2 _ (by omega)); have z31 := congrArg Int32.toInt y31; first | (have y51 : v51 = kc.2.2 (4 * (kT.1.2.2.2.2 (4 * m17_L_6.toInt.toNat + 1)).toInt.toNat + 3) := (F51.trans (congrArg fPa (show 4 * v31.toInt.toNat + (3 : Int32).toInt.toNat = 4 * v31.toInt.toNat + 3 by have : (3 : Int32).toInt = 3 := (by decide); omega))).trans ((hc.2.2 _ (by omega)).trans (by rw [y31])); have z51 := congrArg Int32.toInt y51; first | (have y65 : v65 = kc.2.2 (4 * v31.toInt.toNat) := F65.trans (hc.2.2 _ (by omega)); have y81 : v81 = kT.1.2.2.2.2 (4 * m17_L_6.toInt.toNat + 2) := F81.trans (h.2.2.2.2 _ (by omega)); have s0 : v74 = sShow kc kT.1 kl v31 p0 p1 := sShow_r hc hb h (by omega) hq hf hL F74; exact (jv17_1 kc kT _ kl hc hb h hL hq hf).trans (sWlY (by omega) i98 (by omega) i95 ⟨by omega, by omega⟩ (sFc_mk y31 y81 s0 y65 e84 e85 e68 e88 e89) e92 e93)) | exact (jv17_1 kc kT _ kl hc hb h hL hq hf).trans (sWlN (by omega) i98 (by omega) (fun z => z.2 (by omega)))) | exact (jv17_1 kc kT _ kl hc hb h hL hq hf).trans (sWlN (by omega) i98 (by omega) (fun z => absurd z.1 (by omega)))) rfl H locs ls hP hD hS (lv_sub hl [0, 2, 3, 4, 5, 6] rfl)
          · have c44 : v40.toInt = p0.toInt := z5 rfl rfl c44
            refine lv_aload_n hx hb dX11_weightOf_47 rfl (lv_at hl 4 rfl) ?_
            refine lv_iload hx hb dX11_weightOf_48 (lv_at hl 0 rfl) ?_
            refine lv_iconst (v := 3) hx hb dX11_weightOf_50 (by decide) ?_
            obtain ⟨hPc, hDc⟩ := zc2 (wc := [(h0, .inr (11, [.int th, .ref tB, .int tsz, .int tat, .int wr, .int dp, .ref rC, .ref rV, .ref rD, .ref rK, .ref rT, .ref rS, .ref rU, .int lw, .int tx, .ref rL, .ref rX, .ref qR, .ref qB, .ref qP, .int qnb, .int qnp, .ref aR, .ref aB, .ref aP, .int nb, .int np, .ref aN, .ref rf, .int ho, .int br, .ref aK, .int ac, .long dw, .ref aE, .int sr, .int sf, .ref aA, .ref aH, .ref aI, .int hi])), (aP, .inl (cI, 20, .inl fPa))]) hP hD [0, 10] (by decide +kernel) rfl
            have hFc := zfr hS hA
            refine va_calli (va_runV (As := [.int v31, .int 3]) (rest := []) ⟨hx, hb, hml, hown, hts⟩ (g_X11_by l dC dI cI cJ h0 v31 3 th tB tsz tat wr dp rC rV rD rK rT rS rU lw tx rL rX qR qB qP qnb qnp aR aB aP nb np aN rf ho br aK ac dw aE sr sf aA aH aI hi fPa H.size y_ac y_hi y_ho y_lw n_nb n_np ⟨f31_0, f31_1⟩ (by decide) y_qnb y_qnp y_tat y_tsz y_wr) (cwV 2 hts (zgV qw1390 qw1392 qw55 qw108 qw1393) rfl rfl rfl hd_X11_by ⟨by rw [hR]; exact Nat.le_of_ble_eq_true rfl, by rw [hR]; exact Nat.le_of_ble_eq_true rfl⟩) (zPV hPc hK hDc (va_recv (q := (RX11, TX11, 41)) hK hP (ci := 11) (q0 := 0) rfl rfl)) rfl rfl hl.1 rfl (lv_room (Nat.le_of_ble_eq_true rfl)) dX11_weightOf_51 ⟨Nat.zero_le _, Nat.zero_le _⟩) hS (fun q _ h => hFc q h) hFc (fun v51 u51 t H locs ht hvm hw hB hz1 hk1 hS9 => ?_)
            replace hP := zkeep hP hk1
            replace hS := hS9
            clear hPc hDc hFc hk1 hz1 hvm hS9
            have zn51_3 : (3 : Int32).toInt = 3 := by decide
            have f51_0 : (v51 = fPa (4 * v31.toInt.toNat + (3 : Int32).toInt.toNat)) := hw
            have F51 := f51_0
            refine lv_iconst (v := 3) hx hb dX11_weightOf_54 (by decide) ?_
            refine lv_icmp_eq (tgt := 98) hx hb dX11_weightOf_55 (by decide) (fun c55 => ?_) (fun c55 => ?_)
            · have c55 : v51.toInt = 3 := z5 rfl (by decide) c55
              obtain ⟨v98, e98⟩ : ∃ y : Int32, y = m17_L_6 + Int32.ofInt (-1) := ⟨_, rfl⟩
              refine lv_iinc (v := v98) (lv' := [(6, .int v98), (7, .int v31), (5, .int m17_L_5), (3, .long m17_L_3), (0, .ref h0), (1, .int p0), (2, .int p1)]) hx hb dX11_weightOf_98 hl (k := 1) rfl e98.symm (by decide) rfl (fun ls hl => ?_)
              have i98 : v98.toInt = m17_L_6.toInt + (-1) := zaddI e98 (by decide) (by omega) (by omega)
              refine lv_goto (tgt := 17) hx hb dX11_weightOf_101 (by decide) ?_
              exact ih17 _ (by omega) m17_A_rL m17_A_rX m17_L_3 m17_L_5 v98 jf17_0 (by omega) (by first | exact jv17_0 | exact zwt e93 e92 jv17_0.1 jv17_0.2 (by omega) (by omega) (by omega) (by omega) (by omega)) (by omega) (fun kc kT q_fR kl hc hb h hL hq hf => by have zn := ci_fN_zNw_np.2.1; have y40 : v40 = kT.1.2.2.2.2 (4 * m17_L_6.toInt.toNat) := F40.trans (h.2.2.2.2 _ (by omega)); have z40 := congrArg Int32.toInt y40; have y31 : v31 = kT.1.2.2.2.2 (4 * m17_L_6.toInt.toNat + 1) := F31.trans (h.2.2.2.2 _ (by omega)); have z31 := congrArg Int32.toInt y31; first | (have y51 : v51 = kc.2.2 (4 * (kT.1.2.2.2.2 (4 * m17_L_6.toInt.toNat + 1)).toInt.toNat + 3) := (F51.trans (congrArg fPa (show 4 * v31.toInt.toNat + (3 : Int32).toInt.toNat = 4 * v31.toInt.toNat + 3 by have : (3 : Int32).toInt = 3 := (by decide); omega))).trans ((hc.2.2 _ (by omega)).trans (by rw [y31])); have z51 := congrArg Int32.toInt y51; first | (have y65 : v65 = kc.2.2 (4 * v31.toInt.toNat) := F65.trans (hc.2.2 _ (by omega)); have y81 : v81 = kT.1.2.2.2.2 (4 * m17_L_6.toInt.toNat + 2) := F81.trans (h.2.2.2.2 _ (by omega)); have s0 : v74 = sShow kc kT.1 kl v31 p0 p1 := sShow_r hc hb h (by omega) hq hf hL F74; exact (jv17_1 kc kT _ kl hc hb h hL hq hf).trans (sWlY (by omega) i98 (by omega) i95 ⟨by omega, by omega⟩ (sFc_mk y31 y81 s0 y65 e84 e85 e68 e88 e89) e92 e93)) | exact (jv17_1 kc kT _ kl hc hb h hL hq hf).trans (sWlN (by omega) i98 (by omega) (fun z => z.2 (by omega)))) | exact (jv17_1 kc kT _ kl hc hb h hL hq hf).trans (sWlN (by omega) i98 (by omega) (fun z => absurd z.1 (by omega)))) rfl H locs ls hP hD hS (lv_sub hl [0, 2, 3, 4, 5, 6] rfl)
            · have c55 : ¬ v51.toInt = 3 := z6 rfl (by decide) c55
              refine lv_lload_n hx hb dX11_weightOf_58 rfl (lv_at hl 3 rfl) ?_
              refine lv_iconst (v := 1) hx hb dX11_weightOf_59 (by decide) ?_
              refine lv_iconst (v := 1) hx hb dX11_weightOf_60 (by decide) ?_
              refine lv_aload_n hx hb dX11_weightOf_61 rfl (lv_at hl 4 rfl) ?_
              refine lv_iload hx hb dX11_weightOf_62 (lv_at hl 0 rfl) ?_
              refine lv_iconst (v := 0) hx hb dX11_weightOf_64 (by decide) ?_
              obtain ⟨hPc, hDc⟩ := zc2 (wc := [(h0, .inr (11, [.int th, .ref tB, .int tsz, .int tat, .int wr, .int dp, .ref rC, .ref rV, .ref rD, .ref rK, .ref rT, .ref rS, .ref rU, .int lw, .int tx, .ref rL, .ref rX, .ref qR, .ref qB, .ref qP, .int qnb, .int qnp, .ref aR, .ref aB, .ref aP, .int nb, .int np, .ref aN, .ref rf, .int ho, .int br, .ref aK, .int ac, .long dw, .ref aE, .int sr, .int sf, .ref aA, .ref aH, .ref aI, .int hi])), (aP, .inl (cI, 20, .inl fPa))]) hP hD [0, 10] (by decide +kernel) rfl
              have hFc := zfr hS hA
              refine va_calli (va_runV (As := [.int v31, .int 0]) (rest := [.int 1, .int 1, .long m17_L_3]) ⟨hx, hb, hml, hown, hts⟩ (g_X11_by_0 l dC dI cI cJ h0 v31 th tB tsz tat wr dp rC rV rD rK rT rS rU lw tx rL rX qR qB qP qnb qnp aR aB aP nb np aN rf ho br aK ac dw aE sr sf aA aH aI hi fPa H.size y_ac y_hi y_ho y_lw n_nb n_np ⟨f31_0, f31_1⟩ y_qnb y_qnp y_tat y_tsz y_wr (by omega) ci_fPa_zBr_np) (cwV 2 hts (zgV qw1390 qw1392 qw55 qw108 qw1393) rfl rfl rfl hd_X11_by ⟨by rw [hR]; exact Nat.le_of_ble_eq_true rfl, by rw [hR]; exact Nat.le_of_ble_eq_true rfl⟩) (zPV hPc hK hDc (va_recv (q := (RX11, TX11, 41)) hK hP (ci := 11) (q0 := 0) rfl rfl)) rfl rfl hl.1 rfl (lv_room (Nat.le_of_ble_eq_true rfl)) dX11_weightOf_65 ⟨Nat.zero_le _, Nat.zero_le _⟩) hS (fun q _ h => hFc q h) hFc (fun v65 u65 t H locs ht hvm hw hB hz1 hk1 hS9 => ?_)
              replace hP := zkeep hP hk1
              replace hS := hS9
              clear hPc hDc hFc hk1 hz1 hvm hS9
              obtain ⟨f65_0, f65_1, f65_2⟩ : (0 ≤ v65.toInt) ∧ (v65.toInt ≤ 9) ∧ (v65 = fPa (4 * v31.toInt.toNat)) := hw
              have F65 := f65_2
              refine lv_iadd hx hb dX11_weightOf_68 ?_
              refine lv_topi (fun v68 e68 => ?_)
              have i68 : v68.toInt = 1 + v65.toInt := zadd e68 (by decide) rfl (by omega) (by omega)
              refine lv_aload_n hx hb dX11_weightOf_69 rfl (lv_at hl 4 rfl) ?_
              refine lv_iload hx hb dX11_weightOf_70 (lv_at hl 0 rfl) ?_
              refine lv_iload_n hx hb dX11_weightOf_72 rfl (lv_at hl 5 rfl) ?_
              refine lv_iload_n hx hb dX11_weightOf_73 rfl (lv_at hl 6 rfl) ?_
              obtain ⟨hPc, hDc, hFc⟩ := zc3 (wc := [(h0, .inr (11, [.int th, .ref tB, .int tsz, .int tat, .int wr, .int dp, .ref rC, .ref rV, .ref rD, .ref rK, .ref rT, .ref rS, .ref rU, .int lw, .int tx, .ref rL, .ref rX, .ref qR, .ref qB, .ref qP, .int qnb, .int qnp, .ref aR, .ref aB, .ref aP, .int nb, .int np, .ref aN, .ref rf, .int ho, .int br, .ref aK, .int ac, .long dw, .ref aE, .int sr, .int sf, .ref aA, .ref aH, .ref aI, .int hi])), (rC, .inl (cI, 2600, .inl fC)), (rV, .inl (cI, 2600, .inl fV)), (rK, .inl (cI, 5, .inl fK)), (rT, .inl (cI, 700, .inl fT)), (rS, .inl (cI, 700, .inl fS)), (rU, .inl (cI, 700, .inl fU)), (rL, .inl (cI, 6, .inl m17_A_rL)), (rX, .inl (cI, 80, .inl m17_A_rX)), (aB, .inl (cI, 24, .inl fBr)), (aP, .inl (cI, 20, .inl fPa)), (aN, .inl (cI, 97, .inl fN))]) hP hD hS hA [0, 1, 2, 3, 4, 5, 6, 7, 8, 9, 10, 11] (by decide +kernel) rfl
              refine va_calli (va_runV (As := [.int v31, .int p0, .int p1]) (rest := [.int v68, .int 1, .long m17_L_3]) ⟨hx, hb, hml, hown, hts⟩ (g_X11_shownOf l dC dI cI cJ h0 v31 p0 p1 th tB tsz tat wr dp rC rV rD rK rT rS rU lw tx rL rX qR qB qP qnb qnp aR aB aP nb np aN rf ho br aK ac dw aE sr sf aA aH aI hi fC fV fK fT fS fU m17_A_rL m17_A_rX fBr fPa fN H.size y_ac y_hi y_ho y_lw n_nb n_np ⟨f31_0, f31_1⟩ n_p0 y_qnb y_qnp y_tat y_tsz y_wr (hls) ci_fBr_zBr_nb ci_fN_zNw_np ci_fPa_zBr_np) (cwV 3 hts (zgV qw1438 qw1440 qw60 qw108 qw1441) rfl rfl rfl hd_X11_shownOf ⟨by rw [hR]; exact Nat.le_of_ble_eq_true rfl, by rw [hR]; exact Nat.le_of_ble_eq_true rfl⟩) (zPV hPc hK hDc (va_recv (q := (RX11, TX11, 41)) hK hP (ci := 11) (q0 := 0) rfl rfl)) rfl rfl hl.1 rfl (lv_room (Nat.le_of_ble_eq_true rfl)) dX11_weightOf_74 ⟨Nat.zero_le _, Nat.zero_le _⟩) hS (fun q _ h => hFc q h) hFc (fun v74 u74 t H locs ht hvm hw hB hz1 hk1 hS9 => ?_)
              obtain ⟨u74_0, u74_1⟩ := u74
              obtain ⟨hP9, hD9⟩ := zj2 (wX := [(h0, .inr (11, [.int th, .ref tB, .int tsz, .int tat, .int wr, .int dp, .ref rC, .ref rV, .ref rD, .ref rK, .ref rT, .ref rS, .ref rU, .int lw, .int tx, .ref rL, .ref rX, .ref qR, .ref qB, .ref qP, .int qnb, .int qnp, .ref aR, .ref aB, .ref aP, .int nb, .int np, .ref aN, .ref rf, .int ho, .int br, .ref aK, .int ac, .long dw, .ref aE, .int sr, .int sf, .ref aA, .ref aH, .ref aI, .int hi])), (rC, .inl (cI, 2600, .inl fC)), (rV, .inl (cI, 2600, .inl fV)), (rK, .inl (cI, 5, .inl fK)), (rT, .inl (cI, 700, .inl fT)), (rS, .inl (cI, 700, .inl fS)), (rU, .inl (cI, 700, .inl fU)), (rL, .inl (cI, 6, .inl u74_0)), (rX, .inl (cI, 80, .inl u74_1)), (aB, .inl (cI, 24, .inl fBr)), (aP, .inl (cI, 20, .inl fPa)), (aN, .inl (cI, 97, .inl fN))]) hP hD hk1 hFc ht hB [0, 1, 2, 3, 4, 5, 6, 7, 8, 9, 10, 11] [(true, 0), (true, 1), (true, 2), (true, 3), (true, 4), (true, 5), (true, 6), (true, 7), (true, 8), (true, 9), (true, 10), (true, 11)] rfl (by decide +kernel) (by decide +kernel) rfl
              clear hP hD hS hPc hDc hFc hB hk1 hz1 hvm
              have hP := hP9
              have hD := hD9
              have hS := hS9
              clear hP9 hD9 hS9
              obtain ⟨f74_0, f74_1, f74_2⟩ : ((-1) ≤ v74.toInt) ∧ (v74.toInt ≤ 9) ∧ (∀ lw : Option ((Int → Int) × Int), zLwR ho fC fV fK fT fS fU lw → zB5 p1 (fBr (4 * p0.toInt.toNat + 2)) (fN p0.toInt.toNat) (fPa (4 * v31.toInt.toNat)) (fN (6 + v31.toInt.toNat)) (fN 15) → v74 = zSh (fPa (4 * v31.toInt.toNat + 3)) (zLat (fun i => fN (17 + i)) v31 (fN 16).toInt.toNat) (zLkv lw p1 (fBr (4 * p0.toInt.toNat + 2)) (fN p0.toInt.toNat) (fPa (4 * v31.toInt.toNat)) (fN (6 + v31.toInt.toNat)) (fN 15))) := hw
              have F74 := f74_2
              refine lv_aload_n hx hb dX11_weightOf_77 rfl (lv_at hl 4 rfl) ?_
              refine lv_iload hx hb dX11_weightOf_78 (lv_at hl 1 rfl) ?_
              refine lv_iconst (v := 2) hx hb dX11_weightOf_80 (by decide) ?_
              obtain ⟨hPc, hDc⟩ := zc2 (wc := [(h0, .inr (11, [.int th, .ref tB, .int tsz, .int tat, .int wr, .int dp, .ref rC, .ref rV, .ref rD, .ref rK, .ref rT, .ref rS, .ref rU, .int lw, .int tx, .ref rL, .ref rX, .ref qR, .ref qB, .ref qP, .int qnb, .int qnp, .ref aR, .ref aB, .ref aP, .int nb, .int np, .ref aN, .ref rf, .int ho, .int br, .ref aK, .int ac, .long dw, .ref aE, .int sr, .int sf, .ref aA, .ref aH, .ref aI, .int hi])), (aN, .inl (cI, 97, .inl fN))]) hP hD [0, 11] (by decide +kernel) rfl
              have hFc := zfr hS hA
              refine va_calli (va_runV (As := [.int m17_L_6, .int 2]) (rest := [.int v74, .int v68, .int 1, .long m17_L_3]) ⟨hx, hb, hml, hown, hts⟩ (g_X11_shot_2 l dC dI cI cJ h0 m17_L_6 th tB tsz tat wr dp rC rV rD rK rT rS rU lw tx rL rX qR qB qP qnb qnp aR aB aP nb np aN rf ho br aK ac dw aE sr sf aA aH aI hi fN H.size y_ac y_hi y_ho y_lw n_nb n_np (by omega) y_qnb y_qnp y_tat y_tsz y_wr (by omega) ci_fN_zNw_np) (cwV 2 hts (zgV qw1473 qw1475 qw65 qw108 qw1476) rfl rfl rfl hd_X11_shot ⟨by rw [hR]; exact Nat.le_of_ble_eq_true rfl, by rw [hR]; exact Nat.le_of_ble_eq_true rfl⟩) (zPV hPc hK hDc (va_recv (q := (RX11, TX11, 41)) hK hP (ci := 11) (q0 := 0) rfl rfl)) rfl rfl hl.1 rfl (lv_room (Nat.le_of_ble_eq_true rfl)) dX11_weightOf_81 ⟨Nat.zero_le _, Nat.zero_le _⟩) hS (fun q _ h => hFc q h) hFc (fun v81 u81 t H locs ht hvm hw hB hz1 hk1 hS9 => ?_)
              replace hP := zkeep hP hk1
              replace hS := hS9
              clear hPc hDc hFc hk1 hz1 hvm hS9
              obtain ⟨f81_0, f81_1, f81_2⟩ : ((-1) ≤ v81.toInt) ∧ (v81.toInt ≤ 9) ∧ (v81 = fN (17 + (4 * m17_L_6.toInt.toNat + 2))) := hw
              have F81 := f81_2
              refine lv_isub hx hb dX11_weightOf_84 ?_
              refine lv_topi (fun v84 e84 => ?_)
              have i84 : v84.toInt = v74.toInt - v81.toInt := zsub e84 rfl rfl (by omega) (by omega)
              refine va_mabs hx hb (by rw [hml]; exact hl.1.symm) hown (hts _ qw1595) (hts _ qw846) (hts _ qw112) (hts _ qw847) (by rw [hR]; exact Nat.le_of_ble_eq_true rfl) (by rw [hR]; exact Nat.le_of_ble_eq_true rfl) (Nat.zero_le _) (Nat.zero_le _) dX11_weightOf_85 ?_
              refine lv_topi (fun v85 e85 => ?_)
              have i85 := zabs e85 (by omega) (by omega)
              refine lv_isub hx hb dX11_weightOf_88 ?_
              refine lv_topi (fun v88 e88 => ?_)
              have i88 : v88.toInt = v68.toInt - v85.toInt := zsub e88 rfl rfl (by omega) (by omega)
              refine va_mmax hx hb (by rw [hml]; exact hl.1.symm) hown (hts _ qw1430) (hts _ qw634) (hts _ qw112) (hts _ qw635) (by rw [hR]; exact Nat.le_of_ble_eq_true rfl) (by rw [hR]; exact Nat.le_of_ble_eq_true rfl) (Nat.zero_le _) (Nat.zero_le _) dX11_weightOf_89 ?_
              refine lv_topi (fun v89 e89 => ?_)
              have zc89_0 : (1 : Int32).toInt = 1 := by decide
              have i89 := zmmax e89
              refine lv_i2l hx hb dX11_weightOf_92 rfl ?_
              refine lv_topl (fun v92 e92 => ?_)
              refine lv_lmul hx hb dX11_weightOf_93 ?_
              refine lv_topl (fun v93 e93 => ?_)
              refine lv_lstore_n (lv' := [(3, .long v93), (7, .int v31), (6, .int m17_L_6), (5, .int m17_L_5), (0, .ref h0), (1, .int p0), (2, .int p1)]) hx hb dX11_weightOf_94 rfl hl (by decide) rfl (fun ls hl => ?_)
              obtain ⟨v95, e95⟩ : ∃ y : Int32, y = m17_L_5 + Int32.ofInt (-1) := ⟨_, rfl⟩
              refine lv_iinc (v := v95) (lv' := [(5, .int v95), (3, .long v93), (7, .int v31), (6, .int m17_L_6), (0, .ref h0), (1, .int p0), (2, .int p1)]) hx hb dX11_weightOf_95 hl (k := 3) rfl e95.symm (by decide) rfl (fun ls hl => ?_)
              have i95 : v95.toInt = m17_L_5.toInt + (-1) := zaddI e95 (by decide) (by omega) (by omega)
              obtain ⟨v98, e98⟩ : ∃ y : Int32, y = m17_L_6 + Int32.ofInt (-1) := ⟨_, rfl⟩
              refine lv_iinc (v := v98) (lv' := [(6, .int v98), (5, .int v95), (3, .long v93), (7, .int v31), (0, .ref h0), (1, .int p0), (2, .int p1)]) hx hb dX11_weightOf_98 hl (k := 3) rfl e98.symm (by decide) rfl (fun ls hl => ?_)
              have i98 : v98.toInt = m17_L_6.toInt + (-1) := zaddI e98 (by decide) (by omega) (by omega)
              refine lv_goto (tgt := 17) hx hb dX11_weightOf_101 (by decide) ?_
              exact ih17 _ (by omega) u74_0 u74_1 v93 v95 v98 (by omega) (by omega) (by first | exact jv17_0 | exact zwt e93 e92 jv17_0.1 jv17_0.2 (by omega) (by omega) (by omega) (by omega) (by omega)) (by omega) (fun kc kT q_fR kl hc hb h hL hq hf => by have zn := ci_fN_zNw_np.2.1; have y40 : v40 = kT.1.2.2.2.2 (4 * m17_L_6.toInt.toNat) := F40.trans (h.2.2.2.2 _ (by omega)); have z40 := congrArg Int32.toInt y40; have y31 : v31 = kT.1.2.2.2.2 (4 * m17_L_6.toInt.toNat + 1) := F31.trans (h.2.2.2.2 _ (by omega)); have z31 := congrArg Int32.toInt y31; first | (have y51 : v51 = kc.2.2 (4 * (kT.1.2.2.2.2 (4 * m17_L_6.toInt.toNat + 1)).toInt.toNat + 3) := (F51.trans (congrArg fPa (show 4 * v31.toInt.toNat + (3 : Int32).toInt.toNat = 4 * v31.toInt.toNat + 3 by have : (3 : Int32).toInt = 3 := (by decide); omega))).trans ((hc.2.2 _ (by omega)).trans (by rw [y31])); have z51 := congrArg Int32.toInt y51; first | (have y65 : v65 = kc.2.2 (4 * v31.toInt.toNat) := F65.trans (hc.2.2 _ (by omega)); have y81 : v81 = kT.1.2.2.2.2 (4 * m17_L_6.toInt.toNat + 2) := F81.trans (h.2.2.2.2 _ (by omega)); have s0 : v74 = sShow kc kT.1 kl v31 p0 p1 := sShow_r hc hb h (by omega) hq hf hL F74; exact (jv17_1 kc kT _ kl hc hb h hL hq hf).trans (sWlY (by omega) i98 (by omega) i95 ⟨by omega, by omega⟩ (sFc_mk y31 y81 s0 y65 e84 e85 e68 e88 e89) e92 e93)) | exact (jv17_1 kc kT _ kl hc hb h hL hq hf).trans (sWlN (by omega) i98 (by omega) (fun z => z.2 (by omega)))) | exact (jv17_1 kc kT _ kl hc hb h hL hq hf).trans (sWlN (by omega) i98 (by omega) (fun z => absurd z.1 (by omega)))) rfl H locs ls hP hD hS (lv_sub hl [0, 1, 2, 4, 5, 6] rfl)
  refine lv_istore (lv' := [(6, .int v14), (5, .int 12), (3, .long 1), (0, .ref h0), (1, .int p0), (2, .int p1)]) hx hb dX11_weightOf_15 hl (by decide) rfl (fun ls hl => ?_)
  have zj17_m17_L_5 : (12 : Int32).toInt = 12 := by decide
  exact J17 _ fL fX 1 12 v14 (by decide) (by omega) (by decide) (by omega) (fun kc kT q_fR kl hc hb h hL hq hf => by rw [zSr_pn h, show (v14.toInt + 1).toNat = (fN 16).toInt.toNat by omega, show (12 : Int32).toInt.toNat = 12 by decide]) rfl H locs ls hP hD hS (lv_sub hl [0, 1, 2, 3, 4, 5] rfl)
set_option maxHeartbeats 4000000 in
set_option maxRecDepth 100000 in
theorem g_X11_fitsFace (l : Launch) (dC : Nat → ClassId) (dI : Nat → Nat → Nat) (cI cJ : ClassId) (h0 : Nat) (p0 : Int32) (p1 : Int32) (th : Int32) (tB : Nat) (tsz : Int32) (tat : Int32) (wr : Int32) (dp : Int32) (rC : Nat) (rV : Nat) (rD : Nat) (rK : Nat) (rT : Nat) (rS : Nat) (rU : Nat) (lw : Int32) (tx : Int32) (rL : Nat) (rX : Nat) (qR : Nat) (qB : Nat) (qP : Nat) (qnb : Int32) (qnp : Int32) (aR : Nat) (aB : Nat) (aP : Nat) (nb : Int32) (np : Int32) (aN : Nat) (rf : Nat) (ho : Int32) (br : Int32) (aK : Nat) (ac : Int32) (dw : Int64) (aE : Nat) (sr : Int32) (sf : Int32) (aA : Nat) (aH : Nat) (aI : Nat) (hi : Int32) (fBr : Nat → Int32) (fN : Nat → Int32) (sz : Nat) (n_ac : 0 ≤ ac.toInt ∧ ac.toInt ≤ 40) (n_hi : 0 ≤ hi.toInt ∧ hi.toInt ≤ 1) (n_ho : (-1) ≤ ho.toInt ∧ ho.toInt ≤ 3) (n_lw : 0 ≤ lw.toInt ∧ lw.toInt ≤ 4) (n_nb : 0 ≤ nb.toInt ∧ nb.toInt ≤ 6) (n_np : 0 ≤ np.toInt ∧ np.toInt ≤ 5) (n_p0 : 0 ≤ p0.toInt ∧ p0.toInt ≤ 5) (n_p1 : 0 ≤ p1.toInt ∧ p1.toInt ≤ 9) (n_qnb : 0 ≤ qnb.toInt ∧ qnb.toInt ≤ 6) (n_qnp : 0 ≤ qnp.toInt ∧ qnp.toInt ≤ 5) (n_tat : 0 ≤ tat.toInt ∧ tat.toInt ≤ 260) (n_tsz : 0 ≤ tsz.toInt ∧ tsz.toInt ≤ 240) (n_wr : (-1) ≤ wr.toInt ∧ wr.toInt ≤ 260) (hbn : p0.toInt < nb.toInt) (ci_fBr_zBr_nb : zBr nb fBr) (ci_fN_zNw_np : zNw np fN)  : Met l yX11_fitsFace (.code yX11_fitsFace cX11_fitsFace 4 (some .boolean) :: wA) ({ frames := 1, cells := 0, slots := 0, locals := 22 }) (zP (dC, dI) [(cI, .int), (cJ, .long)] [.ref h0, .int p0, .int p1] sz [(h0, .inr (11, [.int th, .ref tB, .int tsz, .int tat, .int wr, .int dp, .ref rC, .ref rV, .ref rD, .ref rK, .ref rT, .ref rS, .ref rU, .int lw, .int tx, .ref rL, .ref rX, .ref qR, .ref qB, .ref qP, .int qnb, .int qnp, .ref aR, .ref aB, .ref aP, .int nb, .int np, .ref aN, .ref rf, .int ho, .int br, .ref aK, .int ac, .long dw, .ref aE, .int sr, .int sf, .ref aA, .ref aH, .ref aI, .int hi])), (aB, .inl (cI, 24, .inl fBr)), (aN, .inl (cI, 97, .inl fN))]) (va_Qi (fun (r : Int32) (u : Unit) => (0 ≤ r.toInt) ∧ (r.toInt ≤ 1) ∧ (p1.toInt = (fBr (4 * p0.toInt.toNat)).toInt → r.toInt = 1) ∧ ((r.toInt = 1 ∧ zFf (cBt (fN 11) p0) (cBt (fN 12) p0) (fBr (4 * p0.toInt.toNat)) p1) ∨ (r.toInt = 0 ∧ ¬ zFf (cBt (fN 11) p0) (cBt (fN 12) p0) (fBr (4 * p0.toInt.toNat)) p1))) (fun (_ : Unit) (_ : State) => True) (va_A [] sz)) 0 0 (va_A [] sz) := by
  refine Met.ofW (cc := cX11_fitsFace) (maxL := 4) (ret := (some .boolean)) (by decide) rfl ?_
  intro p e s m args below meth c s₁ B hml hv
  have y_ac : zHid (0 ≤ ac.toInt ∧ ac.toInt ≤ 40) := n_ac
  have y_hi : zHid (0 ≤ hi.toInt ∧ hi.toInt ≤ 1) := n_hi
  have y_ho : zHid ((-1) ≤ ho.toInt ∧ ho.toInt ≤ 3) := n_ho
  have y_lw : zHid (0 ≤ lw.toInt ∧ lw.toInt ≤ 4) := n_lw
  have y_np : zHid (0 ≤ np.toInt ∧ np.toInt ≤ 5) := n_np
  have y_qnb : zHid (0 ≤ qnb.toInt ∧ qnb.toInt ≤ 6) := n_qnb
  have y_qnp : zHid (0 ≤ qnp.toInt ∧ qnp.toInt ≤ 5) := n_qnp
  have y_tat : zHid (0 ≤ tat.toInt ∧ tat.toInt ≤ 260) := n_tat
  have y_tsz : zHid (0 ≤ tsz.toInt ∧ tsz.toInt ≤ 240) := n_tsz
  have y_wr : zHid ((-1) ≤ wr.toInt ∧ wr.toInt ≤ 260) := n_wr
  clear n_ac n_hi n_ho n_lw n_np n_qnb n_qnp n_tat n_tsz n_wr
  obtain ⟨hargs, hsz, hP, hK, hT⟩ := hv
  have hx := B.exec
  have hb := B.bytes
  have hr := B.returns
  have hts : ∀ w ∈ wA, w.before args s = true := fun w h => atoms_spec (ws := .code yX11_fitsFace cX11_fitsFace 4 (some .boolean) :: wA) B.pre w (List.mem_cons_of_mem _ h)
  have hown : s.vm.findClass RX11 = some m.cls := findClass_of_methodNamed B.named
  have hlocks := B.notSynchronized
  subst hsz
  have hD : va_D (va_A [] s.heap.size) [] := zD0
  generalize hAe : va_A [] s.heap.size = A at hD ⊢
  have hA : ∀ q : Nat, s.heap.size ≤ q → A q := fun q h => by rw [← hAe]; exact Or.inr h
  have hl := lv_entry ([.ref h0, .int p0, .int p1]) (n := 4) (Nat.le_of_ble_eq_true rfl)
  rw [show entryFrame m args 4 = entryFrame m ([.ref h0, .int p0, .int p1] : List Value).toArray 4 by rw [hargs], lg_entry_eq]
  generalize (lg_sl ([.ref h0, .int p0, .int p1]) ++ List.replicate (4 - (lg_sl ([.ref h0, .int p0, .int p1])).length) Slot.unset).toArray = ls at hl ⊢
  have hl : lv_has ls 4 [(0, .ref h0), (1, .int p0), (2, .int p1)] := hl
  refine zstart (fun H hH => ?_)
  rw [← hH] at hP
  have hS : va_S A s.heap H [] := by rw [hH]; exact va_S.rf
  generalize ([] : List Loc) = locs at hS ⊢
  refine zgen (fun R Q hR hQ => ?_)
  refine lv_aload_n hx hb dX11_fitsFace_0 rfl (lv_at hl 0 rfl) ?_
  refine va_get (D := (dC, dI)) (ci := 11) (v := .ref aN) (C := RX11) (T := TX11) (N := 41) hx hb hts iX11 hown hK hP 0 rfl rfl 27 (by decide) (hts _ qw1154) (fun _ h9 => h9) rfl dX11_fitsFace_1 ?_
  refine lv_bipush (v := 11) hx hb dX11_fitsFace_4 (by decide) ?_
  refine va_iald hx hb hK hP 2 0 rfl rfl (by unfold vp_in; decide) dX11_fitsFace_6 ?_
  refine lv_topi (fun v6 e6 => ?_)
  refine lv_iload_n hx hb dX11_fitsFace_7 rfl (lv_at hl 1 rfl) ?_
  have hPc : va_P (dC, dI) vwCl [] H := zP0
  have hDc : va_D (fun _ => True) [] := zD0
  have hFc := zfr hS hA
  refine va_calli (va_runS (As := [.int v6, .int p0]) (rest := []) ⟨hx, hb, hml, hown, hts⟩ (g_X11_has l dC dI cI cJ v6 p0 H.size) (cwS 2 hts (zgS qw1288 qw1289 qw108 qw1290) rfl rfl rfl hd_X11_has ⟨by rw [hR]; exact Nat.le_of_ble_eq_true rfl, by rw [hR]; exact Nat.le_of_ble_eq_true rfl⟩) (zPS hPc hK hDc) rfl rfl hl.1 rfl (lv_room (Nat.le_of_ble_eq_true rfl)) dX11_fitsFace_8 ⟨Nat.zero_le _, Nat.zero_le _⟩) hS (fun q _ h => hFc q h) hFc (fun v8 u8 t H locs ht hvm hw hB hz1 hk1 hS9 => ?_)
  replace hP := zkeep hP hk1
  replace hS := hS9
  clear hPc hDc hFc hk1 hz1 hvm hS9
  obtain ⟨f8_0, f8_1, f8_2, f8_3⟩ : (0 ≤ v8.toInt) ∧ (v8.toInt ≤ 1) ∧ (v8.toInt = ((v6 >>> (p0 &&& 31)) &&& 1).toInt) ∧ (v8.toInt = (cBt v6 p0).toInt) := hw
  have F8 := f8_3
  refine lv_if_eq (tgt := 42) hx hb dX11_fitsFace_11 (by decide) (fun c11 => ?_) (fun c11 => ?_)
  · have c11 : v8.toInt = 0 := z5 rfl (by decide) c11
    refine lv_iconst (v := 1) hx hb dX11_fitsFace_42 (by decide) ?_
    refine lv_goto (tgt := 47) hx hb dX11_fitsFace_43 (by decide) ?_
    refine lv_istore_n (lv' := [(3, .int 1), (0, .ref h0), (1, .int p0), (2, .int p1)]) hx hb dX11_fitsFace_47 rfl hl (by decide) rfl (fun ls hl => ?_)
    refine lv_iload_n hx hb dX11_fitsFace_48 rfl (lv_at hl 0 rfl) ?_
    refine lv_if_eq (tgt := 84) hx hb dX11_fitsFace_49 (by decide) (fun c => absurd c (by decide)) (fun _ => ?_)
    refine lv_aload_n hx hb dX11_fitsFace_52 rfl (lv_at hl 1 rfl) ?_
    refine va_get (D := (dC, dI)) (ci := 11) (v := .ref aN) (C := RX11) (T := TX11) (N := 41) hx hb hts iX11 hown hK hP 0 rfl rfl 27 (by decide) (hts _ qw1154) (fun _ h9 => h9) rfl dX11_fitsFace_53 ?_
    refine lv_bipush (v := 12) hx hb dX11_fitsFace_56 (by decide) ?_
    refine va_iald hx hb hK hP 2 0 rfl rfl (by unfold vp_in; decide) dX11_fitsFace_58 ?_
    refine lv_topi (fun v58 e58 => ?_)
    refine lv_iload_n hx hb dX11_fitsFace_59 rfl (lv_at hl 2 rfl) ?_
    have hPc : va_P (dC, dI) vwCl [] H := zP0
    have hDc : va_D (fun _ => True) [] := zD0
    have hFc := zfr hS hA
    refine va_calli (va_runS (As := [.int v58, .int p0]) (rest := []) ⟨hx, hb, hml, hown, hts⟩ (g_X11_has l dC dI cI cJ v58 p0 H.size) (cwS 2 hts (zgS qw1288 qw1289 qw108 qw1290) rfl rfl rfl hd_X11_has ⟨by rw [hR]; exact Nat.le_of_ble_eq_true rfl, by rw [hR]; exact Nat.le_of_ble_eq_true rfl⟩) (zPS hPc hK hDc) rfl rfl hl.1 rfl (lv_room (Nat.le_of_ble_eq_true rfl)) dX11_fitsFace_60 ⟨Nat.zero_le _, Nat.zero_le _⟩) hS (fun q _ h => hFc q h) hFc (fun v60 u60 t H locs ht hvm hw hB hz1 hk1 hS9 => ?_)
    replace hP := zkeep hP hk1
    replace hS := hS9
    clear hPc hDc hFc hk1 hz1 hvm hS9
    obtain ⟨f60_0, f60_1, f60_2, f60_3⟩ : (0 ≤ v60.toInt) ∧ (v60.toInt ≤ 1) ∧ (v60.toInt = ((v58 >>> (p0 &&& 31)) &&& 1).toInt) ∧ (v60.toInt = (cBt v58 p0).toInt) := hw
    have F60 := f60_3
    refine lv_if_eq (tgt := 80) hx hb dX11_fitsFace_63 (by decide) (fun c63 => ?_) (fun c63 => ?_)
    · have c63 : v60.toInt = 0 := z5 rfl (by decide) c63
      refine lv_iconst (v := 1) hx hb dX11_fitsFace_80 (by decide) ?_
      refine lv_goto (tgt := 85) hx hb dX11_fitsFace_81 (by decide) ?_
      have zr0 : (1 : Int32).toInt = 1 := by decide
      rw [hQ]
      exact W.zret (v := 1) (ty := .boolean) hx hb hr rfl (fun t ht hW => ⟨⟨1, (), rfl, ⟨by (try dsimp only); omega, by (try dsimp only); omega, by (try dsimp only); omega, by (try dsimp only); have l8 := congrArg (fun x => (cBt x p0).toInt) (zIxN (n := 11) e6 (by decide)); have y8 : (cBt (fN 11) p0).toInt = v8.toInt := (by rw [F8]; exact l8.symm); have l60 := congrArg (fun x => (cBt x p0).toInt) (zIxN (n := 12) e58 (by decide)); have y60 : (cBt (fN 12) p0).toInt = v60.toInt := (by rw [F60]; exact l60.symm); refine Or.inl ⟨by decide, fun z => ?_, fun z => ?_⟩; (try omega); (try omega); (try (constructor <;> intro z2 <;> omega)); (try omega)⟩, trivial⟩, hS.F ht⟩) hS.2.2 dX11_fitsFace_85
    · have c63 : ¬ v60.toInt = 0 := z6 rfl (by decide) c63
      refine lv_iload_n hx hb dX11_fitsFace_66 rfl (lv_at hl 3 rfl) ?_
      refine lv_iconst (v := 2) hx hb dX11_fitsFace_67 (by decide) ?_
      refine lv_irem hx hb dX11_fitsFace_68 (by decide) ?_
      refine lv_topi (fun v68 e68 => ?_)
      have i68 : v68.toInt = p1.toInt % 2 := zrem e68 rfl (by decide) (by omega) (by omega)
      refine lv_aload_n hx hb dX11_fitsFace_69 rfl (lv_at hl 1 rfl) ?_
      refine lv_iload_n hx hb dX11_fitsFace_70 rfl (lv_at hl 2 rfl) ?_
      refine lv_iconst (v := 0) hx hb dX11_fitsFace_71 (by decide) ?_
      obtain ⟨hPc, hDc⟩ := zc2 (wc := [(h0, .inr (11, [.int th, .ref tB, .int tsz, .int tat, .int wr, .int dp, .ref rC, .ref rV, .ref rD, .ref rK, .ref rT, .ref rS, .ref rU, .int lw, .int tx, .ref rL, .ref rX, .ref qR, .ref qB, .ref qP, .int qnb, .int qnp, .ref aR, .ref aB, .ref aP, .int nb, .int np, .ref aN, .ref rf, .int ho, .int br, .ref aK, .int ac, .long dw, .ref aE, .int sr, .int sf, .ref aA, .ref aH, .ref aI, .int hi])), (aB, .inl (cI, 24, .inl fBr))]) hP hT [0, 1] (by decide +kernel) rfl
      have hFc := zfr hS hA
      refine va_calli (va_runV (As := [.int p0, .int 0]) (rest := [.int v68]) ⟨hx, hb, hml, hown, hts⟩ (g_X11_of_0 l dC dI cI cJ h0 p0 th tB tsz tat wr dp rC rV rD rK rT rS rU lw tx rL rX qR qB qP qnb qnp aR aB aP nb np aN rf ho br aK ac dw aE sr sf aA aH aI hi fBr H.size y_ac y_hi y_ho y_lw n_nb y_np n_p0 y_qnb y_qnp y_tat y_tsz y_wr (hbn) ci_fBr_zBr_nb) (cwV 2 hts (zgV qw1386 qw1388 qw54 qw108 qw1389) rfl rfl rfl hd_X11_of ⟨by rw [hR]; exact Nat.le_of_ble_eq_true rfl, by rw [hR]; exact Nat.le_of_ble_eq_true rfl⟩) (zPV hPc hK hDc (va_recv (q := (RX11, TX11, 41)) hK hP (ci := 11) (q0 := 0) rfl rfl)) rfl rfl hl.1 rfl (lv_room (Nat.le_of_ble_eq_true rfl)) dX11_fitsFace_72 ⟨Nat.zero_le _, Nat.zero_le _⟩) hS (fun q _ h => hFc q h) hFc (fun v72 u72 t H locs ht hvm hw hB hz1 hk1 hS9 => ?_)
      replace hP := zkeep hP hk1
      replace hS := hS9
      clear hPc hDc hFc hk1 hz1 hvm hS9
      obtain ⟨f72_0, f72_1, f72_2⟩ : (0 ≤ v72.toInt) ∧ (v72.toInt ≤ 9) ∧ (v72.toInt = (fBr (4 * p0.toInt.toNat)).toInt) := hw
      refine lv_iconst (v := 2) hx hb dX11_fitsFace_75 (by decide) ?_
      refine lv_irem hx hb dX11_fitsFace_76 (by decide) ?_
      refine lv_topi (fun v76 e76 => ?_)
      have i76 : v76.toInt = v72.toInt % 2 := zrem e76 rfl (by decide) (by omega) (by omega)
      refine lv_icmp_ne (tgt := 84) hx hb dX11_fitsFace_77 (by decide) (fun c77 => ?_) (fun c77 => ?_)
      · have c77 : ¬ v68.toInt = v76.toInt := z6 rfl rfl c77
        refine lv_iconst (v := 0) hx hb dX11_fitsFace_84 (by decide) ?_
        have zr0 : (0 : Int32).toInt = 0 := by decide
        rw [hQ]
        exact W.zret (v := 0) (ty := .boolean) hx hb hr rfl (fun t ht hW => ⟨⟨0, (), rfl, ⟨by (try dsimp only); omega, by (try dsimp only); omega, by (try dsimp only); omega, by (try dsimp only); have l8 := congrArg (fun x => (cBt x p0).toInt) (zIxN (n := 11) e6 (by decide)); have y8 : (cBt (fN 11) p0).toInt = v8.toInt := (by rw [F8]; exact l8.symm); have l60 := congrArg (fun x => (cBt x p0).toInt) (zIxN (n := 12) e58 (by decide)); have y60 : (cBt (fN 12) p0).toInt = v60.toInt := (by rw [F60]; exact l60.symm); have t68 : (p1 - p1 / 2 * 2).toInt = v68.toInt := (by rw [e68]); have t76 : (fBr (4 * p0.toInt.toNat) - fBr (4 * p0.toInt.toNat) / 2 * 2).toInt = v76.toInt := (by rw [e76, show v72 = fBr (4 * p0.toInt.toNat) from Int32.toInt_inj.mp f72_2]); refine Or.inr ⟨by decide, fun z => ?_⟩; have z1 := z.1; have z2 := z.2; first | (have z3 := z1 (by omega); omega) | (have z3 := z2 (by omega); omega)⟩, trivial⟩, hS.F ht⟩) hS.2.2 dX11_fitsFace_85
      · have c77 : v68.toInt = v76.toInt := z5 rfl rfl c77
        refine lv_iconst (v := 1) hx hb dX11_fitsFace_80 (by decide) ?_
        refine lv_goto (tgt := 85) hx hb dX11_fitsFace_81 (by decide) ?_
        have zr0 : (1 : Int32).toInt = 1 := by decide
        rw [hQ]
        exact W.zret (v := 1) (ty := .boolean) hx hb hr rfl (fun t ht hW => ⟨⟨1, (), rfl, ⟨by (try dsimp only); omega, by (try dsimp only); omega, by (try dsimp only); omega, by (try dsimp only); have l8 := congrArg (fun x => (cBt x p0).toInt) (zIxN (n := 11) e6 (by decide)); have y8 : (cBt (fN 11) p0).toInt = v8.toInt := (by rw [F8]; exact l8.symm); have l60 := congrArg (fun x => (cBt x p0).toInt) (zIxN (n := 12) e58 (by decide)); have y60 : (cBt (fN 12) p0).toInt = v60.toInt := (by rw [F60]; exact l60.symm); have t68 : (p1 - p1 / 2 * 2).toInt = v68.toInt := (by rw [e68]); have t76 : (fBr (4 * p0.toInt.toNat) - fBr (4 * p0.toInt.toNat) / 2 * 2).toInt = v76.toInt := (by rw [e76, show v72 = fBr (4 * p0.toInt.toNat) from Int32.toInt_inj.mp f72_2]); refine Or.inl ⟨by decide, fun z => ?_, fun z => ?_⟩; (try omega); (try omega); (try (constructor <;> intro z2 <;> omega)); (try omega)⟩, trivial⟩, hS.F ht⟩) hS.2.2 dX11_fitsFace_85
  · have c11 : ¬ v8.toInt = 0 := z6 rfl (by decide) c11
    refine lv_iload_n hx hb dX11_fitsFace_14 rfl (lv_at hl 2 rfl) ?_
    refine lv_iconst (v := 5) hx hb dX11_fitsFace_15 (by decide) ?_
    refine lv_icmp_lt (tgt := 23) hx hb dX11_fitsFace_16 (by decide) (fun c16 => ?_) (fun c16 => ?_)
    · have c16 : p1.toInt < 5 := z1 rfl (by decide) c16
      refine lv_iconst (v := 0) hx hb dX11_fitsFace_23 (by decide) ?_
      refine lv_aload_n hx hb dX11_fitsFace_24 rfl (lv_at hl 0 rfl) ?_
      refine lv_iload_n hx hb dX11_fitsFace_25 rfl (lv_at hl 1 rfl) ?_
      refine lv_iconst (v := 0) hx hb dX11_fitsFace_26 (by decide) ?_
      obtain ⟨hPc, hDc⟩ := zc2 (wc := [(h0, .inr (11, [.int th, .ref tB, .int tsz, .int tat, .int wr, .int dp, .ref rC, .ref rV, .ref rD, .ref rK, .ref rT, .ref rS, .ref rU, .int lw, .int tx, .ref rL, .ref rX, .ref qR, .ref qB, .ref qP, .int qnb, .int qnp, .ref aR, .ref aB, .ref aP, .int nb, .int np, .ref aN, .ref rf, .int ho, .int br, .ref aK, .int ac, .long dw, .ref aE, .int sr, .int sf, .ref aA, .ref aH, .ref aI, .int hi])), (aB, .inl (cI, 24, .inl fBr))]) hP hT [0, 1] (by decide +kernel) rfl
      have hFc := zfr hS hA
      refine va_calli (va_runV (As := [.int p0, .int 0]) (rest := [.int 0]) ⟨hx, hb, hml, hown, hts⟩ (g_X11_of_0 l dC dI cI cJ h0 p0 th tB tsz tat wr dp rC rV rD rK rT rS rU lw tx rL rX qR qB qP qnb qnp aR aB aP nb np aN rf ho br aK ac dw aE sr sf aA aH aI hi fBr H.size y_ac y_hi y_ho y_lw n_nb y_np n_p0 y_qnb y_qnp y_tat y_tsz y_wr (hbn) ci_fBr_zBr_nb) (cwV 2 hts (zgV qw1386 qw1388 qw54 qw108 qw1389) rfl rfl rfl hd_X11_of ⟨by rw [hR]; exact Nat.le_of_ble_eq_true rfl, by rw [hR]; exact Nat.le_of_ble_eq_true rfl⟩) (zPV hPc hK hDc (va_recv (q := (RX11, TX11, 41)) hK hP (ci := 11) (q0 := 0) rfl rfl)) rfl rfl hl.1 rfl (lv_room (Nat.le_of_ble_eq_true rfl)) dX11_fitsFace_27 ⟨Nat.zero_le _, Nat.zero_le _⟩) hS (fun q _ h => hFc q h) hFc (fun v27 u27 t H locs ht hvm hw hB hz1 hk1 hS9 => ?_)
      replace hP := zkeep hP hk1
      replace hS := hS9
      clear hPc hDc hFc hk1 hz1 hvm hS9
      obtain ⟨f27_0, f27_1, f27_2⟩ : (0 ≤ v27.toInt) ∧ (v27.toInt ≤ 9) ∧ (v27.toInt = (fBr (4 * p0.toInt.toNat)).toInt) := hw
      refine lv_iconst (v := 5) hx hb dX11_fitsFace_30 (by decide) ?_
      refine lv_icmp_lt (tgt := 38) hx hb dX11_fitsFace_31 (by decide) (fun c31 => ?_) (fun c31 => ?_)
      · have c31 : v27.toInt < 5 := z1 rfl (by decide) c31
        refine lv_iconst (v := 0) hx hb dX11_fitsFace_38 (by decide) ?_
        refine lv_icmp_ne (tgt := 46) hx hb dX11_fitsFace_39 (by decide) (fun c => absurd (by decide) c) (fun _ => ?_)
        refine lv_iconst (v := 1) hx hb dX11_fitsFace_42 (by decide) ?_
        refine lv_goto (tgt := 47) hx hb dX11_fitsFace_43 (by decide) ?_
        refine lv_istore_n (lv' := [(3, .int 1), (0, .ref h0), (1, .int p0), (2, .int p1)]) hx hb dX11_fitsFace_47 rfl hl (by decide) rfl (fun ls hl => ?_)
        refine lv_iload_n hx hb dX11_fitsFace_48 rfl (lv_at hl 0 rfl) ?_
        refine lv_if_eq (tgt := 84) hx hb dX11_fitsFace_49 (by decide) (fun c => absurd c (by decide)) (fun _ => ?_)
        refine lv_aload_n hx hb dX11_fitsFace_52 rfl (lv_at hl 1 rfl) ?_
        refine va_get (D := (dC, dI)) (ci := 11) (v := .ref aN) (C := RX11) (T := TX11) (N := 41) hx hb hts iX11 hown hK hP 0 rfl rfl 27 (by decide) (hts _ qw1154) (fun _ h9 => h9) rfl dX11_fitsFace_53 ?_
        refine lv_bipush (v := 12) hx hb dX11_fitsFace_56 (by decide) ?_
        refine va_iald hx hb hK hP 2 0 rfl rfl (by unfold vp_in; decide) dX11_fitsFace_58 ?_
        refine lv_topi (fun v58 e58 => ?_)
        refine lv_iload_n hx hb dX11_fitsFace_59 rfl (lv_at hl 2 rfl) ?_
        have hPc : va_P (dC, dI) vwCl [] H := zP0
        have hDc : va_D (fun _ => True) [] := zD0
        have hFc := zfr hS hA
        refine va_calli (va_runS (As := [.int v58, .int p0]) (rest := []) ⟨hx, hb, hml, hown, hts⟩ (g_X11_has l dC dI cI cJ v58 p0 H.size) (cwS 2 hts (zgS qw1288 qw1289 qw108 qw1290) rfl rfl rfl hd_X11_has ⟨by rw [hR]; exact Nat.le_of_ble_eq_true rfl, by rw [hR]; exact Nat.le_of_ble_eq_true rfl⟩) (zPS hPc hK hDc) rfl rfl hl.1 rfl (lv_room (Nat.le_of_ble_eq_true rfl)) dX11_fitsFace_60 ⟨Nat.zero_le _, Nat.zero_le _⟩) hS (fun q _ h => hFc q h) hFc (fun v60 u60 t H locs ht hvm hw hB hz1 hk1 hS9 => ?_)
        replace hP := zkeep hP hk1
        replace hS := hS9
        clear hPc hDc hFc hk1 hz1 hvm hS9
        obtain ⟨f60_0, f60_1, f60_2, f60_3⟩ : (0 ≤ v60.toInt) ∧ (v60.toInt ≤ 1) ∧ (v60.toInt = ((v58 >>> (p0 &&& 31)) &&& 1).toInt) ∧ (v60.toInt = (cBt v58 p0).toInt) := hw
        have F60 := f60_3
        refine lv_if_eq (tgt := 80) hx hb dX11_fitsFace_63 (by decide) (fun c63 => ?_) (fun c63 => ?_)
        · have c63 : v60.toInt = 0 := z5 rfl (by decide) c63
          refine lv_iconst (v := 1) hx hb dX11_fitsFace_80 (by decide) ?_
          refine lv_goto (tgt := 85) hx hb dX11_fitsFace_81 (by decide) ?_
          have zr0 : (1 : Int32).toInt = 1 := by decide
          rw [hQ]
          exact W.zret (v := 1) (ty := .boolean) hx hb hr rfl (fun t ht hW => ⟨⟨1, (), rfl, ⟨by (try dsimp only); omega, by (try dsimp only); omega, by (try dsimp only); omega, by (try dsimp only); have l8 := congrArg (fun x => (cBt x p0).toInt) (zIxN (n := 11) e6 (by decide)); have y8 : (cBt (fN 11) p0).toInt = v8.toInt := (by rw [F8]; exact l8.symm); have l60 := congrArg (fun x => (cBt x p0).toInt) (zIxN (n := 12) e58 (by decide)); have y60 : (cBt (fN 12) p0).toInt = v60.toInt := (by rw [F60]; exact l60.symm); refine Or.inl ⟨by decide, fun z => ?_, fun z => ?_⟩; (try omega); (try omega); (try (constructor <;> intro z2 <;> omega)); (try omega)⟩, trivial⟩, hS.F ht⟩) hS.2.2 dX11_fitsFace_85
        · have c63 : ¬ v60.toInt = 0 := z6 rfl (by decide) c63
          refine lv_iload_n hx hb dX11_fitsFace_66 rfl (lv_at hl 3 rfl) ?_
          refine lv_iconst (v := 2) hx hb dX11_fitsFace_67 (by decide) ?_
          refine lv_irem hx hb dX11_fitsFace_68 (by decide) ?_
          refine lv_topi (fun v68 e68 => ?_)
          have i68 : v68.toInt = p1.toInt % 2 := zrem e68 rfl (by decide) (by omega) (by omega)
          refine lv_aload_n hx hb dX11_fitsFace_69 rfl (lv_at hl 1 rfl) ?_
          refine lv_iload_n hx hb dX11_fitsFace_70 rfl (lv_at hl 2 rfl) ?_
          refine lv_iconst (v := 0) hx hb dX11_fitsFace_71 (by decide) ?_
          obtain ⟨hPc, hDc⟩ := zc2 (wc := [(h0, .inr (11, [.int th, .ref tB, .int tsz, .int tat, .int wr, .int dp, .ref rC, .ref rV, .ref rD, .ref rK, .ref rT, .ref rS, .ref rU, .int lw, .int tx, .ref rL, .ref rX, .ref qR, .ref qB, .ref qP, .int qnb, .int qnp, .ref aR, .ref aB, .ref aP, .int nb, .int np, .ref aN, .ref rf, .int ho, .int br, .ref aK, .int ac, .long dw, .ref aE, .int sr, .int sf, .ref aA, .ref aH, .ref aI, .int hi])), (aB, .inl (cI, 24, .inl fBr))]) hP hT [0, 1] (by decide +kernel) rfl
          have hFc := zfr hS hA
          refine va_calli (va_runV (As := [.int p0, .int 0]) (rest := [.int v68]) ⟨hx, hb, hml, hown, hts⟩ (g_X11_of_0 l dC dI cI cJ h0 p0 th tB tsz tat wr dp rC rV rD rK rT rS rU lw tx rL rX qR qB qP qnb qnp aR aB aP nb np aN rf ho br aK ac dw aE sr sf aA aH aI hi fBr H.size y_ac y_hi y_ho y_lw n_nb y_np n_p0 y_qnb y_qnp y_tat y_tsz y_wr (hbn) ci_fBr_zBr_nb) (cwV 2 hts (zgV qw1386 qw1388 qw54 qw108 qw1389) rfl rfl rfl hd_X11_of ⟨by rw [hR]; exact Nat.le_of_ble_eq_true rfl, by rw [hR]; exact Nat.le_of_ble_eq_true rfl⟩) (zPV hPc hK hDc (va_recv (q := (RX11, TX11, 41)) hK hP (ci := 11) (q0 := 0) rfl rfl)) rfl rfl hl.1 rfl (lv_room (Nat.le_of_ble_eq_true rfl)) dX11_fitsFace_72 ⟨Nat.zero_le _, Nat.zero_le _⟩) hS (fun q _ h => hFc q h) hFc (fun v72 u72 t H locs ht hvm hw hB hz1 hk1 hS9 => ?_)
          replace hP := zkeep hP hk1
          replace hS := hS9
          clear hPc hDc hFc hk1 hz1 hvm hS9
          obtain ⟨f72_0, f72_1, f72_2⟩ : (0 ≤ v72.toInt) ∧ (v72.toInt ≤ 9) ∧ (v72.toInt = (fBr (4 * p0.toInt.toNat)).toInt) := hw
          refine lv_iconst (v := 2) hx hb dX11_fitsFace_75 (by decide) ?_
          refine lv_irem hx hb dX11_fitsFace_76 (by decide) ?_
          refine lv_topi (fun v76 e76 => ?_)
          have i76 : v76.toInt = v72.toInt % 2 := zrem e76 rfl (by decide) (by omega) (by omega)
          refine lv_icmp_ne (tgt := 84) hx hb dX11_fitsFace_77 (by decide) (fun c77 => ?_) (fun c77 => ?_)
          · have c77 : ¬ v68.toInt = v76.toInt := z6 rfl rfl c77
            refine lv_iconst (v := 0) hx hb dX11_fitsFace_84 (by decide) ?_
            have zr0 : (0 : Int32).toInt = 0 := by decide
            rw [hQ]
            exact W.zret (v := 0) (ty := .boolean) hx hb hr rfl (fun t ht hW => ⟨⟨0, (), rfl, ⟨by (try dsimp only); omega, by (try dsimp only); omega, by (try dsimp only); omega, by (try dsimp only); have l8 := congrArg (fun x => (cBt x p0).toInt) (zIxN (n := 11) e6 (by decide)); have y8 : (cBt (fN 11) p0).toInt = v8.toInt := (by rw [F8]; exact l8.symm); have l60 := congrArg (fun x => (cBt x p0).toInt) (zIxN (n := 12) e58 (by decide)); have y60 : (cBt (fN 12) p0).toInt = v60.toInt := (by rw [F60]; exact l60.symm); have t68 : (p1 - p1 / 2 * 2).toInt = v68.toInt := (by rw [e68]); have t76 : (fBr (4 * p0.toInt.toNat) - fBr (4 * p0.toInt.toNat) / 2 * 2).toInt = v76.toInt := (by rw [e76, show v72 = fBr (4 * p0.toInt.toNat) from Int32.toInt_inj.mp f72_2]); refine Or.inr ⟨by decide, fun z => ?_⟩; have z1 := z.1; have z2 := z.2; first | (have z3 := z1 (by omega); omega) | (have z3 := z2 (by omega); omega)⟩, trivial⟩, hS.F ht⟩) hS.2.2 dX11_fitsFace_85
          · have c77 : v68.toInt = v76.toInt := z5 rfl rfl c77
            refine lv_iconst (v := 1) hx hb dX11_fitsFace_80 (by decide) ?_
            refine lv_goto (tgt := 85) hx hb dX11_fitsFace_81 (by decide) ?_
            have zr0 : (1 : Int32).toInt = 1 := by decide
            rw [hQ]
            exact W.zret (v := 1) (ty := .boolean) hx hb hr rfl (fun t ht hW => ⟨⟨1, (), rfl, ⟨by (try dsimp only); omega, by (try dsimp only); omega, by (try dsimp only); omega, by (try dsimp only); have l8 := congrArg (fun x => (cBt x p0).toInt) (zIxN (n := 11) e6 (by decide)); have y8 : (cBt (fN 11) p0).toInt = v8.toInt := (by rw [F8]; exact l8.symm); have l60 := congrArg (fun x => (cBt x p0).toInt) (zIxN (n := 12) e58 (by decide)); have y60 : (cBt (fN 12) p0).toInt = v60.toInt := (by rw [F60]; exact l60.symm); have t68 : (p1 - p1 / 2 * 2).toInt = v68.toInt := (by rw [e68]); have t76 : (fBr (4 * p0.toInt.toNat) - fBr (4 * p0.toInt.toNat) / 2 * 2).toInt = v76.toInt := (by rw [e76, show v72 = fBr (4 * p0.toInt.toNat) from Int32.toInt_inj.mp f72_2]); refine Or.inl ⟨by decide, fun z => ?_, fun z => ?_⟩; (try omega); (try omega); (try (constructor <;> intro z2 <;> omega)); (try omega)⟩, trivial⟩, hS.F ht⟩) hS.2.2 dX11_fitsFace_85
      · have c31 : 5 ≤ v27.toInt := z2 rfl (by decide) c31
        refine lv_iconst (v := 1) hx hb dX11_fitsFace_34 (by decide) ?_
        refine lv_goto (tgt := 39) hx hb dX11_fitsFace_35 (by decide) ?_
        refine lv_icmp_ne (tgt := 46) hx hb dX11_fitsFace_39 (by decide) (fun _ => ?_) (fun c => absurd c (by decide))
        refine lv_iconst (v := 0) hx hb dX11_fitsFace_46 (by decide) ?_
        refine lv_istore_n (lv' := [(3, .int 0), (0, .ref h0), (1, .int p0), (2, .int p1)]) hx hb dX11_fitsFace_47 rfl hl (by decide) rfl (fun ls hl => ?_)
        refine lv_iload_n hx hb dX11_fitsFace_48 rfl (lv_at hl 0 rfl) ?_
        refine lv_if_eq (tgt := 84) hx hb dX11_fitsFace_49 (by decide) (fun _ => ?_) (fun c => absurd (by decide) c)
        refine lv_iconst (v := 0) hx hb dX11_fitsFace_84 (by decide) ?_
        have zr0 : (0 : Int32).toInt = 0 := by decide
        rw [hQ]
        exact W.zret (v := 0) (ty := .boolean) hx hb hr rfl (fun t ht hW => ⟨⟨0, (), rfl, ⟨by (try dsimp only); omega, by (try dsimp only); omega, by (try dsimp only); omega, by (try dsimp only); have l8 := congrArg (fun x => (cBt x p0).toInt) (zIxN (n := 11) e6 (by decide)); have y8 : (cBt (fN 11) p0).toInt = v8.toInt := (by rw [F8]; exact l8.symm); refine Or.inr ⟨by decide, fun z => ?_⟩; have z1 := z.1; have z2 := z.2; first | (have z3 := z1 (by omega); omega) | (have z3 := z2 (by omega); omega)⟩, trivial⟩, hS.F ht⟩) hS.2.2 dX11_fitsFace_85
    · have c16 : 5 ≤ p1.toInt := z2 rfl (by decide) c16
      refine lv_iconst (v := 1) hx hb dX11_fitsFace_19 (by decide) ?_
      refine lv_goto (tgt := 24) hx hb dX11_fitsFace_20 (by decide) ?_
      refine lv_aload_n hx hb dX11_fitsFace_24 rfl (lv_at hl 0 rfl) ?_
      refine lv_iload_n hx hb dX11_fitsFace_25 rfl (lv_at hl 1 rfl) ?_
      refine lv_iconst (v := 0) hx hb dX11_fitsFace_26 (by decide) ?_
      obtain ⟨hPc, hDc⟩ := zc2 (wc := [(h0, .inr (11, [.int th, .ref tB, .int tsz, .int tat, .int wr, .int dp, .ref rC, .ref rV, .ref rD, .ref rK, .ref rT, .ref rS, .ref rU, .int lw, .int tx, .ref rL, .ref rX, .ref qR, .ref qB, .ref qP, .int qnb, .int qnp, .ref aR, .ref aB, .ref aP, .int nb, .int np, .ref aN, .ref rf, .int ho, .int br, .ref aK, .int ac, .long dw, .ref aE, .int sr, .int sf, .ref aA, .ref aH, .ref aI, .int hi])), (aB, .inl (cI, 24, .inl fBr))]) hP hT [0, 1] (by decide +kernel) rfl
      have hFc := zfr hS hA
      refine va_calli (va_runV (As := [.int p0, .int 0]) (rest := [.int 1]) ⟨hx, hb, hml, hown, hts⟩ (g_X11_of_0 l dC dI cI cJ h0 p0 th tB tsz tat wr dp rC rV rD rK rT rS rU lw tx rL rX qR qB qP qnb qnp aR aB aP nb np aN rf ho br aK ac dw aE sr sf aA aH aI hi fBr H.size y_ac y_hi y_ho y_lw n_nb y_np n_p0 y_qnb y_qnp y_tat y_tsz y_wr (hbn) ci_fBr_zBr_nb) (cwV 2 hts (zgV qw1386 qw1388 qw54 qw108 qw1389) rfl rfl rfl hd_X11_of ⟨by rw [hR]; exact Nat.le_of_ble_eq_true rfl, by rw [hR]; exact Nat.le_of_ble_eq_true rfl⟩) (zPV hPc hK hDc (va_recv (q := (RX11, TX11, 41)) hK hP (ci := 11) (q0 := 0) rfl rfl)) rfl rfl hl.1 rfl (lv_room (Nat.le_of_ble_eq_true rfl)) dX11_fitsFace_27 ⟨Nat.zero_le _, Nat.zero_le _⟩) hS (fun q _ h => hFc q h) hFc (fun v27 u27 t H locs ht hvm hw hB hz1 hk1 hS9 => ?_)
      replace hP := zkeep hP hk1
      replace hS := hS9
      clear hPc hDc hFc hk1 hz1 hvm hS9
      obtain ⟨f27_0, f27_1, f27_2⟩ : (0 ≤ v27.toInt) ∧ (v27.toInt ≤ 9) ∧ (v27.toInt = (fBr (4 * p0.toInt.toNat)).toInt) := hw
      refine lv_iconst (v := 5) hx hb dX11_fitsFace_30 (by decide) ?_
      refine lv_icmp_lt (tgt := 38) hx hb dX11_fitsFace_31 (by decide) (fun c31 => ?_) (fun c31 => ?_)
      · have c31 : v27.toInt < 5 := z1 rfl (by decide) c31
        refine lv_iconst (v := 0) hx hb dX11_fitsFace_38 (by decide) ?_
        refine lv_icmp_ne (tgt := 46) hx hb dX11_fitsFace_39 (by decide) (fun _ => ?_) (fun c => absurd c (by decide))
        refine lv_iconst (v := 0) hx hb dX11_fitsFace_46 (by decide) ?_
        refine lv_istore_n (lv' := [(3, .int 0), (0, .ref h0), (1, .int p0), (2, .int p1)]) hx hb dX11_fitsFace_47 rfl hl (by decide) rfl (fun ls hl => ?_)
        refine lv_iload_n hx hb dX11_fitsFace_48 rfl (lv_at hl 0 rfl) ?_
        refine lv_if_eq (tgt := 84) hx hb dX11_fitsFace_49 (by decide) (fun _ => ?_) (fun c => absurd (by decide) c)
        refine lv_iconst (v := 0) hx hb dX11_fitsFace_84 (by decide) ?_
        have zr0 : (0 : Int32).toInt = 0 := by decide
        rw [hQ]
        exact W.zret (v := 0) (ty := .boolean) hx hb hr rfl (fun t ht hW => ⟨⟨0, (), rfl, ⟨by (try dsimp only); omega, by (try dsimp only); omega, by (try dsimp only); omega, by (try dsimp only); have l8 := congrArg (fun x => (cBt x p0).toInt) (zIxN (n := 11) e6 (by decide)); have y8 : (cBt (fN 11) p0).toInt = v8.toInt := (by rw [F8]; exact l8.symm); refine Or.inr ⟨by decide, fun z => ?_⟩; have z1 := z.1; have z2 := z.2; first | (have z3 := z1 (by omega); omega) | (have z3 := z2 (by omega); omega)⟩, trivial⟩, hS.F ht⟩) hS.2.2 dX11_fitsFace_85
      · have c31 : 5 ≤ v27.toInt := z2 rfl (by decide) c31
        refine lv_iconst (v := 1) hx hb dX11_fitsFace_34 (by decide) ?_
        refine lv_goto (tgt := 39) hx hb dX11_fitsFace_35 (by decide) ?_
        refine lv_icmp_ne (tgt := 46) hx hb dX11_fitsFace_39 (by decide) (fun c => absurd (by decide) c) (fun _ => ?_)
        refine lv_iconst (v := 1) hx hb dX11_fitsFace_42 (by decide) ?_
        refine lv_goto (tgt := 47) hx hb dX11_fitsFace_43 (by decide) ?_
        refine lv_istore_n (lv' := [(3, .int 1), (0, .ref h0), (1, .int p0), (2, .int p1)]) hx hb dX11_fitsFace_47 rfl hl (by decide) rfl (fun ls hl => ?_)
        refine lv_iload_n hx hb dX11_fitsFace_48 rfl (lv_at hl 0 rfl) ?_
        refine lv_if_eq (tgt := 84) hx hb dX11_fitsFace_49 (by decide) (fun c => absurd c (by decide)) (fun _ => ?_)
        refine lv_aload_n hx hb dX11_fitsFace_52 rfl (lv_at hl 1 rfl) ?_
        refine va_get (D := (dC, dI)) (ci := 11) (v := .ref aN) (C := RX11) (T := TX11) (N := 41) hx hb hts iX11 hown hK hP 0 rfl rfl 27 (by decide) (hts _ qw1154) (fun _ h9 => h9) rfl dX11_fitsFace_53 ?_
        refine lv_bipush (v := 12) hx hb dX11_fitsFace_56 (by decide) ?_
        refine va_iald hx hb hK hP 2 0 rfl rfl (by unfold vp_in; decide) dX11_fitsFace_58 ?_
        refine lv_topi (fun v58 e58 => ?_)
        refine lv_iload_n hx hb dX11_fitsFace_59 rfl (lv_at hl 2 rfl) ?_
        have hPc : va_P (dC, dI) vwCl [] H := zP0
        have hDc : va_D (fun _ => True) [] := zD0
        have hFc := zfr hS hA
        refine va_calli (va_runS (As := [.int v58, .int p0]) (rest := []) ⟨hx, hb, hml, hown, hts⟩ (g_X11_has l dC dI cI cJ v58 p0 H.size) (cwS 2 hts (zgS qw1288 qw1289 qw108 qw1290) rfl rfl rfl hd_X11_has ⟨by rw [hR]; exact Nat.le_of_ble_eq_true rfl, by rw [hR]; exact Nat.le_of_ble_eq_true rfl⟩) (zPS hPc hK hDc) rfl rfl hl.1 rfl (lv_room (Nat.le_of_ble_eq_true rfl)) dX11_fitsFace_60 ⟨Nat.zero_le _, Nat.zero_le _⟩) hS (fun q _ h => hFc q h) hFc (fun v60 u60 t H locs ht hvm hw hB hz1 hk1 hS9 => ?_)
        replace hP := zkeep hP hk1
        replace hS := hS9
        clear hPc hDc hFc hk1 hz1 hvm hS9
        obtain ⟨f60_0, f60_1, f60_2, f60_3⟩ : (0 ≤ v60.toInt) ∧ (v60.toInt ≤ 1) ∧ (v60.toInt = ((v58 >>> (p0 &&& 31)) &&& 1).toInt) ∧ (v60.toInt = (cBt v58 p0).toInt) := hw
        have F60 := f60_3
        refine lv_if_eq (tgt := 80) hx hb dX11_fitsFace_63 (by decide) (fun c63 => ?_) (fun c63 => ?_)
        · have c63 : v60.toInt = 0 := z5 rfl (by decide) c63
          refine lv_iconst (v := 1) hx hb dX11_fitsFace_80 (by decide) ?_
          refine lv_goto (tgt := 85) hx hb dX11_fitsFace_81 (by decide) ?_
          have zr0 : (1 : Int32).toInt = 1 := by decide
          rw [hQ]
          exact W.zret (v := 1) (ty := .boolean) hx hb hr rfl (fun t ht hW => ⟨⟨1, (), rfl, ⟨by (try dsimp only); omega, by (try dsimp only); omega, by (try dsimp only); omega, by (try dsimp only); have l8 := congrArg (fun x => (cBt x p0).toInt) (zIxN (n := 11) e6 (by decide)); have y8 : (cBt (fN 11) p0).toInt = v8.toInt := (by rw [F8]; exact l8.symm); have l60 := congrArg (fun x => (cBt x p0).toInt) (zIxN (n := 12) e58 (by decide)); have y60 : (cBt (fN 12) p0).toInt = v60.toInt := (by rw [F60]; exact l60.symm); refine Or.inl ⟨by decide, fun z => ?_, fun z => ?_⟩; (try omega); (try omega); (try (constructor <;> intro z2 <;> omega)); (try omega)⟩, trivial⟩, hS.F ht⟩) hS.2.2 dX11_fitsFace_85
        · have c63 : ¬ v60.toInt = 0 := z6 rfl (by decide) c63
          refine lv_iload_n hx hb dX11_fitsFace_66 rfl (lv_at hl 3 rfl) ?_
          refine lv_iconst (v := 2) hx hb dX11_fitsFace_67 (by decide) ?_
          refine lv_irem hx hb dX11_fitsFace_68 (by decide) ?_
          refine lv_topi (fun v68 e68 => ?_)
          have i68 : v68.toInt = p1.toInt % 2 := zrem e68 rfl (by decide) (by omega) (by omega)
          refine lv_aload_n hx hb dX11_fitsFace_69 rfl (lv_at hl 1 rfl) ?_
          refine lv_iload_n hx hb dX11_fitsFace_70 rfl (lv_at hl 2 rfl) ?_
          refine lv_iconst (v := 0) hx hb dX11_fitsFace_71 (by decide) ?_
          obtain ⟨hPc, hDc⟩ := zc2 (wc := [(h0, .inr (11, [.int th, .ref tB, .int tsz, .int tat, .int wr, .int dp, .ref rC, .ref rV, .ref rD, .ref rK, .ref rT, .ref rS, .ref rU, .int lw, .int tx, .ref rL, .ref rX, .ref qR, .ref qB, .ref qP, .int qnb, .int qnp, .ref aR, .ref aB, .ref aP, .int nb, .int np, .ref aN, .ref rf, .int ho, .int br, .ref aK, .int ac, .long dw, .ref aE, .int sr, .int sf, .ref aA, .ref aH, .ref aI, .int hi])), (aB, .inl (cI, 24, .inl fBr))]) hP hT [0, 1] (by decide +kernel) rfl
          have hFc := zfr hS hA
          refine va_calli (va_runV (As := [.int p0, .int 0]) (rest := [.int v68]) ⟨hx, hb, hml, hown, hts⟩ (g_X11_of_0 l dC dI cI cJ h0 p0 th tB tsz tat wr dp rC rV rD rK rT rS rU lw tx rL rX qR qB qP qnb qnp aR aB aP nb np aN rf ho br aK ac dw aE sr sf aA aH aI hi fBr H.size y_ac y_hi y_ho y_lw n_nb y_np n_p0 y_qnb y_qnp y_tat y_tsz y_wr (hbn) ci_fBr_zBr_nb) (cwV 2 hts (zgV qw1386 qw1388 qw54 qw108 qw1389) rfl rfl rfl hd_X11_of ⟨by rw [hR]; exact Nat.le_of_ble_eq_true rfl, by rw [hR]; exact Nat.le_of_ble_eq_true rfl⟩) (zPV hPc hK hDc (va_recv (q := (RX11, TX11, 41)) hK hP (ci := 11) (q0 := 0) rfl rfl)) rfl rfl hl.1 rfl (lv_room (Nat.le_of_ble_eq_true rfl)) dX11_fitsFace_72 ⟨Nat.zero_le _, Nat.zero_le _⟩) hS (fun q _ h => hFc q h) hFc (fun v72 u72 t H locs ht hvm hw hB hz1 hk1 hS9 => ?_)
          replace hP := zkeep hP hk1
          replace hS := hS9
          clear hPc hDc hFc hk1 hz1 hvm hS9
          obtain ⟨f72_0, f72_1, f72_2⟩ : (0 ≤ v72.toInt) ∧ (v72.toInt ≤ 9) ∧ (v72.toInt = (fBr (4 * p0.toInt.toNat)).toInt) := hw
          refine lv_iconst (v := 2) hx hb dX11_fitsFace_75 (by decide) ?_
          refine lv_irem hx hb dX11_fitsFace_76 (by decide) ?_
          refine lv_topi (fun v76 e76 => ?_)
          have i76 : v76.toInt = v72.toInt % 2 := zrem e76 rfl (by decide) (by omega) (by omega)
          refine lv_icmp_ne (tgt := 84) hx hb dX11_fitsFace_77 (by decide) (fun c77 => ?_) (fun c77 => ?_)
          · have c77 : ¬ v68.toInt = v76.toInt := z6 rfl rfl c77
            refine lv_iconst (v := 0) hx hb dX11_fitsFace_84 (by decide) ?_
            have zr0 : (0 : Int32).toInt = 0 := by decide
            rw [hQ]
            exact W.zret (v := 0) (ty := .boolean) hx hb hr rfl (fun t ht hW => ⟨⟨0, (), rfl, ⟨by (try dsimp only); omega, by (try dsimp only); omega, by (try dsimp only); omega, by (try dsimp only); have l8 := congrArg (fun x => (cBt x p0).toInt) (zIxN (n := 11) e6 (by decide)); have y8 : (cBt (fN 11) p0).toInt = v8.toInt := (by rw [F8]; exact l8.symm); have l60 := congrArg (fun x => (cBt x p0).toInt) (zIxN (n := 12) e58 (by decide)); have y60 : (cBt (fN 12) p0).toInt = v60.toInt := (by rw [F60]; exact l60.symm); have t68 : (p1 - p1 / 2 * 2).toInt = v68.toInt := (by rw [e68]); have t76 : (fBr (4 * p0.toInt.toNat) - fBr (4 * p0.toInt.toNat) / 2 * 2).toInt = v76.toInt := (by rw [e76, show v72 = fBr (4 * p0.toInt.toNat) from Int32.toInt_inj.mp f72_2]); refine Or.inr ⟨by decide, fun z => ?_⟩; have z1 := z.1; have z2 := z.2; first | (have z3 := z1 (by omega); omega) | (have z3 := z2 (by omega); omega)⟩, trivial⟩, hS.F ht⟩) hS.2.2 dX11_fitsFace_85
          · have c77 : v68.toInt = v76.toInt := z5 rfl rfl c77
            refine lv_iconst (v := 1) hx hb dX11_fitsFace_80 (by decide) ?_
            refine lv_goto (tgt := 85) hx hb dX11_fitsFace_81 (by decide) ?_
            have zr0 : (1 : Int32).toInt = 1 := by decide
            rw [hQ]
            exact W.zret (v := 1) (ty := .boolean) hx hb hr rfl (fun t ht hW => ⟨⟨1, (), rfl, ⟨by (try dsimp only); omega, by (try dsimp only); omega, by (try dsimp only); omega, by (try dsimp only); have l8 := congrArg (fun x => (cBt x p0).toInt) (zIxN (n := 11) e6 (by decide)); have y8 : (cBt (fN 11) p0).toInt = v8.toInt := (by rw [F8]; exact l8.symm); have l60 := congrArg (fun x => (cBt x p0).toInt) (zIxN (n := 12) e58 (by decide)); have y60 : (cBt (fN 12) p0).toInt = v60.toInt := (by rw [F60]; exact l60.symm); have t68 : (p1 - p1 / 2 * 2).toInt = v68.toInt := (by rw [e68]); have t76 : (fBr (4 * p0.toInt.toNat) - fBr (4 * p0.toInt.toNat) / 2 * 2).toInt = v76.toInt := (by rw [e76, show v72 = fBr (4 * p0.toInt.toNat) from Int32.toInt_inj.mp f72_2]); refine Or.inl ⟨by decide, fun z => ?_, fun z => ?_⟩; (try omega); (try omega); (try (constructor <;> intro z2 <;> omega)); (try omega)⟩, trivial⟩, hS.F ht⟩) hS.2.2 dX11_fitsFace_85
set_option maxHeartbeats 4000000 in
set_option maxRecDepth 100000 in
theorem g_X11_fitsOf (l : Launch) (dC : Nat → ClassId) (dI : Nat → Nat → Nat) (cI cJ : ClassId) (h0 : Nat) (p0 : Int32) (th : Int32) (tB : Nat) (tsz : Int32) (tat : Int32) (wr : Int32) (dp : Int32) (rC : Nat) (rV : Nat) (rD : Nat) (rK : Nat) (rT : Nat) (rS : Nat) (rU : Nat) (lw : Int32) (tx : Int32) (rL : Nat) (rX : Nat) (qR : Nat) (qB : Nat) (qP : Nat) (qnb : Int32) (qnp : Int32) (aR : Nat) (aB : Nat) (aP : Nat) (nb : Int32) (np : Int32) (aN : Nat) (rf : Nat) (ho : Int32) (br : Int32) (aK : Nat) (ac : Int32) (dw : Int64) (aE : Nat) (sr : Int32) (sf : Int32) (aA : Nat) (aH : Nat) (aI : Nat) (hi : Int32) (fBr : Nat → Int32) (fN : Nat → Int32) (sz : Nat) (n_ac : 0 ≤ ac.toInt ∧ ac.toInt ≤ 40) (n_hi : 0 ≤ hi.toInt ∧ hi.toInt ≤ 1) (n_ho : (-1) ≤ ho.toInt ∧ ho.toInt ≤ 3) (n_lw : 0 ≤ lw.toInt ∧ lw.toInt ≤ 4) (n_nb : 0 ≤ nb.toInt ∧ nb.toInt ≤ 6) (n_np : 0 ≤ np.toInt ∧ np.toInt ≤ 5) (n_p0 : 0 ≤ p0.toInt ∧ p0.toInt ≤ 5) (n_qnb : 0 ≤ qnb.toInt ∧ qnb.toInt ≤ 6) (n_qnp : 0 ≤ qnp.toInt ∧ qnp.toInt ≤ 5) (n_tat : 0 ≤ tat.toInt ∧ tat.toInt ≤ 260) (n_tsz : 0 ≤ tsz.toInt ∧ tsz.toInt ≤ 240) (n_wr : (-1) ≤ wr.toInt ∧ wr.toInt ≤ 260) (hbn : p0.toInt < nb.toInt) (ci_fBr_zBr_nb : zBr nb fBr) (ci_fN_zNw_np : zNw np fN)  : Met l yX11_fitsOf (.code yX11_fitsOf cX11_fitsOf 4 (some .int) :: wA) ({ frames := 2, cells := 0, slots := 0, locals := 45 }) (zP (dC, dI) [(cI, .int), (cJ, .long)] [.ref h0, .int p0] sz [(h0, .inr (11, [.int th, .ref tB, .int tsz, .int tat, .int wr, .int dp, .ref rC, .ref rV, .ref rD, .ref rK, .ref rT, .ref rS, .ref rU, .int lw, .int tx, .ref rL, .ref rX, .ref qR, .ref qB, .ref qP, .int qnb, .int qnp, .ref aR, .ref aB, .ref aP, .int nb, .int np, .ref aN, .ref rf, .int ho, .int br, .ref aK, .int ac, .long dw, .ref aE, .int sr, .int sf, .ref aA, .ref aH, .ref aI, .int hi])), (aB, .inl (cI, 24, .inl fBr)), (aN, .inl (cI, 97, .inl fN))]) (va_Qi (fun (r : Int32) (u : Unit) => (r = zFts (cBt (fN 11) p0) (cBt (fN 12) p0) (fBr (4 * p0.toInt.toNat)) 10)) (fun (_ : Unit) (_ : State) => True) (va_A [] sz)) 0 0 (va_A [] sz) := by
  refine Met.ofW (cc := cX11_fitsOf) (maxL := 4) (ret := (some .int)) (by decide) rfl ?_
  intro p e s m args below meth c s₁ B hml hv
  have y_ac : zHid (0 ≤ ac.toInt ∧ ac.toInt ≤ 40) := n_ac
  have y_hi : zHid (0 ≤ hi.toInt ∧ hi.toInt ≤ 1) := n_hi
  have y_ho : zHid ((-1) ≤ ho.toInt ∧ ho.toInt ≤ 3) := n_ho
  have y_lw : zHid (0 ≤ lw.toInt ∧ lw.toInt ≤ 4) := n_lw
  have y_np : zHid (0 ≤ np.toInt ∧ np.toInt ≤ 5) := n_np
  have y_qnb : zHid (0 ≤ qnb.toInt ∧ qnb.toInt ≤ 6) := n_qnb
  have y_qnp : zHid (0 ≤ qnp.toInt ∧ qnp.toInt ≤ 5) := n_qnp
  have y_tat : zHid (0 ≤ tat.toInt ∧ tat.toInt ≤ 260) := n_tat
  have y_tsz : zHid (0 ≤ tsz.toInt ∧ tsz.toInt ≤ 240) := n_tsz
  have y_wr : zHid ((-1) ≤ wr.toInt ∧ wr.toInt ≤ 260) := n_wr
  clear n_ac n_hi n_ho n_lw n_np n_qnb n_qnp n_tat n_tsz n_wr
  obtain ⟨hargs, hsz, hP, hK, hT⟩ := hv
  have hx := B.exec
  have hb := B.bytes
  have hr := B.returns
  have hts : ∀ w ∈ wA, w.before args s = true := fun w h => atoms_spec (ws := .code yX11_fitsOf cX11_fitsOf 4 (some .int) :: wA) B.pre w (List.mem_cons_of_mem _ h)
  have hown : s.vm.findClass RX11 = some m.cls := findClass_of_methodNamed B.named
  have hlocks := B.notSynchronized
  subst hsz
  have hD : va_D (va_A [] s.heap.size) [] := zD0
  generalize hAe : va_A [] s.heap.size = A at hD ⊢
  have hA : ∀ q : Nat, s.heap.size ≤ q → A q := fun q h => by rw [← hAe]; exact Or.inr h
  have hl := lv_entry ([.ref h0, .int p0]) (n := 4) (Nat.le_of_ble_eq_true rfl)
  rw [show entryFrame m args 4 = entryFrame m ([.ref h0, .int p0] : List Value).toArray 4 by rw [hargs], lg_entry_eq]
  generalize (lg_sl ([.ref h0, .int p0]) ++ List.replicate (4 - (lg_sl ([.ref h0, .int p0])).length) Slot.unset).toArray = ls at hl ⊢
  have hl : lv_has ls 4 [(0, .ref h0), (1, .int p0)] := hl
  refine zstart (fun H hH => ?_)
  rw [← hH] at hP
  have hS : va_S A s.heap H [] := by rw [hH]; exact va_S.rf
  generalize ([] : List Loc) = locs at hS ⊢
  refine zgen (fun R Q hR hQ => ?_)
  refine lv_iconst (v := 0) hx hb dX11_fitsOf_0 (by decide) ?_
  refine lv_istore_n (lv' := [(2, .int 0), (0, .ref h0), (1, .int p0)]) hx hb dX11_fitsOf_1 rfl hl (by decide) rfl (fun ls hl => ?_)
  refine lv_iconst (v := 0) hx hb dX11_fitsOf_2 (by decide) ?_
  have J4 : ∀ (n : Nat) (m4_L_2 : Int32) (m4_L_3 : Int32), (0 ≤ m4_L_3.toInt ∧ m4_L_3.toInt ≤ 10) → (m4_L_2 = zFts (cBt (fN 11) p0) (cBt (fN 12) p0) (fBr (4 * p0.toInt.toNat)) m4_L_3.toInt.toNat) → (m4_L_3.toInt ≤ 10) → (11 - m4_L_3.toInt).toNat = n → ∀ (H : Heap) (locs : List Loc) (ls : Array Slot), va_P (dC, dI) vwCl [(h0, .inr (11, [.int th, .ref tB, .int tsz, .int tat, .int wr, .int dp, .ref rC, .ref rV, .ref rD, .ref rK, .ref rT, .ref rS, .ref rU, .int lw, .int tx, .ref rL, .ref rX, .ref qR, .ref qB, .ref qP, .int qnb, .int qnp, .ref aR, .ref aB, .ref aP, .int nb, .int np, .ref aN, .ref rf, .int ho, .int br, .ref aK, .int ac, .long dw, .ref aE, .int sr, .int sf, .ref aA, .ref aH, .ref aI, .int hi])), (aB, .inl (cI, 24, .inl fBr)), (aN, .inl (cI, 97, .inl fN))] H → va_S A s.heap H locs → lv_has ls 4 [(3, .int m4_L_3), (2, .int m4_L_2), (0, .ref h0), (1, .int p0)] → W p l e R s m args below meth c H locs 0 0 Q (F0 m 4 ls []) := by
    intro n4
    induction n4 using Nat.strongRecOn with
    | _ n4 ih4 =>
      intro m4_L_2 m4_L_3 jf4_0 jv4_0 jf4_2 hmu4 H locs ls hP hS hl
      refine lv_iload_n hx hb dX11_fitsOf_4 rfl (lv_at hl 0 rfl) ?_
      refine lv_bipush (v := 10) hx hb dX11_fitsOf_5 (by decide) ?_
      refine lv_icmp_ge (tgt := 35) hx hb dX11_fitsOf_7 (by decide) (fun c7 => ?_) (fun c7 => ?_)
      · have c7 : 10 ≤ m4_L_3.toInt := z3 (by decide) rfl c7
        refine lv_iload_n hx hb dX11_fitsOf_35 rfl (lv_at hl 1 rfl) ?_
        rw [hQ]
        exact W.iret (v := m4_L_2) hx hb hr (fun t ht hW => ⟨⟨m4_L_2, (), rfl, (by (try dsimp only); rw [jv4_0, show m4_L_3.toInt.toNat = 10 by omega]), trivial⟩, hS.F ht⟩) hS.2.2 dX11_fitsOf_36
      · have c7 : m4_L_3.toInt < 10 := z4 (by decide) rfl c7
        refine lv_iload_n hx hb dX11_fitsOf_10 rfl (lv_at hl 1 rfl) ?_
        refine lv_aload_n hx hb dX11_fitsOf_11 rfl (lv_at hl 2 rfl) ?_
        refine lv_iload_n hx hb dX11_fitsOf_12 rfl (lv_at hl 3 rfl) ?_
        refine lv_iload_n hx hb dX11_fitsOf_13 rfl (lv_at hl 0 rfl) ?_
        obtain ⟨hPc, hDc⟩ := zc2 (wc := [(h0, .inr (11, [.int th, .ref tB, .int tsz, .int tat, .int wr, .int dp, .ref rC, .ref rV, .ref rD, .ref rK, .ref rT, .ref rS, .ref rU, .int lw, .int tx, .ref rL, .ref rX, .ref qR, .ref qB, .ref qP, .int qnb, .int qnp, .ref aR, .ref aB, .ref aP, .int nb, .int np, .ref aN, .ref rf, .int ho, .int br, .ref aK, .int ac, .long dw, .ref aE, .int sr, .int sf, .ref aA, .ref aH, .ref aI, .int hi])), (aB, .inl (cI, 24, .inl fBr)), (aN, .inl (cI, 97, .inl fN))]) hP hT [0, 1, 2] (by decide +kernel) rfl
        have hFc := zfr hS hA
        refine va_calli (va_runV (As := [.int p0, .int m4_L_3]) (rest := [.int m4_L_2]) ⟨hx, hb, hml, hown, hts⟩ (g_X11_fitsFace l dC dI cI cJ h0 p0 m4_L_3 th tB tsz tat wr dp rC rV rD rK rT rS rU lw tx rL rX qR qB qP qnb qnp aR aB aP nb np aN rf ho br aK ac dw aE sr sf aA aH aI hi fBr fN H.size y_ac y_hi y_ho y_lw n_nb y_np n_p0 (by omega) y_qnb y_qnp y_tat y_tsz y_wr (hbn) ci_fBr_zBr_nb ci_fN_zNw_np) (cwV 2 hts (zgV qw1579 qw1581 qw77 qw108 qw1582) rfl rfl rfl hd_X11_fitsFace ⟨by rw [hR]; exact Nat.le_of_ble_eq_true rfl, by rw [hR]; exact Nat.le_of_ble_eq_true rfl⟩) (zPV hPc hK hDc (va_recv (q := (RX11, TX11, 41)) hK hP (ci := 11) (q0 := 0) rfl rfl)) rfl rfl hl.1 rfl (lv_room (Nat.le_of_ble_eq_true rfl)) dX11_fitsOf_14 ⟨Nat.zero_le _, Nat.zero_le _⟩) hS (fun q _ h => hFc q h) hFc (fun v14 u14 t H locs ht hvm hw hB hz1 hk1 hS9 => ?_)
        replace hP := zkeep hP hk1
        replace hS := hS9
        clear hPc hDc hFc hk1 hz1 hvm hS9
        obtain ⟨f14_0, f14_1, f14_2, f14_3⟩ : (0 ≤ v14.toInt) ∧ (v14.toInt ≤ 1) ∧ (m4_L_3.toInt = (fBr (4 * p0.toInt.toNat)).toInt → v14.toInt = 1) ∧ ((v14.toInt = 1 ∧ zFf (cBt (fN 11) p0) (cBt (fN 12) p0) (fBr (4 * p0.toInt.toNat)) m4_L_3) ∨ (v14.toInt = 0 ∧ ¬ zFf (cBt (fN 11) p0) (cBt (fN 12) p0) (fBr (4 * p0.toInt.toNat)) m4_L_3)) := hw
        have F14 := f14_3
        refine lv_if_eq (tgt := 26) hx hb dX11_fitsOf_17 (by decide) (fun c17 => ?_) (fun c17 => ?_)
        · have c17 : v14.toInt = 0 := z5 rfl (by decide) c17
          refine lv_iconst (v := 0) hx hb dX11_fitsOf_26 (by decide) ?_
          refine lv_ior hx hb dX11_fitsOf_27 ?_
          refine lv_topi (fun v27 e27 => ?_)
          refine lv_istore_n (lv' := [(2, .int v27), (3, .int m4_L_3), (0, .ref h0), (1, .int p0)]) hx hb dX11_fitsOf_28 rfl hl (by decide) rfl (fun ls hl => ?_)
          obtain ⟨v29, e29⟩ : ∃ y : Int32, y = m4_L_3 + Int32.ofInt (1) := ⟨_, rfl⟩
          refine lv_iinc (v := v29) (lv' := [(3, .int v29), (2, .int v27), (0, .ref h0), (1, .int p0)]) hx hb dX11_fitsOf_29 hl (k := 1) rfl e29.symm (by decide) rfl (fun ls hl => ?_)
          have i29 : v29.toInt = m4_L_3.toInt + 1 := zaddI e29 (by decide) (by omega) (by omega)
          refine lv_goto (tgt := 4) hx hb dX11_fitsOf_32 (by decide) ?_
          exact ih4 _ (by omega) v27 v29 (by omega) (by first | exact zFtsS (s := 0) jv4_0 (by omega) i29 F14 (Or.inl ⟨by omega, e27⟩) | exact zFtsS jv4_0 (by omega) i29 F14 (Or.inr ⟨by omega, e22, e27⟩)) (by omega) rfl H locs ls hP hS (lv_sub hl [0, 1, 2, 3] rfl)
        · have c17 : ¬ v14.toInt = 0 := z6 rfl (by decide) c17
          refine lv_iconst (v := 1) hx hb dX11_fitsOf_20 (by decide) ?_
          refine lv_iload_n hx hb dX11_fitsOf_21 rfl (lv_at hl 0 rfl) ?_
          refine lv_ishl hx hb dX11_fitsOf_22 ?_
          refine lv_topi (fun v22 e22 => ?_)
          refine lv_goto (tgt := 27) hx hb dX11_fitsOf_23 (by decide) ?_
          refine lv_ior hx hb dX11_fitsOf_27 ?_
          refine lv_topi (fun v27 e27 => ?_)
          refine lv_istore_n (lv' := [(2, .int v27), (3, .int m4_L_3), (0, .ref h0), (1, .int p0)]) hx hb dX11_fitsOf_28 rfl hl (by decide) rfl (fun ls hl => ?_)
          obtain ⟨v29, e29⟩ : ∃ y : Int32, y = m4_L_3 + Int32.ofInt (1) := ⟨_, rfl⟩
          refine lv_iinc (v := v29) (lv' := [(3, .int v29), (2, .int v27), (0, .ref h0), (1, .int p0)]) hx hb dX11_fitsOf_29 hl (k := 1) rfl e29.symm (by decide) rfl (fun ls hl => ?_)
          have i29 : v29.toInt = m4_L_3.toInt + 1 := zaddI e29 (by decide) (by omega) (by omega)
          refine lv_goto (tgt := 4) hx hb dX11_fitsOf_32 (by decide) ?_
          exact ih4 _ (by omega) v27 v29 (by omega) (by first | exact zFtsS (s := 0) jv4_0 (by omega) i29 F14 (Or.inl ⟨by omega, e27⟩) | exact zFtsS jv4_0 (by omega) i29 F14 (Or.inr ⟨by omega, e22, e27⟩)) (by omega) rfl H locs ls hP hS (lv_sub hl [0, 1, 2, 3] rfl)
  refine lv_istore_n (lv' := [(3, .int 0), (2, .int 0), (0, .ref h0), (1, .int p0)]) hx hb dX11_fitsOf_3 rfl hl (by decide) rfl (fun ls hl => ?_)
  have zj4_m4_L_2 : (0 : Int32).toInt = 0 := by decide
  have zj4_m4_L_3 : (0 : Int32).toInt = 0 := by decide
  exact J4 _ 0 0 (by decide) (rfl) (by omega) rfl H locs ls hP hS (lv_sub hl [0, 1, 2, 3] rfl)
set_option maxHeartbeats 4000000 in
set_option maxRecDepth 100000 in
theorem g_X11_layBeliefs (l : Launch) (dC : Nat → ClassId) (dI : Nat → Nat → Nat) (cI cJ : ClassId) (h0 : Nat) (p0 : Int32) (th : Int32) (tB : Nat) (tsz : Int32) (tat : Int32) (wr : Int32) (dp : Int32) (rC : Nat) (rV : Nat) (rD : Nat) (rK : Nat) (rT : Nat) (rS : Nat) (rU : Nat) (lw : Int32) (tx : Int32) (rL : Nat) (rX : Nat) (qR : Nat) (qB : Nat) (qP : Nat) (qnb : Int32) (qnp : Int32) (aR : Nat) (aB : Nat) (aP : Nat) (nb : Int32) (np : Int32) (aN : Nat) (rf : Nat) (ho : Int32) (br : Int32) (aK : Nat) (ac : Int32) (dw : Int64) (aE : Nat) (sr : Int32) (sf : Int32) (aA : Nat) (aH : Nat) (aI : Nat) (hi : Int32) (fC : Nat → Int32) (fV : Nat → Int32) (fK : Nat → Int32) (fT : Nat → Int32) (fS : Nat → Int32) (fU : Nat → Int32) (fL : Nat → Int32) (fX : Nat → Int32) (fBr : Nat → Int32) (fPa : Nat → Int32) (fN : Nat → Int32) (fE : Nat → Int32) (sz : Nat) (n_ac : 0 ≤ ac.toInt ∧ ac.toInt ≤ 40) (n_hi : 0 ≤ hi.toInt ∧ hi.toInt ≤ 1) (n_ho : (-1) ≤ ho.toInt ∧ ho.toInt ≤ 3) (n_lw : 0 ≤ lw.toInt ∧ lw.toInt ≤ 4) (n_nb : 0 ≤ nb.toInt ∧ nb.toInt ≤ 6) (n_np : 0 ≤ np.toInt ∧ np.toInt ≤ 5) (n_p0 : 0 ≤ p0.toInt ∧ p0.toInt ≤ 5) (n_qnb : 0 ≤ qnb.toInt ∧ qnb.toInt ≤ 6) (n_qnp : 0 ≤ qnp.toInt ∧ qnp.toInt ≤ 5) (n_tat : 0 ≤ tat.toInt ∧ tat.toInt ≤ 260) (n_tsz : 0 ≤ tsz.toInt ∧ tsz.toInt ≤ 240) (n_wr : (-1) ≤ wr.toInt ∧ wr.toInt ≤ 260) (hls : zLs ho fC fV fK fT fS fU) (hbn : p0.toInt < nb.toInt) (ci_fBr_zBr_nb : zBr nb fBr) (ci_fN_zNw_np : zNw np fN) (ci_fPa_zBr_np : zBr np fPa)  : Met l yX11_layBeliefs (.code yX11_layBeliefs cX11_layBeliefs 5 none :: wA) ({ frames := 8, cells := 0, slots := 0, locals := 198 }) (zP (dC, dI) [(cI, .int), (cJ, .long)] [.ref h0, .int p0] sz [(h0, .inr (11, [.int th, .ref tB, .int tsz, .int tat, .int wr, .int dp, .ref rC, .ref rV, .ref rD, .ref rK, .ref rT, .ref rS, .ref rU, .int lw, .int tx, .ref rL, .ref rX, .ref qR, .ref qB, .ref qP, .int qnb, .int qnp, .ref aR, .ref aB, .ref aP, .int nb, .int np, .ref aN, .ref rf, .int ho, .int br, .ref aK, .int ac, .long dw, .ref aE, .int sr, .int sf, .ref aA, .ref aH, .ref aI, .int hi])), (rC, .inl (cI, 2600, .inl fC)), (rV, .inl (cI, 2600, .inl fV)), (rK, .inl (cI, 5, .inl fK)), (rT, .inl (cI, 700, .inl fT)), (rS, .inl (cI, 700, .inl fS)), (rU, .inl (cI, 700, .inl fU)), (rL, .inl (cI, 6, .inl fL)), (rX, .inl (cI, 80, .inl fX)), (aB, .inl (cI, 24, .inl fBr)), (aP, .inl (cI, 20, .inl fPa)), (aN, .inl (cI, 97, .inl fN)), (aE, .inl (cI, 10, .inl fE))]) (va_Qv (fun (u : (Nat → Int32) × (Nat → Int32) × (Nat → Int32)) => (∀ (kc : zK3) (kT : zT) (q_fR : Nat → Int32) (kl : Option ((Int → Int) × Int)), zCn q_fR fBr fPa nb.toInt np.toInt kc → zKo nb.toInt np.toInt kc kT → zSr nb.toInt np.toInt kT.1 fN → zLwR ho fC fV fK fT fS fU kl → ∀ j : Nat, j < 10 → u.2.2 j = sBl kc kT.1 kl p0 j)) (fun (u : (Nat → Int32) × (Nat → Int32) × (Nat → Int32)) (t : State) => va_P (dC, dI) vwCl [(h0, .inr (11, [.int th, .ref tB, .int tsz, .int tat, .int wr, .int dp, .ref rC, .ref rV, .ref rD, .ref rK, .ref rT, .ref rS, .ref rU, .int lw, .int tx, .ref rL, .ref rX, .ref qR, .ref qB, .ref qP, .int qnb, .int qnp, .ref aR, .ref aB, .ref aP, .int nb, .int np, .ref aN, .ref rf, .int ho, .int br, .ref aK, .int ac, .long dw, .ref aE, .int sr, .int sf, .ref aA, .ref aH, .ref aI, .int hi])), (rC, .inl (cI, 2600, .inl fC)), (rV, .inl (cI, 2600, .inl fV)), (rK, .inl (cI, 5, .inl fK)), (rT, .inl (cI, 700, .inl fT)), (rS, .inl (cI, 700, .inl fS)), (rU, .inl (cI, 700, .inl fU)), (rL, .inl (cI, 6, .inl u.1)), (rX, .inl (cI, 80, .inl u.2.1)), (aB, .inl (cI, 24, .inl fBr)), (aP, .inl (cI, 20, .inl fPa)), (aN, .inl (cI, 97, .inl fN)), (aE, .inl (cI, 10, .inl u.2.2))] t.heap ∧ va_D (va_A [(h0, .inr (11, [.int th, .ref tB, .int tsz, .int tat, .int wr, .int dp, .ref rC, .ref rV, .ref rD, .ref rK, .ref rT, .ref rS, .ref rU, .int lw, .int tx, .ref rL, .ref rX, .ref qR, .ref qB, .ref qP, .int qnb, .int qnp, .ref aR, .ref aB, .ref aP, .int nb, .int np, .ref aN, .ref rf, .int ho, .int br, .ref aK, .int ac, .long dw, .ref aE, .int sr, .int sf, .ref aA, .ref aH, .ref aI, .int hi])), (rC, .inl (cI, 2600, .inl fC)), (rV, .inl (cI, 2600, .inl fV)), (rK, .inl (cI, 5, .inl fK)), (rT, .inl (cI, 700, .inl fT)), (rS, .inl (cI, 700, .inl fS)), (rU, .inl (cI, 700, .inl fU)), (rL, .inl (cI, 6, .inl fL)), (rX, .inl (cI, 80, .inl fX)), (aB, .inl (cI, 24, .inl fBr)), (aP, .inl (cI, 20, .inl fPa)), (aN, .inl (cI, 97, .inl fN)), (aE, .inl (cI, 10, .inl fE))] sz) [(h0, .inr (11, [.int th, .ref tB, .int tsz, .int tat, .int wr, .int dp, .ref rC, .ref rV, .ref rD, .ref rK, .ref rT, .ref rS, .ref rU, .int lw, .int tx, .ref rL, .ref rX, .ref qR, .ref qB, .ref qP, .int qnb, .int qnp, .ref aR, .ref aB, .ref aP, .int nb, .int np, .ref aN, .ref rf, .int ho, .int br, .ref aK, .int ac, .long dw, .ref aE, .int sr, .int sf, .ref aA, .ref aH, .ref aI, .int hi])), (rC, .inl (cI, 2600, .inl fC)), (rV, .inl (cI, 2600, .inl fV)), (rK, .inl (cI, 5, .inl fK)), (rT, .inl (cI, 700, .inl fT)), (rS, .inl (cI, 700, .inl fS)), (rU, .inl (cI, 700, .inl fU)), (rL, .inl (cI, 6, .inl u.1)), (rX, .inl (cI, 80, .inl u.2.1)), (aB, .inl (cI, 24, .inl fBr)), (aP, .inl (cI, 20, .inl fPa)), (aN, .inl (cI, 97, .inl fN)), (aE, .inl (cI, 10, .inl u.2.2))]) (va_A [(h0, .inr (11, [.int th, .ref tB, .int tsz, .int tat, .int wr, .int dp, .ref rC, .ref rV, .ref rD, .ref rK, .ref rT, .ref rS, .ref rU, .int lw, .int tx, .ref rL, .ref rX, .ref qR, .ref qB, .ref qP, .int qnb, .int qnp, .ref aR, .ref aB, .ref aP, .int nb, .int np, .ref aN, .ref rf, .int ho, .int br, .ref aK, .int ac, .long dw, .ref aE, .int sr, .int sf, .ref aA, .ref aH, .ref aI, .int hi])), (rC, .inl (cI, 2600, .inl fC)), (rV, .inl (cI, 2600, .inl fV)), (rK, .inl (cI, 5, .inl fK)), (rT, .inl (cI, 700, .inl fT)), (rS, .inl (cI, 700, .inl fS)), (rU, .inl (cI, 700, .inl fU)), (rL, .inl (cI, 6, .inl fL)), (rX, .inl (cI, 80, .inl fX)), (aB, .inl (cI, 24, .inl fBr)), (aP, .inl (cI, 20, .inl fPa)), (aN, .inl (cI, 97, .inl fN)), (aE, .inl (cI, 10, .inl fE))] sz)) 0 0 (va_A [(h0, .inr (11, [.int th, .ref tB, .int tsz, .int tat, .int wr, .int dp, .ref rC, .ref rV, .ref rD, .ref rK, .ref rT, .ref rS, .ref rU, .int lw, .int tx, .ref rL, .ref rX, .ref qR, .ref qB, .ref qP, .int qnb, .int qnp, .ref aR, .ref aB, .ref aP, .int nb, .int np, .ref aN, .ref rf, .int ho, .int br, .ref aK, .int ac, .long dw, .ref aE, .int sr, .int sf, .ref aA, .ref aH, .ref aI, .int hi])), (rC, .inl (cI, 2600, .inl fC)), (rV, .inl (cI, 2600, .inl fV)), (rK, .inl (cI, 5, .inl fK)), (rT, .inl (cI, 700, .inl fT)), (rS, .inl (cI, 700, .inl fS)), (rU, .inl (cI, 700, .inl fU)), (rL, .inl (cI, 6, .inl fL)), (rX, .inl (cI, 80, .inl fX)), (aB, .inl (cI, 24, .inl fBr)), (aP, .inl (cI, 20, .inl fPa)), (aN, .inl (cI, 97, .inl fN)), (aE, .inl (cI, 10, .inl fE))] sz) := by
  refine Met.ofW (cc := cX11_layBeliefs) (maxL := 5) (ret := none) (by decide) rfl ?_
  intro p e s m args below meth c s₁ B hml hv
  have y_ac : zHid (0 ≤ ac.toInt ∧ ac.toInt ≤ 40) := n_ac
  have y_hi : zHid (0 ≤ hi.toInt ∧ hi.toInt ≤ 1) := n_hi
  have y_ho : zHid ((-1) ≤ ho.toInt ∧ ho.toInt ≤ 3) := n_ho
  have y_lw : zHid (0 ≤ lw.toInt ∧ lw.toInt ≤ 4) := n_lw
  have y_qnb : zHid (0 ≤ qnb.toInt ∧ qnb.toInt ≤ 6) := n_qnb
  have y_qnp : zHid (0 ≤ qnp.toInt ∧ qnp.toInt ≤ 5) := n_qnp
  have y_tat : zHid (0 ≤ tat.toInt ∧ tat.toInt ≤ 260) := n_tat
  have y_tsz : zHid (0 ≤ tsz.toInt ∧ tsz.toInt ≤ 240) := n_tsz
  have y_wr : zHid ((-1) ≤ wr.toInt ∧ wr.toInt ≤ 260) := n_wr
  clear n_ac n_hi n_ho n_lw n_qnb n_qnp n_tat n_tsz n_wr
  obtain ⟨hargs, hsz, hP, hK, hT⟩ := hv
  have hx := B.exec
  have hb := B.bytes
  have hr := B.returns
  have hts : ∀ w ∈ wA, w.before args s = true := fun w h => atoms_spec (ws := .code yX11_layBeliefs cX11_layBeliefs 5 none :: wA) B.pre w (List.mem_cons_of_mem _ h)
  have hown : s.vm.findClass RX11 = some m.cls := findClass_of_methodNamed B.named
  have hlocks := B.notSynchronized
  subst hsz
  have hD := hT.self (sz := s.heap.size)
  generalize hAe : va_A [(h0, .inr (11, [.int th, .ref tB, .int tsz, .int tat, .int wr, .int dp, .ref rC, .ref rV, .ref rD, .ref rK, .ref rT, .ref rS, .ref rU, .int lw, .int tx, .ref rL, .ref rX, .ref qR, .ref qB, .ref qP, .int qnb, .int qnp, .ref aR, .ref aB, .ref aP, .int nb, .int np, .ref aN, .ref rf, .int ho, .int br, .ref aK, .int ac, .long dw, .ref aE, .int sr, .int sf, .ref aA, .ref aH, .ref aI, .int hi])), (rC, .inl (cI, 2600, .inl fC)), (rV, .inl (cI, 2600, .inl fV)), (rK, .inl (cI, 5, .inl fK)), (rT, .inl (cI, 700, .inl fT)), (rS, .inl (cI, 700, .inl fS)), (rU, .inl (cI, 700, .inl fU)), (rL, .inl (cI, 6, .inl fL)), (rX, .inl (cI, 80, .inl fX)), (aB, .inl (cI, 24, .inl fBr)), (aP, .inl (cI, 20, .inl fPa)), (aN, .inl (cI, 97, .inl fN)), (aE, .inl (cI, 10, .inl fE))] s.heap.size = A at hD ⊢
  have hA : ∀ q : Nat, s.heap.size ≤ q → A q := fun q h => by rw [← hAe]; exact Or.inr h
  have hl := lv_entry ([.ref h0, .int p0]) (n := 5) (Nat.le_of_ble_eq_true rfl)
  rw [show entryFrame m args 5 = entryFrame m ([.ref h0, .int p0] : List Value).toArray 5 by rw [hargs], lg_entry_eq]
  generalize (lg_sl ([.ref h0, .int p0]) ++ List.replicate (5 - (lg_sl ([.ref h0, .int p0])).length) Slot.unset).toArray = ls at hl ⊢
  have hl : lv_has ls 5 [(0, .ref h0), (1, .int p0)] := hl
  refine zstart (fun H hH => ?_)
  rw [← hH] at hP
  have hS : va_S A s.heap H [] := by rw [hH]; exact va_S.rf
  generalize ([] : List Loc) = locs at hS ⊢
  refine zgen (fun R Q hR hQ => ?_)
  have qf : 0 ≤ (fBr (4 * p0.toInt.toNat)).toInt ∧ (fBr (4 * p0.toInt.toNat)).toInt ≤ 9 := ci_fBr_zBr_nb p0.toInt.toNat (by omega)
  refine lv_lconst (v := 0) hx hb dX11_layBeliefs_0 rfl ?_
  refine lv_lstore_n (lv' := [(2, .long 0), (0, .ref h0), (1, .int p0)]) hx hb dX11_layBeliefs_1 rfl hl (by decide) rfl (fun ls hl => ?_)
  refine lv_iconst (v := 0) hx hb dX11_layBeliefs_2 (by decide) ?_
  have J5 : ∀ (n : Nat) (m5_A_rL : Nat → Int32) (m5_A_rX : Nat → Int32) (m5_L_2 : Int64) (m5_L_4 : Int32), (0 ≤ m5_L_4.toInt ∧ m5_L_4.toInt ≤ 10) → (0 ≤ m5_L_2.toInt ∧ m5_L_2.toInt ≤ 1000000000000 * m5_L_4.toInt ∧ ((fBr (4 * p0.toInt.toNat)).toInt < m5_L_4.toInt → 1 ≤ m5_L_2.toInt)) → (∀ (kc : zK3) (kT : zT) (q_fR : Nat → Int32) (kl : Option ((Int → Int) × Int)), zCn q_fR fBr fPa nb.toInt np.toInt kc → zKo nb.toInt np.toInt kc kT → zSr nb.toInt np.toInt kT.1 fN → zLwR ho fC fV fK fT fS fU kl → m5_L_2 = zSm (fun i => sWt kc kT.1 kl p0 (Int32.ofNat i)) m5_L_4.toInt.toNat) → (11 - m5_L_4.toInt).toNat = n → ∀ (H : Heap) (locs : List Loc) (ls : Array Slot), va_P (dC, dI) vwCl [(h0, .inr (11, [.int th, .ref tB, .int tsz, .int tat, .int wr, .int dp, .ref rC, .ref rV, .ref rD, .ref rK, .ref rT, .ref rS, .ref rU, .int lw, .int tx, .ref rL, .ref rX, .ref qR, .ref qB, .ref qP, .int qnb, .int qnp, .ref aR, .ref aB, .ref aP, .int nb, .int np, .ref aN, .ref rf, .int ho, .int br, .ref aK, .int ac, .long dw, .ref aE, .int sr, .int sf, .ref aA, .ref aH, .ref aI, .int hi])), (rC, .inl (cI, 2600, .inl fC)), (rV, .inl (cI, 2600, .inl fV)), (rK, .inl (cI, 5, .inl fK)), (rT, .inl (cI, 700, .inl fT)), (rS, .inl (cI, 700, .inl fS)), (rU, .inl (cI, 700, .inl fU)), (rL, .inl (cI, 6, .inl m5_A_rL)), (rX, .inl (cI, 80, .inl m5_A_rX)), (aB, .inl (cI, 24, .inl fBr)), (aP, .inl (cI, 20, .inl fPa)), (aN, .inl (cI, 97, .inl fN)), (aE, .inl (cI, 10, .inl fE))] H → va_D A [(h0, .inr (11, [.int th, .ref tB, .int tsz, .int tat, .int wr, .int dp, .ref rC, .ref rV, .ref rD, .ref rK, .ref rT, .ref rS, .ref rU, .int lw, .int tx, .ref rL, .ref rX, .ref qR, .ref qB, .ref qP, .int qnb, .int qnp, .ref aR, .ref aB, .ref aP, .int nb, .int np, .ref aN, .ref rf, .int ho, .int br, .ref aK, .int ac, .long dw, .ref aE, .int sr, .int sf, .ref aA, .ref aH, .ref aI, .int hi])), (rC, .inl (cI, 2600, .inl fC)), (rV, .inl (cI, 2600, .inl fV)), (rK, .inl (cI, 5, .inl fK)), (rT, .inl (cI, 700, .inl fT)), (rS, .inl (cI, 700, .inl fS)), (rU, .inl (cI, 700, .inl fU)), (rL, .inl (cI, 6, .inl m5_A_rL)), (rX, .inl (cI, 80, .inl m5_A_rX)), (aB, .inl (cI, 24, .inl fBr)), (aP, .inl (cI, 20, .inl fPa)), (aN, .inl (cI, 97, .inl fN)), (aE, .inl (cI, 10, .inl fE))] → va_S A s.heap H locs → lv_has ls 5 [(4, .int m5_L_4), (2, .long m5_L_2), (0, .ref h0), (1, .int p0)] → W p l e R s m args below meth c H locs 0 0 Q (F0 m 5 ls []) := by
    intro n5
    induction n5 using Nat.strongRecOn with
    | _ n5 ih5 =>
      intro m5_A_rL m5_A_rX m5_L_2 m5_L_4 jf5_0 jv5_0 jv5_1 hmu5 H locs ls hP hD hS hl
      refine lv_iload hx hb dX11_layBeliefs_5 (lv_at hl 0 rfl) ?_
      refine lv_bipush (v := 10) hx hb dX11_layBeliefs_7 (by decide) ?_
      refine lv_icmp_ge (tgt := 42) hx hb dX11_layBeliefs_9 (by decide) (fun c9 => ?_) (fun c9 => ?_)
      · have c9 : 10 ≤ m5_L_4.toInt := z3 (by decide) rfl c9
        refine lv_iconst (v := 0) hx hb dX11_layBeliefs_42 (by decide) ?_
        have J45 : ∀ (n : Nat) (m45_A_aE : Nat → Int32) (m45_A_rL : Nat → Int32) (m45_A_rX : Nat → Int32) (m45_L_4 : Int32), (0 ≤ m45_L_4.toInt ∧ m45_L_4.toInt ≤ 10) → (∀ (kc : zK3) (kT : zT) (q_fR : Nat → Int32) (kl : Option ((Int → Int) × Int)), zCn q_fR fBr fPa nb.toInt np.toInt kc → zKo nb.toInt np.toInt kc kT → zSr nb.toInt np.toInt kT.1 fN → zLwR ho fC fV fK fT fS fU kl → ∀ j : Nat, (j : Int) < m45_L_4.toInt → m45_A_aE j = sBl kc kT.1 kl p0 j) → (11 - m45_L_4.toInt).toNat = n → ∀ (H : Heap) (locs : List Loc) (ls : Array Slot), va_P (dC, dI) vwCl [(h0, .inr (11, [.int th, .ref tB, .int tsz, .int tat, .int wr, .int dp, .ref rC, .ref rV, .ref rD, .ref rK, .ref rT, .ref rS, .ref rU, .int lw, .int tx, .ref rL, .ref rX, .ref qR, .ref qB, .ref qP, .int qnb, .int qnp, .ref aR, .ref aB, .ref aP, .int nb, .int np, .ref aN, .ref rf, .int ho, .int br, .ref aK, .int ac, .long dw, .ref aE, .int sr, .int sf, .ref aA, .ref aH, .ref aI, .int hi])), (rC, .inl (cI, 2600, .inl fC)), (rV, .inl (cI, 2600, .inl fV)), (rK, .inl (cI, 5, .inl fK)), (rT, .inl (cI, 700, .inl fT)), (rS, .inl (cI, 700, .inl fS)), (rU, .inl (cI, 700, .inl fU)), (rL, .inl (cI, 6, .inl m45_A_rL)), (rX, .inl (cI, 80, .inl m45_A_rX)), (aB, .inl (cI, 24, .inl fBr)), (aP, .inl (cI, 20, .inl fPa)), (aN, .inl (cI, 97, .inl fN)), (aE, .inl (cI, 10, .inl m45_A_aE))] H → va_D A [(h0, .inr (11, [.int th, .ref tB, .int tsz, .int tat, .int wr, .int dp, .ref rC, .ref rV, .ref rD, .ref rK, .ref rT, .ref rS, .ref rU, .int lw, .int tx, .ref rL, .ref rX, .ref qR, .ref qB, .ref qP, .int qnb, .int qnp, .ref aR, .ref aB, .ref aP, .int nb, .int np, .ref aN, .ref rf, .int ho, .int br, .ref aK, .int ac, .long dw, .ref aE, .int sr, .int sf, .ref aA, .ref aH, .ref aI, .int hi])), (rC, .inl (cI, 2600, .inl fC)), (rV, .inl (cI, 2600, .inl fV)), (rK, .inl (cI, 5, .inl fK)), (rT, .inl (cI, 700, .inl fT)), (rS, .inl (cI, 700, .inl fS)), (rU, .inl (cI, 700, .inl fU)), (rL, .inl (cI, 6, .inl m45_A_rL)), (rX, .inl (cI, 80, .inl m45_A_rX)), (aB, .inl (cI, 24, .inl fBr)), (aP, .inl (cI, 20, .inl fPa)), (aN, .inl (cI, 97, .inl fN)), (aE, .inl (cI, 10, .inl m45_A_aE))] → va_S A s.heap H locs → lv_has ls 5 [(4, .int m45_L_4), (2, .long m5_L_2), (0, .ref h0), (1, .int p0)] → W p l e R s m args below meth c H locs 0 0 Q (F0 m 45 ls []) := by
          intro n45
          induction n45 using Nat.strongRecOn with
          | _ n45 ih45 =>
            intro m45_A_aE m45_A_rL m45_A_rX m45_L_4 jf45_0 jv45_0 hmu45 H locs ls hP hD hS hl
            refine lv_iload hx hb dX11_layBeliefs_45 (lv_at hl 0 rfl) ?_
            refine lv_bipush (v := 10) hx hb dX11_layBeliefs_47 (by decide) ?_
            refine lv_icmp_ge (tgt := 93) hx hb dX11_layBeliefs_49 (by decide) (fun c49 => ?_) (fun c49 => ?_)
            · have c49 : 10 ≤ m45_L_4.toInt := z3 (by decide) rfl c49
              rw [hQ]
              exact W.vret hx hb hr (fun t ht hW => ⟨⟨(m45_A_rL, m45_A_rX, m45_A_aE), rfl, (by (try dsimp only); exact fun kc kT q_fR kl hc hb h hL => fun j hj => (jv45_0 kc kT _ kl hc hb h hL) j (by omega)), ⟨by rw [ht]; exact hP, hD⟩⟩, hS.F ht⟩) hS.2.2 dX11_layBeliefs_93
            · have c49 : m45_L_4.toInt < 10 := z4 (by decide) rfl c49
              refine lv_aload_n hx hb dX11_layBeliefs_52 rfl (lv_at hl 2 rfl) ?_
              refine va_get (D := (dC, dI)) (ci := 11) (v := .ref aE) (C := RX11) (T := TX11) (N := 41) hx hb hts iX11 hown hK hP 0 rfl rfl 34 (by decide) (hts _ qw1161) (fun _ h9 => h9) rfl dX11_layBeliefs_53 ?_
              refine lv_iload hx hb dX11_layBeliefs_56 (lv_at hl 0 rfl) ?_
              refine lv_aload_n hx hb dX11_layBeliefs_58 rfl (lv_at hl 2 rfl) ?_
              refine lv_iload_n hx hb dX11_layBeliefs_59 rfl (lv_at hl 3 rfl) ?_
              refine lv_iload hx hb dX11_layBeliefs_60 (lv_at hl 0 rfl) ?_
              obtain ⟨hPc, hDc⟩ := zc2 (wc := [(h0, .inr (11, [.int th, .ref tB, .int tsz, .int tat, .int wr, .int dp, .ref rC, .ref rV, .ref rD, .ref rK, .ref rT, .ref rS, .ref rU, .int lw, .int tx, .ref rL, .ref rX, .ref qR, .ref qB, .ref qP, .int qnb, .int qnp, .ref aR, .ref aB, .ref aP, .int nb, .int np, .ref aN, .ref rf, .int ho, .int br, .ref aK, .int ac, .long dw, .ref aE, .int sr, .int sf, .ref aA, .ref aH, .ref aI, .int hi])), (aB, .inl (cI, 24, .inl fBr)), (aN, .inl (cI, 97, .inl fN))]) hP hD [0, 9, 11] (by decide +kernel) rfl
              have hFc := zfr hS hA
              refine va_calli (va_runV (As := [.int p0, .int m45_L_4]) (rest := [.int m45_L_4, .ref aE]) ⟨hx, hb, hml, hown, hts⟩ (g_X11_fitsFace l dC dI cI cJ h0 p0 m45_L_4 th tB tsz tat wr dp rC rV rD rK rT rS rU lw tx rL rX qR qB qP qnb qnp aR aB aP nb np aN rf ho br aK ac dw aE sr sf aA aH aI hi fBr fN H.size y_ac y_hi y_ho y_lw n_nb n_np n_p0 (by omega) y_qnb y_qnp y_tat y_tsz y_wr (hbn) ci_fBr_zBr_nb ci_fN_zNw_np) (cwV 2 hts (zgV qw1579 qw1581 qw77 qw108 qw1582) rfl rfl rfl hd_X11_fitsFace ⟨by rw [hR]; exact Nat.le_of_ble_eq_true rfl, by rw [hR]; exact Nat.le_of_ble_eq_true rfl⟩) (zPV hPc hK hDc (va_recv (q := (RX11, TX11, 41)) hK hP (ci := 11) (q0 := 0) rfl rfl)) rfl rfl hl.1 rfl (lv_room (Nat.le_of_ble_eq_true rfl)) dX11_layBeliefs_62 ⟨Nat.zero_le _, Nat.zero_le _⟩) hS (fun q _ h => hFc q h) hFc (fun v62 u62 t H locs ht hvm hw hB hz1 hk1 hS9 => ?_)
              replace hP := zkeep hP hk1
              replace hS := hS9
              clear hPc hDc hFc hk1 hz1 hvm hS9
              obtain ⟨f62_0, f62_1, f62_2, f62_3⟩ : (0 ≤ v62.toInt) ∧ (v62.toInt ≤ 1) ∧ (m45_L_4.toInt = (fBr (4 * p0.toInt.toNat)).toInt → v62.toInt = 1) ∧ ((v62.toInt = 1 ∧ zFf (cBt (fN 11) p0) (cBt (fN 12) p0) (fBr (4 * p0.toInt.toNat)) m45_L_4) ∨ (v62.toInt = 0 ∧ ¬ zFf (cBt (fN 11) p0) (cBt (fN 12) p0) (fBr (4 * p0.toInt.toNat)) m45_L_4)) := hw
              have F62 := f62_3
              refine lv_if_eq (tgt := 85) hx hb dX11_layBeliefs_65 (by decide) (fun c65 => ?_) (fun c65 => ?_)
              · have c65 : v62.toInt = 0 := z5 rfl (by decide) c65
                refine lv_iconst (v := 0) hx hb dX11_layBeliefs_85 (by decide) ?_
                refine va_iast hx hb hK hP hD hS 12 0 rfl rfl (vp_in_iff.mpr ⟨by omega, by omega⟩) dX11_layBeliefs_86 (fun H locs hP9 hD9 hS9 => ?_)
                clear hP hD hS
                obtain ⟨v86_f, e86⟩ : ∃ g : Nat → Int32, g = upd m45_A_aE (m45_L_4).toNatClampNeg 0 := ⟨_, rfl⟩
                rw [← e86] at hP9 hD9
                obtain ⟨hP, hD⟩ := zst (wX := [(h0, .inr (11, [.int th, .ref tB, .int tsz, .int tat, .int wr, .int dp, .ref rC, .ref rV, .ref rD, .ref rK, .ref rT, .ref rS, .ref rU, .int lw, .int tx, .ref rL, .ref rX, .ref qR, .ref qB, .ref qP, .int qnb, .int qnp, .ref aR, .ref aB, .ref aP, .int nb, .int np, .ref aN, .ref rf, .int ho, .int br, .ref aK, .int ac, .long dw, .ref aE, .int sr, .int sf, .ref aA, .ref aH, .ref aI, .int hi])), (rC, .inl (cI, 2600, .inl fC)), (rV, .inl (cI, 2600, .inl fV)), (rK, .inl (cI, 5, .inl fK)), (rT, .inl (cI, 700, .inl fT)), (rS, .inl (cI, 700, .inl fS)), (rU, .inl (cI, 700, .inl fU)), (rL, .inl (cI, 6, .inl m45_A_rL)), (rX, .inl (cI, 80, .inl m45_A_rX)), (aB, .inl (cI, 24, .inl fBr)), (aP, .inl (cI, 20, .inl fPa)), (aN, .inl (cI, 97, .inl fN)), (aE, .inl (cI, 10, .inl v86_f))]) hP9 hD9 rfl
                have hS := hS9
                clear hP9 hD9 hS9
                obtain ⟨v87, e87⟩ : ∃ y : Int32, y = m45_L_4 + Int32.ofInt (1) := ⟨_, rfl⟩
                refine lv_iinc (v := v87) (lv' := [(4, .int v87), (2, .long m5_L_2), (0, .ref h0), (1, .int p0)]) hx hb dX11_layBeliefs_87 hl (k := 0) rfl e87.symm (by decide) rfl (fun ls hl => ?_)
                have i87 : v87.toInt = m45_L_4.toInt + 1 := zaddI e87 (by decide) (by omega) (by omega)
                refine lv_goto (tgt := 45) hx hb dX11_layBeliefs_90 (by decide) ?_
                exact ih45 _ (by omega) v86_f m45_A_rL m45_A_rX v87 (by omega) (fun kc kT q_fR kl hc hb h hL => by have tt : m5_L_2 = sTot kc kT.1 kl p0 := (jv5_1 kc kT _ kl hc hb h hL).trans (by rw [show m5_L_4.toInt.toNat = 10 by omega]; rfl); have fb := zFace_b hb (show 0 ≤ p0.toInt ∧ p0.toInt < nb.toInt by omega); have ff := zFf_i (lt := cBt kT.1.2.2.1.1 p0) (sh := cBt kT.1.2.2.1.2.1 p0) (e := kc.2.1 (4 * p0.toInt.toNat)) (f := m45_L_4) cBt_b cBt_b fb (by omega); have g62 := F62; rw [← zSr_lt h, ← zSr_sh h, hc.2.1 (4 * p0.toInt.toNat) (by omega)] at g62; first | (have y75 := F75 kc kT _ kl hc hb h hL (by omega) (by omega); exact zBlS (jv45_0 kc kT _ kl hc hb h hL) (by omega) i87 e86 (sBl_y tt (by omega) (by omega) (ff.mpr (by rcases g62 with z | z; exact z.2; (exfalso; omega))) y75 e78 e80 e81)) | exact zBlS (jv45_0 kc kT _ kl hc hb h hL) (by omega) i87 e86 (sBl_n tt (by omega) (by omega) (fun y => by rcases g62 with z | z; (exfalso; omega); exact z.2 (ff.mp y)))) rfl H locs ls hP hD hS (lv_sub hl [0, 1, 2, 3] rfl)
              · have c65 : ¬ v62.toInt = 0 := z6 rfl (by decide) c65
                refine lv_ldc2 (v := 1000000) hx hb hown (hts _ qw1461) dX11_layBeliefs_68 ?_
                refine lv_aload_n hx hb dX11_layBeliefs_71 rfl (lv_at hl 2 rfl) ?_
                refine lv_iload_n hx hb dX11_layBeliefs_72 rfl (lv_at hl 3 rfl) ?_
                refine lv_iload hx hb dX11_layBeliefs_73 (lv_at hl 0 rfl) ?_
                obtain ⟨hPc, hDc, hFc⟩ := zc3 (wc := [(h0, .inr (11, [.int th, .ref tB, .int tsz, .int tat, .int wr, .int dp, .ref rC, .ref rV, .ref rD, .ref rK, .ref rT, .ref rS, .ref rU, .int lw, .int tx, .ref rL, .ref rX, .ref qR, .ref qB, .ref qP, .int qnb, .int qnp, .ref aR, .ref aB, .ref aP, .int nb, .int np, .ref aN, .ref rf, .int ho, .int br, .ref aK, .int ac, .long dw, .ref aE, .int sr, .int sf, .ref aA, .ref aH, .ref aI, .int hi])), (rC, .inl (cI, 2600, .inl fC)), (rV, .inl (cI, 2600, .inl fV)), (rK, .inl (cI, 5, .inl fK)), (rT, .inl (cI, 700, .inl fT)), (rS, .inl (cI, 700, .inl fS)), (rU, .inl (cI, 700, .inl fU)), (rL, .inl (cI, 6, .inl m45_A_rL)), (rX, .inl (cI, 80, .inl m45_A_rX)), (aB, .inl (cI, 24, .inl fBr)), (aP, .inl (cI, 20, .inl fPa)), (aN, .inl (cI, 97, .inl fN))]) hP hD hS hA [0, 1, 2, 3, 4, 5, 6, 7, 8, 9, 10, 11] (by decide +kernel) rfl
                refine va_calll (va_runV (As := [.int p0, .int m45_L_4]) (rest := [.long 1000000, .int m45_L_4, .ref aE]) ⟨hx, hb, hml, hown, hts⟩ (g_X11_weightOf l dC dI cI cJ h0 p0 m45_L_4 th tB tsz tat wr dp rC rV rD rK rT rS rU lw tx rL rX qR qB qP qnb qnp aR aB aP nb np aN rf ho br aK ac dw aE sr sf aA aH aI hi fC fV fK fT fS fU m45_A_rL m45_A_rX fBr fPa fN H.size y_ac y_hi y_ho y_lw n_nb n_np n_p0 y_qnb y_qnp y_tat y_tsz y_wr (hls) ci_fBr_zBr_nb ci_fN_zNw_np ci_fPa_zBr_np) (cwV 2 hts (zgV qw1591 qw1593 qw79 qw108 qw1594) rfl rfl rfl hd_X11_weightOf ⟨by rw [hR]; exact Nat.le_of_ble_eq_true rfl, by rw [hR]; exact Nat.le_of_ble_eq_true rfl⟩) (zPV hPc hK hDc (va_recv (q := (RX11, TX11, 41)) hK hP (ci := 11) (q0 := 0) rfl rfl)) rfl rfl hl.1 rfl (lv_room (Nat.le_of_ble_eq_true rfl)) dX11_layBeliefs_75 ⟨Nat.zero_le _, Nat.zero_le _⟩) hS (fun q _ h => hFc q h) hFc (fun v75 u75 t H locs ht hvm hw hB hz1 hk1 hS9 => ?_)
                obtain ⟨u75_0, u75_1⟩ := u75
                obtain ⟨hP9, hD9⟩ := zj2 (wX := [(h0, .inr (11, [.int th, .ref tB, .int tsz, .int tat, .int wr, .int dp, .ref rC, .ref rV, .ref rD, .ref rK, .ref rT, .ref rS, .ref rU, .int lw, .int tx, .ref rL, .ref rX, .ref qR, .ref qB, .ref qP, .int qnb, .int qnp, .ref aR, .ref aB, .ref aP, .int nb, .int np, .ref aN, .ref rf, .int ho, .int br, .ref aK, .int ac, .long dw, .ref aE, .int sr, .int sf, .ref aA, .ref aH, .ref aI, .int hi])), (rC, .inl (cI, 2600, .inl fC)), (rV, .inl (cI, 2600, .inl fV)), (rK, .inl (cI, 5, .inl fK)), (rT, .inl (cI, 700, .inl fT)), (rS, .inl (cI, 700, .inl fS)), (rU, .inl (cI, 700, .inl fU)), (rL, .inl (cI, 6, .inl u75_0)), (rX, .inl (cI, 80, .inl u75_1)), (aB, .inl (cI, 24, .inl fBr)), (aP, .inl (cI, 20, .inl fPa)), (aN, .inl (cI, 97, .inl fN)), (aE, .inl (cI, 10, .inl m45_A_aE))]) hP hD hk1 hFc ht hB [0, 1, 2, 3, 4, 5, 6, 7, 8, 9, 10, 11] [(true, 0), (true, 1), (true, 2), (true, 3), (true, 4), (true, 5), (true, 6), (true, 7), (true, 8), (true, 9), (true, 10), (true, 11), (false, 12)] rfl (by decide +kernel) (by decide +kernel) rfl
                clear hP hD hS hPc hDc hFc hB hk1 hz1 hvm
                have hP := hP9
                have hD := hD9
                have hS := hS9
                clear hP9 hD9 hS9
                obtain ⟨f75_0, f75_1, f75_2⟩ : (1 ≤ v75.toInt) ∧ (v75.toInt ≤ 1000000000000) ∧ (∀ (kc : zK3) (kT : zT) (q_fR : Nat → Int32) (kl : Option ((Int → Int) × Int)), zCn q_fR fBr fPa nb.toInt np.toInt kc → zKo nb.toInt np.toInt kc kT → zSr nb.toInt np.toInt kT.1 fN → zLwR ho fC fV fK fT fS fU kl → (0 ≤ p0.toInt ∧ p0.toInt < nb.toInt) → (0 ≤ m45_L_4.toInt ∧ m45_L_4.toInt ≤ 9) → v75 = sWl kc kT.1 kl p0 m45_L_4 kT.1.2.2.2.1.2.2.toInt.toNat 12 1) := hw
                have F75 := f75_2
                refine lv_lmul hx hb dX11_layBeliefs_78 ?_
                refine lv_topl (fun v78 e78 => ?_)
                refine lv_lload_n hx hb dX11_layBeliefs_79 rfl (lv_at hl 1 rfl) ?_
                refine lv_ldiv hx hb dX11_layBeliefs_80 (zlnz (by omega)) ?_
                refine lv_topl (fun v80 e80 => ?_)
                refine lv_l2i hx hb dX11_layBeliefs_81 rfl ?_
                refine lv_topi (fun v81 e81 => ?_)
                refine lv_goto (tgt := 86) hx hb dX11_layBeliefs_82 (by decide) ?_
                refine va_iast hx hb hK hP hD hS 12 0 rfl rfl (vp_in_iff.mpr ⟨by omega, by omega⟩) dX11_layBeliefs_86 (fun H locs hP9 hD9 hS9 => ?_)
                clear hP hD hS
                obtain ⟨v86_f, e86⟩ : ∃ g : Nat → Int32, g = upd m45_A_aE (m45_L_4).toNatClampNeg v81 := ⟨_, rfl⟩
                rw [← e86] at hP9 hD9
                obtain ⟨hP, hD⟩ := zst (wX := [(h0, .inr (11, [.int th, .ref tB, .int tsz, .int tat, .int wr, .int dp, .ref rC, .ref rV, .ref rD, .ref rK, .ref rT, .ref rS, .ref rU, .int lw, .int tx, .ref rL, .ref rX, .ref qR, .ref qB, .ref qP, .int qnb, .int qnp, .ref aR, .ref aB, .ref aP, .int nb, .int np, .ref aN, .ref rf, .int ho, .int br, .ref aK, .int ac, .long dw, .ref aE, .int sr, .int sf, .ref aA, .ref aH, .ref aI, .int hi])), (rC, .inl (cI, 2600, .inl fC)), (rV, .inl (cI, 2600, .inl fV)), (rK, .inl (cI, 5, .inl fK)), (rT, .inl (cI, 700, .inl fT)), (rS, .inl (cI, 700, .inl fS)), (rU, .inl (cI, 700, .inl fU)), (rL, .inl (cI, 6, .inl u75_0)), (rX, .inl (cI, 80, .inl u75_1)), (aB, .inl (cI, 24, .inl fBr)), (aP, .inl (cI, 20, .inl fPa)), (aN, .inl (cI, 97, .inl fN)), (aE, .inl (cI, 10, .inl v86_f))]) hP9 hD9 rfl
                have hS := hS9
                clear hP9 hD9 hS9
                obtain ⟨v87, e87⟩ : ∃ y : Int32, y = m45_L_4 + Int32.ofInt (1) := ⟨_, rfl⟩
                refine lv_iinc (v := v87) (lv' := [(4, .int v87), (2, .long m5_L_2), (0, .ref h0), (1, .int p0)]) hx hb dX11_layBeliefs_87 hl (k := 0) rfl e87.symm (by decide) rfl (fun ls hl => ?_)
                have i87 : v87.toInt = m45_L_4.toInt + 1 := zaddI e87 (by decide) (by omega) (by omega)
                refine lv_goto (tgt := 45) hx hb dX11_layBeliefs_90 (by decide) ?_
                exact ih45 _ (by omega) v86_f u75_0 u75_1 v87 (by omega) (fun kc kT q_fR kl hc hb h hL => by have tt : m5_L_2 = sTot kc kT.1 kl p0 := (jv5_1 kc kT _ kl hc hb h hL).trans (by rw [show m5_L_4.toInt.toNat = 10 by omega]; rfl); have fb := zFace_b hb (show 0 ≤ p0.toInt ∧ p0.toInt < nb.toInt by omega); have ff := zFf_i (lt := cBt kT.1.2.2.1.1 p0) (sh := cBt kT.1.2.2.1.2.1 p0) (e := kc.2.1 (4 * p0.toInt.toNat)) (f := m45_L_4) cBt_b cBt_b fb (by omega); have g62 := F62; rw [← zSr_lt h, ← zSr_sh h, hc.2.1 (4 * p0.toInt.toNat) (by omega)] at g62; first | (have y75 := F75 kc kT _ kl hc hb h hL (by omega) (by omega); exact zBlS (jv45_0 kc kT _ kl hc hb h hL) (by omega) i87 e86 (sBl_y tt (by omega) (by omega) (ff.mpr (by rcases g62 with z | z; exact z.2; (exfalso; omega))) y75 e78 e80 e81)) | exact zBlS (jv45_0 kc kT _ kl hc hb h hL) (by omega) i87 e86 (sBl_n tt (by omega) (by omega) (fun y => by rcases g62 with z | z; (exfalso; omega); exact z.2 (ff.mp y)))) rfl H locs ls hP hD hS (lv_sub hl [0, 1, 2, 3] rfl)
        refine lv_istore (lv' := [(4, .int 0), (2, .long m5_L_2), (0, .ref h0), (1, .int p0)]) hx hb dX11_layBeliefs_43 hl (by decide) rfl (fun ls hl => ?_)
        have zj45_m45_L_4 : (0 : Int32).toInt = 0 := by decide
        exact J45 _ fE m5_A_rL m5_A_rX 0 (by decide) (fun kc kT q_fR kl hc hb h hL => fun j hj => by exfalso; have z1 : (0 : Int32).toInt = 0 := (by decide); omega) rfl H locs ls hP hD hS (lv_sub hl [0, 1, 2, 3] rfl)
      · have c9 : m5_L_4.toInt < 10 := z4 (by decide) rfl c9
        refine lv_lload_n hx hb dX11_layBeliefs_12 rfl (lv_at hl 1 rfl) ?_
        refine lv_aload_n hx hb dX11_layBeliefs_13 rfl (lv_at hl 2 rfl) ?_
        refine lv_iload_n hx hb dX11_layBeliefs_14 rfl (lv_at hl 3 rfl) ?_
        refine lv_iload hx hb dX11_layBeliefs_15 (lv_at hl 0 rfl) ?_
        obtain ⟨hPc, hDc⟩ := zc2 (wc := [(h0, .inr (11, [.int th, .ref tB, .int tsz, .int tat, .int wr, .int dp, .ref rC, .ref rV, .ref rD, .ref rK, .ref rT, .ref rS, .ref rU, .int lw, .int tx, .ref rL, .ref rX, .ref qR, .ref qB, .ref qP, .int qnb, .int qnp, .ref aR, .ref aB, .ref aP, .int nb, .int np, .ref aN, .ref rf, .int ho, .int br, .ref aK, .int ac, .long dw, .ref aE, .int sr, .int sf, .ref aA, .ref aH, .ref aI, .int hi])), (aB, .inl (cI, 24, .inl fBr)), (aN, .inl (cI, 97, .inl fN))]) hP hD [0, 9, 11] (by decide +kernel) rfl
        have hFc := zfr hS hA
        refine va_calli (va_runV (As := [.int p0, .int m5_L_4]) (rest := [.long m5_L_2]) ⟨hx, hb, hml, hown, hts⟩ (g_X11_fitsFace l dC dI cI cJ h0 p0 m5_L_4 th tB tsz tat wr dp rC rV rD rK rT rS rU lw tx rL rX qR qB qP qnb qnp aR aB aP nb np aN rf ho br aK ac dw aE sr sf aA aH aI hi fBr fN H.size y_ac y_hi y_ho y_lw n_nb n_np n_p0 (by omega) y_qnb y_qnp y_tat y_tsz y_wr (hbn) ci_fBr_zBr_nb ci_fN_zNw_np) (cwV 2 hts (zgV qw1579 qw1581 qw77 qw108 qw1582) rfl rfl rfl hd_X11_fitsFace ⟨by rw [hR]; exact Nat.le_of_ble_eq_true rfl, by rw [hR]; exact Nat.le_of_ble_eq_true rfl⟩) (zPV hPc hK hDc (va_recv (q := (RX11, TX11, 41)) hK hP (ci := 11) (q0 := 0) rfl rfl)) rfl rfl hl.1 rfl (lv_room (Nat.le_of_ble_eq_true rfl)) dX11_layBeliefs_17 ⟨Nat.zero_le _, Nat.zero_le _⟩) hS (fun q _ h => hFc q h) hFc (fun v17 u17 t H locs ht hvm hw hB hz1 hk1 hS9 => ?_)
        replace hP := zkeep hP hk1
        replace hS := hS9
        clear hPc hDc hFc hk1 hz1 hvm hS9
        obtain ⟨f17_0, f17_1, f17_2, f17_3⟩ : (0 ≤ v17.toInt) ∧ (v17.toInt ≤ 1) ∧ (m5_L_4.toInt = (fBr (4 * p0.toInt.toNat)).toInt → v17.toInt = 1) ∧ ((v17.toInt = 1 ∧ zFf (cBt (fN 11) p0) (cBt (fN 12) p0) (fBr (4 * p0.toInt.toNat)) m5_L_4) ∨ (v17.toInt = 0 ∧ ¬ zFf (cBt (fN 11) p0) (cBt (fN 12) p0) (fBr (4 * p0.toInt.toNat)) m5_L_4)) := hw
        have F17 := f17_3
        refine lv_if_eq (tgt := 33) hx hb dX11_layBeliefs_20 (by decide) (fun c20 => ?_) (fun c20 => ?_)
        · have c20 : v17.toInt = 0 := z5 rfl (by decide) c20
          refine lv_lconst (v := 0) hx hb dX11_layBeliefs_33 rfl ?_
          refine lv_ladd hx hb dX11_layBeliefs_34 ?_
          refine lv_topl (fun v34 e34 => ?_)
          first | have i34 := zladd e34 rfl (rfl : v27.toInt = v27.toInt) (by omega) (by omega) | have i34 := zladd (b := 0) e34 rfl (by decide) (by omega) (by omega)
          refine lv_lstore_n (lv' := [(2, .long v34), (4, .int m5_L_4), (0, .ref h0), (1, .int p0)]) hx hb dX11_layBeliefs_35 rfl hl (by decide) rfl (fun ls hl => ?_)
          obtain ⟨v36, e36⟩ : ∃ y : Int32, y = m5_L_4 + Int32.ofInt (1) := ⟨_, rfl⟩
          refine lv_iinc (v := v36) (lv' := [(4, .int v36), (2, .long v34), (0, .ref h0), (1, .int p0)]) hx hb dX11_layBeliefs_36 hl (k := 1) rfl e36.symm (by decide) rfl (fun ls hl => ?_)
          have i36 : v36.toInt = m5_L_4.toInt + 1 := zaddI e36 (by decide) (by omega) (by omega)
          refine lv_goto (tgt := 5) hx hb dX11_layBeliefs_39 (by decide) ?_
          exact ih5 _ (by omega) m5_A_rL m5_A_rX v34 v36 (by omega) (by omega) (fun kc kT q_fR kl hc hb h hL => by have fb := zFace_b hb (show 0 ≤ p0.toInt ∧ p0.toInt < nb.toInt by omega); have ff := zFf_i (lt := cBt kT.1.2.2.1.1 p0) (sh := cBt kT.1.2.2.1.2.1 p0) (e := kc.2.1 (4 * p0.toInt.toNat)) (f := m5_L_4) cBt_b cBt_b fb (by omega); have g17 := F17; rw [← zSr_lt h, ← zSr_sh h, hc.2.1 (4 * p0.toInt.toNat) (by omega)] at g17; first | (have y27 := F27 kc kT _ kl hc hb h hL (by omega) (by omega); exact zTotY (jv5_1 kc kT _ kl hc hb h hL) (by omega) i36 (ff.mpr (by rcases g17 with z | z; exact z.2; (exfalso; omega))) y27 e34) | exact zTotN (jv5_1 kc kT _ kl hc hb h hL) (by omega) i36 (fun y => by rcases g17 with z | z; (exfalso; omega); exact z.2 (ff.mp y)) e34) rfl H locs ls hP hD hS (lv_sub hl [0, 1, 2, 3] rfl)
        · have c20 : ¬ v17.toInt = 0 := z6 rfl (by decide) c20
          refine lv_aload_n hx hb dX11_layBeliefs_23 rfl (lv_at hl 2 rfl) ?_
          refine lv_iload_n hx hb dX11_layBeliefs_24 rfl (lv_at hl 3 rfl) ?_
          refine lv_iload hx hb dX11_layBeliefs_25 (lv_at hl 0 rfl) ?_
          obtain ⟨hPc, hDc, hFc⟩ := zc3 (wc := [(h0, .inr (11, [.int th, .ref tB, .int tsz, .int tat, .int wr, .int dp, .ref rC, .ref rV, .ref rD, .ref rK, .ref rT, .ref rS, .ref rU, .int lw, .int tx, .ref rL, .ref rX, .ref qR, .ref qB, .ref qP, .int qnb, .int qnp, .ref aR, .ref aB, .ref aP, .int nb, .int np, .ref aN, .ref rf, .int ho, .int br, .ref aK, .int ac, .long dw, .ref aE, .int sr, .int sf, .ref aA, .ref aH, .ref aI, .int hi])), (rC, .inl (cI, 2600, .inl fC)), (rV, .inl (cI, 2600, .inl fV)), (rK, .inl (cI, 5, .inl fK)), (rT, .inl (cI, 700, .inl fT)), (rS, .inl (cI, 700, .inl fS)), (rU, .inl (cI, 700, .inl fU)), (rL, .inl (cI, 6, .inl m5_A_rL)), (rX, .inl (cI, 80, .inl m5_A_rX)), (aB, .inl (cI, 24, .inl fBr)), (aP, .inl (cI, 20, .inl fPa)), (aN, .inl (cI, 97, .inl fN))]) hP hD hS hA [0, 1, 2, 3, 4, 5, 6, 7, 8, 9, 10, 11] (by decide +kernel) rfl
          refine va_calll (va_runV (As := [.int p0, .int m5_L_4]) (rest := [.long m5_L_2]) ⟨hx, hb, hml, hown, hts⟩ (g_X11_weightOf l dC dI cI cJ h0 p0 m5_L_4 th tB tsz tat wr dp rC rV rD rK rT rS rU lw tx rL rX qR qB qP qnb qnp aR aB aP nb np aN rf ho br aK ac dw aE sr sf aA aH aI hi fC fV fK fT fS fU m5_A_rL m5_A_rX fBr fPa fN H.size y_ac y_hi y_ho y_lw n_nb n_np n_p0 y_qnb y_qnp y_tat y_tsz y_wr (hls) ci_fBr_zBr_nb ci_fN_zNw_np ci_fPa_zBr_np) (cwV 2 hts (zgV qw1591 qw1593 qw79 qw108 qw1594) rfl rfl rfl hd_X11_weightOf ⟨by rw [hR]; exact Nat.le_of_ble_eq_true rfl, by rw [hR]; exact Nat.le_of_ble_eq_true rfl⟩) (zPV hPc hK hDc (va_recv (q := (RX11, TX11, 41)) hK hP (ci := 11) (q0 := 0) rfl rfl)) rfl rfl hl.1 rfl (lv_room (Nat.le_of_ble_eq_true rfl)) dX11_layBeliefs_27 ⟨Nat.zero_le _, Nat.zero_le _⟩) hS (fun q _ h => hFc q h) hFc (fun v27 u27 t H locs ht hvm hw hB hz1 hk1 hS9 => ?_)
          obtain ⟨u27_0, u27_1⟩ := u27
          obtain ⟨hP9, hD9⟩ := zj2 (wX := [(h0, .inr (11, [.int th, .ref tB, .int tsz, .int tat, .int wr, .int dp, .ref rC, .ref rV, .ref rD, .ref rK, .ref rT, .ref rS, .ref rU, .int lw, .int tx, .ref rL, .ref rX, .ref qR, .ref qB, .ref qP, .int qnb, .int qnp, .ref aR, .ref aB, .ref aP, .int nb, .int np, .ref aN, .ref rf, .int ho, .int br, .ref aK, .int ac, .long dw, .ref aE, .int sr, .int sf, .ref aA, .ref aH, .ref aI, .int hi])), (rC, .inl (cI, 2600, .inl fC)), (rV, .inl (cI, 2600, .inl fV)), (rK, .inl (cI, 5, .inl fK)), (rT, .inl (cI, 700, .inl fT)), (rS, .inl (cI, 700, .inl fS)), (rU, .inl (cI, 700, .inl fU)), (rL, .inl (cI, 6, .inl u27_0)), (rX, .inl (cI, 80, .inl u27_1)), (aB, .inl (cI, 24, .inl fBr)), (aP, .inl (cI, 20, .inl fPa)), (aN, .inl (cI, 97, .inl fN)), (aE, .inl (cI, 10, .inl fE))]) hP hD hk1 hFc ht hB [0, 1, 2, 3, 4, 5, 6, 7, 8, 9, 10, 11] [(true, 0), (true, 1), (true, 2), (true, 3), (true, 4), (true, 5), (true, 6), (true, 7), (true, 8), (true, 9), (true, 10), (true, 11), (false, 12)] rfl (by decide +kernel) (by decide +kernel) rfl
          clear hP hD hS hPc hDc hFc hB hk1 hz1 hvm
          have hP := hP9
          have hD := hD9
          have hS := hS9
          clear hP9 hD9 hS9
          obtain ⟨f27_0, f27_1, f27_2⟩ : (1 ≤ v27.toInt) ∧ (v27.toInt ≤ 1000000000000) ∧ (∀ (kc : zK3) (kT : zT) (q_fR : Nat → Int32) (kl : Option ((Int → Int) × Int)), zCn q_fR fBr fPa nb.toInt np.toInt kc → zKo nb.toInt np.toInt kc kT → zSr nb.toInt np.toInt kT.1 fN → zLwR ho fC fV fK fT fS fU kl → (0 ≤ p0.toInt ∧ p0.toInt < nb.toInt) → (0 ≤ m5_L_4.toInt ∧ m5_L_4.toInt ≤ 9) → v27 = sWl kc kT.1 kl p0 m5_L_4 kT.1.2.2.2.1.2.2.toInt.toNat 12 1) := hw
          have F27 := f27_2
          refine lv_goto (tgt := 34) hx hb dX11_layBeliefs_30 (by decide) ?_
          refine lv_ladd hx hb dX11_layBeliefs_34 ?_
          refine lv_topl (fun v34 e34 => ?_)
          first | have i34 := zladd e34 rfl (rfl : v27.toInt = v27.toInt) (by omega) (by omega) | have i34 := zladd (b := 0) e34 rfl (by decide) (by omega) (by omega)
          refine lv_lstore_n (lv' := [(2, .long v34), (4, .int m5_L_4), (0, .ref h0), (1, .int p0)]) hx hb dX11_layBeliefs_35 rfl hl (by decide) rfl (fun ls hl => ?_)
          obtain ⟨v36, e36⟩ : ∃ y : Int32, y = m5_L_4 + Int32.ofInt (1) := ⟨_, rfl⟩
          refine lv_iinc (v := v36) (lv' := [(4, .int v36), (2, .long v34), (0, .ref h0), (1, .int p0)]) hx hb dX11_layBeliefs_36 hl (k := 1) rfl e36.symm (by decide) rfl (fun ls hl => ?_)
          have i36 : v36.toInt = m5_L_4.toInt + 1 := zaddI e36 (by decide) (by omega) (by omega)
          refine lv_goto (tgt := 5) hx hb dX11_layBeliefs_39 (by decide) ?_
          exact ih5 _ (by omega) u27_0 u27_1 v34 v36 (by omega) (by omega) (fun kc kT q_fR kl hc hb h hL => by have fb := zFace_b hb (show 0 ≤ p0.toInt ∧ p0.toInt < nb.toInt by omega); have ff := zFf_i (lt := cBt kT.1.2.2.1.1 p0) (sh := cBt kT.1.2.2.1.2.1 p0) (e := kc.2.1 (4 * p0.toInt.toNat)) (f := m5_L_4) cBt_b cBt_b fb (by omega); have g17 := F17; rw [← zSr_lt h, ← zSr_sh h, hc.2.1 (4 * p0.toInt.toNat) (by omega)] at g17; first | (have y27 := F27 kc kT _ kl hc hb h hL (by omega) (by omega); exact zTotY (jv5_1 kc kT _ kl hc hb h hL) (by omega) i36 (ff.mpr (by rcases g17 with z | z; exact z.2; (exfalso; omega))) y27 e34) | exact zTotN (jv5_1 kc kT _ kl hc hb h hL) (by omega) i36 (fun y => by rcases g17 with z | z; (exfalso; omega); exact z.2 (ff.mp y)) e34) rfl H locs ls hP hD hS (lv_sub hl [0, 1, 2, 3] rfl)
  refine lv_istore (lv' := [(4, .int 0), (2, .long 0), (0, .ref h0), (1, .int p0)]) hx hb dX11_layBeliefs_3 hl (by decide) rfl (fun ls hl => ?_)
  have zj5_m5_L_4 : (0 : Int32).toInt = 0 := by decide
  exact J5 _ fL fX 0 0 (by decide) (by have z1 : (0 : Int32).toInt = 0 := (by decide); have z2 : (0 : Int64).toInt = 0 := (by decide); rw [z1, z2]; omega) (fun kc kT q_fR kl hc hb h hL => rfl) rfl H locs ls hP hD hS (lv_sub hl [0, 1, 2, 3] rfl)
