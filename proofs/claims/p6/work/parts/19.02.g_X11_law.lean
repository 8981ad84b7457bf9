set_option maxHeartbeats 4000000 in
set_option maxRecDepth 100000 in
theorem g_X11_bride (l : Launch) (dC : Nat → ClassId) (dI : Nat → Nat → Nat) (cI cJ : ClassId) (h0 : Nat) (p0 : Int32) (p1 : Int32) (th : Int32) (tB : Nat) (tsz : Int32) (tat : Int32) (wr : Int32) (dp : Int32) (rC : Nat) (rV : Nat) (rD : Nat) (rK : Nat) (rT : Nat) (rS : Nat) (rU : Nat) (lw : Int32) (tx : Int32) (rL : Nat) (rX : Nat) (qR : Nat) (qB : Nat) (qP : Nat) (qnb : Int32) (qnp : Int32) (aR : Nat) (aB : Nat) (aP : Nat) (nb : Int32) (np : Int32) (aN : Nat) (rf : Nat) (ho : Int32) (br : Int32) (aK : Nat) (ac : Int32) (dw : Int64) (aE : Nat) (sr : Int32) (sf : Int32) (aA : Nat) (aH : Nat) (aI : Nat) (hi : Int32) (fBr : Nat → Int32) (fN : Nat → Int32) (sz : Nat) (n_ac : 0 ≤ ac.toInt ∧ ac.toInt ≤ 40) (n_hi : 0 ≤ hi.toInt ∧ hi.toInt ≤ 1) (n_ho : (-1) ≤ ho.toInt ∧ ho.toInt ≤ 3) (n_lw : 0 ≤ lw.toInt ∧ lw.toInt ≤ 4) (n_nb : 0 ≤ nb.toInt ∧ nb.toInt ≤ 6) (n_np : 0 ≤ np.toInt ∧ np.toInt ≤ 5) (n_qnb : 0 ≤ qnb.toInt ∧ qnb.toInt ≤ 6) (n_qnp : 0 ≤ qnp.toInt ∧ qnp.toInt ≤ 5) (n_tat : 0 ≤ tat.toInt ∧ tat.toInt ≤ 260) (n_tsz : 0 ≤ tsz.toInt ∧ tsz.toInt ≤ 240) (n_wr : (-1) ≤ wr.toInt ∧ wr.toInt ≤ 260)  (ci_fBr_zBr_nb : zBr nb fBr) (ci_fN_zNw_np : zNw np fN)  : Met l yX11_bride (.code yX11_bride cX11_bride 3 (some .int) :: wA) ({ frames := 2, cells := 0, slots := 0, locals := 43 }) (zP (dC, dI) [(cI, .int), (cJ, .long)] [.ref h0, .int p0, .int p1] sz [(h0, .inr (11, [.int th, .ref tB, .int tsz, .int tat, .int wr, .int dp, .ref rC, .ref rV, .ref rD, .ref rK, .ref rT, .ref rS, .ref rU, .int lw, .int tx, .ref rL, .ref rX, .ref qR, .ref qB, .ref qP, .int qnb, .int qnp, .ref aR, .ref aB, .ref aP, .int nb, .int np, .ref aN, .ref rf, .int ho, .int br, .ref aK, .int ac, .long dw, .ref aE, .int sr, .int sf, .ref aA, .ref aH, .ref aI, .int hi])), (aB, .inl (cI, 24, .inl fBr)), (aN, .inl (cI, 97, .inl fN))]) (va_Qi (fun (r : Int32) (u : Int32) => (0 ≤ u.toInt) ∧ (u.toInt ≤ 1)) (fun (u : Int32) (t : State) => va_P (dC, dI) vwCl [(h0, .inr (11, [.int u, .ref tB, .int tsz, .int tat, .int wr, .int dp, .ref rC, .ref rV, .ref rD, .ref rK, .ref rT, .ref rS, .ref rU, .int lw, .int tx, .ref rL, .ref rX, .ref qR, .ref qB, .ref qP, .int qnb, .int qnp, .ref aR, .ref aB, .ref aP, .int nb, .int np, .ref aN, .ref rf, .int ho, .int br, .ref aK, .int ac, .long dw, .ref aE, .int sr, .int sf, .ref aA, .ref aH, .ref aI, .int hi])), (aB, .inl (cI, 24, .inl fBr)), (aN, .inl (cI, 97, .inl fN))] t.heap ∧ va_D (va_A [(h0, .inr (11, [.int th, .ref tB, .int tsz, .int tat, .int wr, .int dp, .ref rC, .ref rV, .ref rD, .ref rK, .ref rT, .ref rS, .ref rU, .int lw, .int tx, .ref rL, .ref rX, .ref qR, .ref qB, .ref qP, .int qnb, .int qnp, .ref aR, .ref aB, .ref aP, .int nb, .int np, .ref aN, .ref rf, .int ho, .int br, .ref aK, .int ac, .long dw, .ref aE, .int sr, .int sf, .ref aA, .ref aH, .ref aI, .int hi])), (aB, .inl (cI, 24, .inl fBr)), (aN, .inl (cI, 97, .inl fN))] sz) [(h0, .inr (11, [.int u, .ref tB, .int tsz, .int tat, .int wr, .int dp, .ref rC, .ref rV, .ref rD, .ref rK, .ref rT, .ref rS, .ref rU, .int lw, .int tx, .ref rL, .ref rX, .ref qR, .ref qB, .ref qP, .int qnb, .int qnp, .ref aR, .ref aB, .ref aP, .int nb, .int np, .ref aN, .ref rf, .int ho, .int br, .ref aK, .int ac, .long dw, .ref aE, .int sr, .int sf, .ref aA, .ref aH, .ref aI, .int hi])), (aB, .inl (cI, 24, .inl fBr)), (aN, .inl (cI, 97, .inl fN))]) (va_A [(h0, .inr (11, [.int th, .ref tB, .int tsz, .int tat, .int wr, .int dp, .ref rC, .ref rV, .ref rD, .ref rK, .ref rT, .ref rS, .ref rU, .int lw, .int tx, .ref rL, .ref rX, .ref qR, .ref qB, .ref qP, .int qnb, .int qnp, .ref aR, .ref aB, .ref aP, .int nb, .int np, .ref aN, .ref rf, .int ho, .int br, .ref aK, .int ac, .long dw, .ref aE, .int sr, .int sf, .ref aA, .ref aH, .ref aI, .int hi])), (aB, .inl (cI, 24, .inl fBr)), (aN, .inl (cI, 97, .inl fN))] sz)) 0 0 (va_A [(h0, .inr (11, [.int th, .ref tB, .int tsz, .int tat, .int wr, .int dp, .ref rC, .ref rV, .ref rD, .ref rK, .ref rT, .ref rS, .ref rU, .int lw, .int tx, .ref rL, .ref rX, .ref qR, .ref qB, .ref qP, .int qnb, .int qnp, .ref aR, .ref aB, .ref aP, .int nb, .int np, .ref aN, .ref rf, .int ho, .int br, .ref aK, .int ac, .long dw, .ref aE, .int sr, .int sf, .ref aA, .ref aH, .ref aI, .int hi])), (aB, .inl (cI, 24, .inl fBr)), (aN, .inl (cI, 97, .inl fN))] sz) := by
  refine Met.ofW (cc := cX11_bride) (maxL := 3) (ret := (some .int)) (by decide) rfl ?_
  intro p e s m args below meth c s₁ B hml hv
  obtain ⟨hargs, hsz, hP, hK, hT⟩ := hv
  have hx := B.exec
  have hb := B.bytes
  have hr := B.returns
  have hts : ∀ w ∈ wA, w.before args s = true := fun w h => atoms_spec (ws := .code yX11_bride cX11_bride 3 (some .int) :: wA) B.pre w (List.mem_cons_of_mem _ h)
  have hown : s.vm.findClass RX11 = some m.cls := findClass_of_methodNamed B.named
  have hlocks := B.notSynchronized
  subst hsz
  have hD := hT.self (sz := s.heap.size)
  generalize hAe : va_A [(h0, .inr (11, [.int th, .ref tB, .int tsz, .int tat, .int wr, .int dp, .ref rC, .ref rV, .ref rD, .ref rK, .ref rT, .ref rS, .ref rU, .int lw, .int tx, .ref rL, .ref rX, .ref qR, .ref qB, .ref qP, .int qnb, .int qnp, .ref aR, .ref aB, .ref aP, .int nb, .int np, .ref aN, .ref rf, .int ho, .int br, .ref aK, .int ac, .long dw, .ref aE, .int sr, .int sf, .ref aA, .ref aH, .ref aI, .int hi])), (aB, .inl (cI, 24, .inl fBr)), (aN, .inl (cI, 97, .inl fN))] s.heap.size = A at hD ⊢
  have hA : ∀ q : Nat, s.heap.size ≤ q → A q := fun q h => by rw [← hAe]; exact Or.inr h
  have hl := lv_entry ([.ref h0, .int p0, .int p1]) (n := 3) (Nat.le_of_ble_eq_true rfl)
  rw [show entryFrame m args 3 = entryFrame m ([.ref h0, .int p0, .int p1] : List Value).toArray 3 by rw [hargs], lg_entry_eq]
  generalize (lg_sl ([.ref h0, .int p0, .int p1]) ++ List.replicate (3 - (lg_sl ([.ref h0, .int p0, .int p1])).length) Slot.unset).toArray = ls at hl ⊢
  have hl : lv_has ls 3 [(0, .ref h0), (1, .int p0), (2, .int p1)] := hl
  refine zstart (fun H hH => ?_)
  rw [← hH] at hP
  have hS : va_S A s.heap H [] := by rw [hH]; exact va_S.rf
  generalize ([] : List Loc) = locs at hS ⊢
  refine zgen (fun R Q hR hQ => ?_)
  refine lv_aload_n hx hb dX11_bride_0 rfl (lv_at hl 0 rfl) ?_
  refine lv_aload_n hx hb dX11_bride_1 rfl (lv_at hl 0 rfl) ?_
  refine lv_iload_n hx hb dX11_bride_2 rfl (lv_at hl 1 rfl) ?_
  have hPc := hP.sub (ws' := [(h0, .inr (11, [.int th, .ref tB, .int tsz, .int tat, .int wr, .int dp, .ref rC, .ref rV, .ref rD, .ref rK, .ref rT, .ref rS, .ref rU, .int lw, .int tx, .ref rL, .ref rX, .ref qR, .ref qB, .ref qP, .int qnb, .int qnp, .ref aR, .ref aB, .ref aP, .int nb, .int np, .ref aN, .ref rf, .int ho, .int br, .ref aK, .int ac, .long dw, .ref aE, .int sr, .int sf, .ref aA, .ref aH, .ref aI, .int hi]))]) [0] rfl
  have hDc := hD.sub (ws' := [(h0, .inr (11, [.int th, .ref tB, .int tsz, .int tat, .int wr, .int dp, .ref rC, .ref rV, .ref rD, .ref rK, .ref rT, .ref rS, .ref rU, .int lw, .int tx, .ref rL, .ref rX, .ref qR, .ref qB, .ref qP, .int qnb, .int qnp, .ref aR, .ref aB, .ref aP, .int nb, .int np, .ref aN, .ref rf, .int ho, .int br, .ref aK, .int ac, .long dw, .ref aE, .int sr, .int sf, .ref aA, .ref aH, .ref aI, .int hi]))]) [0] (by decide) rfl
  have hFc := zfr hS hA
  refine va_calli (va_runV (As := [.int p0]) (rest := [.ref h0]) ⟨hx, hb, hml, hown, hts⟩ (g_X11_isBride l dC dI cI cJ h0 p0 th tB tsz tat wr dp rC rV rD rK rT rS rU lw tx rL rX qR qB qP qnb qnp aR aB aP nb np aN rf ho br aK ac dw aE sr sf aA aH aI hi H.size (by omega) (by omega) (by omega) (by omega) (by omega) (by omega) (by omega) (by omega) (by omega) (by omega) (by omega)) (cwV 1 hts (zgV qw1402 qw1404 qw56 qw108 qw1405) rfl rfl rfl hd_X11_isBride ⟨by rw [hR]; exact Nat.le_of_ble_eq_true rfl, by rw [hR]; exact Nat.le_of_ble_eq_true rfl⟩) (zPV hPc hK hDc (va_recv hK hP (ci := 11) (q0 := 0) rfl rfl)) rfl rfl hl.1 rfl (lv_room (Nat.le_of_ble_eq_true rfl)) dX11_bride_3 ⟨Nat.zero_le _, Nat.zero_le _⟩) hS (fun q _ h => hFc q h) hFc (fun v3 u3 t H locs ht hvm hw hB hz1 hk1 hS => ?_)
  have hP := zkeep hP hk1
  obtain ⟨f3_0, f3_1, f3_2, f3_3⟩ : (0 ≤ v3.toInt) ∧ (v3.toInt ≤ 1) ∧ (¬ v3.toInt = 0 → (0 ≤ p0.toInt ∧ p0.toInt < nb.toInt)) ∧ (v3.toInt = 0 → ¬ (0 ≤ p0.toInt ∧ p0.toInt < nb.toInt)) := hw
  refine lv_if_eq (tgt := 22) hx hb dX11_bride_6 (by decide) (fun c6 => ?_) (fun c6 => ?_)
  · have c6 : v3.toInt = 0 := z5 rfl (by decide) c6
    refine lv_iconst (v := 1) hx hb dX11_bride_22 (by decide) ?_
    refine va_put (D := (dC, dI)) (ci := 11) (v := .int 1) (ty := .int) (C := RX11) (T := TX11) (N := 41) hx hb hts iX11 tyX11 tyX11_ok nmX11 hown hK hP hD hS 0 rfl rfl 0 (by decide) (hts _ qw1127) (fun _ h9 => h9) rfl (by decide +kernel) rfl rfl (Nat.le_of_ble_eq_true rfl) dX11_bride_23 (fun H locs hP hD hS => ?_)
    have hP : va_P (dC, dI) vwCl [(h0, .inr (11, [.int 1, .ref tB, .int tsz, .int tat, .int wr, .int dp, .ref rC, .ref rV, .ref rD, .ref rK, .ref rT, .ref rS, .ref rU, .int lw, .int tx, .ref rL, .ref rX, .ref qR, .ref qB, .ref qP, .int qnb, .int qnp, .ref aR, .ref aB, .ref aP, .int nb, .int np, .ref aN, .ref rf, .int ho, .int br, .ref aK, .int ac, .long dw, .ref aE, .int sr, .int sf, .ref aA, .ref aH, .ref aI, .int hi])), (aB, .inl (cI, 24, .inl fBr)), (aN, .inl (cI, 97, .inl fN))] H := hP
    have hD : va_D A [(h0, .inr (11, [.int 1, .ref tB, .int tsz, .int tat, .int wr, .int dp, .ref rC, .ref rV, .ref rD, .ref rK, .ref rT, .ref rS, .ref rU, .int lw, .int tx, .ref rL, .ref rX, .ref qR, .ref qB, .ref qP, .int qnb, .int qnp, .ref aR, .ref aB, .ref aP, .int nb, .int np, .ref aN, .ref rf, .int ho, .int br, .ref aK, .int ac, .long dw, .ref aE, .int sr, .int sf, .ref aA, .ref aH, .ref aI, .int hi])), (aB, .inl (cI, 24, .inl fBr)), (aN, .inl (cI, 97, .inl fN))] := hD
    refine lv_aload_n hx hb dX11_bride_26 rfl (lv_at hl 0 rfl) ?_
    refine va_get (D := (dC, dI)) (ci := 11) (v := .int 1) (C := RX11) (T := TX11) (N := 41) hx hb hts iX11 hown hK hP 0 rfl rfl 0 (by decide) (hts _ qw1127) (fun _ h9 => h9) rfl dX11_bride_27 ?_
    refine lv_iconst (v := 1) hx hb dX11_bride_30 (by decide) ?_
    refine lv_icmp_ne (tgt := 36) hx hb dX11_bride_31 (by decide) (fun c => absurd (by decide) c) (fun _ => ?_)
    refine lv_iconst (v := 0) hx hb dX11_bride_34 (by decide) ?_
    have zr0 : (0 : Int32).toInt = 0 := by decide
    have zr1 : (1 : Int32).toInt = 1 := by decide
    rw [hQ]
    exact W.iret (v := 0) hx hb hr (fun t ht hW => ⟨⟨0, 1, rfl, ⟨by (try dsimp only); omega, by (try dsimp only); omega⟩, ⟨by rw [ht]; exact hP, hD⟩⟩, hS.F ht⟩) hS.2.2 dX11_bride_35
  · have c6 : ¬ v3.toInt = 0 := z6 rfl (by decide) c6
    refine lv_iload_n hx hb dX11_bride_9 rfl (lv_at hl 2 rfl) ?_
    refine lv_iconst (v := 0) hx hb dX11_bride_10 (by decide) ?_
    refine lv_iconst (v := 5) hx hb dX11_bride_11 (by decide) ?_
    have hPc : va_P (dC, dI) vwCl [] H := zP0
    have hDc : va_D (fun _ => True) [] := zD0
    have hFc := zfr hS hA
    refine va_calli (va_runS (As := [.int p1, .int 0, .int 5]) (rest := [.ref h0]) ⟨hx, hb, hml, hown, hts⟩ (g_X11_in l dC dI cI cJ p1 0 5 H.size) (cwS 3 hts (zgS qw1305 qw1306 qw108 qw1307) rfl rfl rfl hd_X11_in ⟨by rw [hR]; exact Nat.le_of_ble_eq_true rfl, by rw [hR]; exact Nat.le_of_ble_eq_true rfl⟩) (zPS hPc hK hDc) rfl rfl hl.1 rfl (lv_room (Nat.le_of_ble_eq_true rfl)) dX11_bride_12 ⟨Nat.zero_le _, Nat.zero_le _⟩) hS (fun q _ h => hFc q h) hFc (fun v12 u12 t H locs ht hvm hw hB hz1 hk1 hS => ?_)
    have hP := zkeep hP hk1
    have zn12_0 : (0 : Int32).toInt = 0 := by decide
    have zn12_5 : (5 : Int32).toInt = 5 := by decide
    obtain ⟨f12_0, f12_1, f12_2, f12_3⟩ : (0 ≤ v12.toInt) ∧ (v12.toInt ≤ 1) ∧ (¬ v12.toInt = 0 → ((0 : Int32).toInt ≤ p1.toInt ∧ p1.toInt ≤ (5 : Int32).toInt)) ∧ (v12.toInt = 0 → (p1.toInt < (0 : Int32).toInt ∨ (5 : Int32).toInt < p1.toInt)) := hw
    refine lv_if_eq (tgt := 22) hx hb dX11_bride_15 (by decide) (fun c15 => ?_) (fun c15 => ?_)
    · have c15 : v12.toInt = 0 := z5 rfl (by decide) c15
      refine lv_iconst (v := 1) hx hb dX11_bride_22 (by decide) ?_
      refine va_put (D := (dC, dI)) (ci := 11) (v := .int 1) (ty := .int) (C := RX11) (T := TX11) (N := 41) hx hb hts iX11 tyX11 tyX11_ok nmX11 hown hK hP hD hS 0 rfl rfl 0 (by decide) (hts _ qw1127) (fun _ h9 => h9) rfl (by decide +kernel) rfl rfl (Nat.le_of_ble_eq_true rfl) dX11_bride_23 (fun H locs hP hD hS => ?_)
      have hP : va_P (dC, dI) vwCl [(h0, .inr (11, [.int 1, .ref tB, .int tsz, .int tat, .int wr, .int dp, .ref rC, .ref rV, .ref rD, .ref rK, .ref rT, .ref rS, .ref rU, .int lw, .int tx, .ref rL, .ref rX, .ref qR, .ref qB, .ref qP, .int qnb, .int qnp, .ref aR, .ref aB, .ref aP, .int nb, .int np, .ref aN, .ref rf, .int ho, .int br, .ref aK, .int ac, .long dw, .ref aE, .int sr, .int sf, .ref aA, .ref aH, .ref aI, .int hi])), (aB, .inl (cI, 24, .inl fBr)), (aN, .inl (cI, 97, .inl fN))] H := hP
      have hD : va_D A [(h0, .inr (11, [.int 1, .ref tB, .int tsz, .int tat, .int wr, .int dp, .ref rC, .ref rV, .ref rD, .ref rK, .ref rT, .ref rS, .ref rU, .int lw, .int tx, .ref rL, .ref rX, .ref qR, .ref qB, .ref qP, .int qnb, .int qnp, .ref aR, .ref aB, .ref aP, .int nb, .int np, .ref aN, .ref rf, .int ho, .int br, .ref aK, .int ac, .long dw, .ref aE, .int sr, .int sf, .ref aA, .ref aH, .ref aI, .int hi])), (aB, .inl (cI, 24, .inl fBr)), (aN, .inl (cI, 97, .inl fN))] := hD
      refine lv_aload_n hx hb dX11_bride_26 rfl (lv_at hl 0 rfl) ?_
      refine va_get (D := (dC, dI)) (ci := 11) (v := .int 1) (C := RX11) (T := TX11) (N := 41) hx hb hts iX11 hown hK hP 0 rfl rfl 0 (by decide) (hts _ qw1127) (fun _ h9 => h9) rfl dX11_bride_27 ?_
      refine lv_iconst (v := 1) hx hb dX11_bride_30 (by decide) ?_
      refine lv_icmp_ne (tgt := 36) hx hb dX11_bride_31 (by decide) (fun c => absurd (by decide) c) (fun _ => ?_)
      refine lv_iconst (v := 0) hx hb dX11_bride_34 (by decide) ?_
      have zr0 : (0 : Int32).toInt = 0 := by decide
      have zr1 : (1 : Int32).toInt = 1 := by decide
      rw [hQ]
      exact W.iret (v := 0) hx hb hr (fun t ht hW => ⟨⟨0, 1, rfl, ⟨by (try dsimp only); omega, by (try dsimp only); omega⟩, ⟨by rw [ht]; exact hP, hD⟩⟩, hS.F ht⟩) hS.2.2 dX11_bride_35
    · have c15 : ¬ v12.toInt = 0 := z6 rfl (by decide) c15
      refine lv_iconst (v := 0) hx hb dX11_bride_18 (by decide) ?_
      refine lv_goto (tgt := 23) hx hb dX11_bride_19 (by decide) ?_
      refine va_put (D := (dC, dI)) (ci := 11) (v := .int 0) (ty := .int) (C := RX11) (T := TX11) (N := 41) hx hb hts iX11 tyX11 tyX11_ok nmX11 hown hK hP hD hS 0 rfl rfl 0 (by decide) (hts _ qw1127) (fun _ h9 => h9) rfl (by decide +kernel) rfl rfl (Nat.le_of_ble_eq_true rfl) dX11_bride_23 (fun H locs hP hD hS => ?_)
      have hP : va_P (dC, dI) vwCl [(h0, .inr (11, [.int 0, .ref tB, .int tsz, .int tat, .int wr, .int dp, .ref rC, .ref rV, .ref rD, .ref rK, .ref rT, .ref rS, .ref rU, .int lw, .int tx, .ref rL, .ref rX, .ref qR, .ref qB, .ref qP, .int qnb, .int qnp, .ref aR, .ref aB, .ref aP, .int nb, .int np, .ref aN, .ref rf, .int ho, .int br, .ref aK, .int ac, .long dw, .ref aE, .int sr, .int sf, .ref aA, .ref aH, .ref aI, .int hi])), (aB, .inl (cI, 24, .inl fBr)), (aN, .inl (cI, 97, .inl fN))] H := hP
      have hD : va_D A [(h0, .inr (11, [.int 0, .ref tB, .int tsz, .int tat, .int wr, .int dp, .ref rC, .ref rV, .ref rD, .ref rK, .ref rT, .ref rS, .ref rU, .int lw, .int tx, .ref rL, .ref rX, .ref qR, .ref qB, .ref qP, .int qnb, .int qnp, .ref aR, .ref aB, .ref aP, .int nb, .int np, .ref aN, .ref rf, .int ho, .int br, .ref aK, .int ac, .long dw, .ref aE, .int sr, .int sf, .ref aA, .ref aH, .ref aI, .int hi])), (aB, .inl (cI, 24, .inl fBr)), (aN, .inl (cI, 97, .inl fN))] := hD
      refine lv_aload_n hx hb dX11_bride_26 rfl (lv_at hl 0 rfl) ?_
      refine va_get (D := (dC, dI)) (ci := 11) (v := .int 0) (C := RX11) (T := TX11) (N := 41) hx hb hts iX11 hown hK hP 0 rfl rfl 0 (by decide) (hts _ qw1127) (fun _ h9 => h9) rfl dX11_bride_27 ?_
      refine lv_iconst (v := 1) hx hb dX11_bride_30 (by decide) ?_
      refine lv_icmp_ne (tgt := 36) hx hb dX11_bride_31 (by decide) (fun _ => ?_) (fun c => absurd c (by decide))
      refine lv_iload_n hx hb dX11_bride_36 rfl (lv_at hl 2 rfl) ?_
      refine lv_iconst (v := 3) hx hb dX11_bride_37 (by decide) ?_
      refine lv_icmp_ne (tgt := 52) hx hb dX11_bride_38 (by decide) (fun c38 => ?_) (fun c38 => ?_)
      · have c38 : ¬ p1.toInt = 3 := z6 rfl (by decide) c38
        refine lv_iload_n hx hb dX11_bride_52 rfl (lv_at hl 2 rfl) ?_
        refine lv_iconst (v := 4) hx hb dX11_bride_53 (by decide) ?_
        refine lv_icmp_ne (tgt := 71) hx hb dX11_bride_54 (by decide) (fun c54 => ?_) (fun c54 => ?_)
        · have c54 : ¬ p1.toInt = 4 := z6 rfl (by decide) c54
          refine lv_iload_n hx hb dX11_bride_71 rfl (lv_at hl 2 rfl) ?_
          refine lv_iconst (v := 5) hx hb dX11_bride_72 (by decide) ?_
          refine lv_icmp_ne (tgt := 90) hx hb dX11_bride_73 (by decide) (fun c73 => ?_) (fun c73 => ?_)
          · have c73 : ¬ p1.toInt = 5 := z6 rfl (by decide) c73
            have q90 : p1.toInt ≤ 2 := by omega
            refine lv_aload_n hx hb dX11_bride_90 rfl (lv_at hl 0 rfl) ?_
            refine lv_iload_n hx hb dX11_bride_91 rfl (lv_at hl 1 rfl) ?_
            refine lv_iload_n hx hb dX11_bride_92 rfl (lv_at hl 2 rfl) ?_
            have hPc := hP.sub (ws' := [(h0, .inr (11, [.int 0, .ref tB, .int tsz, .int tat, .int wr, .int dp, .ref rC, .ref rV, .ref rD, .ref rK, .ref rT, .ref rS, .ref rU, .int lw, .int tx, .ref rL, .ref rX, .ref qR, .ref qB, .ref qP, .int qnb, .int qnp, .ref aR, .ref aB, .ref aP, .int nb, .int np, .ref aN, .ref rf, .int ho, .int br, .ref aK, .int ac, .long dw, .ref aE, .int sr, .int sf, .ref aA, .ref aH, .ref aI, .int hi])), (aB, .inl (cI, 24, .inl fBr))]) [0, 1] rfl
            have hDc := hD.sub (ws' := [(h0, .inr (11, [.int 0, .ref tB, .int tsz, .int tat, .int wr, .int dp, .ref rC, .ref rV, .ref rD, .ref rK, .ref rT, .ref rS, .ref rU, .int lw, .int tx, .ref rL, .ref rX, .ref qR, .ref qB, .ref qP, .int qnb, .int qnp, .ref aR, .ref aB, .ref aP, .int nb, .int np, .ref aN, .ref rf, .int ho, .int br, .ref aK, .int ac, .long dw, .ref aE, .int sr, .int sf, .ref aA, .ref aH, .ref aI, .int hi])), (aB, .inl (cI, 24, .inl fBr))]) [0, 1] (by decide) rfl
            have hFc := zfr hS hA
            refine va_calli (va_runV (As := [.int p0, .int p1]) (rest := []) ⟨hx, hb, hml, hown, hts⟩ (g_X11_of l dC dI cI cJ h0 p0 p1 0 tB tsz tat wr dp rC rV rD rK rT rS rU lw tx rL rX qR qB qP qnb qnp aR aB aP nb np aN rf ho br aK ac dw aE sr sf aA aH aI hi fBr H.size (by omega) (by omega) (by omega) (by omega) (by omega) (by omega) (by omega) (by omega) (by omega) (by omega) (by omega) (by omega) (by omega)) (cwV 2 hts (zgV qw1386 qw1388 qw54 qw108 qw1389) rfl rfl rfl hd_X11_of ⟨by rw [hR]; exact Nat.le_of_ble_eq_true rfl, by rw [hR]; exact Nat.le_of_ble_eq_true rfl⟩) (zPV hPc hK hDc (va_recv hK hP (ci := 11) (q0 := 0) rfl rfl)) rfl rfl hl.1 rfl (lv_room (Nat.le_of_ble_eq_true rfl)) dX11_bride_93 ⟨Nat.zero_le _, Nat.zero_le _⟩) hS (fun q _ h => hFc q h) hFc (fun v93 u93 t H locs ht hvm hw hB hz1 hk1 hS => ?_)
            have hP := zkeep hP hk1
            have f93_0 : (v93 = fBr (4 * p0.toInt.toNat + p1.toInt.toNat)) := hw
            have F93 := f93_0
            have zr1 : (0 : Int32).toInt = 0 := by decide
            rw [hQ]
            exact W.iret (v := v93) hx hb hr (fun t ht hW => ⟨⟨v93, 0, rfl, ⟨by (try dsimp only); omega, by (try dsimp only); omega⟩, ⟨by rw [ht]; exact hP, hD⟩⟩, hS.F ht⟩) hS.2.2 dX11_bride_96
          · have c73 : p1.toInt = 5 := z5 rfl (by decide) c73
            refine lv_aload_n hx hb dX11_bride_76 rfl (lv_at hl 0 rfl) ?_
            refine va_get (D := (dC, dI)) (ci := 11) (v := .ref aN) (C := RX11) (T := TX11) (N := 41) hx hb hts iX11 hown hK hP 0 rfl rfl 27 (by decide) (hts _ qw1154) (fun _ h9 => h9) rfl dX11_bride_77 ?_
            refine lv_bipush (v := 12) hx hb dX11_bride_80 (by decide) ?_
            refine va_iald hx hb hK hP 2 0 rfl rfl (by unfold vp_in; decide) dX11_bride_82 ?_
            refine lv_topi (fun v82 e82 => ?_)
            refine lv_iload_n hx hb dX11_bride_83 rfl (lv_at hl 1 rfl) ?_
            refine lv_ishr hx hb dX11_bride_84 ?_
            refine lv_topi (fun v84 e84 => ?_)
            refine lv_iconst (v := 1) hx hb dX11_bride_85 (by decide) ?_
            refine lv_iand hx hb dX11_bride_86 ?_
            refine lv_topi (fun v86 e86 => ?_)
            have i86 : 0 ≤ v86.toInt ∧ v86.toInt ≤ 1 := zandr e86 (by decide) (by decide)
            refine lv_goto (tgt := 96) hx hb dX11_bride_87 (by decide) ?_
            have zr1 : (0 : Int32).toInt = 0 := by decide
            rw [hQ]
            exact W.iret (v := v86) hx hb hr (fun t ht hW => ⟨⟨v86, 0, rfl, ⟨by (try dsimp only); omega, by (try dsimp only); omega⟩, ⟨by rw [ht]; exact hP, hD⟩⟩, hS.F ht⟩) hS.2.2 dX11_bride_96
        · have c54 : p1.toInt = 4 := z5 rfl (by decide) c54
          refine lv_aload_n hx hb dX11_bride_57 rfl (lv_at hl 0 rfl) ?_
          refine va_get (D := (dC, dI)) (ci := 11) (v := .ref aN) (C := RX11) (T := TX11) (N := 41) hx hb hts iX11 hown hK hP 0 rfl rfl 27 (by decide) (hts _ qw1154) (fun _ h9 => h9) rfl dX11_bride_58 ?_
          refine lv_bipush (v := 11) hx hb dX11_bride_61 (by decide) ?_
          refine va_iald hx hb hK hP 2 0 rfl rfl (by unfold vp_in; decide) dX11_bride_63 ?_
          refine lv_topi (fun v63 e63 => ?_)
          refine lv_iload_n hx hb dX11_bride_64 rfl (lv_at hl 1 rfl) ?_
          refine lv_ishr hx hb dX11_bride_65 ?_
          refine lv_topi (fun v65 e65 => ?_)
          refine lv_iconst (v := 1) hx hb dX11_bride_66 (by decide) ?_
          refine lv_iand hx hb dX11_bride_67 ?_
          refine lv_topi (fun v67 e67 => ?_)
          have i67 : 0 ≤ v67.toInt ∧ v67.toInt ≤ 1 := zandr e67 (by decide) (by decide)
          refine lv_goto (tgt := 96) hx hb dX11_bride_68 (by decide) ?_
          have zr1 : (0 : Int32).toInt = 0 := by decide
          rw [hQ]
          exact W.iret (v := v67) hx hb hr (fun t ht hW => ⟨⟨v67, 0, rfl, ⟨by (try dsimp only); omega, by (try dsimp only); omega⟩, ⟨by rw [ht]; exact hP, hD⟩⟩, hS.F ht⟩) hS.2.2 dX11_bride_96
      · have c38 : p1.toInt = 3 := z5 rfl (by decide) c38
        refine lv_aload_n hx hb dX11_bride_41 rfl (lv_at hl 0 rfl) ?_
        refine va_get (D := (dC, dI)) (ci := 11) (v := .ref aN) (C := RX11) (T := TX11) (N := 41) hx hb hts iX11 hown hK hP 0 rfl rfl 27 (by decide) (hts _ qw1154) (fun _ h9 => h9) rfl dX11_bride_42 ?_
        refine lv_iconst (v := 0) hx hb dX11_bride_45 (by decide) ?_
        refine lv_iload_n hx hb dX11_bride_46 rfl (lv_at hl 1 rfl) ?_
        refine lv_iadd hx hb dX11_bride_47 ?_
        refine lv_topi (fun v47 e47 => ?_)
        have i47 : v47.toInt = 0 + p0.toInt := zadd e47 (by decide) rfl (by omega) (by omega)
        refine va_iald hx hb hK hP 2 0 rfl rfl (vp_in_iff.mpr ⟨by omega, by omega⟩) dX11_bride_48 ?_
        refine lv_topi (fun v48 e48 => ?_)
        refine lv_goto (tgt := 96) hx hb dX11_bride_49 (by decide) ?_
        have zr1 : (0 : Int32).toInt = 0 := by decide
        rw [hQ]
        exact W.iret (v := v48) hx hb hr (fun t ht hW => ⟨⟨v48, 0, rfl, ⟨by (try dsimp only); omega, by (try dsimp only); omega⟩, ⟨by rw [ht]; exact hP, hD⟩⟩, hS.F ht⟩) hS.2.2 dX11_bride_96
set_option maxHeartbeats 4000000 in
set_option maxRecDepth 100000 in
theorem g_X11_painter (l : Launch) (dC : Nat → ClassId) (dI : Nat → Nat → Nat) (cI cJ : ClassId) (h0 : Nat) (p0 : Int32) (p1 : Int32) (th : Int32) (tB : Nat) (tsz : Int32) (tat : Int32) (wr : Int32) (dp : Int32) (rC : Nat) (rV : Nat) (rD : Nat) (rK : Nat) (rT : Nat) (rS : Nat) (rU : Nat) (lw : Int32) (tx : Int32) (rL : Nat) (rX : Nat) (qR : Nat) (qB : Nat) (qP : Nat) (qnb : Int32) (qnp : Int32) (aR : Nat) (aB : Nat) (aP : Nat) (nb : Int32) (np : Int32) (aN : Nat) (rf : Nat) (ho : Int32) (br : Int32) (aK : Nat) (ac : Int32) (dw : Int64) (aE : Nat) (sr : Int32) (sf : Int32) (aA : Nat) (aH : Nat) (aI : Nat) (hi : Int32) (fPa : Nat → Int32) (fN : Nat → Int32) (sz : Nat) (n_ac : 0 ≤ ac.toInt ∧ ac.toInt ≤ 40) (n_hi : 0 ≤ hi.toInt ∧ hi.toInt ≤ 1) (n_ho : (-1) ≤ ho.toInt ∧ ho.toInt ≤ 3) (n_lw : 0 ≤ lw.toInt ∧ lw.toInt ≤ 4) (n_nb : 0 ≤ nb.toInt ∧ nb.toInt ≤ 6) (n_np : 0 ≤ np.toInt ∧ np.toInt ≤ 5) (n_qnb : 0 ≤ qnb.toInt ∧ qnb.toInt ≤ 6) (n_qnp : 0 ≤ qnp.toInt ∧ qnp.toInt ≤ 5) (n_tat : 0 ≤ tat.toInt ∧ tat.toInt ≤ 260) (n_tsz : 0 ≤ tsz.toInt ∧ tsz.toInt ≤ 240) (n_wr : (-1) ≤ wr.toInt ∧ wr.toInt ≤ 260)  (ci_fN_zNw_np : zNw np fN) (ci_fPa_zBr_np : zBr np fPa)  : Met l yX11_painter (.code yX11_painter cX11_painter 3 (some .int) :: wA) ({ frames := 2, cells := 0, slots := 0, locals := 43 }) (zP (dC, dI) [(cI, .int), (cJ, .long)] [.ref h0, .int p0, .int p1] sz [(h0, .inr (11, [.int th, .ref tB, .int tsz, .int tat, .int wr, .int dp, .ref rC, .ref rV, .ref rD, .ref rK, .ref rT, .ref rS, .ref rU, .int lw, .int tx, .ref rL, .ref rX, .ref qR, .ref qB, .ref qP, .int qnb, .int qnp, .ref aR, .ref aB, .ref aP, .int nb, .int np, .ref aN, .ref rf, .int ho, .int br, .ref aK, .int ac, .long dw, .ref aE, .int sr, .int sf, .ref aA, .ref aH, .ref aI, .int hi])), (aP, .inl (cI, 20, .inl fPa)), (aN, .inl (cI, 97, .inl fN))]) (va_Qi (fun (r : Int32) (u : Unit) => (∀ (kc : zK3) (kT : zT) (q_fR : Nat → Int32) (q_fBr : Nat → Int32) (q_fKp : Nat → Int32) (q_frf : Nat → Int32), zCn q_fR q_fBr fPa nb.toInt np.toInt kc → zKo nb.toInt np.toInt kc kT → zTr nb.toInt np.toInt kT fN q_fKp ac q_frf → r = sV_pai np.toInt kc kT.1 p0 p1)) (fun (_ : Unit) (_ : State) => True) (va_A [] sz)) 0 0 (va_A [] sz) := by
  refine Met.ofW (cc := cX11_painter) (maxL := 3) (ret := (some .int)) (by decide) rfl ?_
  intro p e s m args below meth c s₁ B hml hv
  obtain ⟨hargs, hsz, hP, hK, hT⟩ := hv
  have hx := B.exec
  have hb := B.bytes
  have hr := B.returns
  have hts : ∀ w ∈ wA, w.before args s = true := fun w h => atoms_spec (ws := .code yX11_painter cX11_painter 3 (some .int) :: wA) B.pre w (List.mem_cons_of_mem _ h)
  have hown : s.vm.findClass RX11 = some m.cls := findClass_of_methodNamed B.named
  have hlocks := B.notSynchronized
  subst hsz
  have hD : va_D (va_A [] s.heap.size) [] := zD0
  generalize hAe : va_A [] s.heap.size = A at hD ⊢
  have hA : ∀ q : Nat, s.heap.size ≤ q → A q := fun q h => by rw [← hAe]; exact Or.inr h
  have hl := lv_entry ([.ref h0, .int p0, .int p1]) (n := 3) (Nat.le_of_ble_eq_true rfl)
  rw [show entryFrame m args 3 = entryFrame m ([.ref h0, .int p0, .int p1] : List Value).toArray 3 by rw [hargs], lg_entry_eq]
  generalize (lg_sl ([.ref h0, .int p0, .int p1]) ++ List.replicate (3 - (lg_sl ([.ref h0, .int p0, .int p1])).length) Slot.unset).toArray = ls at hl ⊢
  have hl : lv_has ls 3 [(0, .ref h0), (1, .int p0), (2, .int p1)] := hl
  refine zstart (fun H hH => ?_)
  rw [← hH] at hP
  have hS : va_S A s.heap H [] := by rw [hH]; exact va_S.rf
  generalize ([] : List Loc) = locs at hS ⊢
  refine zgen (fun R Q hR hQ => ?_)
  refine lv_aload_n hx hb dX11_painter_0 rfl (lv_at hl 0 rfl) ?_
  refine lv_iload_n hx hb dX11_painter_1 rfl (lv_at hl 1 rfl) ?_
  have hPc := hP.sub (ws' := [(h0, .inr (11, [.int th, .ref tB, .int tsz, .int tat, .int wr, .int dp, .ref rC, .ref rV, .ref rD, .ref rK, .ref rT, .ref rS, .ref rU, .int lw, .int tx, .ref rL, .ref rX, .ref qR, .ref qB, .ref qP, .int qnb, .int qnp, .ref aR, .ref aB, .ref aP, .int nb, .int np, .ref aN, .ref rf, .int ho, .int br, .ref aK, .int ac, .long dw, .ref aE, .int sr, .int sf, .ref aA, .ref aH, .ref aI, .int hi]))]) [0] rfl
  have hDc := hT.sub (ws' := [(h0, .inr (11, [.int th, .ref tB, .int tsz, .int tat, .int wr, .int dp, .ref rC, .ref rV, .ref rD, .ref rK, .ref rT, .ref rS, .ref rU, .int lw, .int tx, .ref rL, .ref rX, .ref qR, .ref qB, .ref qP, .int qnb, .int qnp, .ref aR, .ref aB, .ref aP, .int nb, .int np, .ref aN, .ref rf, .int ho, .int br, .ref aK, .int ac, .long dw, .ref aE, .int sr, .int sf, .ref aA, .ref aH, .ref aI, .int hi]))]) [0] (by decide) rfl
  have hFc := zfr hS hA
  refine va_calli (va_runV (As := [.int p0]) (rest := []) ⟨hx, hb, hml, hown, hts⟩ (g_X11_isPainter l dC dI cI cJ h0 p0 th tB tsz tat wr dp rC rV rD rK rT rS rU lw tx rL rX qR qB qP qnb qnp aR aB aP nb np aN rf ho br aK ac dw aE sr sf aA aH aI hi H.size (by omega) (by omega) (by omega) (by omega) (by omega) (by omega) (by omega) (by omega) (by omega) (by omega) (by omega)) (cwV 1 hts (zgV qw1410 qw1412 qw57 qw108 qw1413) rfl rfl rfl hd_X11_isPainter ⟨by rw [hR]; exact Nat.le_of_ble_eq_true rfl, by rw [hR]; exact Nat.le_of_ble_eq_true rfl⟩) (zPV hPc hK hDc (va_recv hK hP (ci := 11) (q0 := 0) rfl rfl)) rfl rfl hl.1 rfl (lv_room (Nat.le_of_ble_eq_true rfl)) dX11_painter_2 ⟨Nat.zero_le _, Nat.zero_le _⟩) hS (fun q _ h => hFc q h) hFc (fun v2 u2 t H locs ht hvm hw hB hz1 hk1 hS => ?_)
  have hP := zkeep hP hk1
  obtain ⟨f2_0, f2_1, f2_2, f2_3⟩ : (0 ≤ v2.toInt) ∧ (v2.toInt ≤ 1) ∧ (¬ v2.toInt = 0 → (0 ≤ p0.toInt ∧ p0.toInt < np.toInt)) ∧ (v2.toInt = 0 → ¬ (0 ≤ p0.toInt ∧ p0.toInt < np.toInt)) := hw
  refine lv_if_eq (tgt := 17) hx hb dX11_painter_5 (by decide) (fun c5 => ?_) (fun c5 => ?_)
  · have c5 : v2.toInt = 0 := z5 rfl (by decide) c5
    refine lv_iconst (v := (-1)) hx hb dX11_painter_17 (by decide) ?_
    refine lv_goto (tgt := 44) hx hb dX11_painter_18 (by decide) ?_
    have zr0 : ((-1) : Int32).toInt = (-1) := by decide
    rw [hQ]
    exact W.iret (v := ((-1))) hx hb hr (fun t ht hW => ⟨⟨(-1), (), rfl, (by (try dsimp only); exact fun kc kT q_fR q_fBr q_fKp q_frf hc hb h => by unfold sV_pai; rw [if_pos (by omega)]; ), trivial⟩, hS.F ht⟩) hS.2.2 dX11_painter_44
  · have c5 : ¬ v2.toInt = 0 := z6 rfl (by decide) c5
    refine lv_iload_n hx hb dX11_painter_8 rfl (lv_at hl 2 rfl) ?_
    refine lv_iconst (v := 0) hx hb dX11_painter_9 (by decide) ?_
    refine lv_iconst (v := 3) hx hb dX11_painter_10 (by decide) ?_
    have hPc : va_P (dC, dI) vwCl [] H := zP0
    have hDc : va_D (fun _ => True) [] := zD0
    have hFc := zfr hS hA
    refine va_calli (va_runS (As := [.int p1, .int 0, .int 3]) (rest := []) ⟨hx, hb, hml, hown, hts⟩ (g_X11_in l dC dI cI cJ p1 0 3 H.size) (cwS 3 hts (zgS qw1305 qw1306 qw108 qw1307) rfl rfl rfl hd_X11_in ⟨by rw [hR]; exact Nat.le_of_ble_eq_true rfl, by rw [hR]; exact Nat.le_of_ble_eq_true rfl⟩) (zPS hPc hK hDc) rfl rfl hl.1 rfl (lv_room (Nat.le_of_ble_eq_true rfl)) dX11_painter_11 ⟨Nat.zero_le _, Nat.zero_le _⟩) hS (fun q _ h => hFc q h) hFc (fun v11 u11 t H locs ht hvm hw hB hz1 hk1 hS => ?_)
    have hP := zkeep hP hk1
    have zn11_0 : (0 : Int32).toInt = 0 := by decide
    have zn11_3 : (3 : Int32).toInt = 3 := by decide
    obtain ⟨f11_0, f11_1, f11_2, f11_3⟩ : (0 ≤ v11.toInt) ∧ (v11.toInt ≤ 1) ∧ (¬ v11.toInt = 0 → ((0 : Int32).toInt ≤ p1.toInt ∧ p1.toInt ≤ (3 : Int32).toInt)) ∧ (v11.toInt = 0 → (p1.toInt < (0 : Int32).toInt ∨ (3 : Int32).toInt < p1.toInt)) := hw
    refine lv_if_ne (tgt := 21) hx hb dX11_painter_14 (by decide) (fun c14 => ?_) (fun c14 => ?_)
    · have c14 : ¬ v11.toInt = 0 := z6 rfl (by decide) c14
      refine lv_iload_n hx hb dX11_painter_21 rfl (lv_at hl 2 rfl) ?_
      refine lv_iconst (v := 2) hx hb dX11_painter_22 (by decide) ?_
      refine lv_icmp_ne (tgt := 38) hx hb dX11_painter_23 (by decide) (fun c23 => ?_) (fun c23 => ?_)
      · have c23 : ¬ p1.toInt = 2 := z6 rfl (by decide) c23
        refine lv_aload_n hx hb dX11_painter_38 rfl (lv_at hl 0 rfl) ?_
        refine lv_iload_n hx hb dX11_painter_39 rfl (lv_at hl 1 rfl) ?_
        refine lv_iload_n hx hb dX11_painter_40 rfl (lv_at hl 2 rfl) ?_
        have hPc := hP.sub (ws' := [(h0, .inr (11, [.int th, .ref tB, .int tsz, .int tat, .int wr, .int dp, .ref rC, .ref rV, .ref rD, .ref rK, .ref rT, .ref rS, .ref rU, .int lw, .int tx, .ref rL, .ref rX, .ref qR, .ref qB, .ref qP, .int qnb, .int qnp, .ref aR, .ref aB, .ref aP, .int nb, .int np, .ref aN, .ref rf, .int ho, .int br, .ref aK, .int ac, .long dw, .ref aE, .int sr, .int sf, .ref aA, .ref aH, .ref aI, .int hi])), (aP, .inl (cI, 20, .inl fPa))]) [0, 1] rfl
        have hDc := hT.sub (ws' := [(h0, .inr (11, [.int th, .ref tB, .int tsz, .int tat, .int wr, .int dp, .ref rC, .ref rV, .ref rD, .ref rK, .ref rT, .ref rS, .ref rU, .int lw, .int tx, .ref rL, .ref rX, .ref qR, .ref qB, .ref qP, .int qnb, .int qnp, .ref aR, .ref aB, .ref aP, .int nb, .int np, .ref aN, .ref rf, .int ho, .int br, .ref aK, .int ac, .long dw, .ref aE, .int sr, .int sf, .ref aA, .ref aH, .ref aI, .int hi])), (aP, .inl (cI, 20, .inl fPa))]) [0, 1] (by decide) rfl
        have hFc := zfr hS hA
        refine va_calli (va_runV (As := [.int p0, .int p1]) (rest := []) ⟨hx, hb, hml, hown, hts⟩ (g_X11_by l dC dI cI cJ h0 p0 p1 th tB tsz tat wr dp rC rV rD rK rT rS rU lw tx rL rX qR qB qP qnb qnp aR aB aP nb np aN rf ho br aK ac dw aE sr sf aA aH aI hi fPa H.size (by omega) (by omega) (by omega) (by omega) (by omega) (by omega) (by omega) (by omega) (by omega) (by omega) (by omega) (by omega) (by omega)) (cwV 2 hts (zgV qw1390 qw1392 qw55 qw108 qw1393) rfl rfl rfl hd_X11_by ⟨by rw [hR]; exact Nat.le_of_ble_eq_true rfl, by rw [hR]; exact Nat.le_of_ble_eq_true rfl⟩) (zPV hPc hK hDc (va_recv hK hP (ci := 11) (q0 := 0) rfl rfl)) rfl rfl hl.1 rfl (lv_room (Nat.le_of_ble_eq_true rfl)) dX11_painter_41 ⟨Nat.zero_le _, Nat.zero_le _⟩) hS (fun q _ h => hFc q h) hFc (fun v41 u41 t H locs ht hvm hw hB hz1 hk1 hS => ?_)
        have hP := zkeep hP hk1
        have f41_0 : (v41 = fPa (4 * p0.toInt.toNat + p1.toInt.toNat)) := hw
        have F41 := f41_0
        rw [hQ]
        exact W.iret (v := v41) hx hb hr (fun t ht hW => ⟨⟨v41, (), rfl, (by (try dsimp only); exact fun kc kT q_fR q_fBr q_fKp q_frf hc hb h => by rcases (show p1.toInt = 0 ∨ p1.toInt = 1 ∨ p1.toInt = 3 by omega) with z | z | z; (have y41 : v41 = kc.2.2 (4 * p0.toInt.toNat) := (F41.trans (congrArg fPa (show 4 * p0.toInt.toNat + p1.toInt.toNat = 4 * p0.toInt.toNat by omega))).trans (hc.2.2 _ (by omega)); unfold sV_pai; rw [if_neg (by omega), if_pos (by omega)]; exact y41); (have y41 : v41 = kc.2.2 (4 * p0.toInt.toNat + 1) := (F41.trans (congrArg fPa (show 4 * p0.toInt.toNat + p1.toInt.toNat = 4 * p0.toInt.toNat + 1 by omega))).trans (hc.2.2 _ (by omega)); unfold sV_pai; rw [if_neg (by omega), if_neg (by omega), if_pos (by omega)]; exact y41); (have y41 : v41 = kc.2.2 (4 * p0.toInt.toNat + 3) := (F41.trans (congrArg fPa (show 4 * p0.toInt.toNat + p1.toInt.toNat = 4 * p0.toInt.toNat + 3 by omega))).trans (hc.2.2 _ (by omega)); unfold sV_pai; rw [if_neg (by omega), if_neg (by omega), if_neg (by omega), if_neg (by omega), if_pos (by omega)]; exact y41)), trivial⟩, hS.F ht⟩) hS.2.2 dX11_painter_44
      · have c23 : p1.toInt = 2 := z5 rfl (by decide) c23
        refine lv_aload_n hx hb dX11_painter_26 rfl (lv_at hl 0 rfl) ?_
        refine va_get (D := (dC, dI)) (ci := 11) (v := .ref aN) (C := RX11) (T := TX11) (N := 41) hx hb hts iX11 hown hK hP 0 rfl rfl 27 (by decide) (hts _ qw1154) (fun _ h9 => h9) rfl dX11_painter_27 ?_
        refine lv_bipush (v := 6) hx hb dX11_painter_30 (by decide) ?_
        refine lv_iload_n hx hb dX11_painter_32 rfl (lv_at hl 1 rfl) ?_
        refine lv_iadd hx hb dX11_painter_33 ?_
        refine lv_topi (fun v33 e33 => ?_)
        have i33 : v33.toInt = 6 + p0.toInt := zadd e33 (by decide) rfl (by omega) (by omega)
        refine va_iald hx hb hK hP 2 0 rfl rfl (vp_in_iff.mpr ⟨by omega, by omega⟩) dX11_painter_34 ?_
        refine lv_topi (fun v34 e34 => ?_)
        refine lv_goto (tgt := 44) hx hb dX11_painter_35 (by decide) ?_
        rw [hQ]
        exact W.iret (v := v34) hx hb hr (fun t ht hW => ⟨⟨v34, (), rfl, (by (try dsimp only); exact fun kc kT q_fR q_fBr q_fKp q_frf hc hb h => by have y34 : v34 = kT.1.2.1 p0.toInt.toNat := (zIxN (n := 6 + p0.toInt.toNat) e34 (by omega)).trans (h.1.2.1 _ (by omega)); unfold sV_pai; rw [if_neg (by omega), if_neg (by omega), if_neg (by omega), if_pos (by omega)]; exact y34), trivial⟩, hS.F ht⟩) hS.2.2 dX11_painter_44
    · have c14 : v11.toInt = 0 := z5 rfl (by decide) c14
      refine lv_iconst (v := (-1)) hx hb dX11_painter_17 (by decide) ?_
      refine lv_goto (tgt := 44) hx hb dX11_painter_18 (by decide) ?_
      have zr0 : ((-1) : Int32).toInt = (-1) := by decide
      rw [hQ]
      exact W.iret (v := ((-1))) hx hb hr (fun t ht hW => ⟨⟨(-1), (), rfl, (by (try dsimp only); exact fun kc kT q_fR q_fBr q_fKp q_frf hc hb h => by unfold sV_pai; rw [if_neg (by omega), if_neg (by omega), if_neg (by omega), if_neg (by omega), if_neg (by omega)]; ), trivial⟩, hS.F ht⟩) hS.2.2 dX11_painter_44
set_option maxHeartbeats 4000000 in
set_option maxRecDepth 100000 in
theorem g_X11_law (l : Launch) (dC : Nat → ClassId) (dI : Nat → Nat → Nat) (cI cJ : ClassId) (h0 : Nat) (p0 : Int32) (th : Int32) (tB : Nat) (tsz : Int32) (tat : Int32) (wr : Int32) (dp : Int32) (rC : Nat) (rV : Nat) (rD : Nat) (rK : Nat) (rT : Nat) (rS : Nat) (rU : Nat) (lw : Int32) (tx : Int32) (rL : Nat) (rX : Nat) (qR : Nat) (qB : Nat) (qP : Nat) (qnb : Int32) (qnp : Int32) (aR : Nat) (aB : Nat) (aP : Nat) (nb : Int32) (np : Int32) (aN : Nat) (rf : Nat) (ho : Int32) (br : Int32) (aK : Nat) (ac : Int32) (dw : Int64) (aE : Nat) (sr : Int32) (sf : Int32) (aA : Nat) (aH : Nat) (aI : Nat) (hi : Int32) (sz : Nat) (n_ac : 0 ≤ ac.toInt ∧ ac.toInt ≤ 40) (n_hi : 0 ≤ hi.toInt ∧ hi.toInt ≤ 1) (n_ho : (-1) ≤ ho.toInt ∧ ho.toInt ≤ 3) (n_lw : 0 ≤ lw.toInt ∧ lw.toInt ≤ 4) (n_nb : 0 ≤ nb.toInt ∧ nb.toInt ≤ 6) (n_np : 0 ≤ np.toInt ∧ np.toInt ≤ 5) (n_qnb : 0 ≤ qnb.toInt ∧ qnb.toInt ≤ 6) (n_qnp : 0 ≤ qnp.toInt ∧ qnp.toInt ≤ 5) (n_tat : 0 ≤ tat.toInt ∧ tat.toInt ≤ 260) (n_tsz : 0 ≤ tsz.toInt ∧ tsz.toInt ≤ 240) (n_wr : (-1) ≤ wr.toInt ∧ wr.toInt ≤ 260)    : Met l yX11_law (.code yX11_law cX11_law 2 (some .boolean) :: wA) ({ frames := 1, cells := 0, slots := 0, locals := 22 }) (zP (dC, dI) [(cI, .int), (cJ, .long)] [.ref h0, .int p0] sz [(h0, .inr (11, [.int th, .ref tB, .int tsz, .int tat, .int wr, .int dp, .ref rC, .ref rV, .ref rD, .ref rK, .ref rT, .ref rS, .ref rU, .int lw, .int tx, .ref rL, .ref rX, .ref qR, .ref qB, .ref qP, .int qnb, .int qnp, .ref aR, .ref aB, .ref aP, .int nb, .int np, .ref aN, .ref rf, .int ho, .int br, .ref aK, .int ac, .long dw, .ref aE, .int sr, .int sf, .ref aA, .ref aH, .ref aI, .int hi]))]) (va_Qi (fun (r : Int32) (u : Int32) => (0 ≤ r.toInt) ∧ (r.toInt ≤ 1) ∧ ((-1) ≤ u.toInt) ∧ (u.toInt ≤ 3) ∧ ((r.toInt = 1 ∧ -1 ≤ p0.toInt ∧ p0.toInt < lw.toInt) ∨ (r.toInt = 0 ∧ ¬ (-1 ≤ p0.toInt ∧ p0.toInt < lw.toInt))) ∧ ((r.toInt = 1 ∧ -1 ≤ p0.toInt ∧ p0.toInt < lw.toInt ∧ u = p0) ∨ (r.toInt = 0 ∧ ¬ (-1 ≤ p0.toInt ∧ p0.toInt < lw.toInt) ∧ u = ho)) ∧ (u.toInt = ho.toInt ∨ (-1 ≤ u.toInt ∧ u.toInt < lw.toInt))) (fun (u : Int32) (t : State) => va_P (dC, dI) vwCl [(h0, .inr (11, [.int th, .ref tB, .int tsz, .int tat, .int wr, .int dp, .ref rC, .ref rV, .ref rD, .ref rK, .ref rT, .ref rS, .ref rU, .int lw, .int tx, .ref rL, .ref rX, .ref qR, .ref qB, .ref qP, .int qnb, .int qnp, .ref aR, .ref aB, .ref aP, .int nb, .int np, .ref aN, .ref rf, .int u, .int br, .ref aK, .int ac, .long dw, .ref aE, .int sr, .int sf, .ref aA, .ref aH, .ref aI, .int hi]))] t.heap ∧ va_D (va_A [(h0, .inr (11, [.int th, .ref tB, .int tsz, .int tat, .int wr, .int dp, .ref rC, .ref rV, .ref rD, .ref rK, .ref rT, .ref rS, .ref rU, .int lw, .int tx, .ref rL, .ref rX, .ref qR, .ref qB, .ref qP, .int qnb, .int qnp, .ref aR, .ref aB, .ref aP, .int nb, .int np, .ref aN, .ref rf, .int ho, .int br, .ref aK, .int ac, .long dw, .ref aE, .int sr, .int sf, .ref aA, .ref aH, .ref aI, .int hi]))] sz) [(h0, .inr (11, [.int th, .ref tB, .int tsz, .int tat, .int wr, .int dp, .ref rC, .ref rV, .ref rD, .ref rK, .ref rT, .ref rS, .ref rU, .int lw, .int tx, .ref rL, .ref rX, .ref qR, .ref qB, .ref qP, .int qnb, .int qnp, .ref aR, .ref aB, .ref aP, .int nb, .int np, .ref aN, .ref rf, .int u, .int br, .ref aK, .int ac, .long dw, .ref aE, .int sr, .int sf, .ref aA, .ref aH, .ref aI, .int hi]))]) (va_A [(h0, .inr (11, [.int th, .ref tB, .int tsz, .int tat, .int wr, .int dp, .ref rC, .ref rV, .ref rD, .ref rK, .ref rT, .ref rS, .ref rU, .int lw, .int tx, .ref rL, .ref rX, .ref qR, .ref qB, .ref qP, .int qnb, .int qnp, .ref aR, .ref aB, .ref aP, .int nb, .int np, .ref aN, .ref rf, .int ho, .int br, .ref aK, .int ac, .long dw, .ref aE, .int sr, .int sf, .ref aA, .ref aH, .ref aI, .int hi]))] sz)) 0 0 (va_A [(h0, .inr (11, [.int th, .ref tB, .int tsz, .int tat, .int wr, .int dp, .ref rC, .ref rV, .ref rD, .ref rK, .ref rT, .ref rS, .ref rU, .int lw, .int tx, .ref rL, .ref rX, .ref qR, .ref qB, .ref qP, .int qnb, .int qnp, .ref aR, .ref aB, .ref aP, .int nb, .int np, .ref aN, .ref rf, .int ho, .int br, .ref aK, .int ac, .long dw, .ref aE, .int sr, .int sf, .ref aA, .ref aH, .ref aI, .int hi]))] sz) := by
  refine Met.ofW (cc := cX11_law) (maxL := 2) (ret := (some .boolean)) (by decide) rfl ?_
  intro p e s m args below meth c s₁ B hml hv
  obtain ⟨hargs, hsz, hP, hK, hT⟩ := hv
  have hx := B.exec
  have hb := B.bytes
  have hr := B.returns
  have hts : ∀ w ∈ wA, w.before args s = true := fun w h => atoms_spec (ws := .code yX11_law cX11_law 2 (some .boolean) :: wA) B.pre w (List.mem_cons_of_mem _ h)
  have hown : s.vm.findClass RX11 = some m.cls := findClass_of_methodNamed B.named
  have hlocks := B.notSynchronized
  subst hsz
  have hD := hT.self (sz := s.heap.size)
  generalize hAe : va_A [(h0, .inr (11, [.int th, .ref tB, .int tsz, .int tat, .int wr, .int dp, .ref rC, .ref rV, .ref rD, .ref rK, .ref rT, .ref rS, .ref rU, .int lw, .int tx, .ref rL, .ref rX, .ref qR, .ref qB, .ref qP, .int qnb, .int qnp, .ref aR, .ref aB, .ref aP, .int nb, .int np, .ref aN, .ref rf, .int ho, .int br, .ref aK, .int ac, .long dw, .ref aE, .int sr, .int sf, .ref aA, .ref aH, .ref aI, .int hi]))] s.heap.size = A at hD ⊢
  have hA : ∀ q : Nat, s.heap.size ≤ q → A q := fun q h => by rw [← hAe]; exact Or.inr h
  have hl := lv_entry ([.ref h0, .int p0]) (n := 2) (Nat.le_of_ble_eq_true rfl)
  rw [show entryFrame m args 2 = entryFrame m ([.ref h0, .int p0] : List Value).toArray 2 by rw [hargs], lg_entry_eq]
  generalize (lg_sl ([.ref h0, .int p0]) ++ List.replicate (2 - (lg_sl ([.ref h0, .int p0])).length) Slot.unset).toArray = ls at hl ⊢
  have hl : lv_has ls 2 [(0, .ref h0), (1, .int p0)] := hl
  refine zstart (fun H hH => ?_)
  rw [← hH] at hP
  have hS : va_S A s.heap H [] := by rw [hH]; exact va_S.rf
  generalize ([] : List Loc) = locs at hS ⊢
  refine zgen (fun R Q hR hQ => ?_)
  refine lv_iload_n hx hb dX11_law_0 rfl (lv_at hl 1 rfl) ?_
  refine lv_iconst (v := (-1)) hx hb dX11_law_1 (by decide) ?_
  refine lv_aload_n hx hb dX11_law_2 rfl (lv_at hl 0 rfl) ?_
  refine va_get (D := (dC, dI)) (ci := 11) (v := .int lw) (C := RX11) (T := TX11) (N := 41) hx hb hts iX11 hown hK hP 0 rfl rfl 13 (by decide) (hts _ qw1140) (fun _ h9 => h9) rfl dX11_law_3 ?_
  refine lv_iconst (v := 1) hx hb dX11_law_6 (by decide) ?_
  refine lv_isub hx hb dX11_law_7 ?_
  refine lv_topi (fun v7 e7 => ?_)
  have i7 : v7.toInt = lw.toInt - 1 := zsub e7 rfl (by decide) (by omega) (by omega)
  have hPc : va_P (dC, dI) vwCl [] H := zP0
  have hDc : va_D (fun _ => True) [] := zD0
  have hFc := zfr hS hA
  refine va_calli (va_runS (As := [.int p0, .int (-1), .int v7]) (rest := []) ⟨hx, hb, hml, hown, hts⟩ (g_X11_in l dC dI cI cJ p0 ((-1)) v7 H.size) (cwS 3 hts (zgS qw1305 qw1306 qw108 qw1307) rfl rfl rfl hd_X11_in ⟨by rw [hR]; exact Nat.le_of_ble_eq_true rfl, by rw [hR]; exact Nat.le_of_ble_eq_true rfl⟩) (zPS hPc hK hDc) rfl rfl hl.1 rfl (lv_room (Nat.le_of_ble_eq_true rfl)) dX11_law_8 ⟨Nat.zero_le _, Nat.zero_le _⟩) hS (fun q _ h => hFc q h) hFc (fun v8 u8 t H locs ht hvm hw hB hz1 hk1 hS => ?_)
  have hP := zkeep hP hk1
  have zn8_m1 : (-1 : Int32).toInt = -1 := by decide
  obtain ⟨f8_0, f8_1, f8_2, f8_3⟩ : (0 ≤ v8.toInt) ∧ (v8.toInt ≤ 1) ∧ (¬ v8.toInt = 0 → ((-1 : Int32).toInt ≤ p0.toInt ∧ p0.toInt ≤ v7.toInt)) ∧ (v8.toInt = 0 → (p0.toInt < (-1 : Int32).toInt ∨ v7.toInt < p0.toInt)) := hw
  refine lv_if_ne (tgt := 16) hx hb dX11_law_11 (by decide) (fun c11 => ?_) (fun c11 => ?_)
  · have c11 : ¬ v8.toInt = 0 := z6 rfl (by decide) c11
    refine lv_aload_n hx hb dX11_law_16 rfl (lv_at hl 0 rfl) ?_
    refine lv_iload_n hx hb dX11_law_17 rfl (lv_at hl 1 rfl) ?_
    refine va_put (D := (dC, dI)) (ci := 11) (v := .int p0) (ty := .int) (C := RX11) (T := TX11) (N := 41) hx hb hts iX11 tyX11 tyX11_ok nmX11 hown hK hP hD hS 0 rfl rfl 29 (by decide) (hts _ qw1156) (fun _ h9 => h9) rfl (by decide +kernel) rfl rfl (Nat.le_of_ble_eq_true rfl) dX11_law_18 (fun H locs hP hD hS => ?_)
    have hP : va_P (dC, dI) vwCl [(h0, .inr (11, [.int th, .ref tB, .int tsz, .int tat, .int wr, .int dp, .ref rC, .ref rV, .ref rD, .ref rK, .ref rT, .ref rS, .ref rU, .int lw, .int tx, .ref rL, .ref rX, .ref qR, .ref qB, .ref qP, .int qnb, .int qnp, .ref aR, .ref aB, .ref aP, .int nb, .int np, .ref aN, .ref rf, .int p0, .int br, .ref aK, .int ac, .long dw, .ref aE, .int sr, .int sf, .ref aA, .ref aH, .ref aI, .int hi]))] H := hP
    have hD : va_D A [(h0, .inr (11, [.int th, .ref tB, .int tsz, .int tat, .int wr, .int dp, .ref rC, .ref rV, .ref rD, .ref rK, .ref rT, .ref rS, .ref rU, .int lw, .int tx, .ref rL, .ref rX, .ref qR, .ref qB, .ref qP, .int qnb, .int qnp, .ref aR, .ref aB, .ref aP, .int nb, .int np, .ref aN, .ref rf, .int p0, .int br, .ref aK, .int ac, .long dw, .ref aE, .int sr, .int sf, .ref aA, .ref aH, .ref aI, .int hi]))] := hD
    refine lv_iconst (v := 1) hx hb dX11_law_21 (by decide) ?_
    have zr0 : (1 : Int32).toInt = 1 := by decide
    rw [hQ]
    exact W.zret (v := 1) (ty := .boolean) hx hb hr rfl (fun t ht hW => ⟨⟨1, p0, rfl, ⟨by (try dsimp only); omega, by (try dsimp only); omega, by (try dsimp only); omega, by (try dsimp only); omega, by (try dsimp only); omega, by (try dsimp only); exact Or.inl ⟨by decide, by omega, by omega, rfl⟩, by (try dsimp only); omega⟩, ⟨by rw [ht]; exact hP, hD⟩⟩, hS.F ht⟩) hS.2.2 dX11_law_22
  · have c11 : v8.toInt = 0 := z5 rfl (by decide) c11
    refine lv_iconst (v := 0) hx hb dX11_law_14 (by decide) ?_
    have zr0 : (0 : Int32).toInt = 0 := by decide
    rw [hQ]
    exact W.zret (v := 0) (ty := .boolean) hx hb hr rfl (fun t ht hW => ⟨⟨0, ho, rfl, ⟨by (try dsimp only); omega, by (try dsimp only); omega, by (try dsimp only); omega, by (try dsimp only); omega, by (try dsimp only); omega, by (try dsimp only); exact Or.inr ⟨by decide, by omega, rfl⟩, by (try dsimp only); omega⟩, ⟨by rw [ht]; exact hP, hD⟩⟩, hS.F ht⟩) hS.2.2 dX11_law_15
