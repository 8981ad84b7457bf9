set_option maxHeartbeats 4000000 in
set_option maxRecDepth 100000 in
theorem g_X11_look_u (l : Launch) (dC : Nat → ClassId) (dI : Nat → Nat → Nat) (cI cJ : ClassId) (h0 : Nat) (th : Int32) (tB : Nat) (tsz : Int32) (tat : Int32) (wr : Int32) (dp : Int32) (rC : Nat) (rV : Nat) (rD : Nat) (rK : Nat) (rT : Nat) (rS : Nat) (rU : Nat) (lw : Int32) (tx : Int32) (rL : Nat) (rX : Nat) (qR : Nat) (qB : Nat) (qP : Nat) (qnb : Int32) (qnp : Int32) (aR : Nat) (aB : Nat) (aP : Nat) (nb : Int32) (np : Int32) (aN : Nat) (rf : Nat) (ho : Int32) (br : Int32) (aK : Nat) (ac : Int32) (dw : Int64) (aE : Nat) (sr : Int32) (sf : Int32) (aA : Nat) (aH : Nat) (aI : Nat) (hi : Int32) (fB : Nat → Int32) (sz : Nat) (n_ac : 0 ≤ ac.toInt ∧ ac.toInt ≤ 40) (n_hi : 0 ≤ hi.toInt ∧ hi.toInt ≤ 1) (n_ho : (-1) ≤ ho.toInt ∧ ho.toInt ≤ 3) (n_lw : 0 ≤ lw.toInt ∧ lw.toInt ≤ 4) (n_nb : 0 ≤ nb.toInt ∧ nb.toInt ≤ 6) (n_np : 0 ≤ np.toInt ∧ np.toInt ≤ 5) (n_qnb : 0 ≤ qnb.toInt ∧ qnb.toInt ≤ 6) (n_qnp : 0 ≤ qnp.toInt ∧ qnp.toInt ≤ 5) (n_tat : 0 ≤ tat.toInt ∧ tat.toInt ≤ 240) (n_tsz : 0 ≤ tsz.toInt ∧ tsz.toInt ≤ 240) (n_wr : (-1) ≤ wr.toInt ∧ wr.toInt ≤ 260)    : Met l yX11_look (.code yX11_look cX11_look 1 (some .int) :: wA) ({ frames := 1, cells := 0, slots := 0, locals := 20 }) (zP (dC, dI) [(cI, .int), (cJ, .long)] [.ref h0] sz [(h0, .inr (11, [.int th, .ref tB, .int tsz, .int tat, .int wr, .int dp, .ref rC, .ref rV, .ref rD, .ref rK, .ref rT, .ref rS, .ref rU, .int lw, .int tx, .ref rL, .ref rX, .ref qR, .ref qB, .ref qP, .int qnb, .int qnp, .ref aR, .ref aB, .ref aP, .int nb, .int np, .ref aN, .ref rf, .int ho, .int br, .ref aK, .int ac, .long dw, .ref aE, .int sr, .int sf, .ref aA, .ref aH, .ref aI, .int hi])), (tB, .inl (cI, 240, .inl fB))]) (va_Qi (fun (r : Int32) (u : Int32) => (0 ≤ u.toInt) ∧ (u.toInt ≤ 240) ∧ (¬ r.toInt = -1 → u.toInt < tsz.toInt) ∧ (tat.toInt ≤ u.toInt) ∧ (zLk fB tsz tat r u)) (fun (u : Int32) (t : State) => va_P (dC, dI) vwCl [(h0, .inr (11, [.int th, .ref tB, .int tsz, .int u, .int wr, .int dp, .ref rC, .ref rV, .ref rD, .ref rK, .ref rT, .ref rS, .ref rU, .int lw, .int tx, .ref rL, .ref rX, .ref qR, .ref qB, .ref qP, .int qnb, .int qnp, .ref aR, .ref aB, .ref aP, .int nb, .int np, .ref aN, .ref rf, .int ho, .int br, .ref aK, .int ac, .long dw, .ref aE, .int sr, .int sf, .ref aA, .ref aH, .ref aI, .int hi])), (tB, .inl (cI, 240, .inl fB))] t.heap ∧ va_D (va_A [(h0, .inr (11, [.int th, .ref tB, .int tsz, .int tat, .int wr, .int dp, .ref rC, .ref rV, .ref rD, .ref rK, .ref rT, .ref rS, .ref rU, .int lw, .int tx, .ref rL, .ref rX, .ref qR, .ref qB, .ref qP, .int qnb, .int qnp, .ref aR, .ref aB, .ref aP, .int nb, .int np, .ref aN, .ref rf, .int ho, .int br, .ref aK, .int ac, .long dw, .ref aE, .int sr, .int sf, .ref aA, .ref aH, .ref aI, .int hi])), (tB, .inl (cI, 240, .inl fB))] sz) [(h0, .inr (11, [.int th, .ref tB, .int tsz, .int u, .int wr, .int dp, .ref rC, .ref rV, .ref rD, .ref rK, .ref rT, .ref rS, .ref rU, .int lw, .int tx, .ref rL, .ref rX, .ref qR, .ref qB, .ref qP, .int qnb, .int qnp, .ref aR, .ref aB, .ref aP, .int nb, .int np, .ref aN, .ref rf, .int ho, .int br, .ref aK, .int ac, .long dw, .ref aE, .int sr, .int sf, .ref aA, .ref aH, .ref aI, .int hi])), (tB, .inl (cI, 240, .inl fB))]) (va_A [(h0, .inr (11, [.int th, .ref tB, .int tsz, .int tat, .int wr, .int dp, .ref rC, .ref rV, .ref rD, .ref rK, .ref rT, .ref rS, .ref rU, .int lw, .int tx, .ref rL, .ref rX, .ref qR, .ref qB, .ref qP, .int qnb, .int qnp, .ref aR, .ref aB, .ref aP, .int nb, .int np, .ref aN, .ref rf, .int ho, .int br, .ref aK, .int ac, .long dw, .ref aE, .int sr, .int sf, .ref aA, .ref aH, .ref aI, .int hi])), (tB, .inl (cI, 240, .inl fB))] sz)) 0 0 (va_A [(h0, .inr (11, [.int th, .ref tB, .int tsz, .int tat, .int wr, .int dp, .ref rC, .ref rV, .ref rD, .ref rK, .ref rT, .ref rS, .ref rU, .int lw, .int tx, .ref rL, .ref rX, .ref qR, .ref qB, .ref qP, .int qnb, .int qnp, .ref aR, .ref aB, .ref aP, .int nb, .int np, .ref aN, .ref rf, .int ho, .int br, .ref aK, .int ac, .long dw, .ref aE, .int sr, .int sf, .ref aA, .ref aH, .ref aI, .int hi])), (tB, .inl (cI, 240, .inl fB))] sz) := by
  refine Met.ofW (cc := cX11_look) (maxL := 1) (ret := (some .int)) (by decide) rfl ?_
  intro p e s m args below meth c s₁ B hml hv
  have y_ac : zHid (0 ≤ ac.toInt ∧ ac.toInt ≤ 40) := n_ac
  have y_hi : zHid (0 ≤ hi.toInt ∧ hi.toInt ≤ 1) := n_hi
  have y_ho : zHid ((-1) ≤ ho.toInt ∧ ho.toInt ≤ 3) := n_ho
  have y_lw : zHid (0 ≤ lw.toInt ∧ lw.toInt ≤ 4) := n_lw
  have y_nb : zHid (0 ≤ nb.toInt ∧ nb.toInt ≤ 6) := n_nb
  have y_np : zHid (0 ≤ np.toInt ∧ np.toInt ≤ 5) := n_np
  have y_qnb : zHid (0 ≤ qnb.toInt ∧ qnb.toInt ≤ 6) := n_qnb
  have y_qnp : zHid (0 ≤ qnp.toInt ∧ qnp.toInt ≤ 5) := n_qnp
  have y_wr : zHid ((-1) ≤ wr.toInt ∧ wr.toInt ≤ 260) := n_wr
  clear n_ac n_hi n_ho n_lw n_nb n_np n_qnb n_qnp n_wr
  obtain ⟨hargs, hsz, hP, hK, hT⟩ := hv
  have hx := B.exec
  have hb := B.bytes
  have hr := B.returns
  have hts : ∀ w ∈ wA, w.before args s = true := fun w h => atoms_spec (ws := .code yX11_look cX11_look 1 (some .int) :: wA) B.pre w (List.mem_cons_of_mem _ h)
  have hown : s.vm.findClass RX11 = some m.cls := findClass_of_methodNamed B.named
  have hlocks := B.notSynchronized
  subst hsz
  have hD := hT.self (sz := s.heap.size)
  generalize hAe : va_A [(h0, .inr (11, [.int th, .ref tB, .int tsz, .int tat, .int wr, .int dp, .ref rC, .ref rV, .ref rD, .ref rK, .ref rT, .ref rS, .ref rU, .int lw, .int tx, .ref rL, .ref rX, .ref qR, .ref qB, .ref qP, .int qnb, .int qnp, .ref aR, .ref aB, .ref aP, .int nb, .int np, .ref aN, .ref rf, .int ho, .int br, .ref aK, .int ac, .long dw, .ref aE, .int sr, .int sf, .ref aA, .ref aH, .ref aI, .int hi])), (tB, .inl (cI, 240, .inl fB))] s.heap.size = A at hD ⊢
  have hA : ∀ q : Nat, s.heap.size ≤ q → A q := fun q h => by rw [← hAe]; exact Or.inr h
  have hl := lv_entry ([.ref h0]) (n := 1) (Nat.le_of_ble_eq_true rfl)
  rw [show entryFrame m args 1 = entryFrame m ([.ref h0] : List Value).toArray 1 by rw [hargs], lg_entry_eq]
  generalize (lg_sl ([.ref h0]) ++ List.replicate (1 - (lg_sl ([.ref h0])).length) Slot.unset).toArray = ls at hl ⊢
  have hl : lv_has ls 1 [(0, .ref h0)] := hl
  refine zstart (fun H hH => ?_)
  rw [← hH] at hP
  have hS : va_S A s.heap H [] := by rw [hH]; exact va_S.rf
  generalize ([] : List Loc) = locs at hS ⊢
  refine zgen (fun R Q hR hQ => ?_)
  have J0 : ∀ (n : Nat) (m0_F_h0_3 : Int32), (0 ≤ m0_F_h0_3.toInt ∧ m0_F_h0_3.toInt ≤ 240) → (tat.toInt ≤ m0_F_h0_3.toInt ∧ (m0_F_h0_3.toInt ≤ tsz.toInt ∨ m0_F_h0_3.toInt = tat.toInt)) → (sk (sB fB tsz.toInt) tsz.toInt tat.toInt = sk (sB fB tsz.toInt) tsz.toInt m0_F_h0_3.toInt) → (261 - m0_F_h0_3.toInt).toNat = n → ∀ (H : Heap) (locs : List Loc) (ls : Array Slot), va_P (dC, dI) vwCl [(h0, .inr (11, [.int th, .ref tB, .int tsz, .int m0_F_h0_3, .int wr, .int dp, .ref rC, .ref rV, .ref rD, .ref rK, .ref rT, .ref rS, .ref rU, .int lw, .int tx, .ref rL, .ref rX, .ref qR, .ref qB, .ref qP, .int qnb, .int qnp, .ref aR, .ref aB, .ref aP, .int nb, .int np, .ref aN, .ref rf, .int ho, .int br, .ref aK, .int ac, .long dw, .ref aE, .int sr, .int sf, .ref aA, .ref aH, .ref aI, .int hi])), (tB, .inl (cI, 240, .inl fB))] H → va_D A [(h0, .inr (11, [.int th, .ref tB, .int tsz, .int m0_F_h0_3, .int wr, .int dp, .ref rC, .ref rV, .ref rD, .ref rK, .ref rT, .ref rS, .ref rU, .int lw, .int tx, .ref rL, .ref rX, .ref qR, .ref qB, .ref qP, .int qnb, .int qnp, .ref aR, .ref aB, .ref aP, .int nb, .int np, .ref aN, .ref rf, .int ho, .int br, .ref aK, .int ac, .long dw, .ref aE, .int sr, .int sf, .ref aA, .ref aH, .ref aI, .int hi])), (tB, .inl (cI, 240, .inl fB))] → va_S A s.heap H locs → lv_has ls 1 [(0, .ref h0)] → W p l e R s m args below meth c H locs 0 0 Q (F0 m 0 ls []) := by
    intro n0
    induction n0 using Nat.strongRecOn with
    | _ n0 ih0 =>
      intro m0_F_h0_3 jf0_0 jf0_1 jv0_0 hmu0 H locs ls hP hD hS hl
      refine lv_aload_n hx hb dX11_look_0 rfl (lv_at hl 0 rfl) ?_
      obtain ⟨hPc, hDc⟩ := zc2 (wc := [(h0, .inr (11, [.int th, .ref tB, .int tsz, .int m0_F_h0_3, .int wr, .int dp, .ref rC, .ref rV, .ref rD, .ref rK, .ref rT, .ref rS, .ref rU, .int lw, .int tx, .ref rL, .ref rX, .ref qR, .ref qB, .ref qP, .int qnb, .int qnp, .ref aR, .ref aB, .ref aP, .int nb, .int np, .ref aN, .ref rf, .int ho, .int br, .ref aK, .int ac, .long dw, .ref aE, .int sr, .int sf, .ref aA, .ref aH, .ref aI, .int hi])), (tB, .inl (cI, 240, .inl fB))]) hP hD [0, 1] (by decide +kernel) rfl
      have hFc := zfr hS hA
      refine va_calli (va_runV (As := []) (rest := []) ⟨hx, hb, hml, hown, hts⟩ (g_X11_here l dC dI cI cJ h0 th tB tsz m0_F_h0_3 wr dp rC rV rD rK rT rS rU lw tx rL rX qR qB qP qnb qnp aR aB aP nb np aN rf ho br aK ac dw aE sr sf aA aH aI hi fB H.size y_ac y_hi y_ho y_lw y_nb y_np y_qnb y_qnp (by omega) n_tsz y_wr) (cwV 0 hts (zgV qw1277 qw1279 qw33 qw108 qw1280) rfl rfl rfl hd_X11_here ⟨by rw [hR]; exact Nat.le_of_ble_eq_true rfl, by rw [hR]; exact Nat.le_of_ble_eq_true rfl⟩) (zPV hPc hK hDc (va_recv (q := (RX11, TX11, 41)) hK hP (ci := 11) (q0 := 0) rfl rfl)) rfl rfl hl.1 rfl (lv_room (Nat.le_of_ble_eq_true rfl)) dX11_look_1 ⟨Nat.zero_le _, Nat.zero_le _⟩) hS (fun q _ h => hFc q h) hFc (fun v1 u1 t H locs ht hvm hw hB hz1 hk1 hS9 => ?_)
      replace hP := zkeep hP hk1
      replace hS := hS9
      clear hPc hDc hFc hk1 hz1 hvm hS9
      obtain ⟨f1_0, f1_1⟩ : (¬ v1.toInt = -1 → m0_F_h0_3.toInt < tsz.toInt) ∧ (v1.toInt = sB fB tsz.toInt m0_F_h0_3.toInt) := hw
      have F1 := f1_1
      refine lv_bipush (v := 32) hx hb dX11_look_4 (by decide) ?_
      refine lv_icmp_ne (tgt := 22) hx hb dX11_look_6 (by decide) (fun c6 => ?_) (fun c6 => ?_)
      · have c6 : ¬ v1.toInt = 32 := z6 rfl (by decide) c6
        refine lv_aload_n hx hb dX11_look_22 rfl (lv_at hl 0 rfl) ?_
        obtain ⟨hPc, hDc⟩ := zc2 (wc := [(h0, .inr (11, [.int th, .ref tB, .int tsz, .int m0_F_h0_3, .int wr, .int dp, .ref rC, .ref rV, .ref rD, .ref rK, .ref rT, .ref rS, .ref rU, .int lw, .int tx, .ref rL, .ref rX, .ref qR, .ref qB, .ref qP, .int qnb, .int qnp, .ref aR, .ref aB, .ref aP, .int nb, .int np, .ref aN, .ref rf, .int ho, .int br, .ref aK, .int ac, .long dw, .ref aE, .int sr, .int sf, .ref aA, .ref aH, .ref aI, .int hi])), (tB, .inl (cI, 240, .inl fB))]) hP hD [0, 1] (by decide +kernel) rfl
        have hFc := zfr hS hA
        refine va_calli (va_runV (As := []) (rest := []) ⟨hx, hb, hml, hown, hts⟩ (g_X11_here l dC dI cI cJ h0 th tB tsz m0_F_h0_3 wr dp rC rV rD rK rT rS rU lw tx rL rX qR qB qP qnb qnp aR aB aP nb np aN rf ho br aK ac dw aE sr sf aA aH aI hi fB H.size y_ac y_hi y_ho y_lw y_nb y_np y_qnb y_qnp (by omega) n_tsz y_wr) (cwV 0 hts (zgV qw1277 qw1279 qw33 qw108 qw1280) rfl rfl rfl hd_X11_here ⟨by rw [hR]; exact Nat.le_of_ble_eq_true rfl, by rw [hR]; exact Nat.le_of_ble_eq_true rfl⟩) (zPV hPc hK hDc (va_recv (q := (RX11, TX11, 41)) hK hP (ci := 11) (q0 := 0) rfl rfl)) rfl rfl hl.1 rfl (lv_room (Nat.le_of_ble_eq_true rfl)) dX11_look_23 ⟨Nat.zero_le _, Nat.zero_le _⟩) hS (fun q _ h => hFc q h) hFc (fun v23 u23 t H locs ht hvm hw hB hz1 hk1 hS9 => ?_)
        replace hP := zkeep hP hk1
        replace hS := hS9
        clear hPc hDc hFc hk1 hz1 hvm hS9
        obtain ⟨f23_0, f23_1⟩ : (¬ v23.toInt = -1 → m0_F_h0_3.toInt < tsz.toInt) ∧ (v23.toInt = sB fB tsz.toInt m0_F_h0_3.toInt) := hw
        have F23 := f23_1
        rw [hQ]
        exact W.iret (v := v23) hx hb hr (fun t ht hW => ⟨⟨v23, m0_F_h0_3, rfl, ⟨by (try dsimp only); omega, by (try dsimp only); omega, by (try dsimp only); omega, by (try dsimp only); omega, by (try dsimp only); exact zlkE jv0_0 F1 (by omega) F23⟩, ⟨by rw [ht]; exact hP, hD⟩⟩, hS.F ht⟩) hS.2.2 dX11_look_26
      · have c6 : v1.toInt = 32 := z5 rfl (by decide) c6
        refine lv_aload_n hx hb dX11_look_9 rfl (lv_at hl 0 rfl) ?_
        refine lv_dup hx hb dX11_look_10 rfl ?_
        refine va_get (D := (dC, dI)) (ci := 11) (v := .int m0_F_h0_3) (C := RX11) (T := TX11) (N := 41) hx hb hts iX11 hown hK hP 0 rfl rfl 3 (by decide) (hts _ qw1130) (fun _ h9 => h9) rfl dX11_look_11 ?_
        refine lv_iconst (v := 1) hx hb dX11_look_14 (by decide) ?_
        refine lv_iadd hx hb dX11_look_15 ?_
        refine lv_topi (fun v15 e15 => ?_)
        have i15 : v15.toInt = m0_F_h0_3.toInt + 1 := zadd e15 rfl (by decide) (by omega) (by omega)
        refine va_put (D := (dC, dI)) (ci := 11) (v := .int v15) (ty := .int) (C := RX11) (T := TX11) (N := 41) hx hb hts iX11 tyX11 tyX11_ok nmX11 hown hK hP hD hS 0 rfl rfl 3 (by decide) (hts _ qw1130) (fun _ h9 => h9) rfl (by decide +kernel) rfl rfl (Nat.le_of_ble_eq_true rfl) dX11_look_16 (fun H locs hP9 hD9 hS9 => ?_)
        clear hP hD hS
        obtain ⟨hP, hD⟩ := zst (wX := [(h0, .inr (11, [.int th, .ref tB, .int tsz, .int v15, .int wr, .int dp, .ref rC, .ref rV, .ref rD, .ref rK, .ref rT, .ref rS, .ref rU, .int lw, .int tx, .ref rL, .ref rX, .ref qR, .ref qB, .ref qP, .int qnb, .int qnp, .ref aR, .ref aB, .ref aP, .int nb, .int np, .ref aN, .ref rf, .int ho, .int br, .ref aK, .int ac, .long dw, .ref aE, .int sr, .int sf, .ref aA, .ref aH, .ref aI, .int hi])), (tB, .inl (cI, 240, .inl fB))]) hP9 hD9 rfl
        have hS := hS9
        clear hP9 hD9 hS9
        refine lv_goto (tgt := 0) hx hb dX11_look_19 (by decide) ?_
        exact ih0 _ (by omega) v15 (by omega) (by omega) (zlkS jv0_0 F1 (by omega) i15) rfl H locs ls hP hD hS (lv_sub hl [0] rfl)
  exact J0 _ tat n_tat (by omega) (rfl) rfl H locs ls hP hD hS (lv_sub hl [0] rfl)
set_option maxHeartbeats 4000000 in
set_option maxRecDepth 100000 in
theorem g_X11_number (l : Launch) (dC : Nat → ClassId) (dI : Nat → Nat → Nat) (cI cJ : ClassId) (h0 : Nat) (p1 : Int32) (th : Int32) (tB : Nat) (tsz : Int32) (tat : Int32) (dp : Int32) (rC : Nat) (rV : Nat) (rD : Nat) (rK : Nat) (rT : Nat) (rS : Nat) (rU : Nat) (lw : Int32) (tx : Int32) (rL : Nat) (rX : Nat) (qR : Nat) (qB : Nat) (qP : Nat) (qnb : Int32) (qnp : Int32) (aR : Nat) (aB : Nat) (aP : Nat) (nb : Int32) (np : Int32) (aN : Nat) (rf : Nat) (ho : Int32) (br : Int32) (aK : Nat) (ac : Int32) (dw : Int64) (aE : Nat) (sr : Int32) (sf : Int32) (aA : Nat) (aH : Nat) (aI : Nat) (hi : Int32) (fB : Nat → Int32) (sz : Nat) (n_ac : 0 ≤ ac.toInt ∧ ac.toInt ≤ 40) (n_hi : 0 ≤ hi.toInt ∧ hi.toInt ≤ 1) (n_ho : (-1) ≤ ho.toInt ∧ ho.toInt ≤ 3) (n_lw : 0 ≤ lw.toInt ∧ lw.toInt ≤ 4) (n_nb : 0 ≤ nb.toInt ∧ nb.toInt ≤ 6) (n_np : 0 ≤ np.toInt ∧ np.toInt ≤ 5) (n_p1 : 0 ≤ p1.toInt ∧ p1.toInt ≤ 99) (n_qnb : 0 ≤ qnb.toInt ∧ qnb.toInt ≤ 6) (n_qnp : 0 ≤ qnp.toInt ∧ qnp.toInt ≤ 5) (n_tat : 0 ≤ tat.toInt ∧ tat.toInt ≤ 240) (n_tsz : 0 ≤ tsz.toInt ∧ tsz.toInt ≤ 240)    : Met l yX11_number (.code yX11_number cX11_number 4 (some .int) :: wA) ({ frames := 2, cells := 0, slots := 0, locals := 40 }) (zP (dC, dI) [(cI, .int), (cJ, .long)] [.ref h0, .int 0, .int p1] sz [(h0, .inr (11, [.int th, .ref tB, .int tsz, .int tat, .int (-1), .int dp, .ref rC, .ref rV, .ref rD, .ref rK, .ref rT, .ref rS, .ref rU, .int lw, .int tx, .ref rL, .ref rX, .ref qR, .ref qB, .ref qP, .int qnb, .int qnp, .ref aR, .ref aB, .ref aP, .int nb, .int np, .ref aN, .ref rf, .int ho, .int br, .ref aK, .int ac, .long dw, .ref aE, .int sr, .int sf, .ref aA, .ref aH, .ref aI, .int hi])), (tB, .inl (cI, 240, .inl fB))]) (va_Qi (fun (r : Int32) (u : Int32 × Int32) => (0 ≤ r.toInt) ∧ (r.toInt ≤ 99) ∧ (0 ≤ u.1.toInt) ∧ (u.1.toInt ≤ 240) ∧ ((-1) ≤ u.2.toInt) ∧ (u.2.toInt ≤ 240) ∧ (zW (sNm2 (sB fB tsz.toInt) p1.toInt (sk (sB fB tsz.toInt) tsz.toInt tat.toInt)) u.2 u.1) ∧ (u.2.toInt = -1 → r.toInt = sVl2 (sB fB tsz.toInt) (sk (sB fB tsz.toInt) tsz.toInt tat.toInt)) ∧ (u.2.toInt = -1 → (0 ≤ r.toInt ∧ r.toInt ≤ p1.toInt ∧ tat.toInt + 1 ≤ u.1.toInt)) ∧ (tat.toInt ≤ u.1.toInt)) (fun (u : Int32 × Int32) (t : State) => va_P (dC, dI) vwCl [(h0, .inr (11, [.int th, .ref tB, .int tsz, .int u.1, .int u.2, .int dp, .ref rC, .ref rV, .ref rD, .ref rK, .ref rT, .ref rS, .ref rU, .int lw, .int tx, .ref rL, .ref rX, .ref qR, .ref qB, .ref qP, .int qnb, .int qnp, .ref aR, .ref aB, .ref aP, .int nb, .int np, .ref aN, .ref rf, .int ho, .int br, .ref aK, .int ac, .long dw, .ref aE, .int sr, .int sf, .ref aA, .ref aH, .ref aI, .int hi])), (tB, .inl (cI, 240, .inl fB))] t.heap ∧ va_D (va_A [(h0, .inr (11, [.int th, .ref tB, .int tsz, .int tat, .int (-1), .int dp, .ref rC, .ref rV, .ref rD, .ref rK, .ref rT, .ref rS, .ref rU, .int lw, .int tx, .ref rL, .ref rX, .ref qR, .ref qB, .ref qP, .int qnb, .int qnp, .ref aR, .ref aB, .ref aP, .int nb, .int np, .ref aN, .ref rf, .int ho, .int br, .ref aK, .int ac, .long dw, .ref aE, .int sr, .int sf, .ref aA, .ref aH, .ref aI, .int hi])), (tB, .inl (cI, 240, .inl fB))] sz) [(h0, .inr (11, [.int th, .ref tB, .int tsz, .int u.1, .int u.2, .int dp, .ref rC, .ref rV, .ref rD, .ref rK, .ref rT, .ref rS, .ref rU, .int lw, .int tx, .ref rL, .ref rX, .ref qR, .ref qB, .ref qP, .int qnb, .int qnp, .ref aR, .ref aB, .ref aP, .int nb, .int np, .ref aN, .ref rf, .int ho, .int br, .ref aK, .int ac, .long dw, .ref aE, .int sr, .int sf, .ref aA, .ref aH, .ref aI, .int hi])), (tB, .inl (cI, 240, .inl fB))]) (va_A [(h0, .inr (11, [.int th, .ref tB, .int tsz, .int tat, .int (-1), .int dp, .ref rC, .ref rV, .ref rD, .ref rK, .ref rT, .ref rS, .ref rU, .int lw, .int tx, .ref rL, .ref rX, .ref qR, .ref qB, .ref qP, .int qnb, .int qnp, .ref aR, .ref aB, .ref aP, .int nb, .int np, .ref aN, .ref rf, .int ho, .int br, .ref aK, .int ac, .long dw, .ref aE, .int sr, .int sf, .ref aA, .ref aH, .ref aI, .int hi])), (tB, .inl (cI, 240, .inl fB))] sz)) 0 0 (va_A [(h0, .inr (11, [.int th, .ref tB, .int tsz, .int tat, .int (-1), .int dp, .ref rC, .ref rV, .ref rD, .ref rK, .ref rT, .ref rS, .ref rU, .int lw, .int tx, .ref rL, .ref rX, .ref qR, .ref qB, .ref qP, .int qnb, .int qnp, .ref aR, .ref aB, .ref aP, .int nb, .int np, .ref aN, .ref rf, .int ho, .int br, .ref aK, .int ac, .long dw, .ref aE, .int sr, .int sf, .ref aA, .ref aH, .ref aI, .int hi])), (tB, .inl (cI, 240, .inl fB))] sz) := by
  refine Met.ofW (cc := cX11_number) (maxL := 4) (ret := (some .int)) (by decide) rfl ?_
  intro p e s m args below meth c s₁ B hml hv
  have y_ac : zHid (0 ≤ ac.toInt ∧ ac.toInt ≤ 40) := n_ac
  have y_hi : zHid (0 ≤ hi.toInt ∧ hi.toInt ≤ 1) := n_hi
  have y_ho : zHid ((-1) ≤ ho.toInt ∧ ho.toInt ≤ 3) := n_ho
  have y_lw : zHid (0 ≤ lw.toInt ∧ lw.toInt ≤ 4) := n_lw
  have y_nb : zHid (0 ≤ nb.toInt ∧ nb.toInt ≤ 6) := n_nb
  have y_np : zHid (0 ≤ np.toInt ∧ np.toInt ≤ 5) := n_np
  have y_qnb : zHid (0 ≤ qnb.toInt ∧ qnb.toInt ≤ 6) := n_qnb
  have y_qnp : zHid (0 ≤ qnp.toInt ∧ qnp.toInt ≤ 5) := n_qnp
  clear n_ac n_hi n_ho n_lw n_nb n_np n_qnb n_qnp
  obtain ⟨hargs, hsz, hP, hK, hT⟩ := hv
  have hx := B.exec
  have hb := B.bytes
  have hr := B.returns
  have hts : ∀ w ∈ wA, w.before args s = true := fun w h => atoms_spec (ws := .code yX11_number cX11_number 4 (some .int) :: wA) B.pre w (List.mem_cons_of_mem _ h)
  have hown : s.vm.findClass RX11 = some m.cls := findClass_of_methodNamed B.named
  have hlocks := B.notSynchronized
  subst hsz
  have hD := hT.self (sz := s.heap.size)
  generalize hAe : va_A [(h0, .inr (11, [.int th, .ref tB, .int tsz, .int tat, .int (-1), .int dp, .ref rC, .ref rV, .ref rD, .ref rK, .ref rT, .ref rS, .ref rU, .int lw, .int tx, .ref rL, .ref rX, .ref qR, .ref qB, .ref qP, .int qnb, .int qnp, .ref aR, .ref aB, .ref aP, .int nb, .int np, .ref aN, .ref rf, .int ho, .int br, .ref aK, .int ac, .long dw, .ref aE, .int sr, .int sf, .ref aA, .ref aH, .ref aI, .int hi])), (tB, .inl (cI, 240, .inl fB))] s.heap.size = A at hD ⊢
  have hA : ∀ q : Nat, s.heap.size ≤ q → A q := fun q h => by rw [← hAe]; exact Or.inr h
  have hl := lv_entry ([.ref h0, .int 0, .int p1]) (n := 4) (Nat.le_of_ble_eq_true rfl)
  rw [show entryFrame m args 4 = entryFrame m ([.ref h0, .int 0, .int p1] : List Value).toArray 4 by rw [hargs], lg_entry_eq]
  generalize (lg_sl ([.ref h0, .int 0, .int p1]) ++ List.replicate (4 - (lg_sl ([.ref h0, .int 0, .int p1])).length) Slot.unset).toArray = ls at hl ⊢
  have hl : lv_has ls 4 [(0, .ref h0), (1, .int 0), (2, .int p1)] := hl
  refine zstart (fun H hH => ?_)
  rw [← hH] at hP
  have hS : va_S A s.heap H [] := by rw [hH]; exact va_S.rf
  generalize ([] : List Loc) = locs at hS ⊢
  refine zgen (fun R Q hR hQ => ?_)
  have zm1 : (-1 : Int32).toInt = -1 := by decide
  refine lv_aload_n hx hb dX11_number_0 rfl (lv_at hl 0 rfl) ?_
  obtain ⟨hPc, hDc, hFc⟩ := zc3 (wc := [(h0, .inr (11, [.int th, .ref tB, .int tsz, .int tat, .int (-1), .int dp, .ref rC, .ref rV, .ref rD, .ref rK, .ref rT, .ref rS, .ref rU, .int lw, .int tx, .ref rL, .ref rX, .ref qR, .ref qB, .ref qP, .int qnb, .int qnp, .ref aR, .ref aB, .ref aP, .int nb, .int np, .ref aN, .ref rf, .int ho, .int br, .ref aK, .int ac, .long dw, .ref aE, .int sr, .int sf, .ref aA, .ref aH, .ref aI, .int hi])), (tB, .inl (cI, 240, .inl fB))]) hP hD hS hA [0, 1] (by decide +kernel) rfl
  refine va_calli (va_runV (As := []) (rest := []) ⟨hx, hb, hml, hown, hts⟩ (g_X11_look_u l dC dI cI cJ h0 th tB tsz tat ((-1)) dp rC rV rD rK rT rS rU lw tx rL rX qR qB qP qnb qnp aR aB aP nb np aN rf ho br aK ac dw aE sr sf aA aH aI hi fB H.size y_ac y_hi y_ho y_lw y_nb y_np y_qnb y_qnp n_tat n_tsz (by decide)) (cwV 0 hts (zgV qw1273 qw1275 qw32 qw108 qw1276) rfl rfl rfl hd_X11_look ⟨by rw [hR]; exact Nat.le_of_ble_eq_true rfl, by rw [hR]; exact Nat.le_of_ble_eq_true rfl⟩) (zPV hPc hK hDc (va_recv (q := (RX11, TX11, 41)) hK hP (ci := 11) (q0 := 0) rfl rfl)) rfl rfl hl.1 rfl (lv_room (Nat.le_of_ble_eq_true rfl)) dX11_number_1 ⟨Nat.zero_le _, Nat.zero_le _⟩) hS (fun q _ h => hFc q h) hFc (fun v1 u1 t H locs ht hvm hw hB hz1 hk1 hS9 => ?_)
  obtain ⟨u1_0, rfl⟩ : ∃ z, z = u1 := ⟨_, rfl⟩
  obtain ⟨hP9, hD9⟩ := zj2 (wX := [(h0, .inr (11, [.int th, .ref tB, .int tsz, .int u1_0, .int (-1), .int dp, .ref rC, .ref rV, .ref rD, .ref rK, .ref rT, .ref rS, .ref rU, .int lw, .int tx, .ref rL, .ref rX, .ref qR, .ref qB, .ref qP, .int qnb, .int qnp, .ref aR, .ref aB, .ref aP, .int nb, .int np, .ref aN, .ref rf, .int ho, .int br, .ref aK, .int ac, .long dw, .ref aE, .int sr, .int sf, .ref aA, .ref aH, .ref aI, .int hi])), (tB, .inl (cI, 240, .inl fB))]) hP hD hk1 hFc ht hB [0, 1] [(true, 0), (true, 1)] rfl (by decide +kernel) (by decide +kernel) rfl
  clear hP hD hS hPc hDc hFc hB hk1 hz1 hvm
  have hP := hP9
  have hD := hD9
  have hS := hS9
  clear hP9 hD9 hS9
  obtain ⟨f1_0, f1_1, f1_2, f1_3, f1_4⟩ : (0 ≤ u1_0.toInt) ∧ (u1_0.toInt ≤ 240) ∧ (¬ v1.toInt = -1 → u1_0.toInt < tsz.toInt) ∧ (tat.toInt ≤ u1_0.toInt) ∧ (zLk fB tsz tat v1 u1_0) := hw
  have F1 := f1_4
  have hPc : va_P (dC, dI) vwCl [] H := zP0
  have hDc : va_D (fun _ => True) [] := zD0
  have hFc := zfr hS hA
  refine va_calli (va_runS (As := [.int v1]) (rest := []) ⟨hx, hb, hml, hown, hts⟩ (g_X11_isDigit l dC dI cI cJ v1 H.size) (cwS 1 hts (zgS qw1298 qw1299 qw108 qw1300) rfl rfl rfl hd_X11_isDigit ⟨by rw [hR]; exact Nat.le_of_ble_eq_true rfl, by rw [hR]; exact Nat.le_of_ble_eq_true rfl⟩) (zPS hPc hK hDc) rfl rfl hl.1 rfl (lv_room (Nat.le_of_ble_eq_true rfl)) dX11_number_4 ⟨Nat.zero_le _, Nat.zero_le _⟩) hS (fun q _ h => hFc q h) hFc (fun v4 u4 t H locs ht hvm hw hB hz1 hk1 hS9 => ?_)
  replace hP := zkeep hP hk1
  replace hS := hS9
  clear hPc hDc hFc hk1 hz1 hvm hS9
  obtain ⟨f4_0, f4_1, f4_2, f4_3⟩ : (0 ≤ v4.toInt) ∧ (v4.toInt ≤ 1) ∧ (¬ v4.toInt = 0 → (48 ≤ v1.toInt ∧ v1.toInt ≤ 57)) ∧ (zIs (oG v1.toInt) v4) := hw
  have F4 := f4_3
  refine lv_if_ne (tgt := 16) hx hb dX11_number_7 (by decide) (fun c7 => ?_) (fun c7 => ?_)
  · have c7 : ¬ v4.toInt = 0 := z6 rfl (by decide) c7
    refine lv_aload_n hx hb dX11_number_16 rfl (lv_at hl 0 rfl) ?_
    obtain ⟨hPc, hDc⟩ := zc2 (wc := [(h0, .inr (11, [.int th, .ref tB, .int tsz, .int u1_0, .int (-1), .int dp, .ref rC, .ref rV, .ref rD, .ref rK, .ref rT, .ref rS, .ref rU, .int lw, .int tx, .ref rL, .ref rX, .ref qR, .ref qB, .ref qP, .int qnb, .int qnp, .ref aR, .ref aB, .ref aP, .int nb, .int np, .ref aN, .ref rf, .int ho, .int br, .ref aK, .int ac, .long dw, .ref aE, .int sr, .int sf, .ref aA, .ref aH, .ref aI, .int hi])), (tB, .inl (cI, 240, .inl fB))]) hP hD [0, 1] (by decide +kernel) rfl
    have hFc := zfr hS hA
    refine va_calli (va_runV (As := []) (rest := []) ⟨hx, hb, hml, hown, hts⟩ (g_X11_here l dC dI cI cJ h0 th tB tsz u1_0 ((-1)) dp rC rV rD rK rT rS rU lw tx rL rX qR qB qP qnb qnp aR aB aP nb np aN rf ho br aK ac dw aE sr sf aA aH aI hi fB H.size y_ac y_hi y_ho y_lw y_nb y_np y_qnb y_qnp (by omega) n_tsz (by decide)) (cwV 0 hts (zgV qw1277 qw1279 qw33 qw108 qw1280) rfl rfl rfl hd_X11_here ⟨by rw [hR]; exact Nat.le_of_ble_eq_true rfl, by rw [hR]; exact Nat.le_of_ble_eq_true rfl⟩) (zPV hPc hK hDc (va_recv (q := (RX11, TX11, 41)) hK hP (ci := 11) (q0 := 0) rfl rfl)) rfl rfl hl.1 rfl (lv_room (Nat.le_of_ble_eq_true rfl)) dX11_number_17 ⟨Nat.zero_le _, Nat.zero_le _⟩) hS (fun q _ h => hFc q h) hFc (fun v17 u17 t H locs ht hvm hw hB hz1 hk1 hS9 => ?_)
    replace hP := zkeep hP hk1
    replace hS := hS9
    clear hPc hDc hFc hk1 hz1 hvm hS9
    obtain ⟨f17_0, f17_1⟩ : (¬ v17.toInt = -1 → u1_0.toInt < tsz.toInt) ∧ (v17.toInt = sB fB tsz.toInt u1_0.toInt) := hw
    have F17 := f17_1
    have y17 : 48 ≤ v17.toInt ∧ v17.toInt ≤ 57 := by have := zdg F1 F4 (by omega); omega
    refine lv_bipush (v := 48) hx hb dX11_number_20 (by decide) ?_
    refine lv_isub hx hb dX11_number_22 ?_
    refine lv_topi (fun v22 e22 => ?_)
    have i22 : v22.toInt = v17.toInt - 48 := zsub e22 rfl (by decide) (by omega) (by omega)
    refine lv_istore_n (lv' := [(3, .int v22), (0, .ref h0), (1, .int 0), (2, .int p1)]) hx hb dX11_number_23 rfl hl (by decide) rfl (fun ls hl => ?_)
    refine lv_aload_n hx hb dX11_number_24 rfl (lv_at hl 1 rfl) ?_
    refine lv_dup hx hb dX11_number_25 rfl ?_
    refine va_get (D := (dC, dI)) (ci := 11) (v := .int u1_0) (C := RX11) (T := TX11) (N := 41) hx hb hts iX11 hown hK hP 0 rfl rfl 3 (by decide) (hts _ qw1130) (fun _ h9 => h9) rfl dX11_number_26 ?_
    refine lv_iconst (v := 1) hx hb dX11_number_29 (by decide) ?_
    refine lv_iadd hx hb dX11_number_30 ?_
    refine lv_topi (fun v30 e30 => ?_)
    have i30 : v30.toInt = u1_0.toInt + 1 := zadd e30 rfl (by decide) (by omega) (by omega)
    refine va_put (D := (dC, dI)) (ci := 11) (v := .int v30) (ty := .int) (C := RX11) (T := TX11) (N := 41) hx hb hts iX11 tyX11 tyX11_ok nmX11 hown hK hP hD hS 0 rfl rfl 3 (by decide) (hts _ qw1130) (fun _ h9 => h9) rfl (by decide +kernel) rfl rfl (Nat.le_of_ble_eq_true rfl) dX11_number_31 (fun H locs hP9 hD9 hS9 => ?_)
    clear hP hD hS
    obtain ⟨hP, hD⟩ := zst (wX := [(h0, .inr (11, [.int th, .ref tB, .int tsz, .int v30, .int (-1), .int dp, .ref rC, .ref rV, .ref rD, .ref rK, .ref rT, .ref rS, .ref rU, .int lw, .int tx, .ref rL, .ref rX, .ref qR, .ref qB, .ref qP, .int qnb, .int qnp, .ref aR, .ref aB, .ref aP, .int nb, .int np, .ref aN, .ref rf, .int ho, .int br, .ref aK, .int ac, .long dw, .ref aE, .int sr, .int sf, .ref aA, .ref aH, .ref aI, .int hi])), (tB, .inl (cI, 240, .inl fB))]) hP9 hD9 rfl
    have hS := hS9
    clear hP9 hD9 hS9
    refine lv_aload_n hx hb dX11_number_34 rfl (lv_at hl 1 rfl) ?_
    obtain ⟨hPc, hDc⟩ := zc2 (wc := [(h0, .inr (11, [.int th, .ref tB, .int tsz, .int v30, .int (-1), .int dp, .ref rC, .ref rV, .ref rD, .ref rK, .ref rT, .ref rS, .ref rU, .int lw, .int tx, .ref rL, .ref rX, .ref qR, .ref qB, .ref qP, .int qnb, .int qnp, .ref aR, .ref aB, .ref aP, .int nb, .int np, .ref aN, .ref rf, .int ho, .int br, .ref aK, .int ac, .long dw, .ref aE, .int sr, .int sf, .ref aA, .ref aH, .ref aI, .int hi])), (tB, .inl (cI, 240, .inl fB))]) hP hD [0, 1] (by decide +kernel) rfl
    have hFc := zfr hS hA
    refine va_calli (va_runV (As := []) (rest := []) ⟨hx, hb, hml, hown, hts⟩ (g_X11_here l dC dI cI cJ h0 th tB tsz v30 ((-1)) dp rC rV rD rK rT rS rU lw tx rL rX qR qB qP qnb qnp aR aB aP nb np aN rf ho br aK ac dw aE sr sf aA aH aI hi fB H.size y_ac y_hi y_ho y_lw y_nb y_np y_qnb y_qnp (by omega) n_tsz (by decide)) (cwV 0 hts (zgV qw1277 qw1279 qw33 qw108 qw1280) rfl rfl rfl hd_X11_here ⟨by rw [hR]; exact Nat.le_of_ble_eq_true rfl, by rw [hR]; exact Nat.le_of_ble_eq_true rfl⟩) (zPV hPc hK hDc (va_recv (q := (RX11, TX11, 41)) hK hP (ci := 11) (q0 := 0) rfl rfl)) rfl rfl hl.1 rfl (lv_room (Nat.le_of_ble_eq_true rfl)) dX11_number_35 ⟨Nat.zero_le _, Nat.zero_le _⟩) hS (fun q _ h => hFc q h) hFc (fun v35 u35 t H locs ht hvm hw hB hz1 hk1 hS9 => ?_)
    replace hP := zkeep hP hk1
    replace hS := hS9
    clear hPc hDc hFc hk1 hz1 hvm hS9
    obtain ⟨f35_0, f35_1⟩ : (¬ v35.toInt = -1 → v30.toInt < tsz.toInt) ∧ (v35.toInt = sB fB tsz.toInt v30.toInt) := hw
    have F35 := f35_1
    have hPc : va_P (dC, dI) vwCl [] H := zP0
    have hDc : va_D (fun _ => True) [] := zD0
    have hFc := zfr hS hA
    refine va_calli (va_runS (As := [.int v35]) (rest := []) ⟨hx, hb, hml, hown, hts⟩ (g_X11_isDigit l dC dI cI cJ v35 H.size) (cwS 1 hts (zgS qw1298 qw1299 qw108 qw1300) rfl rfl rfl hd_X11_isDigit ⟨by rw [hR]; exact Nat.le_of_ble_eq_true rfl, by rw [hR]; exact Nat.le_of_ble_eq_true rfl⟩) (zPS hPc hK hDc) rfl rfl hl.1 rfl (lv_room (Nat.le_of_ble_eq_true rfl)) dX11_number_38 ⟨Nat.zero_le _, Nat.zero_le _⟩) hS (fun q _ h => hFc q h) hFc (fun v38 u38 t H locs ht hvm hw hB hz1 hk1 hS9 => ?_)
    replace hP := zkeep hP hk1
    replace hS := hS9
    clear hPc hDc hFc hk1 hz1 hvm hS9
    obtain ⟨f38_0, f38_1, f38_2, f38_3⟩ : (0 ≤ v38.toInt) ∧ (v38.toInt ≤ 1) ∧ (¬ v38.toInt = 0 → (48 ≤ v35.toInt ∧ v35.toInt ≤ 57)) ∧ (zIs (oG v35.toInt) v38) := hw
    have F38 := f38_3
    refine lv_if_eq (tgt := 67) hx hb dX11_number_41 (by decide) (fun c41 => ?_) (fun c41 => ?_)
    · have c41 : v38.toInt = 0 := z5 rfl (by decide) c41
      refine lv_aload_n hx hb dX11_number_67 rfl (lv_at hl 1 rfl) ?_
      obtain ⟨hPc, hDc⟩ := zc2 (wc := [(h0, .inr (11, [.int th, .ref tB, .int tsz, .int v30, .int (-1), .int dp, .ref rC, .ref rV, .ref rD, .ref rK, .ref rT, .ref rS, .ref rU, .int lw, .int tx, .ref rL, .ref rX, .ref qR, .ref qB, .ref qP, .int qnb, .int qnp, .ref aR, .ref aB, .ref aP, .int nb, .int np, .ref aN, .ref rf, .int ho, .int br, .ref aK, .int ac, .long dw, .ref aE, .int sr, .int sf, .ref aA, .ref aH, .ref aI, .int hi])), (tB, .inl (cI, 240, .inl fB))]) hP hD [0, 1] (by decide +kernel) rfl
      have hFc := zfr hS hA
      refine va_calli (va_runV (As := []) (rest := []) ⟨hx, hb, hml, hown, hts⟩ (g_X11_here l dC dI cI cJ h0 th tB tsz v30 ((-1)) dp rC rV rD rK rT rS rU lw tx rL rX qR qB qP qnb qnp aR aB aP nb np aN rf ho br aK ac dw aE sr sf aA aH aI hi fB H.size y_ac y_hi y_ho y_lw y_nb y_np y_qnb y_qnp (by omega) n_tsz (by decide)) (cwV 0 hts (zgV qw1277 qw1279 qw33 qw108 qw1280) rfl rfl rfl hd_X11_here ⟨by rw [hR]; exact Nat.le_of_ble_eq_true rfl, by rw [hR]; exact Nat.le_of_ble_eq_true rfl⟩) (zPV hPc hK hDc (va_recv (q := (RX11, TX11, 41)) hK hP (ci := 11) (q0 := 0) rfl rfl)) rfl rfl hl.1 rfl (lv_room (Nat.le_of_ble_eq_true rfl)) dX11_number_68 ⟨Nat.zero_le _, Nat.zero_le _⟩) hS (fun q _ h => hFc q h) hFc (fun v68 u68 t H locs ht hvm hw hB hz1 hk1 hS9 => ?_)
      replace hP := zkeep hP hk1
      replace hS := hS9
      clear hPc hDc hFc hk1 hz1 hvm hS9
      obtain ⟨f68_0, f68_1⟩ : (¬ v68.toInt = -1 → v30.toInt < tsz.toInt) ∧ (v68.toInt = sB fB tsz.toInt v30.toInt) := hw
      have F68 := f68_1
      have hPc : va_P (dC, dI) vwCl [] H := zP0
      have hDc : va_D (fun _ => True) [] := zD0
      have hFc := zfr hS hA
      refine va_calli (va_runS (As := [.int v68]) (rest := []) ⟨hx, hb, hml, hown, hts⟩ (g_X11_isDigit l dC dI cI cJ v68 H.size) (cwS 1 hts (zgS qw1298 qw1299 qw108 qw1300) rfl rfl rfl hd_X11_isDigit ⟨by rw [hR]; exact Nat.le_of_ble_eq_true rfl, by rw [hR]; exact Nat.le_of_ble_eq_true rfl⟩) (zPS hPc hK hDc) rfl rfl hl.1 rfl (lv_room (Nat.le_of_ble_eq_true rfl)) dX11_number_71 ⟨Nat.zero_le _, Nat.zero_le _⟩) hS (fun q _ h => hFc q h) hFc (fun v71 u71 t H locs ht hvm hw hB hz1 hk1 hS9 => ?_)
      replace hP := zkeep hP hk1
      replace hS := hS9
      clear hPc hDc hFc hk1 hz1 hvm hS9
      obtain ⟨f71_0, f71_1, f71_2, f71_3⟩ : (0 ≤ v71.toInt) ∧ (v71.toInt ≤ 1) ∧ (¬ v71.toInt = 0 → (48 ≤ v68.toInt ∧ v68.toInt ≤ 57)) ∧ (zIs (oG v68.toInt) v71) := hw
      have F71 := f71_3
      refine lv_if_eq (tgt := 84) hx hb dX11_number_74 (by decide) (fun c74 => ?_) (fun c74 => ?_)
      · have c74 : v71.toInt = 0 := z5 rfl (by decide) c74
        refine lv_iload_n hx hb dX11_number_84 rfl (lv_at hl 0 rfl) ?_
        refine lv_iload_n hx hb dX11_number_85 rfl (lv_at hl 2 rfl) ?_
        refine lv_iload_n hx hb dX11_number_86 rfl (lv_at hl 3 rfl) ?_
        have hPc : va_P (dC, dI) vwCl [] H := zP0
        have hDc : va_D (fun _ => True) [] := zD0
        have hFc := zfr hS hA
        refine va_calli (va_runS (As := [.int v22, .int 0, .int p1]) (rest := []) ⟨hx, hb, hml, hown, hts⟩ (g_X11_in l dC dI cI cJ v22 0 p1 H.size) (cwS 3 hts (zgS qw1305 qw1306 qw108 qw1307) rfl rfl rfl hd_X11_in ⟨by rw [hR]; exact Nat.le_of_ble_eq_true rfl, by rw [hR]; exact Nat.le_of_ble_eq_true rfl⟩) (zPS hPc hK hDc) rfl rfl hl.1 rfl (lv_room (Nat.le_of_ble_eq_true rfl)) dX11_number_87 ⟨Nat.zero_le _, Nat.zero_le _⟩) hS (fun q _ h => hFc q h) hFc (fun v87 u87 t H locs ht hvm hw hB hz1 hk1 hS9 => ?_)
        replace hP := zkeep hP hk1
        replace hS := hS9
        clear hPc hDc hFc hk1 hz1 hvm hS9
        have zn87_0 : (0 : Int32).toInt = 0 := by decide
        obtain ⟨f87_0, f87_1, f87_2, f87_3⟩ : (0 ≤ v87.toInt) ∧ (v87.toInt ≤ 1) ∧ (¬ v87.toInt = 0 → ((0 : Int32).toInt ≤ v22.toInt ∧ v22.toInt ≤ p1.toInt)) ∧ (v87.toInt = 0 → (v22.toInt < (0 : Int32).toInt ∨ p1.toInt < v22.toInt)) := hw
        refine lv_if_ne (tgt := 107) hx hb dX11_number_90 (by decide) (fun c90 => ?_) (fun c90 => ?_)
        · have c90 : ¬ v87.toInt = 0 := z6 rfl (by decide) c90
          refine lv_iload_n hx hb dX11_number_107 rfl (lv_at hl 0 rfl) ?_
          have zr2 : ((-1) : Int32).toInt = (-1) := by decide
          rw [hQ]
          exact W.iret (v := v22) hx hb hr (fun t ht hW => ⟨⟨v22, (v30, (-1)), rfl, ⟨by (try dsimp only); omega, by (try dsimp only); omega, by (try dsimp only); omega, by (try dsimp only); omega, by (try dsimp only); omega, by (try dsimp only); omega, by (try dsimp only); exact znmY (znm1 (x := v22) F1 F4 (by omega) i30 F35 F38 (by omega) (by omega)) (by omega) (by decide) (by omega), by (try dsimp only); exact fun _ => znv1 (x := v22) F1 i30 F35 F38 (by omega) (by omega), by (try dsimp only); omega, by (try dsimp only); omega⟩, ⟨by rw [ht]; exact hP, hD⟩⟩, hS.F ht⟩) hS.2.2 dX11_number_108
        · have c90 : v87.toInt = 0 := z5 rfl (by decide) c90
          refine lv_aload_n hx hb dX11_number_93 rfl (lv_at hl 1 rfl) ?_
          refine lv_dup hx hb dX11_number_94 rfl ?_
          refine va_get (D := (dC, dI)) (ci := 11) (v := .int v30) (C := RX11) (T := TX11) (N := 41) hx hb hts iX11 hown hK hP 0 rfl rfl 3 (by decide) (hts _ qw1130) (fun _ h9 => h9) rfl dX11_number_95 ?_
          refine lv_iconst (v := 1) hx hb dX11_number_98 (by decide) ?_
          refine lv_isub hx hb dX11_number_99 ?_
          refine lv_topi (fun v99 e99 => ?_)
          have i99 : v99.toInt = v30.toInt - 1 := zsub e99 rfl (by decide) (by omega) (by omega)
          refine va_put (D := (dC, dI)) (ci := 11) (v := .int v99) (ty := .int) (C := RX11) (T := TX11) (N := 41) hx hb hts iX11 tyX11 tyX11_ok nmX11 hown hK hP hD hS 0 rfl rfl 3 (by decide) (hts _ qw1130) (fun _ h9 => h9) rfl (by decide +kernel) rfl rfl (Nat.le_of_ble_eq_true rfl) dX11_number_100 (fun H locs hP9 hD9 hS9 => ?_)
          clear hP hD hS
          obtain ⟨hP, hD⟩ := zst (wX := [(h0, .inr (11, [.int th, .ref tB, .int tsz, .int v99, .int (-1), .int dp, .ref rC, .ref rV, .ref rD, .ref rK, .ref rT, .ref rS, .ref rU, .int lw, .int tx, .ref rL, .ref rX, .ref qR, .ref qB, .ref qP, .int qnb, .int qnp, .ref aR, .ref aB, .ref aP, .int nb, .int np, .ref aN, .ref rf, .int ho, .int br, .ref aK, .int ac, .long dw, .ref aE, .int sr, .int sf, .ref aA, .ref aH, .ref aI, .int hi])), (tB, .inl (cI, 240, .inl fB))]) hP9 hD9 rfl
          have hS := hS9
          clear hP9 hD9 hS9
          refine lv_aload_n hx hb dX11_number_103 rfl (lv_at hl 1 rfl) ?_
          obtain ⟨hPc, hDc, hFc⟩ := zc3 (wc := [(h0, .inr (11, [.int th, .ref tB, .int tsz, .int v99, .int (-1), .int dp, .ref rC, .ref rV, .ref rD, .ref rK, .ref rT, .ref rS, .ref rU, .int lw, .int tx, .ref rL, .ref rX, .ref qR, .ref qB, .ref qP, .int qnb, .int qnp, .ref aR, .ref aB, .ref aP, .int nb, .int np, .ref aN, .ref rf, .int ho, .int br, .ref aK, .int ac, .long dw, .ref aE, .int sr, .int sf, .ref aA, .ref aH, .ref aI, .int hi]))]) hP hD hS hA [0] (by decide +kernel) rfl
          refine va_callv (va_runV (As := []) (rest := []) ⟨hx, hb, hml, hown, hts⟩ (g_X11_bad_m l dC dI cI cJ h0 th tB tsz v99 dp rC rV rD rK rT rS rU lw tx rL rX qR qB qP qnb qnp aR aB aP nb np aN rf ho br aK ac dw aE sr sf aA aH aI hi H.size y_ac y_hi y_ho y_lw y_nb y_np y_qnb y_qnp (by omega) n_tsz) (cwV 0 hts (zgV qw1301 qw1303 qw36 qw108 qw1304) rfl rfl rfl hd_X11_bad ⟨by rw [hR]; exact Nat.le_of_ble_eq_true rfl, by rw [hR]; exact Nat.le_of_ble_eq_true rfl⟩) (zPV hPc hK hDc (va_recv (q := (RX11, TX11, 41)) hK hP (ci := 11) (q0 := 0) rfl rfl)) rfl rfl hl.1 rfl (lv_room (Nat.le_of_ble_eq_true rfl)) dX11_number_104 ⟨Nat.zero_le _, Nat.zero_le _⟩) hS (fun q _ h => hFc q h) hFc (fun u104 t H locs ht hvm hw hB hz1 hk1 hS9 => ?_)
          obtain ⟨hP9, hD9⟩ := zj2 (wX := [(h0, .inr (11, [.int th, .ref tB, .int tsz, .int v99, .int v99, .int dp, .ref rC, .ref rV, .ref rD, .ref rK, .ref rT, .ref rS, .ref rU, .int lw, .int tx, .ref rL, .ref rX, .ref qR, .ref qB, .ref qP, .int qnb, .int qnp, .ref aR, .ref aB, .ref aP, .int nb, .int np, .ref aN, .ref rf, .int ho, .int br, .ref aK, .int ac, .long dw, .ref aE, .int sr, .int sf, .ref aA, .ref aH, .ref aI, .int hi])), (tB, .inl (cI, 240, .inl fB))]) hP hD hk1 hFc ht hB [0] [(true, 0), (false, 1)] rfl (by decide +kernel) (by decide +kernel) rfl
          clear hP hD hS hPc hDc hFc hB hk1 hz1 hvm
          have hP := hP9
          have hD := hD9
          have hS := hS9
          clear hP9 hD9 hS9
          refine lv_iload_n hx hb dX11_number_107 rfl (lv_at hl 0 rfl) ?_
          rw [hQ]
          exact W.iret (v := v22) hx hb hr (fun t ht hW => ⟨⟨v22, (v99, v99), rfl, ⟨by (try dsimp only); omega, by (try dsimp only); omega, by (try dsimp only); omega, by (try dsimp only); omega, by (try dsimp only); omega, by (try dsimp only); omega, by (try dsimp only); exact znmN (znm1 (x := v22) F1 F4 (by omega) i30 F35 F38 (by omega) (by omega)) (by omega) (by omega) (by omega), by (try dsimp only); exact fun z => absurd z (by omega), by (try dsimp only); omega, by (try dsimp only); omega⟩, ⟨by rw [ht]; exact hP, hD⟩⟩, hS.F ht⟩) hS.2.2 dX11_number_108
      · have c74 : ¬ v71.toInt = 0 := z6 rfl (by decide) c74
        refine lv_aload_n hx hb dX11_number_77 rfl (lv_at hl 1 rfl) ?_
        obtain ⟨hPc, hDc, hFc⟩ := zc3 (wc := [(h0, .inr (11, [.int th, .ref tB, .int tsz, .int v30, .int (-1), .int dp, .ref rC, .ref rV, .ref rD, .ref rK, .ref rT, .ref rS, .ref rU, .int lw, .int tx, .ref rL, .ref rX, .ref qR, .ref qB, .ref qP, .int qnb, .int qnp, .ref aR, .ref aB, .ref aP, .int nb, .int np, .ref aN, .ref rf, .int ho, .int br, .ref aK, .int ac, .long dw, .ref aE, .int sr, .int sf, .ref aA, .ref aH, .ref aI, .int hi]))]) hP hD hS hA [0] (by decide +kernel) rfl
        refine va_callv (va_runV (As := []) (rest := []) ⟨hx, hb, hml, hown, hts⟩ (g_X11_bad_m l dC dI cI cJ h0 th tB tsz v30 dp rC rV rD rK rT rS rU lw tx rL rX qR qB qP qnb qnp aR aB aP nb np aN rf ho br aK ac dw aE sr sf aA aH aI hi H.size y_ac y_hi y_ho y_lw y_nb y_np y_qnb y_qnp (by omega) n_tsz) (cwV 0 hts (zgV qw1301 qw1303 qw36 qw108 qw1304) rfl rfl rfl hd_X11_bad ⟨by rw [hR]; exact Nat.le_of_ble_eq_true rfl, by rw [hR]; exact Nat.le_of_ble_eq_true rfl⟩) (zPV hPc hK hDc (va_recv (q := (RX11, TX11, 41)) hK hP (ci := 11) (q0 := 0) rfl rfl)) rfl rfl hl.1 rfl (lv_room (Nat.le_of_ble_eq_true rfl)) dX11_number_78 ⟨Nat.zero_le _, Nat.zero_le _⟩) hS (fun q _ h => hFc q h) hFc (fun u78 t H locs ht hvm hw hB hz1 hk1 hS9 => ?_)
        obtain ⟨hP9, hD9⟩ := zj2 (wX := [(h0, .inr (11, [.int th, .ref tB, .int tsz, .int v30, .int v30, .int dp, .ref rC, .ref rV, .ref rD, .ref rK, .ref rT, .ref rS, .ref rU, .int lw, .int tx, .ref rL, .ref rX, .ref qR, .ref qB, .ref qP, .int qnb, .int qnp, .ref aR, .ref aB, .ref aP, .int nb, .int np, .ref aN, .ref rf, .int ho, .int br, .ref aK, .int ac, .long dw, .ref aE, .int sr, .int sf, .ref aA, .ref aH, .ref aI, .int hi])), (tB, .inl (cI, 240, .inl fB))]) hP hD hk1 hFc ht hB [0] [(true, 0), (false, 1)] rfl (by decide +kernel) (by decide +kernel) rfl
        clear hP hD hS hPc hDc hFc hB hk1 hz1 hvm
        have hP := hP9
        have hD := hD9
        have hS := hS9
        clear hP9 hD9 hS9
        refine lv_goto (tgt := 107) hx hb dX11_number_81 (by decide) ?_
        refine lv_iload_n hx hb dX11_number_107 rfl (lv_at hl 0 rfl) ?_
        rw [hQ]
        exact W.iret (v := v22) hx hb hr (fun t ht hW => ⟨⟨v22, (v30, v30), rfl, ⟨by (try dsimp only); omega, by (try dsimp only); omega, by (try dsimp only); omega, by (try dsimp only); omega, by (try dsimp only); omega, by (try dsimp only); omega, by (try dsimp only); exact zpnX F35 F38 (by omega) F68 F71 (by omega), by (try dsimp only); exact fun z => absurd z (by omega), by (try dsimp only); omega, by (try dsimp only); omega⟩, ⟨by rw [ht]; exact hP, hD⟩⟩, hS.F ht⟩) hS.2.2 dX11_number_108
    · have c41 : ¬ v38.toInt = 0 := z6 rfl (by decide) c41
      refine lv_bipush (v := 10) hx hb dX11_number_44 (by decide) ?_
      refine lv_iload_n hx hb dX11_number_46 rfl (lv_at hl 0 rfl) ?_
      refine lv_imul hx hb dX11_number_47 ?_
      refine lv_topi (fun v47 e47 => ?_)
      have i47 : v47.toInt = 10 * v22.toInt := zmul e47 (by decide) rfl (by omega) (by omega)
      refine lv_aload_n hx hb dX11_number_48 rfl (lv_at hl 1 rfl) ?_
      obtain ⟨hPc, hDc⟩ := zc2 (wc := [(h0, .inr (11, [.int th, .ref tB, .int tsz, .int v30, .int (-1), .int dp, .ref rC, .ref rV, .ref rD, .ref rK, .ref rT, .ref rS, .ref rU, .int lw, .int tx, .ref rL, .ref rX, .ref qR, .ref qB, .ref qP, .int qnb, .int qnp, .ref aR, .ref aB, .ref aP, .int nb, .int np, .ref aN, .ref rf, .int ho, .int br, .ref aK, .int ac, .long dw, .ref aE, .int sr, .int sf, .ref aA, .ref aH, .ref aI, .int hi])), (tB, .inl (cI, 240, .inl fB))]) hP hD [0, 1] (by decide +kernel) rfl
      have hFc := zfr hS hA
      refine va_calli (va_runV (As := []) (rest := [.int v47]) ⟨hx, hb, hml, hown, hts⟩ (g_X11_here l dC dI cI cJ h0 th tB tsz v30 ((-1)) dp rC rV rD rK rT rS rU lw tx rL rX qR qB qP qnb qnp aR aB aP nb np aN rf ho br aK ac dw aE sr sf aA aH aI hi fB H.size y_ac y_hi y_ho y_lw y_nb y_np y_qnb y_qnp (by omega) n_tsz (by decide)) (cwV 0 hts (zgV qw1277 qw1279 qw33 qw108 qw1280) rfl rfl rfl hd_X11_here ⟨by rw [hR]; exact Nat.le_of_ble_eq_true rfl, by rw [hR]; exact Nat.le_of_ble_eq_true rfl⟩) (zPV hPc hK hDc (va_recv (q := (RX11, TX11, 41)) hK hP (ci := 11) (q0 := 0) rfl rfl)) rfl rfl hl.1 rfl (lv_room (Nat.le_of_ble_eq_true rfl)) dX11_number_49 ⟨Nat.zero_le _, Nat.zero_le _⟩) hS (fun q _ h => hFc q h) hFc (fun v49 u49 t H locs ht hvm hw hB hz1 hk1 hS9 => ?_)
      replace hP := zkeep hP hk1
      replace hS := hS9
      clear hPc hDc hFc hk1 hz1 hvm hS9
      obtain ⟨f49_0, f49_1⟩ : (¬ v49.toInt = -1 → v30.toInt < tsz.toInt) ∧ (v49.toInt = sB fB tsz.toInt v30.toInt) := hw
      have F49 := f49_1
      have y49 : 48 ≤ v49.toInt ∧ v49.toInt ≤ 57 := by have := oG_iff.mp (zIs_t F38 (by omega)); omega
      refine lv_iadd hx hb dX11_number_52 ?_
      refine lv_topi (fun v52 e52 => ?_)
      have i52 : v52.toInt = v47.toInt + v49.toInt := zadd e52 rfl rfl (by omega) (by omega)
      refine lv_bipush (v := 48) hx hb dX11_number_53 (by decide) ?_
      refine lv_isub hx hb dX11_number_55 ?_
      refine lv_topi (fun v55 e55 => ?_)
      have i55 : v55.toInt = v52.toInt - 48 := zsub e55 rfl (by decide) (by omega) (by omega)
      refine lv_istore_n (lv' := [(3, .int v55), (0, .ref h0), (1, .int 0), (2, .int p1)]) hx hb dX11_number_56 rfl hl (by decide) rfl (fun ls hl => ?_)
      refine lv_aload_n hx hb dX11_number_57 rfl (lv_at hl 1 rfl) ?_
      refine lv_dup hx hb dX11_number_58 rfl ?_
      refine va_get (D := (dC, dI)) (ci := 11) (v := .int v30) (C := RX11) (T := TX11) (N := 41) hx hb hts iX11 hown hK hP 0 rfl rfl 3 (by decide) (hts _ qw1130) (fun _ h9 => h9) rfl dX11_number_59 ?_
      refine lv_iconst (v := 1) hx hb dX11_number_62 (by decide) ?_
      refine lv_iadd hx hb dX11_number_63 ?_
      refine lv_topi (fun v63 e63 => ?_)
      have i63 : v63.toInt = v30.toInt + 1 := zadd e63 rfl (by decide) (by omega) (by omega)
      refine va_put (D := (dC, dI)) (ci := 11) (v := .int v63) (ty := .int) (C := RX11) (T := TX11) (N := 41) hx hb hts iX11 tyX11 tyX11_ok nmX11 hown hK hP hD hS 0 rfl rfl 3 (by decide) (hts _ qw1130) (fun _ h9 => h9) rfl (by decide +kernel) rfl rfl (Nat.le_of_ble_eq_true rfl) dX11_number_64 (fun H locs hP9 hD9 hS9 => ?_)
      clear hP hD hS
      obtain ⟨hP, hD⟩ := zst (wX := [(h0, .inr (11, [.int th, .ref tB, .int tsz, .int v63, .int (-1), .int dp, .ref rC, .ref rV, .ref rD, .ref rK, .ref rT, .ref rS, .ref rU, .int lw, .int tx, .ref rL, .ref rX, .ref qR, .ref qB, .ref qP, .int qnb, .int qnp, .ref aR, .ref aB, .ref aP, .int nb, .int np, .ref aN, .ref rf, .int ho, .int br, .ref aK, .int ac, .long dw, .ref aE, .int sr, .int sf, .ref aA, .ref aH, .ref aI, .int hi])), (tB, .inl (cI, 240, .inl fB))]) hP9 hD9 rfl
      have hS := hS9
      clear hP9 hD9 hS9
      refine lv_aload_n hx hb dX11_number_67 rfl (lv_at hl 1 rfl) ?_
      obtain ⟨hPc, hDc⟩ := zc2 (wc := [(h0, .inr (11, [.int th, .ref tB, .int tsz, .int v63, .int (-1), .int dp, .ref rC, .ref rV, .ref rD, .ref rK, .ref rT, .ref rS, .ref rU, .int lw, .int tx, .ref rL, .ref rX, .ref qR, .ref qB, .ref qP, .int qnb, .int qnp, .ref aR, .ref aB, .ref aP, .int nb, .int np, .ref aN, .ref rf, .int ho, .int br, .ref aK, .int ac, .long dw, .ref aE, .int sr, .int sf, .ref aA, .ref aH, .ref aI, .int hi])), (tB, .inl (cI, 240, .inl fB))]) hP hD [0, 1] (by decide +kernel) rfl
      have hFc := zfr hS hA
      refine va_calli (va_runV (As := []) (rest := []) ⟨hx, hb, hml, hown, hts⟩ (g_X11_here l dC dI cI cJ h0 th tB tsz v63 ((-1)) dp rC rV rD rK rT rS rU lw tx rL rX qR qB qP qnb qnp aR aB aP nb np aN rf ho br aK ac dw aE sr sf aA aH aI hi fB H.size y_ac y_hi y_ho y_lw y_nb y_np y_qnb y_qnp (by omega) n_tsz (by decide)) (cwV 0 hts (zgV qw1277 qw1279 qw33 qw108 qw1280) rfl rfl rfl hd_X11_here ⟨by rw [hR]; exact Nat.le_of_ble_eq_true rfl, by rw [hR]; exact Nat.le_of_ble_eq_true rfl⟩) (zPV hPc hK hDc (va_recv (q := (RX11, TX11, 41)) hK hP (ci := 11) (q0 := 0) rfl rfl)) rfl rfl hl.1 rfl (lv_room (Nat.le_of_ble_eq_true rfl)) dX11_number_68 ⟨Nat.zero_le _, Nat.zero_le _⟩) hS (fun q _ h => hFc q h) hFc (fun v68 u68 t H locs ht hvm hw hB hz1 hk1 hS9 => ?_)
      replace hP := zkeep hP hk1
      replace hS := hS9
      clear hPc hDc hFc hk1 hz1 hvm hS9
      obtain ⟨f68_0, f68_1⟩ : (¬ v68.toInt = -1 → v63.toInt < tsz.toInt) ∧ (v68.toInt = sB fB tsz.toInt v63.toInt) := hw
      have F68 := f68_1
      have hPc : va_P (dC, dI) vwCl [] H := zP0
      have hDc : va_D (fun _ => True) [] := zD0
      have hFc := zfr hS hA
      refine va_calli (va_runS (As := [.int v68]) (rest := []) ⟨hx, hb, hml, hown, hts⟩ (g_X11_isDigit l dC dI cI cJ v68 H.size) (cwS 1 hts (zgS qw1298 qw1299 qw108 qw1300) rfl rfl rfl hd_X11_isDigit ⟨by rw [hR]; exact Nat.le_of_ble_eq_true rfl, by rw [hR]; exact Nat.le_of_ble_eq_true rfl⟩) (zPS hPc hK hDc) rfl rfl hl.1 rfl (lv_room (Nat.le_of_ble_eq_true rfl)) dX11_number_71 ⟨Nat.zero_le _, Nat.zero_le _⟩) hS (fun q _ h => hFc q h) hFc (fun v71 u71 t H locs ht hvm hw hB hz1 hk1 hS9 => ?_)
      replace hP := zkeep hP hk1
      replace hS := hS9
      clear hPc hDc hFc hk1 hz1 hvm hS9
      obtain ⟨f71_0, f71_1, f71_2, f71_3⟩ : (0 ≤ v71.toInt) ∧ (v71.toInt ≤ 1) ∧ (¬ v71.toInt = 0 → (48 ≤ v68.toInt ∧ v68.toInt ≤ 57)) ∧ (zIs (oG v68.toInt) v71) := hw
      have F71 := f71_3
      refine lv_if_eq (tgt := 84) hx hb dX11_number_74 (by decide) (fun c74 => ?_) (fun c74 => ?_)
      · have c74 : v71.toInt = 0 := z5 rfl (by decide) c74
        refine lv_iload_n hx hb dX11_number_84 rfl (lv_at hl 0 rfl) ?_
        refine lv_iload_n hx hb dX11_number_85 rfl (lv_at hl 2 rfl) ?_
        refine lv_iload_n hx hb dX11_number_86 rfl (lv_at hl 3 rfl) ?_
        have hPc : va_P (dC, dI) vwCl [] H := zP0
        have hDc : va_D (fun _ => True) [] := zD0
        have hFc := zfr hS hA
        refine va_calli (va_runS (As := [.int v55, .int 0, .int p1]) (rest := []) ⟨hx, hb, hml, hown, hts⟩ (g_X11_in l dC dI cI cJ v55 0 p1 H.size) (cwS 3 hts (zgS qw1305 qw1306 qw108 qw1307) rfl rfl rfl hd_X11_in ⟨by rw [hR]; exact Nat.le_of_ble_eq_true rfl, by rw [hR]; exact Nat.le_of_ble_eq_true rfl⟩) (zPS hPc hK hDc) rfl rfl hl.1 rfl (lv_room (Nat.le_of_ble_eq_true rfl)) dX11_number_87 ⟨Nat.zero_le _, Nat.zero_le _⟩) hS (fun q _ h => hFc q h) hFc (fun v87 u87 t H locs ht hvm hw hB hz1 hk1 hS9 => ?_)
        replace hP := zkeep hP hk1
        replace hS := hS9
        clear hPc hDc hFc hk1 hz1 hvm hS9
        have zn87_0 : (0 : Int32).toInt = 0 := by decide
        obtain ⟨f87_0, f87_1, f87_2, f87_3⟩ : (0 ≤ v87.toInt) ∧ (v87.toInt ≤ 1) ∧ (¬ v87.toInt = 0 → ((0 : Int32).toInt ≤ v55.toInt ∧ v55.toInt ≤ p1.toInt)) ∧ (v87.toInt = 0 → (v55.toInt < (0 : Int32).toInt ∨ p1.toInt < v55.toInt)) := hw
        refine lv_if_ne (tgt := 107) hx hb dX11_number_90 (by decide) (fun c90 => ?_) (fun c90 => ?_)
        · have c90 : ¬ v87.toInt = 0 := z6 rfl (by decide) c90
          refine lv_iload_n hx hb dX11_number_107 rfl (lv_at hl 0 rfl) ?_
          have zr2 : ((-1) : Int32).toInt = (-1) := by decide
          rw [hQ]
          exact W.iret (v := v55) hx hb hr (fun t ht hW => ⟨⟨v55, (v63, (-1)), rfl, ⟨by (try dsimp only); omega, by (try dsimp only); omega, by (try dsimp only); omega, by (try dsimp only); omega, by (try dsimp only); omega, by (try dsimp only); omega, by (try dsimp only); exact znmY (znm3 (x := v55) F1 F4 (by omega) i30 F35 F38 (by omega) i63 F68 F71 (by omega) (by omega)) (by omega) (by decide) (by omega), by (try dsimp only); exact fun _ => znv2 (x := v55) F1 i30 F35 F38 (by omega) (by omega), by (try dsimp only); omega, by (try dsimp only); omega⟩, ⟨by rw [ht]; exact hP, hD⟩⟩, hS.F ht⟩) hS.2.2 dX11_number_108
        · have c90 : v87.toInt = 0 := z5 rfl (by decide) c90
          refine lv_aload_n hx hb dX11_number_93 rfl (lv_at hl 1 rfl) ?_
          refine lv_dup hx hb dX11_number_94 rfl ?_
          refine va_get (D := (dC, dI)) (ci := 11) (v := .int v63) (C := RX11) (T := TX11) (N := 41) hx hb hts iX11 hown hK hP 0 rfl rfl 3 (by decide) (hts _ qw1130) (fun _ h9 => h9) rfl dX11_number_95 ?_
          refine lv_iconst (v := 1) hx hb dX11_number_98 (by decide) ?_
          refine lv_isub hx hb dX11_number_99 ?_
          refine lv_topi (fun v99 e99 => ?_)
          have i99 : v99.toInt = v63.toInt - 1 := zsub e99 rfl (by decide) (by omega) (by omega)
          refine va_put (D := (dC, dI)) (ci := 11) (v := .int v99) (ty := .int) (C := RX11) (T := TX11) (N := 41) hx hb hts iX11 tyX11 tyX11_ok nmX11 hown hK hP hD hS 0 rfl rfl 3 (by decide) (hts _ qw1130) (fun _ h9 => h9) rfl (by decide +kernel) rfl rfl (Nat.le_of_ble_eq_true rfl) dX11_number_100 (fun H locs hP9 hD9 hS9 => ?_)
          clear hP hD hS
          obtain ⟨hP, hD⟩ := zst (wX := [(h0, .inr (11, [.int th, .ref tB, .int tsz, .int v99, .int (-1), .int dp, .ref rC, .ref rV, .ref rD, .ref rK, .ref rT, .ref rS, .ref rU, .int lw, .int tx, .ref rL, .ref rX, .ref qR, .ref qB, .ref qP, .int qnb, .int qnp, .ref aR, .ref aB, .ref aP, .int nb, .int np, .ref aN, .ref rf, .int ho, .int br, .ref aK, .int ac, .long dw, .ref aE, .int sr, .int sf, .ref aA, .ref aH, .ref aI, .int hi])), (tB, .inl (cI, 240, .inl fB))]) hP9 hD9 rfl
          have hS := hS9
          clear hP9 hD9 hS9
          refine lv_aload_n hx hb dX11_number_103 rfl (lv_at hl 1 rfl) ?_
          obtain ⟨hPc, hDc, hFc⟩ := zc3 (wc := [(h0, .inr (11, [.int th, .ref tB, .int tsz, .int v99, .int (-1), .int dp, .ref rC, .ref rV, .ref rD, .ref rK, .ref rT, .ref rS, .ref rU, .int lw, .int tx, .ref rL, .ref rX, .ref qR, .ref qB, .ref qP, .int qnb, .int qnp, .ref aR, .ref aB, .ref aP, .int nb, .int np, .ref aN, .ref rf, .int ho, .int br, .ref aK, .int ac, .long dw, .ref aE, .int sr, .int sf, .ref aA, .ref aH, .ref aI, .int hi]))]) hP hD hS hA [0] (by decide +kernel) rfl
          refine va_callv (va_runV (As := []) (rest := []) ⟨hx, hb, hml, hown, hts⟩ (g_X11_bad_m l dC dI cI cJ h0 th tB tsz v99 dp rC rV rD rK rT rS rU lw tx rL rX qR qB qP qnb qnp aR aB aP nb np aN rf ho br aK ac dw aE sr sf aA aH aI hi H.size y_ac y_hi y_ho y_lw y_nb y_np y_qnb y_qnp (by omega) n_tsz) (cwV 0 hts (zgV qw1301 qw1303 qw36 qw108 qw1304) rfl rfl rfl hd_X11_bad ⟨by rw [hR]; exact Nat.le_of_ble_eq_true rfl, by rw [hR]; exact Nat.le_of_ble_eq_true rfl⟩) (zPV hPc hK hDc (va_recv (q := (RX11, TX11, 41)) hK hP (ci := 11) (q0 := 0) rfl rfl)) rfl rfl hl.1 rfl (lv_room (Nat.le_of_ble_eq_true rfl)) dX11_number_104 ⟨Nat.zero_le _, Nat.zero_le _⟩) hS (fun q _ h => hFc q h) hFc (fun u104 t H locs ht hvm hw hB hz1 hk1 hS9 => ?_)
          obtain ⟨hP9, hD9⟩ := zj2 (wX := [(h0, .inr (11, [.int th, .ref tB, .int tsz, .int v99, .int v99, .int dp, .ref rC, .ref rV, .ref rD, .ref rK, .ref rT, .ref rS, .ref rU, .int lw, .int tx, .ref rL, .ref rX, .ref qR, .ref qB, .ref qP, .int qnb, .int qnp, .ref aR, .ref aB, .ref aP, .int nb, .int np, .ref aN, .ref rf, .int ho, .int br, .ref aK, .int ac, .long dw, .ref aE, .int sr, .int sf, .ref aA, .ref aH, .ref aI, .int hi])), (tB, .inl (cI, 240, .inl fB))]) hP hD hk1 hFc ht hB [0] [(true, 0), (false, 1)] rfl (by decide +kernel) (by decide +kernel) rfl
          clear hP hD hS hPc hDc hFc hB hk1 hz1 hvm
          have hP := hP9
          have hD := hD9
          have hS := hS9
          clear hP9 hD9 hS9
          refine lv_iload_n hx hb dX11_number_107 rfl (lv_at hl 0 rfl) ?_
          rw [hQ]
          exact W.iret (v := v55) hx hb hr (fun t ht hW => ⟨⟨v55, (v99, v99), rfl, ⟨by (try dsimp only); omega, by (try dsimp only); omega, by (try dsimp only); omega, by (try dsimp only); omega, by (try dsimp only); omega, by (try dsimp only); omega, by (try dsimp only); exact znmN (znm3 (x := v55) F1 F4 (by omega) i30 F35 F38 (by omega) i63 F68 F71 (by omega) (by omega)) (by omega) (by omega) (by omega), by (try dsimp only); exact fun z => absurd z (by omega), by (try dsimp only); omega, by (try dsimp only); omega⟩, ⟨by rw [ht]; exact hP, hD⟩⟩, hS.F ht⟩) hS.2.2 dX11_number_108
      · have c74 : ¬ v71.toInt = 0 := z6 rfl (by decide) c74
        refine lv_aload_n hx hb dX11_number_77 rfl (lv_at hl 1 rfl) ?_
        obtain ⟨hPc, hDc, hFc⟩ := zc3 (wc := [(h0, .inr (11, [.int th, .ref tB, .int tsz, .int v63, .int (-1), .int dp, .ref rC, .ref rV, .ref rD, .ref rK, .ref rT, .ref rS, .ref rU, .int lw, .int tx, .ref rL, .ref rX, .ref qR, .ref qB, .ref qP, .int qnb, .int qnp, .ref aR, .ref aB, .ref aP, .int nb, .int np, .ref aN, .ref rf, .int ho, .int br, .ref aK, .int ac, .long dw, .ref aE, .int sr, .int sf, .ref aA, .ref aH, .ref aI, .int hi]))]) hP hD hS hA [0] (by decide +kernel) rfl
        refine va_callv (va_runV (As := []) (rest := []) ⟨hx, hb, hml, hown, hts⟩ (g_X11_bad_m l dC dI cI cJ h0 th tB tsz v63 dp rC rV rD rK rT rS rU lw tx rL rX qR qB qP qnb qnp aR aB aP nb np aN rf ho br aK ac dw aE sr sf aA aH aI hi H.size y_ac y_hi y_ho y_lw y_nb y_np y_qnb y_qnp (by omega) n_tsz) (cwV 0 hts (zgV qw1301 qw1303 qw36 qw108 qw1304) rfl rfl rfl hd_X11_bad ⟨by rw [hR]; exact Nat.le_of_ble_eq_true rfl, by rw [hR]; exact Nat.le_of_ble_eq_true rfl⟩) (zPV hPc hK hDc (va_recv (q := (RX11, TX11, 41)) hK hP (ci := 11) (q0 := 0) rfl rfl)) rfl rfl hl.1 rfl (lv_room (Nat.le_of_ble_eq_true rfl)) dX11_number_78 ⟨Nat.zero_le _, Nat.zero_le _⟩) hS (fun q _ h => hFc q h) hFc (fun u78 t H locs ht hvm hw hB hz1 hk1 hS9 => ?_)
        obtain ⟨hP9, hD9⟩ := zj2 (wX := [(h0, .inr (11, [.int th, .ref tB, .int tsz, .int v63, .int v63, .int dp, .ref rC, .ref rV, .ref rD, .ref rK, .ref rT, .ref rS, .ref rU, .int lw, .int tx, .ref rL, .ref rX, .ref qR, .ref qB, .ref qP, .int qnb, .int qnp, .ref aR, .ref aB, .ref aP, .int nb, .int np, .ref aN, .ref rf, .int ho, .int br, .ref aK, .int ac, .long dw, .ref aE, .int sr, .int sf, .ref aA, .ref aH, .ref aI, .int hi])), (tB, .inl (cI, 240, .inl fB))]) hP hD hk1 hFc ht hB [0] [(true, 0), (false, 1)] rfl (by decide +kernel) (by decide +kernel) rfl
        clear hP hD hS hPc hDc hFc hB hk1 hz1 hvm
        have hP := hP9
        have hD := hD9
        have hS := hS9
        clear hP9 hD9 hS9
        refine lv_goto (tgt := 107) hx hb dX11_number_81 (by decide) ?_
        refine lv_iload_n hx hb dX11_number_107 rfl (lv_at hl 0 rfl) ?_
        rw [hQ]
        exact W.iret (v := v55) hx hb hr (fun t ht hW => ⟨⟨v55, (v63, v63), rfl, ⟨by (try dsimp only); omega, by (try dsimp only); omega, by (try dsimp only); omega, by (try dsimp only); omega, by (try dsimp only); omega, by (try dsimp only); omega, by (try dsimp only); exact znm2 F1 F4 (by omega) i30 F35 F38 (by omega) i63 F68 F71 (by omega) (by omega) (by omega), by (try dsimp only); exact fun z => absurd z (by omega), by (try dsimp only); omega, by (try dsimp only); omega⟩, ⟨by rw [ht]; exact hP, hD⟩⟩, hS.F ht⟩) hS.2.2 dX11_number_108
  · have c7 : v4.toInt = 0 := z5 rfl (by decide) c7
    refine lv_aload_n hx hb dX11_number_10 rfl (lv_at hl 0 rfl) ?_
    obtain ⟨hPc, hDc, hFc⟩ := zc3 (wc := [(h0, .inr (11, [.int th, .ref tB, .int tsz, .int u1_0, .int (-1), .int dp, .ref rC, .ref rV, .ref rD, .ref rK, .ref rT, .ref rS, .ref rU, .int lw, .int tx, .ref rL, .ref rX, .ref qR, .ref qB, .ref qP, .int qnb, .int qnp, .ref aR, .ref aB, .ref aP, .int nb, .int np, .ref aN, .ref rf, .int ho, .int br, .ref aK, .int ac, .long dw, .ref aE, .int sr, .int sf, .ref aA, .ref aH, .ref aI, .int hi]))]) hP hD hS hA [0] (by decide +kernel) rfl
    refine va_callv (va_runV (As := []) (rest := []) ⟨hx, hb, hml, hown, hts⟩ (g_X11_bad_m l dC dI cI cJ h0 th tB tsz u1_0 dp rC rV rD rK rT rS rU lw tx rL rX qR qB qP qnb qnp aR aB aP nb np aN rf ho br aK ac dw aE sr sf aA aH aI hi H.size y_ac y_hi y_ho y_lw y_nb y_np y_qnb y_qnp (by omega) n_tsz) (cwV 0 hts (zgV qw1301 qw1303 qw36 qw108 qw1304) rfl rfl rfl hd_X11_bad ⟨by rw [hR]; exact Nat.le_of_ble_eq_true rfl, by rw [hR]; exact Nat.le_of_ble_eq_true rfl⟩) (zPV hPc hK hDc (va_recv (q := (RX11, TX11, 41)) hK hP (ci := 11) (q0 := 0) rfl rfl)) rfl rfl hl.1 rfl (lv_room (Nat.le_of_ble_eq_true rfl)) dX11_number_11 ⟨Nat.zero_le _, Nat.zero_le _⟩) hS (fun q _ h => hFc q h) hFc (fun u11 t H locs ht hvm hw hB hz1 hk1 hS9 => ?_)
    obtain ⟨hP9, hD9⟩ := zj2 (wX := [(h0, .inr (11, [.int th, .ref tB, .int tsz, .int u1_0, .int u1_0, .int dp, .ref rC, .ref rV, .ref rD, .ref rK, .ref rT, .ref rS, .ref rU, .int lw, .int tx, .ref rL, .ref rX, .ref qR, .ref qB, .ref qP, .int qnb, .int qnp, .ref aR, .ref aB, .ref aP, .int nb, .int np, .ref aN, .ref rf, .int ho, .int br, .ref aK, .int ac, .long dw, .ref aE, .int sr, .int sf, .ref aA, .ref aH, .ref aI, .int hi])), (tB, .inl (cI, 240, .inl fB))]) hP hD hk1 hFc ht hB [0] [(true, 0), (false, 1)] rfl (by decide +kernel) (by decide +kernel) rfl
    clear hP hD hS hPc hDc hFc hB hk1 hz1 hvm
    have hP := hP9
    have hD := hD9
    have hS := hS9
    clear hP9 hD9 hS9
    refine lv_iload_n hx hb dX11_number_14 rfl (lv_at hl 1 rfl) ?_
    have zr0 : (0 : Int32).toInt = 0 := by decide
    rw [hQ]
    exact W.iret (v := 0) hx hb hr (fun t ht hW => ⟨⟨0, (u1_0, u1_0), rfl, ⟨by (try dsimp only); omega, by (try dsimp only); omega, by (try dsimp only); omega, by (try dsimp only); omega, by (try dsimp only); omega, by (try dsimp only); omega, by (try dsimp only); exact znmA F1 F4 (by omega) (by omega) (by omega), by (try dsimp only); exact fun z => absurd z (by omega), by (try dsimp only); omega, by (try dsimp only); omega⟩, ⟨by rw [ht]; exact hP, hD⟩⟩, hS.F ht⟩) hS.2.2 dX11_number_15
set_option maxHeartbeats 4000000 in
set_option maxRecDepth 100000 in
theorem g_X11_itemOf_s (l : Launch) (dC : Nat → ClassId) (dI : Nat → Nat → Nat) (cI cJ : ClassId) (p1 : Int32) (sz : Nat)     : Met l yX11_itemOf (.code yX11_itemOf cX11_itemOf 2 (some .int) :: wA) ({ frames := 0, cells := 0, slots := 0, locals := 0 }) (zP (dC, dI) [(cI, .int), (cJ, .long)] [.int 115, .int p1] sz []) (va_Qi (fun (r : Int32) (u : Unit) => ((-1) ≤ r.toInt) ∧ (r.toInt ≤ 2) ∧ (0 ≤ r.toInt → 97 ≤ p1.toInt) ∧ (r = cIt 0 p1.toInt)) (fun (_ : Unit) (_ : State) => True) (va_A [] sz)) 0 0 (va_A [] sz) := by
  refine Met.ofW (cc := cX11_itemOf) (maxL := 2) (ret := (some .int)) (by decide) rfl ?_
  intro p e s m args below meth c s₁ B hml hv
  obtain ⟨hargs, hsz, hP, hK, hT⟩ := hv
  have hx := B.exec
  have hb := B.bytes
  have hr := B.returns
  have hts : ∀ w ∈ wA, w.before args s = true := fun w h => atoms_spec (ws := .code yX11_itemOf cX11_itemOf 2 (some .int) :: wA) B.pre w (List.mem_cons_of_mem _ h)
  have hown : s.vm.findClass RX11 = some m.cls := findClass_of_methodNamed B.named
  have hlocks := B.notSynchronized
  subst hsz
  have hD : va_D (va_A [] s.heap.size) [] := zD0
  generalize hAe : va_A [] s.heap.size = A at hD ⊢
  have hA : ∀ q : Nat, s.heap.size ≤ q → A q := fun q h => by rw [← hAe]; exact Or.inr h
  have hl := lv_entry ([.int 115, .int p1]) (n := 2) (Nat.le_of_ble_eq_true rfl)
  rw [show entryFrame m args 2 = entryFrame m ([.int 115, .int p1] : List Value).toArray 2 by rw [hargs], lg_entry_eq]
  generalize (lg_sl ([.int 115, .int p1]) ++ List.replicate (2 - (lg_sl ([.int 115, .int p1])).length) Slot.unset).toArray = ls at hl ⊢
  have hl : lv_has ls 2 [(0, .int 115), (1, .int p1)] := hl
  refine zstart (fun H hH => ?_)
  rw [← hH] at hP
  have hS : va_S A s.heap H [] := by rw [hH]; exact va_S.rf
  generalize ([] : List Loc) = locs at hS ⊢
  refine zgen (fun R Q hR hQ => ?_)
  refine lv_iload_n hx hb dX11_itemOf_0 rfl (lv_at hl 0 rfl) ?_
  refine lv_lookup (off := 27) (tgt := 28) hx hb dX11_itemOf_1 (by decide) (by decide) (by decide) ?_
  refine lv_iload_n hx hb dX11_itemOf_28 rfl (lv_at hl 1 rfl) ?_
  refine lv_bipush (v := 112) hx hb dX11_itemOf_29 (by decide) ?_
  refine lv_icmp_ne (tgt := 38) hx hb dX11_itemOf_31 (by decide) (fun c31 => ?_) (fun c31 => ?_)
  · have c31 : ¬ p1.toInt = 112 := z6 rfl (by decide) c31
    refine lv_iload_n hx hb dX11_itemOf_38 rfl (lv_at hl 1 rfl) ?_
    refine lv_bipush (v := 102) hx hb dX11_itemOf_39 (by decide) ?_
    refine lv_icmp_ne (tgt := 48) hx hb dX11_itemOf_41 (by decide) (fun c41 => ?_) (fun c41 => ?_)
    · have c41 : ¬ p1.toInt = 102 := z6 rfl (by decide) c41
      refine lv_iload_n hx hb dX11_itemOf_48 rfl (lv_at hl 1 rfl) ?_
      refine lv_bipush (v := 100) hx hb dX11_itemOf_49 (by decide) ?_
      refine lv_icmp_ne (tgt := 58) hx hb dX11_itemOf_51 (by decide) (fun c51 => ?_) (fun c51 => ?_)
      · have c51 : ¬ p1.toInt = 100 := z6 rfl (by decide) c51
        refine lv_iconst (v := (-1)) hx hb dX11_itemOf_58 (by decide) ?_
        have zr0 : ((-1) : Int32).toInt = (-1) := by decide
        rw [hQ]
        exact W.iret (v := ((-1))) hx hb hr (fun t ht hW => ⟨⟨(-1), (), rfl, ⟨by (try dsimp only); omega, by (try dsimp only); omega, by (try dsimp only); omega, by (try dsimp only); show (-1 : Int32) = (if p1.toInt = 112 then (0 : Int32) else if p1.toInt = 102 then 1 else if p1.toInt = 100 then 2 else -1); rw [if_neg (by omega), if_neg (by omega), if_neg (by omega)]⟩, trivial⟩, hS.F ht⟩) hS.2.2 dX11_itemOf_59
      · have c51 : p1.toInt = 100 := z5 rfl (by decide) c51
        refine lv_iconst (v := 2) hx hb dX11_itemOf_54 (by decide) ?_
        refine lv_goto (tgt := 59) hx hb dX11_itemOf_55 (by decide) ?_
        have zr0 : (2 : Int32).toInt = 2 := by decide
        rw [hQ]
        exact W.iret (v := 2) hx hb hr (fun t ht hW => ⟨⟨2, (), rfl, ⟨by (try dsimp only); omega, by (try dsimp only); omega, by (try dsimp only); omega, by (try dsimp only); show (2 : Int32) = (if p1.toInt = 112 then (0 : Int32) else if p1.toInt = 102 then 1 else if p1.toInt = 100 then 2 else -1); rw [if_neg (by omega), if_neg (by omega), if_pos (by omega)]⟩, trivial⟩, hS.F ht⟩) hS.2.2 dX11_itemOf_59
    · have c41 : p1.toInt = 102 := z5 rfl (by decide) c41
      refine lv_iconst (v := 1) hx hb dX11_itemOf_44 (by decide) ?_
      refine lv_goto (tgt := 59) hx hb dX11_itemOf_45 (by decide) ?_
      have zr0 : (1 : Int32).toInt = 1 := by decide
      rw [hQ]
      exact W.iret (v := 1) hx hb hr (fun t ht hW => ⟨⟨1, (), rfl, ⟨by (try dsimp only); omega, by (try dsimp only); omega, by (try dsimp only); omega, by (try dsimp only); show (1 : Int32) = (if p1.toInt = 112 then (0 : Int32) else if p1.toInt = 102 then 1 else if p1.toInt = 100 then 2 else -1); rw [if_neg (by omega), if_pos (by omega)]⟩, trivial⟩, hS.F ht⟩) hS.2.2 dX11_itemOf_59
  · have c31 : p1.toInt = 112 := z5 rfl (by decide) c31
    refine lv_iconst (v := 0) hx hb dX11_itemOf_34 (by decide) ?_
    refine lv_goto (tgt := 59) hx hb dX11_itemOf_35 (by decide) ?_
    have zr0 : (0 : Int32).toInt = 0 := by decide
    rw [hQ]
    exact W.iret (v := 0) hx hb hr (fun t ht hW => ⟨⟨0, (), rfl, ⟨by (try dsimp only); omega, by (try dsimp only); omega, by (try dsimp only); omega, by (try dsimp only); show (0 : Int32) = (if p1.toInt = 112 then (0 : Int32) else if p1.toInt = 102 then 1 else if p1.toInt = 100 then 2 else -1); rw [if_pos (by omega)]⟩, trivial⟩, hS.F ht⟩) hS.2.2 dX11_itemOf_59
set_option maxHeartbeats 4000000 in
set_option maxRecDepth 100000 in
theorem g_X11_highest_s (l : Launch) (dC : Nat → ClassId) (dI : Nat → Nat → Nat) (cI cJ : ClassId) (p1 : Int32) (sz : Nat)     : Met l yX11_highest (.code yX11_highest cX11_highest 2 (some .int) :: wA) ({ frames := 0, cells := 0, slots := 0, locals := 0 }) (zP (dC, dI) [(cI, .int), (cJ, .long)] [.int 115, .int p1] sz []) (va_Qi (fun (r : Int32) (u : Unit) => (9 ≤ r.toInt) ∧ (r.toInt ≤ 99) ∧ (r.toInt = cHi 0 p1)) (fun (_ : Unit) (_ : State) => True) (va_A [] sz)) 0 0 (va_A [] sz) := by
  refine Met.ofW (cc := cX11_highest) (maxL := 2) (ret := (some .int)) (by decide) rfl ?_
  intro p e s m args below meth c s₁ B hml hv
  obtain ⟨hargs, hsz, hP, hK, hT⟩ := hv
  have hx := B.exec
  have hb := B.bytes
  have hr := B.returns
  have hts : ∀ w ∈ wA, w.before args s = true := fun w h => atoms_spec (ws := .code yX11_highest cX11_highest 2 (some .int) :: wA) B.pre w (List.mem_cons_of_mem _ h)
  have hown : s.vm.findClass RX11 = some m.cls := findClass_of_methodNamed B.named
  have hlocks := B.notSynchronized
  subst hsz
  have hD : va_D (va_A [] s.heap.size) [] := zD0
  generalize hAe : va_A [] s.heap.size = A at hD ⊢
  have hA : ∀ q : Nat, s.heap.size ≤ q → A q := fun q h => by rw [← hAe]; exact Or.inr h
  have hl := lv_entry ([.int 115, .int p1]) (n := 2) (Nat.le_of_ble_eq_true rfl)
  rw [show entryFrame m args 2 = entryFrame m ([.int 115, .int p1] : List Value).toArray 2 by rw [hargs], lg_entry_eq]
  generalize (lg_sl ([.int 115, .int p1]) ++ List.replicate (2 - (lg_sl ([.int 115, .int p1])).length) Slot.unset).toArray = ls at hl ⊢
  have hl : lv_has ls 2 [(0, .int 115), (1, .int p1)] := hl
  refine zstart (fun H hH => ?_)
  rw [← hH] at hP
  have hS : va_S A s.heap H [] := by rw [hH]; exact va_S.rf
  generalize ([] : List Loc) = locs at hS ⊢
  refine zgen (fun R Q hR hQ => ?_)
  refine lv_iload_n hx hb dX11_highest_0 rfl (lv_at hl 0 rfl) ?_
  refine lv_lookup (off := 27) (tgt := 28) hx hb dX11_highest_1 (by decide) (by decide) (by decide) ?_
  refine lv_iload_n hx hb dX11_highest_28 rfl (lv_at hl 1 rfl) ?_
  refine lv_if_ne (tgt := 37) hx hb dX11_highest_29 (by decide) (fun c29 => ?_) (fun c29 => ?_)
  · have c29 : ¬ p1.toInt = 0 := z6 rfl (by decide) c29
    refine lv_bipush (v := 9) hx hb dX11_highest_37 (by decide) ?_
    have zr0 : (9 : Int32).toInt = 9 := by decide
    rw [hQ]
    exact W.iret (v := 9) hx hb hr (fun t ht hW => ⟨⟨9, (), rfl, ⟨by (try dsimp only); omega, by (try dsimp only); omega, by (try dsimp only); show (9 : Int32).toInt = (if p1 = 0 then (99 : Int) else 9); rw [if_neg (fun z => by have := congrArg Int32.toInt z; rw [show (0 : Int32).toInt = 0 from by decide] at this; omega)]; decide⟩, trivial⟩, hS.F ht⟩) hS.2.2 dX11_highest_39
  · have c29 : p1.toInt = 0 := z5 rfl (by decide) c29
    refine lv_bipush (v := 99) hx hb dX11_highest_32 (by decide) ?_
    refine lv_goto (tgt := 39) hx hb dX11_highest_34 (by decide) ?_
    have zr0 : (99 : Int32).toInt = 99 := by decide
    rw [hQ]
    exact W.iret (v := 99) hx hb hr (fun t ht hW => ⟨⟨99, (), rfl, ⟨by (try dsimp only); omega, by (try dsimp only); omega, by (try dsimp only); show (99 : Int32).toInt = (if p1 = 0 then (99 : Int) else 9); rw [if_pos (z7 (a := 0) (by decide) (by omega))]; decide⟩, trivial⟩, hS.F ht⟩) hS.2.2 dX11_highest_39
set_option maxHeartbeats 4000000 in
set_option maxRecDepth 100000 in
theorem g_X11_usual_s (l : Launch) (dC : Nat → ClassId) (dI : Nat → Nat → Nat) (cI cJ : ClassId) (p1 : Int32) (sz : Nat)     : Met l yX11_usual (.code yX11_usual cX11_usual 2 (some .int) :: wA) ({ frames := 0, cells := 0, slots := 0, locals := 0 }) (zP (dC, dI) [(cI, .int), (cJ, .long)] [.int 115, .int p1] sz []) (va_Qi (fun (r : Int32) (u : Unit) => (3 ≤ r.toInt) ∧ (r.toInt ≤ 40) ∧ (0 ≤ p1.toInt → r.toInt = cDf 0 p1.toInt.toNat)) (fun (_ : Unit) (_ : State) => True) (va_A [] sz)) 0 0 (va_A [] sz) := by
  refine Met.ofW (cc := cX11_usual) (maxL := 2) (ret := (some .int)) (by decide) rfl ?_
  intro p e s m args below meth c s₁ B hml hv
  obtain ⟨hargs, hsz, hP, hK, hT⟩ := hv
  have hx := B.exec
  have hb := B.bytes
  have hr := B.returns
  have hts : ∀ w ∈ wA, w.before args s = true := fun w h => atoms_spec (ws := .code yX11_usual cX11_usual 2 (some .int) :: wA) B.pre w (List.mem_cons_of_mem _ h)
  have hown : s.vm.findClass RX11 = some m.cls := findClass_of_methodNamed B.named
  have hlocks := B.notSynchronized
  subst hsz
  have hD : va_D (va_A [] s.heap.size) [] := zD0
  generalize hAe : va_A [] s.heap.size = A at hD ⊢
  have hA : ∀ q : Nat, s.heap.size ≤ q → A q := fun q h => by rw [← hAe]; exact Or.inr h
  have hl := lv_entry ([.int 115, .int p1]) (n := 2) (Nat.le_of_ble_eq_true rfl)
  rw [show entryFrame m args 2 = entryFrame m ([.int 115, .int p1] : List Value).toArray 2 by rw [hargs], lg_entry_eq]
  generalize (lg_sl ([.int 115, .int p1]) ++ List.replicate (2 - (lg_sl ([.int 115, .int p1])).length) Slot.unset).toArray = ls at hl ⊢
  have hl : lv_has ls 2 [(0, .int 115), (1, .int p1)] := hl
  refine zstart (fun H hH => ?_)
  rw [← hH] at hP
  have hS : va_S A s.heap H [] := by rw [hH]; exact va_S.rf
  generalize ([] : List Loc) = locs at hS ⊢
  refine zgen (fun R Q hR hQ => ?_)
  refine lv_iload_n hx hb dX11_usual_0 rfl (lv_at hl 0 rfl) ?_
  refine lv_lookup (off := 27) (tgt := 28) hx hb dX11_usual_1 (by decide) (by decide) (by decide) ?_
  refine lv_iload_n hx hb dX11_usual_28 rfl (lv_at hl 1 rfl) ?_
  refine lv_if_ne (tgt := 37) hx hb dX11_usual_29 (by decide) (fun c29 => ?_) (fun c29 => ?_)
  · have c29 : ¬ p1.toInt = 0 := z6 rfl (by decide) c29
    refine lv_iload_n hx hb dX11_usual_37 rfl (lv_at hl 1 rfl) ?_
    refine lv_iconst (v := 1) hx hb dX11_usual_38 (by decide) ?_
    refine lv_icmp_ne (tgt := 46) hx hb dX11_usual_39 (by decide) (fun c39 => ?_) (fun c39 => ?_)
    · have c39 : ¬ p1.toInt = 1 := z6 rfl (by decide) c39
      refine lv_iconst (v := 3) hx hb dX11_usual_46 (by decide) ?_
      have zr0 : (3 : Int32).toInt = 3 := by decide
      rw [hQ]
      exact W.iret (v := 3) hx hb hr (fun t ht hW => ⟨⟨3, (), rfl, ⟨by (try dsimp only); omega, by (try dsimp only); omega, by (try dsimp only); exact fun h0 => by show (3 : Int32).toInt = (fun j : Nat => if j = 0 then (40 : Int) else if j = 1 then (5 : Int) else 3) p1.toInt.toNat; (try dsimp only); rw [if_neg (by omega), if_neg (by omega)]; decide⟩, trivial⟩, hS.F ht⟩) hS.2.2 dX11_usual_47
    · have c39 : p1.toInt = 1 := z5 rfl (by decide) c39
      refine lv_iconst (v := 5) hx hb dX11_usual_42 (by decide) ?_
      refine lv_goto (tgt := 47) hx hb dX11_usual_43 (by decide) ?_
      have zr0 : (5 : Int32).toInt = 5 := by decide
      rw [hQ]
      exact W.iret (v := 5) hx hb hr (fun t ht hW => ⟨⟨5, (), rfl, ⟨by (try dsimp only); omega, by (try dsimp only); omega, by (try dsimp only); exact fun h0 => by show (5 : Int32).toInt = (fun j : Nat => if j = 0 then (40 : Int) else if j = 1 then (5 : Int) else 3) p1.toInt.toNat; (try dsimp only); rw [if_neg (by omega), if_pos (by omega)]; decide⟩, trivial⟩, hS.F ht⟩) hS.2.2 dX11_usual_47
  · have c29 : p1.toInt = 0 := z5 rfl (by decide) c29
    refine lv_bipush (v := 40) hx hb dX11_usual_32 (by decide) ?_
    refine lv_goto (tgt := 47) hx hb dX11_usual_34 (by decide) ?_
    have zr0 : (40 : Int32).toInt = 40 := by decide
    rw [hQ]
    exact W.iret (v := 40) hx hb hr (fun t ht hW => ⟨⟨40, (), rfl, ⟨by (try dsimp only); omega, by (try dsimp only); omega, by (try dsimp only); exact fun h0 => by show (40 : Int32).toInt = (fun j : Nat => if j = 0 then (40 : Int) else if j = 1 then (5 : Int) else 3) p1.toInt.toNat; (try dsimp only); rw [if_pos (by omega)]; decide⟩, trivial⟩, hS.F ht⟩) hS.2.2 dX11_usual_47
set_option maxHeartbeats 4000000 in
set_option maxRecDepth 100000 in
theorem g_X11_itemOf_b (l : Launch) (dC : Nat → ClassId) (dI : Nat → Nat → Nat) (cI cJ : ClassId) (p1 : Int32) (sz : Nat)     : Met l yX11_itemOf (.code yX11_itemOf cX11_itemOf 2 (some .int) :: wA) ({ frames := 0, cells := 0, slots := 0, locals := 0 }) (zP (dC, dI) [(cI, .int), (cJ, .long)] [.int 98, .int p1] sz []) (va_Qi (fun (r : Int32) (u : Unit) => ((-1) ≤ r.toInt) ∧ (r.toInt ≤ 3) ∧ (0 ≤ r.toInt → 97 ≤ p1.toInt) ∧ (r = cIt 1 p1.toInt)) (fun (_ : Unit) (_ : State) => True) (va_A [] sz)) 0 0 (va_A [] sz) := by
  refine Met.ofW (cc := cX11_itemOf) (maxL := 2) (ret := (some .int)) (by decide) rfl ?_
  intro p e s m args below meth c s₁ B hml hv
  obtain ⟨hargs, hsz, hP, hK, hT⟩ := hv
  have hx := B.exec
  have hb := B.bytes
  have hr := B.returns
  have hts : ∀ w ∈ wA, w.before args s = true := fun w h => atoms_spec (ws := .code yX11_itemOf cX11_itemOf 2 (some .int) :: wA) B.pre w (List.mem_cons_of_mem _ h)
  have hown : s.vm.findClass RX11 = some m.cls := findClass_of_methodNamed B.named
  have hlocks := B.notSynchronized
  subst hsz
  have hD : va_D (va_A [] s.heap.size) [] := zD0
  generalize hAe : va_A [] s.heap.size = A at hD ⊢
  have hA : ∀ q : Nat, s.heap.size ≤ q → A q := fun q h => by rw [← hAe]; exact Or.inr h
  have hl := lv_entry ([.int 98, .int p1]) (n := 2) (Nat.le_of_ble_eq_true rfl)
  rw [show entryFrame m args 2 = entryFrame m ([.int 98, .int p1] : List Value).toArray 2 by rw [hargs], lg_entry_eq]
  generalize (lg_sl ([.int 98, .int p1]) ++ List.replicate (2 - (lg_sl ([.int 98, .int p1])).length) Slot.unset).toArray = ls at hl ⊢
  have hl : lv_has ls 2 [(0, .int 98), (1, .int p1)] := hl
  refine zstart (fun H hH => ?_)
  rw [← hH] at hP
  have hS : va_S A s.heap H [] := by rw [hH]; exact va_S.rf
  generalize ([] : List Loc) = locs at hS ⊢
  refine zgen (fun R Q hR hQ => ?_)
  refine lv_iload_n hx hb dX11_itemOf_0 rfl (lv_at hl 0 rfl) ?_
  refine lv_lookup (off := 59) (tgt := 60) hx hb dX11_itemOf_1 (by decide) (by decide) (by decide) ?_
  refine lv_iload_n hx hb dX11_itemOf_60 rfl (lv_at hl 1 rfl) ?_
  refine lv_bipush (v := 102) hx hb dX11_itemOf_61 (by decide) ?_
  refine lv_icmp_ne (tgt := 70) hx hb dX11_itemOf_63 (by decide) (fun c63 => ?_) (fun c63 => ?_)
  · have c63 : ¬ p1.toInt = 102 := z6 rfl (by decide) c63
    refine lv_iload_n hx hb dX11_itemOf_70 rfl (lv_at hl 1 rfl) ?_
    refine lv_bipush (v := 100) hx hb dX11_itemOf_71 (by decide) ?_
    refine lv_icmp_ne (tgt := 80) hx hb dX11_itemOf_73 (by decide) (fun c73 => ?_) (fun c73 => ?_)
    · have c73 : ¬ p1.toInt = 100 := z6 rfl (by decide) c73
      refine lv_iload_n hx hb dX11_itemOf_80 rfl (lv_at hl 1 rfl) ?_
      refine lv_bipush (v := 119) hx hb dX11_itemOf_81 (by decide) ?_
      refine lv_icmp_ne (tgt := 90) hx hb dX11_itemOf_83 (by decide) (fun c83 => ?_) (fun c83 => ?_)
      · have c83 : ¬ p1.toInt = 119 := z6 rfl (by decide) c83
        refine lv_iload_n hx hb dX11_itemOf_90 rfl (lv_at hl 1 rfl) ?_
        refine lv_bipush (v := 121) hx hb dX11_itemOf_91 (by decide) ?_
        refine lv_icmp_ne (tgt := 100) hx hb dX11_itemOf_93 (by decide) (fun c93 => ?_) (fun c93 => ?_)
        · have c93 : ¬ p1.toInt = 121 := z6 rfl (by decide) c93
          refine lv_iconst (v := (-1)) hx hb dX11_itemOf_100 (by decide) ?_
          have zr0 : ((-1) : Int32).toInt = (-1) := by decide
          rw [hQ]
          exact W.iret (v := ((-1))) hx hb hr (fun t ht hW => ⟨⟨(-1), (), rfl, ⟨by (try dsimp only); omega, by (try dsimp only); omega, by (try dsimp only); omega, by (try dsimp only); show (-1 : Int32) = (if p1.toInt = 102 then (0 : Int32) else if p1.toInt = 100 then 1 else if p1.toInt = 119 then 2 else if p1.toInt = 121 then 3 else -1); rw [if_neg (by omega), if_neg (by omega), if_neg (by omega), if_neg (by omega)]⟩, trivial⟩, hS.F ht⟩) hS.2.2 dX11_itemOf_101
        · have c93 : p1.toInt = 121 := z5 rfl (by decide) c93
          refine lv_iconst (v := 3) hx hb dX11_itemOf_96 (by decide) ?_
          refine lv_goto (tgt := 101) hx hb dX11_itemOf_97 (by decide) ?_
          have zr0 : (3 : Int32).toInt = 3 := by decide
          rw [hQ]
          exact W.iret (v := 3) hx hb hr (fun t ht hW => ⟨⟨3, (), rfl, ⟨by (try dsimp only); omega, by (try dsimp only); omega, by (try dsimp only); omega, by (try dsimp only); show (3 : Int32) = (if p1.toInt = 102 then (0 : Int32) else if p1.toInt = 100 then 1 else if p1.toInt = 119 then 2 else if p1.toInt = 121 then 3 else -1); rw [if_neg (by omega), if_neg (by omega), if_neg (by omega), if_pos (by omega)]⟩, trivial⟩, hS.F ht⟩) hS.2.2 dX11_itemOf_101
      · have c83 : p1.toInt = 119 := z5 rfl (by decide) c83
        refine lv_iconst (v := 2) hx hb dX11_itemOf_86 (by decide) ?_
        refine lv_goto (tgt := 101) hx hb dX11_itemOf_87 (by decide) ?_
        have zr0 : (2 : Int32).toInt = 2 := by decide
        rw [hQ]
        exact W.iret (v := 2) hx hb hr (fun t ht hW => ⟨⟨2, (), rfl, ⟨by (try dsimp only); omega, by (try dsimp only); omega, by (try dsimp only); omega, by (try dsimp only); show (2 : Int32) = (if p1.toInt = 102 then (0 : Int32) else if p1.toInt = 100 then 1 else if p1.toInt = 119 then 2 else if p1.toInt = 121 then 3 else -1); rw [if_neg (by omega), if_neg (by omega), if_pos (by omega)]⟩, trivial⟩, hS.F ht⟩) hS.2.2 dX11_itemOf_101
    · have c73 : p1.toInt = 100 := z5 rfl (by decide) c73
      refine lv_iconst (v := 1) hx hb dX11_itemOf_76 (by decide) ?_
      refine lv_goto (tgt := 101) hx hb dX11_itemOf_77 (by decide) ?_
      have zr0 : (1 : Int32).toInt = 1 := by decide
      rw [hQ]
      exact W.iret (v := 1) hx hb hr (fun t ht hW => ⟨⟨1, (), rfl, ⟨by (try dsimp only); omega, by (try dsimp only); omega, by (try dsimp only); omega, by (try dsimp only); show (1 : Int32) = (if p1.toInt = 102 then (0 : Int32) else if p1.toInt = 100 then 1 else if p1.toInt = 119 then 2 else if p1.toInt = 121 then 3 else -1); rw [if_neg (by omega), if_pos (by omega)]⟩, trivial⟩, hS.F ht⟩) hS.2.2 dX11_itemOf_101
  · have c63 : p1.toInt = 102 := z5 rfl (by decide) c63
    refine lv_iconst (v := 0) hx hb dX11_itemOf_66 (by decide) ?_
    refine lv_goto (tgt := 101) hx hb dX11_itemOf_67 (by decide) ?_
    have zr0 : (0 : Int32).toInt = 0 := by decide
    rw [hQ]
    exact W.iret (v := 0) hx hb hr (fun t ht hW => ⟨⟨0, (), rfl, ⟨by (try dsimp only); omega, by (try dsimp only); omega, by (try dsimp only); omega, by (try dsimp only); show (0 : Int32) = (if p1.toInt = 102 then (0 : Int32) else if p1.toInt = 100 then 1 else if p1.toInt = 119 then 2 else if p1.toInt = 121 then 3 else -1); rw [if_pos (by omega)]⟩, trivial⟩, hS.F ht⟩) hS.2.2 dX11_itemOf_101
set_option maxHeartbeats 4000000 in
set_option maxRecDepth 100000 in
theorem g_X11_highest_b (l : Launch) (dC : Nat → ClassId) (dI : Nat → Nat → Nat) (cI cJ : ClassId) (p1 : Int32) (sz : Nat)     : Met l yX11_highest (.code yX11_highest cX11_highest 2 (some .int) :: wA) ({ frames := 0, cells := 0, slots := 0, locals := 0 }) (zP (dC, dI) [(cI, .int), (cJ, .long)] [.int 98, .int p1] sz []) (va_Qi (fun (r : Int32) (u : Unit) => (9 ≤ r.toInt) ∧ (r.toInt ≤ 99) ∧ (p1.toInt = 0 → r.toInt = 9) ∧ (r.toInt = cHi 1 p1)) (fun (_ : Unit) (_ : State) => True) (va_A [] sz)) 0 0 (va_A [] sz) := by
  refine Met.ofW (cc := cX11_highest) (maxL := 2) (ret := (some .int)) (by decide) rfl ?_
  intro p e s m args below meth c s₁ B hml hv
  obtain ⟨hargs, hsz, hP, hK, hT⟩ := hv
  have hx := B.exec
  have hb := B.bytes
  have hr := B.returns
  have hts : ∀ w ∈ wA, w.before args s = true := fun w h => atoms_spec (ws := .code yX11_highest cX11_highest 2 (some .int) :: wA) B.pre w (List.mem_cons_of_mem _ h)
  have hown : s.vm.findClass RX11 = some m.cls := findClass_of_methodNamed B.named
  have hlocks := B.notSynchronized
  subst hsz
  have hD : va_D (va_A [] s.heap.size) [] := zD0
  generalize hAe : va_A [] s.heap.size = A at hD ⊢
  have hA : ∀ q : Nat, s.heap.size ≤ q → A q := fun q h => by rw [← hAe]; exact Or.inr h
  have hl := lv_entry ([.int 98, .int p1]) (n := 2) (Nat.le_of_ble_eq_true rfl)
  rw [show entryFrame m args 2 = entryFrame m ([.int 98, .int p1] : List Value).toArray 2 by rw [hargs], lg_entry_eq]
  generalize (lg_sl ([.int 98, .int p1]) ++ List.replicate (2 - (lg_sl ([.int 98, .int p1])).length) Slot.unset).toArray = ls at hl ⊢
  have hl : lv_has ls 2 [(0, .int 98), (1, .int p1)] := hl
  refine zstart (fun H hH => ?_)
  rw [← hH] at hP
  have hS : va_S A s.heap H [] := by rw [hH]; exact va_S.rf
  generalize ([] : List Loc) = locs at hS ⊢
  refine zgen (fun R Q hR hQ => ?_)
  refine lv_iload_n hx hb dX11_highest_0 rfl (lv_at hl 0 rfl) ?_
  refine lv_lookup (off := 39) (tgt := 40) hx hb dX11_highest_1 (by decide) (by decide) (by decide) ?_
  refine lv_iload_n hx hb dX11_highest_40 rfl (lv_at hl 1 rfl) ?_
  refine lv_iconst (v := 1) hx hb dX11_highest_41 (by decide) ?_
  refine lv_icmp_ne (tgt := 50) hx hb dX11_highest_42 (by decide) (fun c42 => ?_) (fun c42 => ?_)
  · have c42 : ¬ p1.toInt = 1 := z6 rfl (by decide) c42
    refine lv_bipush (v := 9) hx hb dX11_highest_50 (by decide) ?_
    have zr0 : (9 : Int32).toInt = 9 := by decide
    rw [hQ]
    exact W.iret (v := 9) hx hb hr (fun t ht hW => ⟨⟨9, (), rfl, ⟨by (try dsimp only); omega, by (try dsimp only); omega, by (try dsimp only); omega, by (try dsimp only); show (9 : Int32).toInt = (if p1 = 1 then (99 : Int) else 9); rw [if_neg (fun z => by have := congrArg Int32.toInt z; rw [show (1 : Int32).toInt = 1 from by decide] at this; omega)]; decide⟩, trivial⟩, hS.F ht⟩) hS.2.2 dX11_highest_52
  · have c42 : p1.toInt = 1 := z5 rfl (by decide) c42
    refine lv_bipush (v := 99) hx hb dX11_highest_45 (by decide) ?_
    refine lv_goto (tgt := 52) hx hb dX11_highest_47 (by decide) ?_
    have zr0 : (99 : Int32).toInt = 99 := by decide
    rw [hQ]
    exact W.iret (v := 99) hx hb hr (fun t ht hW => ⟨⟨99, (), rfl, ⟨by (try dsimp only); omega, by (try dsimp only); omega, by (try dsimp only); omega, by (try dsimp only); show (99 : Int32).toInt = (if p1 = 1 then (99 : Int) else 9); rw [if_pos (z7 (a := 1) (by decide) (by omega))]; decide⟩, trivial⟩, hS.F ht⟩) hS.2.2 dX11_highest_52
set_option maxHeartbeats 4000000 in
set_option maxRecDepth 100000 in
theorem g_X11_usual_b (l : Launch) (dC : Nat → ClassId) (dI : Nat → Nat → Nat) (cI cJ : ClassId) (p1 : Int32) (sz : Nat)     : Met l yX11_usual (.code yX11_usual cX11_usual 2 (some .int) :: wA) ({ frames := 0, cells := 0, slots := 0, locals := 0 }) (zP (dC, dI) [(cI, .int), (cJ, .long)] [.int 98, .int p1] sz []) (va_Qi (fun (r : Int32) (u : Unit) => (1 ≤ r.toInt) ∧ (r.toInt ≤ 20) ∧ (p1.toInt = 0 → (0 ≤ r.toInt ∧ r.toInt ≤ 9)) ∧ (0 ≤ p1.toInt → r.toInt = cDf 1 p1.toInt.toNat)) (fun (_ : Unit) (_ : State) => True) (va_A [] sz)) 0 0 (va_A [] sz) := by
  refine Met.ofW (cc := cX11_usual) (maxL := 2) (ret := (some .int)) (by decide) rfl ?_
  intro p e s m args below meth c s₁ B hml hv
  obtain ⟨hargs, hsz, hP, hK, hT⟩ := hv
  have hx := B.exec
  have hb := B.bytes
  have hr := B.returns
  have hts : ∀ w ∈ wA, w.before args s = true := fun w h => atoms_spec (ws := .code yX11_usual cX11_usual 2 (some .int) :: wA) B.pre w (List.mem_cons_of_mem _ h)
  have hown : s.vm.findClass RX11 = some m.cls := findClass_of_methodNamed B.named
  have hlocks := B.notSynchronized
  subst hsz
  have hD : va_D (va_A [] s.heap.size) [] := zD0
  generalize hAe : va_A [] s.heap.size = A at hD ⊢
  have hA : ∀ q : Nat, s.heap.size ≤ q → A q := fun q h => by rw [← hAe]; exact Or.inr h
  have hl := lv_entry ([.int 98, .int p1]) (n := 2) (Nat.le_of_ble_eq_true rfl)
  rw [show entryFrame m args 2 = entryFrame m ([.int 98, .int p1] : List Value).toArray 2 by rw [hargs], lg_entry_eq]
  generalize (lg_sl ([.int 98, .int p1]) ++ List.replicate (2 - (lg_sl ([.int 98, .int p1])).length) Slot.unset).toArray = ls at hl ⊢
  have hl : lv_has ls 2 [(0, .int 98), (1, .int p1)] := hl
  refine zstart (fun H hH => ?_)
  rw [← hH] at hP
  have hS : va_S A s.heap H [] := by rw [hH]; exact va_S.rf
  generalize ([] : List Loc) = locs at hS ⊢
  refine zgen (fun R Q hR hQ => ?_)
  refine lv_iload_n hx hb dX11_usual_0 rfl (lv_at hl 0 rfl) ?_
  refine lv_lookup (off := 47) (tgt := 48) hx hb dX11_usual_1 (by decide) (by decide) (by decide) ?_
  refine lv_iload_n hx hb dX11_usual_48 rfl (lv_at hl 1 rfl) ?_
  refine lv_if_ne (tgt := 56) hx hb dX11_usual_49 (by decide) (fun c49 => ?_) (fun c49 => ?_)
  · have c49 : ¬ p1.toInt = 0 := z6 rfl (by decide) c49
    refine lv_iload_n hx hb dX11_usual_56 rfl (lv_at hl 1 rfl) ?_
    refine lv_iconst (v := 1) hx hb dX11_usual_57 (by decide) ?_
    refine lv_icmp_ne (tgt := 66) hx hb dX11_usual_58 (by decide) (fun c58 => ?_) (fun c58 => ?_)
    · have c58 : ¬ p1.toInt = 1 := z6 rfl (by decide) c58
      refine lv_iload_n hx hb dX11_usual_66 rfl (lv_at hl 1 rfl) ?_
      refine lv_iconst (v := 2) hx hb dX11_usual_67 (by decide) ?_
      refine lv_icmp_ne (tgt := 75) hx hb dX11_usual_68 (by decide) (fun c68 => ?_) (fun c68 => ?_)
      · have c68 : ¬ p1.toInt = 2 := z6 rfl (by decide) c68
        refine lv_iconst (v := 2) hx hb dX11_usual_75 (by decide) ?_
        have zr0 : (2 : Int32).toInt = 2 := by decide
        rw [hQ]
        exact W.iret (v := 2) hx hb hr (fun t ht hW => ⟨⟨2, (), rfl, ⟨by (try dsimp only); omega, by (try dsimp only); omega, by (try dsimp only); omega, by (try dsimp only); exact fun h0 => by show (2 : Int32).toInt = (fun j : Nat => if j = 0 then (5 : Int) else if j = 1 then (20 : Int) else if j = 2 then (1 : Int) else 2) p1.toInt.toNat; (try dsimp only); rw [if_neg (by omega), if_neg (by omega), if_neg (by omega)]; decide⟩, trivial⟩, hS.F ht⟩) hS.2.2 dX11_usual_76
      · have c68 : p1.toInt = 2 := z5 rfl (by decide) c68
        refine lv_iconst (v := 1) hx hb dX11_usual_71 (by decide) ?_
        refine lv_goto (tgt := 76) hx hb dX11_usual_72 (by decide) ?_
        have zr0 : (1 : Int32).toInt = 1 := by decide
        rw [hQ]
        exact W.iret (v := 1) hx hb hr (fun t ht hW => ⟨⟨1, (), rfl, ⟨by (try dsimp only); omega, by (try dsimp only); omega, by (try dsimp only); omega, by (try dsimp only); exact fun h0 => by show (1 : Int32).toInt = (fun j : Nat => if j = 0 then (5 : Int) else if j = 1 then (20 : Int) else if j = 2 then (1 : Int) else 2) p1.toInt.toNat; (try dsimp only); rw [if_neg (by omega), if_neg (by omega), if_pos (by omega)]; decide⟩, trivial⟩, hS.F ht⟩) hS.2.2 dX11_usual_76
    · have c58 : p1.toInt = 1 := z5 rfl (by decide) c58
      refine lv_bipush (v := 20) hx hb dX11_usual_61 (by decide) ?_
      refine lv_goto (tgt := 76) hx hb dX11_usual_63 (by decide) ?_
      have zr0 : (20 : Int32).toInt = 20 := by decide
      rw [hQ]
      exact W.iret (v := 20) hx hb hr (fun t ht hW => ⟨⟨20, (), rfl, ⟨by (try dsimp only); omega, by (try dsimp only); omega, by (try dsimp only); omega, by (try dsimp only); exact fun h0 => by show (20 : Int32).toInt = (fun j : Nat => if j = 0 then (5 : Int) else if j = 1 then (20 : Int) else if j = 2 then (1 : Int) else 2) p1.toInt.toNat; (try dsimp only); rw [if_neg (by omega), if_pos (by omega)]; decide⟩, trivial⟩, hS.F ht⟩) hS.2.2 dX11_usual_76
  · have c49 : p1.toInt = 0 := z5 rfl (by decide) c49
    refine lv_iconst (v := 5) hx hb dX11_usual_52 (by decide) ?_
    refine lv_goto (tgt := 76) hx hb dX11_usual_53 (by decide) ?_
    have zr0 : (5 : Int32).toInt = 5 := by decide
    rw [hQ]
    exact W.iret (v := 5) hx hb hr (fun t ht hW => ⟨⟨5, (), rfl, ⟨by (try dsimp only); omega, by (try dsimp only); omega, by (try dsimp only); omega, by (try dsimp only); exact fun h0 => by show (5 : Int32).toInt = (fun j : Nat => if j = 0 then (5 : Int) else if j = 1 then (20 : Int) else if j = 2 then (1 : Int) else 2) p1.toInt.toNat; (try dsimp only); rw [if_pos (by omega)]; decide⟩, trivial⟩, hS.F ht⟩) hS.2.2 dX11_usual_76
set_option maxHeartbeats 4000000 in
set_option maxRecDepth 100000 in
theorem g_X11_itemOf_p (l : Launch) (dC : Nat → ClassId) (dI : Nat → Nat → Nat) (cI cJ : ClassId) (p1 : Int32) (sz : Nat)     : Met l yX11_itemOf (.code yX11_itemOf cX11_itemOf 2 (some .int) :: wA) ({ frames := 0, cells := 0, slots := 0, locals := 0 }) (zP (dC, dI) [(cI, .int), (cJ, .long)] [.int 112, .int p1] sz []) (va_Qi (fun (r : Int32) (u : Unit) => ((-1) ≤ r.toInt) ∧ (r.toInt ≤ 3) ∧ (0 ≤ r.toInt → 97 ≤ p1.toInt) ∧ (r = cIt 2 p1.toInt)) (fun (_ : Unit) (_ : State) => True) (va_A [] sz)) 0 0 (va_A [] sz) := by
  refine Met.ofW (cc := cX11_itemOf) (maxL := 2) (ret := (some .int)) (by decide) rfl ?_
  intro p e s m args below meth c s₁ B hml hv
  obtain ⟨hargs, hsz, hP, hK, hT⟩ := hv
  have hx := B.exec
  have hb := B.bytes
  have hr := B.returns
  have hts : ∀ w ∈ wA, w.before args s = true := fun w h => atoms_spec (ws := .code yX11_itemOf cX11_itemOf 2 (some .int) :: wA) B.pre w (List.mem_cons_of_mem _ h)
  have hown : s.vm.findClass RX11 = some m.cls := findClass_of_methodNamed B.named
  have hlocks := B.notSynchronized
  subst hsz
  have hD : va_D (va_A [] s.heap.size) [] := zD0
  generalize hAe : va_A [] s.heap.size = A at hD ⊢
  have hA : ∀ q : Nat, s.heap.size ≤ q → A q := fun q h => by rw [← hAe]; exact Or.inr h
  have hl := lv_entry ([.int 112, .int p1]) (n := 2) (Nat.le_of_ble_eq_true rfl)
  rw [show entryFrame m args 2 = entryFrame m ([.int 112, .int p1] : List Value).toArray 2 by rw [hargs], lg_entry_eq]
  generalize (lg_sl ([.int 112, .int p1]) ++ List.replicate (2 - (lg_sl ([.int 112, .int p1])).length) Slot.unset).toArray = ls at hl ⊢
  have hl : lv_has ls 2 [(0, .int 112), (1, .int p1)] := hl
  refine zstart (fun H hH => ?_)
  rw [← hH] at hP
  have hS : va_S A s.heap H [] := by rw [hH]; exact va_S.rf
  generalize ([] : List Loc) = locs at hS ⊢
  refine zgen (fun R Q hR hQ => ?_)
  refine lv_iload_n hx hb dX11_itemOf_0 rfl (lv_at hl 0 rfl) ?_
  refine lv_lookup (off := 101) (tgt := 102) hx hb dX11_itemOf_1 (by decide) (by decide) (by decide) ?_
  refine lv_iload_n hx hb dX11_itemOf_102 rfl (lv_at hl 1 rfl) ?_
  refine lv_bipush (v := 115) hx hb dX11_itemOf_103 (by decide) ?_
  refine lv_icmp_ne (tgt := 112) hx hb dX11_itemOf_105 (by decide) (fun c105 => ?_) (fun c105 => ?_)
  · have c105 : ¬ p1.toInt = 115 := z6 rfl (by decide) c105
    refine lv_iload_n hx hb dX11_itemOf_112 rfl (lv_at hl 1 rfl) ?_
    refine lv_bipush (v := 102) hx hb dX11_itemOf_113 (by decide) ?_
    refine lv_icmp_ne (tgt := 122) hx hb dX11_itemOf_115 (by decide) (fun c115 => ?_) (fun c115 => ?_)
    · have c115 : ¬ p1.toInt = 102 := z6 rfl (by decide) c115
      refine lv_iload_n hx hb dX11_itemOf_122 rfl (lv_at hl 1 rfl) ?_
      refine lv_bipush (v := 97) hx hb dX11_itemOf_123 (by decide) ?_
      refine lv_icmp_ne (tgt := 132) hx hb dX11_itemOf_125 (by decide) (fun c125 => ?_) (fun c125 => ?_)
      · have c125 : ¬ p1.toInt = 97 := z6 rfl (by decide) c125
        refine lv_iload_n hx hb dX11_itemOf_132 rfl (lv_at hl 1 rfl) ?_
        refine lv_bipush (v := 107) hx hb dX11_itemOf_133 (by decide) ?_
        refine lv_icmp_ne (tgt := 142) hx hb dX11_itemOf_135 (by decide) (fun c135 => ?_) (fun c135 => ?_)
        · have c135 : ¬ p1.toInt = 107 := z6 rfl (by decide) c135
          refine lv_iconst (v := (-1)) hx hb dX11_itemOf_142 (by decide) ?_
          have zr0 : ((-1) : Int32).toInt = (-1) := by decide
          rw [hQ]
          exact W.iret (v := ((-1))) hx hb hr (fun t ht hW => ⟨⟨(-1), (), rfl, ⟨by (try dsimp only); omega, by (try dsimp only); omega, by (try dsimp only); omega, by (try dsimp only); show (-1 : Int32) = (if p1.toInt = 115 then (0 : Int32) else if p1.toInt = 102 then 1 else if p1.toInt = 97 then 2 else if p1.toInt = 107 then 3 else -1); rw [if_neg (by omega), if_neg (by omega), if_neg (by omega), if_neg (by omega)]⟩, trivial⟩, hS.F ht⟩) hS.2.2 dX11_itemOf_143
        · have c135 : p1.toInt = 107 := z5 rfl (by decide) c135
          refine lv_iconst (v := 3) hx hb dX11_itemOf_138 (by decide) ?_
          refine lv_goto (tgt := 143) hx hb dX11_itemOf_139 (by decide) ?_
          have zr0 : (3 : Int32).toInt = 3 := by decide
          rw [hQ]
          exact W.iret (v := 3) hx hb hr (fun t ht hW => ⟨⟨3, (), rfl, ⟨by (try dsimp only); omega, by (try dsimp only); omega, by (try dsimp only); omega, by (try dsimp only); show (3 : Int32) = (if p1.toInt = 115 then (0 : Int32) else if p1.toInt = 102 then 1 else if p1.toInt = 97 then 2 else if p1.toInt = 107 then 3 else -1); rw [if_neg (by omega), if_neg (by omega), if_neg (by omega), if_pos (by omega)]⟩, trivial⟩, hS.F ht⟩) hS.2.2 dX11_itemOf_143
      · have c125 : p1.toInt = 97 := z5 rfl (by decide) c125
        refine lv_iconst (v := 2) hx hb dX11_itemOf_128 (by decide) ?_
        refine lv_goto (tgt := 143) hx hb dX11_itemOf_129 (by decide) ?_
        have zr0 : (2 : Int32).toInt = 2 := by decide
        rw [hQ]
        exact W.iret (v := 2) hx hb hr (fun t ht hW => ⟨⟨2, (), rfl, ⟨by (try dsimp only); omega, by (try dsimp only); omega, by (try dsimp only); omega, by (try dsimp only); show (2 : Int32) = (if p1.toInt = 115 then (0 : Int32) else if p1.toInt = 102 then 1 else if p1.toInt = 97 then 2 else if p1.toInt = 107 then 3 else -1); rw [if_neg (by omega), if_neg (by omega), if_pos (by omega)]⟩, trivial⟩, hS.F ht⟩) hS.2.2 dX11_itemOf_143
    · have c115 : p1.toInt = 102 := z5 rfl (by decide) c115
      refine lv_iconst (v := 1) hx hb dX11_itemOf_118 (by decide) ?_
      refine lv_goto (tgt := 143) hx hb dX11_itemOf_119 (by decide) ?_
      have zr0 : (1 : Int32).toInt = 1 := by decide
      rw [hQ]
      exact W.iret (v := 1) hx hb hr (fun t ht hW => ⟨⟨1, (), rfl, ⟨by (try dsimp only); omega, by (try dsimp only); omega, by (try dsimp only); omega, by (try dsimp only); show (1 : Int32) = (if p1.toInt = 115 then (0 : Int32) else if p1.toInt = 102 then 1 else if p1.toInt = 97 then 2 else if p1.toInt = 107 then 3 else -1); rw [if_neg (by omega), if_pos (by omega)]⟩, trivial⟩, hS.F ht⟩) hS.2.2 dX11_itemOf_143
  · have c105 : p1.toInt = 115 := z5 rfl (by decide) c105
    refine lv_iconst (v := 0) hx hb dX11_itemOf_108 (by decide) ?_
    refine lv_goto (tgt := 143) hx hb dX11_itemOf_109 (by decide) ?_
    have zr0 : (0 : Int32).toInt = 0 := by decide
    rw [hQ]
    exact W.iret (v := 0) hx hb hr (fun t ht hW => ⟨⟨0, (), rfl, ⟨by (try dsimp only); omega, by (try dsimp only); omega, by (try dsimp only); omega, by (try dsimp only); show (0 : Int32) = (if p1.toInt = 115 then (0 : Int32) else if p1.toInt = 102 then 1 else if p1.toInt = 97 then 2 else if p1.toInt = 107 then 3 else -1); rw [if_pos (by omega)]⟩, trivial⟩, hS.F ht⟩) hS.2.2 dX11_itemOf_143
set_option maxHeartbeats 4000000 in
set_option maxRecDepth 100000 in
theorem g_X11_highest_p (l : Launch) (dC : Nat → ClassId) (dI : Nat → Nat → Nat) (cI cJ : ClassId) (p1 : Int32) (sz : Nat)     : Met l yX11_highest (.code yX11_highest cX11_highest 2 (some .int) :: wA) ({ frames := 0, cells := 0, slots := 0, locals := 0 }) (zP (dC, dI) [(cI, .int), (cJ, .long)] [.int 112, .int p1] sz []) (va_Qi (fun (r : Int32) (u : Unit) => (3 ≤ r.toInt) ∧ (r.toInt ≤ 30) ∧ (p1.toInt = 0 → r.toInt = 9) ∧ (r.toInt = cHi 2 p1)) (fun (_ : Unit) (_ : State) => True) (va_A [] sz)) 0 0 (va_A [] sz) := by
  refine Met.ofW (cc := cX11_highest) (maxL := 2) (ret := (some .int)) (by decide) rfl ?_
  intro p e s m args below meth c s₁ B hml hv
  obtain ⟨hargs, hsz, hP, hK, hT⟩ := hv
  have hx := B.exec
  have hb := B.bytes
  have hr := B.returns
  have hts : ∀ w ∈ wA, w.before args s = true := fun w h => atoms_spec (ws := .code yX11_highest cX11_highest 2 (some .int) :: wA) B.pre w (List.mem_cons_of_mem _ h)
  have hown : s.vm.findClass RX11 = some m.cls := findClass_of_methodNamed B.named
  have hlocks := B.notSynchronized
  subst hsz
  have hD : va_D (va_A [] s.heap.size) [] := zD0
  generalize hAe : va_A [] s.heap.size = A at hD ⊢
  have hA : ∀ q : Nat, s.heap.size ≤ q → A q := fun q h => by rw [← hAe]; exact Or.inr h
  have hl := lv_entry ([.int 112, .int p1]) (n := 2) (Nat.le_of_ble_eq_true rfl)
  rw [show entryFrame m args 2 = entryFrame m ([.int 112, .int p1] : List Value).toArray 2 by rw [hargs], lg_entry_eq]
  generalize (lg_sl ([.int 112, .int p1]) ++ List.replicate (2 - (lg_sl ([.int 112, .int p1])).length) Slot.unset).toArray = ls at hl ⊢
  have hl : lv_has ls 2 [(0, .int 112), (1, .int p1)] := hl
  refine zstart (fun H hH => ?_)
  rw [← hH] at hP
  have hS : va_S A s.heap H [] := by rw [hH]; exact va_S.rf
  generalize ([] : List Loc) = locs at hS ⊢
  refine zgen (fun R Q hR hQ => ?_)
  refine lv_iload_n hx hb dX11_highest_0 rfl (lv_at hl 0 rfl) ?_
  refine lv_lookup (off := 52) (tgt := 53) hx hb dX11_highest_1 (by decide) (by decide) (by decide) ?_
  refine lv_iload_n hx hb dX11_highest_53 rfl (lv_at hl 1 rfl) ?_
  refine lv_iconst (v := 1) hx hb dX11_highest_54 (by decide) ?_
  refine lv_icmp_ne (tgt := 63) hx hb dX11_highest_55 (by decide) (fun c55 => ?_) (fun c55 => ?_)
  · have c55 : ¬ p1.toInt = 1 := z6 rfl (by decide) c55
    refine lv_iload_n hx hb dX11_highest_63 rfl (lv_at hl 1 rfl) ?_
    refine lv_iconst (v := 3) hx hb dX11_highest_64 (by decide) ?_
    refine lv_icmp_ne (tgt := 72) hx hb dX11_highest_65 (by decide) (fun c65 => ?_) (fun c65 => ?_)
    · have c65 : ¬ p1.toInt = 3 := z6 rfl (by decide) c65
      refine lv_bipush (v := 9) hx hb dX11_highest_72 (by decide) ?_
      have zr0 : (9 : Int32).toInt = 9 := by decide
      rw [hQ]
      exact W.iret (v := 9) hx hb hr (fun t ht hW => ⟨⟨9, (), rfl, ⟨by (try dsimp only); omega, by (try dsimp only); omega, by (try dsimp only); omega, by (try dsimp only); show (9 : Int32).toInt = (if p1 = 1 then (30 : Int) else if p1 = 3 then (3 : Int) else 9); rw [if_neg (fun z => by have := congrArg Int32.toInt z; rw [show (1 : Int32).toInt = 1 from by decide] at this; omega), if_neg (fun z => by have := congrArg Int32.toInt z; rw [show (3 : Int32).toInt = 3 from by decide] at this; omega)]; decide⟩, trivial⟩, hS.F ht⟩) hS.2.2 dX11_highest_74
    · have c65 : p1.toInt = 3 := z5 rfl (by decide) c65
      refine lv_iconst (v := 3) hx hb dX11_highest_68 (by decide) ?_
      refine lv_goto (tgt := 74) hx hb dX11_highest_69 (by decide) ?_
      have zr0 : (3 : Int32).toInt = 3 := by decide
      rw [hQ]
      exact W.iret (v := 3) hx hb hr (fun t ht hW => ⟨⟨3, (), rfl, ⟨by (try dsimp only); omega, by (try dsimp only); omega, by (try dsimp only); omega, by (try dsimp only); show (3 : Int32).toInt = (if p1 = 1 then (30 : Int) else if p1 = 3 then (3 : Int) else 9); rw [if_neg (fun z => by have := congrArg Int32.toInt z; rw [show (1 : Int32).toInt = 1 from by decide] at this; omega), if_pos (z7 (a := 3) (by decide) (by omega))]; decide⟩, trivial⟩, hS.F ht⟩) hS.2.2 dX11_highest_74
  · have c55 : p1.toInt = 1 := z5 rfl (by decide) c55
    refine lv_bipush (v := 30) hx hb dX11_highest_58 (by decide) ?_
    refine lv_goto (tgt := 74) hx hb dX11_highest_60 (by decide) ?_
    have zr0 : (30 : Int32).toInt = 30 := by decide
    rw [hQ]
    exact W.iret (v := 30) hx hb hr (fun t ht hW => ⟨⟨30, (), rfl, ⟨by (try dsimp only); omega, by (try dsimp only); omega, by (try dsimp only); omega, by (try dsimp only); show (30 : Int32).toInt = (if p1 = 1 then (30 : Int) else if p1 = 3 then (3 : Int) else 9); rw [if_pos (z7 (a := 1) (by decide) (by omega))]; decide⟩, trivial⟩, hS.F ht⟩) hS.2.2 dX11_highest_74
set_option maxHeartbeats 4000000 in
set_option maxRecDepth 100000 in
theorem g_X11_usual_p (l : Launch) (dC : Nat → ClassId) (dI : Nat → Nat → Nat) (cI cJ : ClassId) (p1 : Int32) (sz : Nat)     : Met l yX11_usual (.code yX11_usual cX11_usual 2 (some .int) :: wA) ({ frames := 0, cells := 0, slots := 0, locals := 0 }) (zP (dC, dI) [(cI, .int), (cJ, .long)] [.int 112, .int p1] sz []) (va_Qi (fun (r : Int32) (u : Unit) => (0 ≤ r.toInt) ∧ (r.toInt ≤ 5) ∧ (p1.toInt = 0 → (0 ≤ r.toInt ∧ r.toInt ≤ 9)) ∧ (0 ≤ p1.toInt → r.toInt = cDf 2 p1.toInt.toNat)) (fun (_ : Unit) (_ : State) => True) (va_A [] sz)) 0 0 (va_A [] sz) := by
  refine Met.ofW (cc := cX11_usual) (maxL := 2) (ret := (some .int)) (by decide) rfl ?_
  intro p e s m args below meth c s₁ B hml hv
  obtain ⟨hargs, hsz, hP, hK, hT⟩ := hv
  have hx := B.exec
  have hb := B.bytes
  have hr := B.returns
  have hts : ∀ w ∈ wA, w.before args s = true := fun w h => atoms_spec (ws := .code yX11_usual cX11_usual 2 (some .int) :: wA) B.pre w (List.mem_cons_of_mem _ h)
  have hown : s.vm.findClass RX11 = some m.cls := findClass_of_methodNamed B.named
  have hlocks := B.notSynchronized
  subst hsz
  have hD : va_D (va_A [] s.heap.size) [] := zD0
  generalize hAe : va_A [] s.heap.size = A at hD ⊢
  have hA : ∀ q : Nat, s.heap.size ≤ q → A q := fun q h => by rw [← hAe]; exact Or.inr h
  have hl := lv_entry ([.int 112, .int p1]) (n := 2) (Nat.le_of_ble_eq_true rfl)
  rw [show entryFrame m args 2 = entryFrame m ([.int 112, .int p1] : List Value).toArray 2 by rw [hargs], lg_entry_eq]
  generalize (lg_sl ([.int 112, .int p1]) ++ List.replicate (2 - (lg_sl ([.int 112, .int p1])).length) Slot.unset).toArray = ls at hl ⊢
  have hl : lv_has ls 2 [(0, .int 112), (1, .int p1)] := hl
  refine zstart (fun H hH => ?_)
  rw [← hH] at hP
  have hS : va_S A s.heap H [] := by rw [hH]; exact va_S.rf
  generalize ([] : List Loc) = locs at hS ⊢
  refine zgen (fun R Q hR hQ => ?_)
  refine lv_iload_n hx hb dX11_usual_0 rfl (lv_at hl 0 rfl) ?_
  refine lv_lookup (off := 76) (tgt := 77) hx hb dX11_usual_1 (by decide) (by decide) (by decide) ?_
  refine lv_iload_n hx hb dX11_usual_77 rfl (lv_at hl 1 rfl) ?_
  refine lv_iconst (v := 2) hx hb dX11_usual_78 (by decide) ?_
  refine lv_icmp_ne (tgt := 86) hx hb dX11_usual_79 (by decide) (fun c79 => ?_) (fun c79 => ?_)
  · have c79 : ¬ p1.toInt = 2 := z6 rfl (by decide) c79
    refine lv_iload_n hx hb dX11_usual_86 rfl (lv_at hl 1 rfl) ?_
    refine lv_iconst (v := 3) hx hb dX11_usual_87 (by decide) ?_
    refine lv_icmp_ne (tgt := 95) hx hb dX11_usual_88 (by decide) (fun c88 => ?_) (fun c88 => ?_)
    · have c88 : ¬ p1.toInt = 3 := z6 rfl (by decide) c88
      refine lv_iconst (v := 5) hx hb dX11_usual_95 (by decide) ?_
      have zr0 : (5 : Int32).toInt = 5 := by decide
      rw [hQ]
      exact W.iret (v := 5) hx hb hr (fun t ht hW => ⟨⟨5, (), rfl, ⟨by (try dsimp only); omega, by (try dsimp only); omega, by (try dsimp only); omega, by (try dsimp only); exact fun h0 => by show (5 : Int32).toInt = (fun j : Nat => if j = 2 then (3 : Int) else if j = 3 then (0 : Int) else 5) p1.toInt.toNat; (try dsimp only); rw [if_neg (by omega), if_neg (by omega)]; decide⟩, trivial⟩, hS.F ht⟩) hS.2.2 dX11_usual_96
    · have c88 : p1.toInt = 3 := z5 rfl (by decide) c88
      refine lv_iconst (v := 0) hx hb dX11_usual_91 (by decide) ?_
      refine lv_goto (tgt := 96) hx hb dX11_usual_92 (by decide) ?_
      have zr0 : (0 : Int32).toInt = 0 := by decide
      rw [hQ]
      exact W.iret (v := 0) hx hb hr (fun t ht hW => ⟨⟨0, (), rfl, ⟨by (try dsimp only); omega, by (try dsimp only); omega, by (try dsimp only); omega, by (try dsimp only); exact fun h0 => by show (0 : Int32).toInt = (fun j : Nat => if j = 2 then (3 : Int) else if j = 3 then (0 : Int) else 5) p1.toInt.toNat; (try dsimp only); rw [if_neg (by omega), if_pos (by omega)]; decide⟩, trivial⟩, hS.F ht⟩) hS.2.2 dX11_usual_96
  · have c79 : p1.toInt = 2 := z5 rfl (by decide) c79
    refine lv_iconst (v := 3) hx hb dX11_usual_82 (by decide) ?_
    refine lv_goto (tgt := 96) hx hb dX11_usual_83 (by decide) ?_
    have zr0 : (3 : Int32).toInt = 3 := by decide
    rw [hQ]
    exact W.iret (v := 3) hx hb hr (fun t ht hW => ⟨⟨3, (), rfl, ⟨by (try dsimp only); omega, by (try dsimp only); omega, by (try dsimp only); omega, by (try dsimp only); exact fun h0 => by show (3 : Int32).toInt = (fun j : Nat => if j = 2 then (3 : Int) else if j = 3 then (0 : Int) else 5) p1.toInt.toNat; (try dsimp only); rw [if_pos (by omega)]; decide⟩, trivial⟩, hS.F ht⟩) hS.2.2 dX11_usual_96
set_option maxHeartbeats 4000000 in
set_option maxRecDepth 100000 in
theorem g_X11_items_s (l : Launch) (dC : Nat → ClassId) (dI : Nat → Nat → Nat) (cI cJ : ClassId) (h0 : Nat) (rw : Nat) (th : Int32) (tB : Nat) (tsz : Int32) (tat : Int32) (dp : Int32) (rC : Nat) (rV : Nat) (rD : Nat) (rK : Nat) (rT : Nat) (rS : Nat) (rU : Nat) (lw : Int32) (tx : Int32) (rL : Nat) (rX : Nat) (qR : Nat) (qB : Nat) (qP : Nat) (qnb : Int32) (qnp : Int32) (aR : Nat) (aB : Nat) (aP : Nat) (nb : Int32) (np : Int32) (aN : Nat) (rf : Nat) (ho : Int32) (br : Int32) (aK : Nat) (ac : Int32) (dw : Int64) (aE : Nat) (sr : Int32) (sf : Int32) (aA : Nat) (aH : Nat) (aI : Nat) (hi : Int32) (fB : Nat → Int32) (frw : Nat → Int32) (sz : Nat) (n_ac : 0 ≤ ac.toInt ∧ ac.toInt ≤ 40) (n_hi : 0 ≤ hi.toInt ∧ hi.toInt ≤ 1) (n_ho : (-1) ≤ ho.toInt ∧ ho.toInt ≤ 3) (n_lw : 0 ≤ lw.toInt ∧ lw.toInt ≤ 4) (n_nb : 0 ≤ nb.toInt ∧ nb.toInt ≤ 6) (n_np : 0 ≤ np.toInt ∧ np.toInt ≤ 5) (n_qnb : 0 ≤ qnb.toInt ∧ qnb.toInt ≤ 6) (n_qnp : 0 ≤ qnp.toInt ∧ qnp.toInt ≤ 5) (n_tat : 0 ≤ tat.toInt ∧ tat.toInt ≤ 240) (n_tsz : 0 ≤ tsz.toInt ∧ tsz.toInt ≤ 240)    : Met l yX11_items (.code yX11_items cX11_items 7 none :: wA) ({ frames := 3, cells := 0, slots := 0, locals := 63 }) (zP (dC, dI) [(cI, .int), (cJ, .long)] [.ref h0, .int 115, .ref rw, .int 0, .int 3] sz [(h0, .inr (11, [.int th, .ref tB, .int tsz, .int tat, .int (-1), .int dp, .ref rC, .ref rV, .ref rD, .ref rK, .ref rT, .ref rS, .ref rU, .int lw, .int tx, .ref rL, .ref rX, .ref qR, .ref qB, .ref qP, .int qnb, .int qnp, .ref aR, .ref aB, .ref aP, .int nb, .int np, .ref aN, .ref rf, .int ho, .int br, .ref aK, .int ac, .long dw, .ref aE, .int sr, .int sf, .ref aA, .ref aH, .ref aI, .int hi])), (tB, .inl (cI, 240, .inl fB)), (rw, .inl (cI, 3, .inl frw))]) (va_Qv (fun (u : Int32 × Int32 × (Nat → Int32)) => (0 ≤ u.1.toInt) ∧ (u.1.toInt ≤ 240) ∧ ((-1) ≤ u.2.1.toInt) ∧ (u.2.1.toInt ≤ 240) ∧ (tat.toInt ≤ u.1.toInt) ∧ (zW (sIts (sB fB tsz.toInt) tsz.toInt 0 0 tat.toInt) u.2.1 u.1) ∧ (u.2.1.toInt = -1 → zIg fB tsz 0 3 0 tat.toInt frw u.2.2)) (fun (u : Int32 × Int32 × (Nat → Int32)) (t : State) => va_P (dC, dI) vwCl [(h0, .inr (11, [.int th, .ref tB, .int tsz, .int u.1, .int u.2.1, .int dp, .ref rC, .ref rV, .ref rD, .ref rK, .ref rT, .ref rS, .ref rU, .int lw, .int tx, .ref rL, .ref rX, .ref qR, .ref qB, .ref qP, .int qnb, .int qnp, .ref aR, .ref aB, .ref aP, .int nb, .int np, .ref aN, .ref rf, .int ho, .int br, .ref aK, .int ac, .long dw, .ref aE, .int sr, .int sf, .ref aA, .ref aH, .ref aI, .int hi])), (tB, .inl (cI, 240, .inl fB)), (rw, .inl (cI, 3, .inl u.2.2))] t.heap ∧ va_D (va_A [(h0, .inr (11, [.int th, .ref tB, .int tsz, .int tat, .int (-1), .int dp, .ref rC, .ref rV, .ref rD, .ref rK, .ref rT, .ref rS, .ref rU, .int lw, .int tx, .ref rL, .ref rX, .ref qR, .ref qB, .ref qP, .int qnb, .int qnp, .ref aR, .ref aB, .ref aP, .int nb, .int np, .ref aN, .ref rf, .int ho, .int br, .ref aK, .int ac, .long dw, .ref aE, .int sr, .int sf, .ref aA, .ref aH, .ref aI, .int hi])), (tB, .inl (cI, 240, .inl fB)), (rw, .inl (cI, 3, .inl frw))] sz) [(h0, .inr (11, [.int th, .ref tB, .int tsz, .int u.1, .int u.2.1, .int dp, .ref rC, .ref rV, .ref rD, .ref rK, .ref rT, .ref rS, .ref rU, .int lw, .int tx, .ref rL, .ref rX, .ref qR, .ref qB, .ref qP, .int qnb, .int qnp, .ref aR, .ref aB, .ref aP, .int nb, .int np, .ref aN, .ref rf, .int ho, .int br, .ref aK, .int ac, .long dw, .ref aE, .int sr, .int sf, .ref aA, .ref aH, .ref aI, .int hi])), (tB, .inl (cI, 240, .inl fB)), (rw, .inl (cI, 3, .inl u.2.2))]) (va_A [(h0, .inr (11, [.int th, .ref tB, .int tsz, .int tat, .int (-1), .int dp, .ref rC, .ref rV, .ref rD, .ref rK, .ref rT, .ref rS, .ref rU, .int lw, .int tx, .ref rL, .ref rX, .ref qR, .ref qB, .ref qP, .int qnb, .int qnp, .ref aR, .ref aB, .ref aP, .int nb, .int np, .ref aN, .ref rf, .int ho, .int br, .ref aK, .int ac, .long dw, .ref aE, .int sr, .int sf, .ref aA, .ref aH, .ref aI, .int hi])), (tB, .inl (cI, 240, .inl fB)), (rw, .inl (cI, 3, .inl frw))] sz)) 0 0 (va_A [(h0, .inr (11, [.int th, .ref tB, .int tsz, .int tat, .int (-1), .int dp, .ref rC, .ref rV, .ref rD, .ref rK, .ref rT, .ref rS, .ref rU, .int lw, .int tx, .ref rL, .ref rX, .ref qR, .ref qB, .ref qP, .int qnb, .int qnp, .ref aR, .ref aB, .ref aP, .int nb, .int np, .ref aN, .ref rf, .int ho, .int br, .ref aK, .int ac, .long dw, .ref aE, .int sr, .int sf, .ref aA, .ref aH, .ref aI, .int hi])), (tB, .inl (cI, 240, .inl fB)), (rw, .inl (cI, 3, .inl frw))] sz) := by
  refine Met.ofW (cc := cX11_items) (maxL := 7) (ret := none) (by decide) rfl ?_
  intro p e s m args below meth c s₁ B hml hv
  have y_ac : zHid (0 ≤ ac.toInt ∧ ac.toInt ≤ 40) := n_ac
  have y_hi : zHid (0 ≤ hi.toInt ∧ hi.toInt ≤ 1) := n_hi
  have y_ho : zHid ((-1) ≤ ho.toInt ∧ ho.toInt ≤ 3) := n_ho
  have y_lw : zHid (0 ≤ lw.toInt ∧ lw.toInt ≤ 4) := n_lw
  have y_nb : zHid (0 ≤ nb.toInt ∧ nb.toInt ≤ 6) := n_nb
  have y_np : zHid (0 ≤ np.toInt ∧ np.toInt ≤ 5) := n_np
  have y_qnb : zHid (0 ≤ qnb.toInt ∧ qnb.toInt ≤ 6) := n_qnb
  have y_qnp : zHid (0 ≤ qnp.toInt ∧ qnp.toInt ≤ 5) := n_qnp
  clear n_ac n_hi n_ho n_lw n_nb n_np n_qnb n_qnp
  obtain ⟨hargs, hsz, hP, hK, hT⟩ := hv
  have hx := B.exec
  have hb := B.bytes
  have hr := B.returns
  have hts : ∀ w ∈ wA, w.before args s = true := fun w h => atoms_spec (ws := .code yX11_items cX11_items 7 none :: wA) B.pre w (List.mem_cons_of_mem _ h)
  have hown : s.vm.findClass RX11 = some m.cls := findClass_of_methodNamed B.named
  have hlocks := B.notSynchronized
  subst hsz
  have hD := hT.self (sz := s.heap.size)
  generalize hAe : va_A [(h0, .inr (11, [.int th, .ref tB, .int tsz, .int tat, .int (-1), .int dp, .ref rC, .ref rV, .ref rD, .ref rK, .ref rT, .ref rS, .ref rU, .int lw, .int tx, .ref rL, .ref rX, .ref qR, .ref qB, .ref qP, .int qnb, .int qnp, .ref aR, .ref aB, .ref aP, .int nb, .int np, .ref aN, .ref rf, .int ho, .int br, .ref aK, .int ac, .long dw, .ref aE, .int sr, .int sf, .ref aA, .ref aH, .ref aI, .int hi])), (tB, .inl (cI, 240, .inl fB)), (rw, .inl (cI, 3, .inl frw))] s.heap.size = A at hD ⊢
  have hA : ∀ q : Nat, s.heap.size ≤ q → A q := fun q h => by rw [← hAe]; exact Or.inr h
  have hl := lv_entry ([.ref h0, .int 115, .ref rw, .int 0, .int 3]) (n := 7) (Nat.le_of_ble_eq_true rfl)
  rw [show entryFrame m args 7 = entryFrame m ([.ref h0, .int 115, .ref rw, .int 0, .int 3] : List Value).toArray 7 by rw [hargs], lg_entry_eq]
  generalize (lg_sl ([.ref h0, .int 115, .ref rw, .int 0, .int 3]) ++ List.replicate (7 - (lg_sl ([.ref h0, .int 115, .ref rw, .int 0, .int 3])).length) Slot.unset).toArray = ls at hl ⊢
  have hl : lv_has ls 7 [(0, .ref h0), (1, .int 115), (2, .ref rw), (3, .int 0), (4, .int 3)] := hl
  refine zstart (fun H hH => ?_)
  rw [← hH] at hP
  have hS : va_S A s.heap H [] := by rw [hH]; exact va_S.rf
  generalize ([] : List Loc) = locs at hS ⊢
  refine zgen (fun R Q hR hQ => ?_)
  have zm1 : (-1 : Int32).toInt = -1 := by decide
  refine lv_iconst (v := 0) hx hb dX11_items_0 (by decide) ?_
  have J3 : ∀ (n : Nat) (m3_A_rw : Nat → Int32) (m3_L_5 : Int32), (0 ≤ m3_L_5.toInt ∧ m3_L_5.toInt ≤ 3) → (zUs 0 0 frw m3_A_rw m3_L_5) → (4 - m3_L_5.toInt).toNat = n → ∀ (H : Heap) (locs : List Loc) (ls : Array Slot), va_P (dC, dI) vwCl [(h0, .inr (11, [.int th, .ref tB, .int tsz, .int tat, .int (-1), .int dp, .ref rC, .ref rV, .ref rD, .ref rK, .ref rT, .ref rS, .ref rU, .int lw, .int tx, .ref rL, .ref rX, .ref qR, .ref qB, .ref qP, .int qnb, .int qnp, .ref aR, .ref aB, .ref aP, .int nb, .int np, .ref aN, .ref rf, .int ho, .int br, .ref aK, .int ac, .long dw, .ref aE, .int sr, .int sf, .ref aA, .ref aH, .ref aI, .int hi])), (tB, .inl (cI, 240, .inl fB)), (rw, .inl (cI, 3, .inl m3_A_rw))] H → va_D A [(h0, .inr (11, [.int th, .ref tB, .int tsz, .int tat, .int (-1), .int dp, .ref rC, .ref rV, .ref rD, .ref rK, .ref rT, .ref rS, .ref rU, .int lw, .int tx, .ref rL, .ref rX, .ref qR, .ref qB, .ref qP, .int qnb, .int qnp, .ref aR, .ref aB, .ref aP, .int nb, .int np, .ref aN, .ref rf, .int ho, .int br, .ref aK, .int ac, .long dw, .ref aE, .int sr, .int sf, .ref aA, .ref aH, .ref aI, .int hi])), (tB, .inl (cI, 240, .inl fB)), (rw, .inl (cI, 3, .inl m3_A_rw))] → va_S A s.heap H locs → lv_has ls 7 [(5, .int m3_L_5), (0, .ref h0), (1, .int 115), (2, .ref rw), (3, .int 0), (4, .int 3)] → W p l e R s m args below meth c H locs 0 0 Q (F0 m 3 ls []) := by
    intro n3
    induction n3 using Nat.strongRecOn with
    | _ n3 ih3 =>
      intro m3_A_rw m3_L_5 jf3_0 jv3_0 hmu3 H locs ls hP hD hS hl
      refine lv_iload hx hb dX11_items_3 (lv_at hl 0 rfl) ?_
      refine lv_iload hx hb dX11_items_5 (lv_at hl 5 rfl) ?_
      refine lv_icmp_ge (tgt := 28) hx hb dX11_items_7 (by decide) (fun c7 => ?_) (fun c7 => ?_)
      · have c7 : 3 ≤ m3_L_5.toInt := z3 (by decide) rfl c7
        refine lv_iconst (v := 0) hx hb dX11_items_28 (by decide) ?_
        refine lv_istore (lv' := [(5, .int 0), (0, .ref h0), (1, .int 115), (2, .ref rw), (3, .int 0), (4, .int 3)]) hx hb dX11_items_29 hl (by decide) rfl (fun ls hl => ?_)
        refine lv_iload_n hx hb dX11_items_31 rfl (lv_at hl 2 rfl) ?_
        refine lv_aload_n hx hb dX11_items_32 rfl (lv_at hl 1 rfl) ?_
        obtain ⟨hPc, hDc, hFc⟩ := zc3 (wc := [(h0, .inr (11, [.int th, .ref tB, .int tsz, .int tat, .int (-1), .int dp, .ref rC, .ref rV, .ref rD, .ref rK, .ref rT, .ref rS, .ref rU, .int lw, .int tx, .ref rL, .ref rX, .ref qR, .ref qB, .ref qP, .int qnb, .int qnp, .ref aR, .ref aB, .ref aP, .int nb, .int np, .ref aN, .ref rf, .int ho, .int br, .ref aK, .int ac, .long dw, .ref aE, .int sr, .int sf, .ref aA, .ref aH, .ref aI, .int hi])), (tB, .inl (cI, 240, .inl fB))]) hP hD hS hA [0, 1] (by decide +kernel) rfl
        refine va_calli (va_runV (As := []) (rest := [.int 115]) ⟨hx, hb, hml, hown, hts⟩ (g_X11_look_u l dC dI cI cJ h0 th tB tsz tat ((-1)) dp rC rV rD rK rT rS rU lw tx rL rX qR qB qP qnb qnp aR aB aP nb np aN rf ho br aK ac dw aE sr sf aA aH aI hi fB H.size y_ac y_hi y_ho y_lw y_nb y_np y_qnb y_qnp n_tat n_tsz (by decide)) (cwV 0 hts (zgV qw1273 qw1275 qw32 qw108 qw1276) rfl rfl rfl hd_X11_look ⟨by rw [hR]; exact Nat.le_of_ble_eq_true rfl, by rw [hR]; exact Nat.le_of_ble_eq_true rfl⟩) (zPV hPc hK hDc (va_recv (q := (RX11, TX11, 41)) hK hP (ci := 11) (q0 := 0) rfl rfl)) rfl rfl hl.1 rfl (lv_room (Nat.le_of_ble_eq_true rfl)) dX11_items_33 ⟨Nat.zero_le _, Nat.zero_le _⟩) hS (fun q _ h => hFc q h) hFc (fun v33 u33 t H locs ht hvm hw hB hz1 hk1 hS9 => ?_)
        obtain ⟨u33_0, rfl⟩ : ∃ z, z = u33 := ⟨_, rfl⟩
        obtain ⟨hP9, hD9⟩ := zj2 (wX := [(h0, .inr (11, [.int th, .ref tB, .int tsz, .int u33_0, .int (-1), .int dp, .ref rC, .ref rV, .ref rD, .ref rK, .ref rT, .ref rS, .ref rU, .int lw, .int tx, .ref rL, .ref rX, .ref qR, .ref qB, .ref qP, .int qnb, .int qnp, .ref aR, .ref aB, .ref aP, .int nb, .int np, .ref aN, .ref rf, .int ho, .int br, .ref aK, .int ac, .long dw, .ref aE, .int sr, .int sf, .ref aA, .ref aH, .ref aI, .int hi])), (tB, .inl (cI, 240, .inl fB)), (rw, .inl (cI, 3, .inl m3_A_rw))]) hP hD hk1 hFc ht hB [0, 1] [(true, 0), (true, 1), (false, 2)] rfl (by decide +kernel) (by decide +kernel) rfl
        clear hP hD hS hPc hDc hFc hB hk1 hz1 hvm
        have hP := hP9
        have hD := hD9
        have hS := hS9
        clear hP9 hD9 hS9
        obtain ⟨f33_0, f33_1, f33_2, f33_3, f33_4⟩ : (0 ≤ u33_0.toInt) ∧ (u33_0.toInt ≤ 240) ∧ (¬ v33.toInt = -1 → u33_0.toInt < tsz.toInt) ∧ (tat.toInt ≤ u33_0.toInt) ∧ (zLk fB tsz tat v33 u33_0) := hw
        have F33 := f33_4
        have hPc : va_P (dC, dI) vwCl [] H := zP0
        have hDc : va_D (fun _ => True) [] := zD0
        have hFc := zfr hS hA
        refine va_calli (va_runS (As := [.int 115, .int v33]) (rest := []) ⟨hx, hb, hml, hown, hts⟩ (g_X11_itemOf_s l dC dI cI cJ v33 H.size) (cwS 2 hts (zgS qw1285 qw1286 qw108 qw1287) rfl rfl rfl hd_X11_itemOf ⟨by rw [hR]; exact Nat.le_of_ble_eq_true rfl, by rw [hR]; exact Nat.le_of_ble_eq_true rfl⟩) (zPS hPc hK hDc) rfl rfl hl.1 rfl (lv_room (Nat.le_of_ble_eq_true rfl)) dX11_items_36 ⟨Nat.zero_le _, Nat.zero_le _⟩) hS (fun q _ h => hFc q h) hFc (fun v36 u36 t H locs ht hvm hw hB hz1 hk1 hS9 => ?_)
        replace hP := zkeep hP hk1
        replace hS := hS9
        clear hPc hDc hFc hk1 hz1 hvm hS9
        obtain ⟨f36_0, f36_1, f36_2, f36_3⟩ : ((-1) ≤ v36.toInt) ∧ (v36.toInt ≤ 2) ∧ (0 ≤ v36.toInt → 97 ≤ v33.toInt) ∧ (v36 = cIt 0 v33.toInt) := hw
        have F36 := f36_3
        have J41 : ∀ (n : Nat) (m41_A_rw : Nat → Int32) (m41_F_h0_3 : Int32) (m41_F_h0_4 : Int32) (m41_L_5 : Int32) (m41_L_6 : Int32), (0 ≤ m41_F_h0_3.toInt ∧ m41_F_h0_3.toInt ≤ 240) → ((-1) ≤ m41_F_h0_4.toInt ∧ m41_F_h0_4.toInt ≤ 240) → ((-1) ≤ m41_L_6.toInt ∧ m41_L_6.toInt ≤ 2) → (zIn fB tsz (sIts (sB fB tsz.toInt) tsz.toInt 0 0 tat.toInt) 0 m41_L_5 m41_F_h0_4 m41_F_h0_3 m41_L_6) → (zInV fB tsz 0 3 0 tat.toInt frw m41_A_rw m41_L_5 m41_F_h0_4 m41_F_h0_3) → (0 ≤ m41_L_6.toInt → m41_F_h0_3.toInt < tsz.toInt) → (tat.toInt ≤ m41_F_h0_3.toInt) → (300 - m41_F_h0_3.toInt).toNat = n → ∀ (H : Heap) (locs : List Loc) (ls : Array Slot), va_P (dC, dI) vwCl [(h0, .inr (11, [.int th, .ref tB, .int tsz, .int m41_F_h0_3, .int m41_F_h0_4, .int dp, .ref rC, .ref rV, .ref rD, .ref rK, .ref rT, .ref rS, .ref rU, .int lw, .int tx, .ref rL, .ref rX, .ref qR, .ref qB, .ref qP, .int qnb, .int qnp, .ref aR, .ref aB, .ref aP, .int nb, .int np, .ref aN, .ref rf, .int ho, .int br, .ref aK, .int ac, .long dw, .ref aE, .int sr, .int sf, .ref aA, .ref aH, .ref aI, .int hi])), (tB, .inl (cI, 240, .inl fB)), (rw, .inl (cI, 3, .inl m41_A_rw))] H → va_D A [(h0, .inr (11, [.int th, .ref tB, .int tsz, .int m41_F_h0_3, .int m41_F_h0_4, .int dp, .ref rC, .ref rV, .ref rD, .ref rK, .ref rT, .ref rS, .ref rU, .int lw, .int tx, .ref rL, .ref rX, .ref qR, .ref qB, .ref qP, .int qnb, .int qnp, .ref aR, .ref aB, .ref aP, .int nb, .int np, .ref aN, .ref rf, .int ho, .int br, .ref aK, .int ac, .long dw, .ref aE, .int sr, .int sf, .ref aA, .ref aH, .ref aI, .int hi])), (tB, .inl (cI, 240, .inl fB)), (rw, .inl (cI, 3, .inl m41_A_rw))] → va_S A s.heap H locs → lv_has ls 7 [(6, .int m41_L_6), (5, .int m41_L_5), (0, .ref h0), (1, .int 115), (2, .ref rw), (3, .int 0), (4, .int 3)] → W p l e R s m args below meth c H locs 0 0 Q (F0 m 41 ls []) := by
          intro n41
          induction n41 using Nat.strongRecOn with
          | _ n41 ih41 =>
            intro m41_A_rw m41_F_h0_3 m41_F_h0_4 m41_L_5 m41_L_6 jf41_0 jf41_1 jf41_2 jv41_0 jv41_1 jf41_5 jf41_6 hmu41 H locs ls hP hD hS hl
            refine lv_aload_n hx hb dX11_items_41 rfl (lv_at hl 2 rfl) ?_
            refine va_get (D := (dC, dI)) (ci := 11) (v := .int m41_F_h0_4) (C := RX11) (T := TX11) (N := 41) hx hb hts iX11 hown hK hP 0 rfl rfl 4 (by decide) (hts _ qw1131) (fun _ h9 => h9) rfl dX11_items_42 ?_
            refine lv_iconst (v := (-1)) hx hb dX11_items_45 (by decide) ?_
            refine lv_icmp_ne (tgt := 126) hx hb dX11_items_46 (by decide) (fun c46 => ?_) (fun c46 => ?_)
            · have c46 : ¬ m41_F_h0_4.toInt = (-1) := z6 rfl (by decide) c46
              rw [hQ]
              exact W.vret hx hb hr (fun t ht hW => ⟨⟨(m41_F_h0_3, m41_F_h0_4, m41_A_rw), rfl, ⟨by (try dsimp only); omega, by (try dsimp only); omega, by (try dsimp only); omega, by (try dsimp only); omega, by (try dsimp only); omega, by (try dsimp only); first | exact zin_end jv41_0 (Or.inl (by omega)) | exact zin_end jv41_0 (Or.inr (Or.inl (by omega))), by (try dsimp only); first | exact zinVE jv41_1 jv41_0 (Or.inl (by omega)) | exact zinVE jv41_1 jv41_0 (Or.inr (Or.inl (by omega)))⟩, ⟨by rw [ht]; exact hP, hD⟩⟩, hS.F ht⟩) hS.2.2 dX11_items_126
            · have c46 : m41_F_h0_4.toInt = (-1) := z5 rfl (by decide) c46
              refine lv_iload hx hb dX11_items_49 (lv_at hl 0 rfl) ?_
              refine lv_iconst (v := (-1)) hx hb dX11_items_51 (by decide) ?_
              refine lv_icmp_eq (tgt := 126) hx hb dX11_items_52 (by decide) (fun c52 => ?_) (fun c52 => ?_)
              · have c52 : m41_L_6.toInt = (-1) := z5 rfl (by decide) c52
                rw [hQ]
                exact W.vret hx hb hr (fun t ht hW => ⟨⟨(m41_F_h0_3, m41_F_h0_4, m41_A_rw), rfl, ⟨by (try dsimp only); omega, by (try dsimp only); omega, by (try dsimp only); omega, by (try dsimp only); omega, by (try dsimp only); omega, by (try dsimp only); first | exact zin_end jv41_0 (Or.inl (by omega)) | exact zin_end jv41_0 (Or.inr (Or.inl (by omega))), by (try dsimp only); first | exact zinVE jv41_1 jv41_0 (Or.inl (by omega)) | exact zinVE jv41_1 jv41_0 (Or.inr (Or.inl (by omega)))⟩, ⟨by rw [ht]; exact hP, hD⟩⟩, hS.F ht⟩) hS.2.2 dX11_items_126
              · have c52 : ¬ m41_L_6.toInt = (-1) := z6 rfl (by decide) c52
                refine lv_iload hx hb dX11_items_55 (lv_at hl 1 rfl) ?_
                refine lv_iload hx hb dX11_items_57 (lv_at hl 0 rfl) ?_
                have hPc : va_P (dC, dI) vwCl [] H := zP0
                have hDc : va_D (fun _ => True) [] := zD0
                have hFc := zfr hS hA
                refine va_calli (va_runS (As := [.int m41_L_5, .int m41_L_6]) (rest := []) ⟨hx, hb, hml, hown, hts⟩ (g_X11_has l dC dI cI cJ m41_L_5 m41_L_6 H.size) (cwS 2 hts (zgS qw1288 qw1289 qw108 qw1290) rfl rfl rfl hd_X11_has ⟨by rw [hR]; exact Nat.le_of_ble_eq_true rfl, by rw [hR]; exact Nat.le_of_ble_eq_true rfl⟩) (zPS hPc hK hDc) rfl rfl hl.1 rfl (lv_room (Nat.le_of_ble_eq_true rfl)) dX11_items_59 ⟨Nat.zero_le _, Nat.zero_le _⟩) hS (fun q _ h => hFc q h) hFc (fun v59 u59 t H locs ht hvm hw hB hz1 hk1 hS9 => ?_)
                replace hP := zkeep hP hk1
                replace hS := hS9
                clear hPc hDc hFc hk1 hz1 hvm hS9
                obtain ⟨f59_0, f59_1, f59_2, f59_3⟩ : (0 ≤ v59.toInt) ∧ (v59.toInt ≤ 1) ∧ (v59.toInt = ((m41_L_5 >>> (m41_L_6 &&& 31)) &&& 1).toInt) ∧ (v59.toInt = (cBt m41_L_5 m41_L_6).toInt) := hw
                have F59 := f59_3
                refine lv_if_ne (tgt := 126) hx hb dX11_items_62 (by decide) (fun c62 => ?_) (fun c62 => ?_)
                · have c62 : ¬ v59.toInt = 0 := z6 rfl (by decide) c62
                  rw [hQ]
                  exact W.vret hx hb hr (fun t ht hW => ⟨⟨(m41_F_h0_3, m41_F_h0_4, m41_A_rw), rfl, ⟨by (try dsimp only); omega, by (try dsimp only); omega, by (try dsimp only); omega, by (try dsimp only); omega, by (try dsimp only); omega, by (try dsimp only); exact zin_end jv41_0 (Or.inr (Or.inr (Int32.toInt_inj.mp (F59.symm.trans (by rw [show (1 : Int32).toInt = 1 from by decide]; omega))))), by (try dsimp only); exact zinVE jv41_1 jv41_0 (Or.inr (Or.inr (Int32.toInt_inj.mp (F59.symm.trans (by rw [show (1 : Int32).toInt = 1 from by decide]; omega)))))⟩, ⟨by rw [ht]; exact hP, hD⟩⟩, hS.F ht⟩) hS.2.2 dX11_items_126
                · have c62 : v59.toInt = 0 := z5 rfl (by decide) c62
                  refine lv_iload hx hb dX11_items_65 (lv_at hl 1 rfl) ?_
                  refine lv_iconst (v := 1) hx hb dX11_items_67 (by decide) ?_
                  refine lv_iload hx hb dX11_items_68 (lv_at hl 0 rfl) ?_
                  refine lv_ishl hx hb dX11_items_70 ?_
                  refine lv_topi (fun v70 e70 => ?_)
                  have i70 : 1 ≤ v70.toInt ∧ v70.toInt ≤ 32 := zshl1 e70 (by omega) (by omega)
                  refine lv_ior hx hb dX11_items_71 ?_
                  refine lv_topi (fun v71 e71 => ?_)
                  refine lv_istore (lv' := [(5, .int v71), (6, .int m41_L_6), (0, .ref h0), (1, .int 115), (2, .ref rw), (3, .int 0), (4, .int 3)]) hx hb dX11_items_72 hl (by decide) rfl (fun ls hl => ?_)
                  refine lv_aload_n hx hb dX11_items_74 rfl (lv_at hl 2 rfl) ?_
                  refine lv_dup hx hb dX11_items_75 rfl ?_
                  refine va_get (D := (dC, dI)) (ci := 11) (v := .int m41_F_h0_3) (C := RX11) (T := TX11) (N := 41) hx hb hts iX11 hown hK hP 0 rfl rfl 3 (by decide) (hts _ qw1130) (fun _ h9 => h9) rfl dX11_items_76 ?_
                  refine lv_iconst (v := 1) hx hb dX11_items_79 (by decide) ?_
                  refine lv_iadd hx hb dX11_items_80 ?_
                  refine lv_topi (fun v80 e80 => ?_)
                  have i80 : v80.toInt = m41_F_h0_3.toInt + 1 := zadd e80 rfl (by decide) (by omega) (by omega)
                  refine va_put (D := (dC, dI)) (ci := 11) (v := .int v80) (ty := .int) (C := RX11) (T := TX11) (N := 41) hx hb hts iX11 tyX11 tyX11_ok nmX11 hown hK hP hD hS 0 rfl rfl 3 (by decide) (hts _ qw1130) (fun _ h9 => h9) rfl (by decide +kernel) rfl rfl (Nat.le_of_ble_eq_true rfl) dX11_items_81 (fun H locs hP9 hD9 hS9 => ?_)
                  clear hP hD hS
                  obtain ⟨hP, hD⟩ := zst (wX := [(h0, .inr (11, [.int th, .ref tB, .int tsz, .int v80, .int m41_F_h0_4, .int dp, .ref rC, .ref rV, .ref rD, .ref rK, .ref rT, .ref rS, .ref rU, .int lw, .int tx, .ref rL, .ref rX, .ref qR, .ref qB, .ref qP, .int qnb, .int qnp, .ref aR, .ref aB, .ref aP, .int nb, .int np, .ref aN, .ref rf, .int ho, .int br, .ref aK, .int ac, .long dw, .ref aE, .int sr, .int sf, .ref aA, .ref aH, .ref aI, .int hi])), (tB, .inl (cI, 240, .inl fB)), (rw, .inl (cI, 3, .inl m41_A_rw))]) hP9 hD9 rfl
                  have hS := hS9
                  clear hP9 hD9 hS9
                  refine lv_aload_n hx hb dX11_items_84 rfl (lv_at hl 4 rfl) ?_
                  refine lv_iload_n hx hb dX11_items_85 rfl (lv_at hl 5 rfl) ?_
                  refine lv_iload hx hb dX11_items_86 (lv_at hl 1 rfl) ?_
                  refine lv_iadd hx hb dX11_items_88 ?_
                  refine lv_topi (fun v88 e88 => ?_)
                  have i88 : v88.toInt = 0 + m41_L_6.toInt := zadd e88 (by decide) rfl (by omega) (by omega)
                  refine lv_aload_n hx hb dX11_items_89 rfl (lv_at hl 2 rfl) ?_
                  refine lv_iconst (v := 0) hx hb dX11_items_90 (by decide) ?_
                  refine lv_iload_n hx hb dX11_items_91 rfl (lv_at hl 3 rfl) ?_
                  refine lv_iload hx hb dX11_items_92 (lv_at hl 1 rfl) ?_
                  have hPc : va_P (dC, dI) vwCl [] H := zP0
                  have hDc : va_D (fun _ => True) [] := zD0
                  have hFc := zfr hS hA
                  refine va_calli (va_runS (As := [.int 115, .int m41_L_6]) (rest := [.int 0, .ref h0, .int v88, .ref rw]) ⟨hx, hb, hml, hown, hts⟩ (g_X11_highest_s l dC dI cI cJ m41_L_6 H.size) (cwS 2 hts (zgS qw1291 qw1292 qw108 qw1293) rfl rfl rfl hd_X11_highest ⟨by rw [hR]; exact Nat.le_of_ble_eq_true rfl, by rw [hR]; exact Nat.le_of_ble_eq_true rfl⟩) (zPS hPc hK hDc) rfl rfl hl.1 rfl (lv_room (Nat.le_of_ble_eq_true rfl)) dX11_items_94 ⟨Nat.zero_le _, Nat.zero_le _⟩) hS (fun q _ h => hFc q h) hFc (fun v94 u94 t H locs ht hvm hw hB hz1 hk1 hS9 => ?_)
                  replace hP := zkeep hP hk1
                  replace hS := hS9
                  clear hPc hDc hFc hk1 hz1 hvm hS9
                  obtain ⟨f94_0, f94_1, f94_2⟩ : (9 ≤ v94.toInt) ∧ (v94.toInt ≤ 99) ∧ (v94.toInt = cHi 0 m41_L_6) := hw
                  have F94 := f94_2
                  have zx_m41_F_h0_4 : ((-1) : Int32).toInt = (-1) := by decide
                  have zy_m41_F_h0_4 : m41_F_h0_4 = (-1) := z7 (a := (-1)) (by decide) (by omega)
                  rw [zy_m41_F_h0_4] at hP hD
                  obtain ⟨hPc, hDc, hFc⟩ := zc3 (wc := [(h0, .inr (11, [.int th, .ref tB, .int tsz, .int v80, .int (-1), .int dp, .ref rC, .ref rV, .ref rD, .ref rK, .ref rT, .ref rS, .ref rU, .int lw, .int tx, .ref rL, .ref rX, .ref qR, .ref qB, .ref qP, .int qnb, .int qnp, .ref aR, .ref aB, .ref aP, .int nb, .int np, .ref aN, .ref rf, .int ho, .int br, .ref aK, .int ac, .long dw, .ref aE, .int sr, .int sf, .ref aA, .ref aH, .ref aI, .int hi])), (tB, .inl (cI, 240, .inl fB))]) hP hD hS hA [0, 1] (by decide +kernel) rfl
                  refine va_calli (va_runV (As := [.int 0, .int v94]) (rest := [.int v88, .ref rw]) ⟨hx, hb, hml, hown, hts⟩ (g_X11_number l dC dI cI cJ h0 v94 th tB tsz v80 dp rC rV rD rK rT rS rU lw tx rL rX qR qB qP qnb qnp aR aB aP nb np aN rf ho br aK ac dw aE sr sf aA aH aI hi fB H.size y_ac y_hi y_ho y_lw y_nb y_np (by omega) y_qnb y_qnp (by omega) n_tsz) (cwV 2 hts (zgV qw1294 qw1296 qw35 qw108 qw1297) rfl rfl rfl hd_X11_number ⟨by rw [hR]; exact Nat.le_of_ble_eq_true rfl, by rw [hR]; exact Nat.le_of_ble_eq_true rfl⟩) (zPV hPc hK hDc (va_recv (q := (RX11, TX11, 41)) hK hP (ci := 11) (q0 := 0) rfl rfl)) rfl rfl hl.1 rfl (lv_room (Nat.le_of_ble_eq_true rfl)) dX11_items_97 ⟨Nat.zero_le _, Nat.zero_le _⟩) hS (fun q _ h => hFc q h) hFc (fun v97 u97 t H locs ht hvm hw hB hz1 hk1 hS9 => ?_)
                  obtain ⟨u97_0, u97_1⟩ := u97
                  obtain ⟨hP9, hD9⟩ := zj2 (wX := [(h0, .inr (11, [.int th, .ref tB, .int tsz, .int u97_0, .int u97_1, .int dp, .ref rC, .ref rV, .ref rD, .ref rK, .ref rT, .ref rS, .ref rU, .int lw, .int tx, .ref rL, .ref rX, .ref qR, .ref qB, .ref qP, .int qnb, .int qnp, .ref aR, .ref aB, .ref aP, .int nb, .int np, .ref aN, .ref rf, .int ho, .int br, .ref aK, .int ac, .long dw, .ref aE, .int sr, .int sf, .ref aA, .ref aH, .ref aI, .int hi])), (tB, .inl (cI, 240, .inl fB)), (rw, .inl (cI, 3, .inl m41_A_rw))]) hP hD hk1 hFc ht hB [0, 1] [(true, 0), (true, 1), (false, 2)] rfl (by decide +kernel) (by decide +kernel) rfl
                  clear hP hD hS hPc hDc hFc hB hk1 hz1 hvm
                  have hP := hP9
                  have hD := hD9
                  have hS := hS9
                  clear hP9 hD9 hS9
                  obtain ⟨f97_0, f97_1, f97_2, f97_3, f97_4, f97_5, f97_6, f97_7, f97_8, f97_9⟩ : (0 ≤ v97.toInt) ∧ (v97.toInt ≤ 99) ∧ (0 ≤ u97_0.toInt) ∧ (u97_0.toInt ≤ 240) ∧ ((-1) ≤ u97_1.toInt) ∧ (u97_1.toInt ≤ 240) ∧ (zW (sNm2 (sB fB tsz.toInt) v94.toInt (sk (sB fB tsz.toInt) tsz.toInt v80.toInt)) u97_1 u97_0) ∧ (u97_1.toInt = -1 → v97.toInt = sVl2 (sB fB tsz.toInt) (sk (sB fB tsz.toInt) tsz.toInt v80.toInt)) ∧ (u97_1.toInt = -1 → (0 ≤ v97.toInt ∧ v97.toInt ≤ v94.toInt ∧ v80.toInt + 1 ≤ u97_0.toInt)) ∧ (v80.toInt ≤ u97_0.toInt) := hw
                  have F97 := f97_6
                  have F97_1 := f97_7
                  refine va_iast hx hb hK hP hD hS 2 0 rfl rfl (vp_in_iff.mpr ⟨by omega, by omega⟩) dX11_items_100 (fun H locs hP9 hD9 hS9 => ?_)
                  clear hP hD hS
                  obtain ⟨v100_f, e100⟩ : ∃ g : Nat → Int32, g = upd m41_A_rw (v88).toNatClampNeg v97 := ⟨_, rfl⟩
                  rw [← e100] at hP9 hD9
                  obtain ⟨hP, hD⟩ := zst (wX := [(h0, .inr (11, [.int th, .ref tB, .int tsz, .int u97_0, .int u97_1, .int dp, .ref rC, .ref rV, .ref rD, .ref rK, .ref rT, .ref rS, .ref rU, .int lw, .int tx, .ref rL, .ref rX, .ref qR, .ref qB, .ref qP, .int qnb, .int qnp, .ref aR, .ref aB, .ref aP, .int nb, .int np, .ref aN, .ref rf, .int ho, .int br, .ref aK, .int ac, .long dw, .ref aE, .int sr, .int sf, .ref aA, .ref aH, .ref aI, .int hi])), (tB, .inl (cI, 240, .inl fB)), (rw, .inl (cI, 3, .inl v100_f))]) hP9 hD9 rfl
                  have hS := hS9
                  clear hP9 hD9 hS9
                  refine lv_aload_n hx hb dX11_items_101 rfl (lv_at hl 2 rfl) ?_
                  refine va_get (D := (dC, dI)) (ci := 11) (v := .int u97_1) (C := RX11) (T := TX11) (N := 41) hx hb hts iX11 hown hK hP 0 rfl rfl 4 (by decide) (hts _ qw1131) (fun _ h9 => h9) rfl dX11_items_102 ?_
                  refine lv_iconst (v := (-1)) hx hb dX11_items_105 (by decide) ?_
                  refine lv_icmp_ne (tgt := 120) hx hb dX11_items_106 (by decide) (fun c106 => ?_) (fun c106 => ?_)
                  · have c106 : ¬ u97_1.toInt = (-1) := z6 rfl (by decide) c106
                    refine lv_iconst (v := (-1)) hx hb dX11_items_120 (by decide) ?_
                    refine lv_istore (lv' := [(6, .int (-1)), (5, .int v71), (0, .ref h0), (1, .int 115), (2, .ref rw), (3, .int 0), (4, .int 3)]) hx hb dX11_items_121 hl (by decide) rfl (fun ls hl => ?_)
                    refine lv_goto (tgt := 41) hx hb dX11_items_123 (by decide) ?_
                    have zj41_m41_L_6 : ((-1) : Int32).toInt = (-1) := by decide
                    exact ih41 _ (by omega) v100_f u97_0 u97_1 v71 (-1) ⟨f97_2, f97_3⟩ ⟨f97_4, f97_5⟩ (by decide) (by first | (rw [e71, e70]; exact zin_go jv41_0 (by omega) (by omega) (fun z => by rw [z] at F59; have : (1 : Int32).toInt = 1 := (by decide); omega) i80 F94 F97 (by omega) F111 F114) | exact zin_bad jv41_0 (by omega) (by omega) (fun z => by rw [z] at F59; have : (1 : Int32).toInt = 1 := (by decide); omega) i80 F94 F97 (by omega)) (by first | (rw [e71, e70]; exact zinVS jv41_1 jv41_0 (by omega) (by omega) (fun z => by rw [z] at F59; have : (1 : Int32).toInt = 1 := (by decide); omega) i80 F94 F97 (by omega) F97_1 F111 e100 (by omega) (by omega)) | exact zinVB (by omega)) (by omega) (by omega) rfl H locs ls hP hD hS (lv_sub hl [0, 1, 2, 3, 4, 5, 6] rfl)
                  · have c106 : u97_1.toInt = (-1) := z5 rfl (by decide) c106
                    refine lv_iload_n hx hb dX11_items_109 rfl (lv_at hl 3 rfl) ?_
                    refine lv_aload_n hx hb dX11_items_110 rfl (lv_at hl 2 rfl) ?_
                    obtain ⟨hPc, hDc, hFc⟩ := zc3 (wc := [(h0, .inr (11, [.int th, .ref tB, .int tsz, .int u97_0, .int u97_1, .int dp, .ref rC, .ref rV, .ref rD, .ref rK, .ref rT, .ref rS, .ref rU, .int lw, .int tx, .ref rL, .ref rX, .ref qR, .ref qB, .ref qP, .int qnb, .int qnp, .ref aR, .ref aB, .ref aP, .int nb, .int np, .ref aN, .ref rf, .int ho, .int br, .ref aK, .int ac, .long dw, .ref aE, .int sr, .int sf, .ref aA, .ref aH, .ref aI, .int hi])), (tB, .inl (cI, 240, .inl fB))]) hP hD hS hA [0, 1] (by decide +kernel) rfl
                    refine va_calli (va_runV (As := []) (rest := [.int 115]) ⟨hx, hb, hml, hown, hts⟩ (g_X11_look_u l dC dI cI cJ h0 th tB tsz u97_0 u97_1 dp rC rV rD rK rT rS rU lw tx rL rX qR qB qP qnb qnp aR aB aP nb np aN rf ho br aK ac dw aE sr sf aA aH aI hi fB H.size y_ac y_hi y_ho y_lw y_nb y_np y_qnb y_qnp ⟨f97_2, f97_3⟩ n_tsz (by omega)) (cwV 0 hts (zgV qw1273 qw1275 qw32 qw108 qw1276) rfl rfl rfl hd_X11_look ⟨by rw [hR]; exact Nat.le_of_ble_eq_true rfl, by rw [hR]; exact Nat.le_of_ble_eq_true rfl⟩) (zPV hPc hK hDc (va_recv (q := (RX11, TX11, 41)) hK hP (ci := 11) (q0 := 0) rfl rfl)) rfl rfl hl.1 rfl (lv_room (Nat.le_of_ble_eq_true rfl)) dX11_items_111 ⟨Nat.zero_le _, Nat.zero_le _⟩) hS (fun q _ h => hFc q h) hFc (fun v111 u111 t H locs ht hvm hw hB hz1 hk1 hS9 => ?_)
                    obtain ⟨u111_0, rfl⟩ : ∃ z, z = u111 := ⟨_, rfl⟩
                    obtain ⟨hP9, hD9⟩ := zj2 (wX := [(h0, .inr (11, [.int th, .ref tB, .int tsz, .int u111_0, .int u97_1, .int dp, .ref rC, .ref rV, .ref rD, .ref rK, .ref rT, .ref rS, .ref rU, .int lw, .int tx, .ref rL, .ref rX, .ref qR, .ref qB, .ref qP, .int qnb, .int qnp, .ref aR, .ref aB, .ref aP, .int nb, .int np, .ref aN, .ref rf, .int ho, .int br, .ref aK, .int ac, .long dw, .ref aE, .int sr, .int sf, .ref aA, .ref aH, .ref aI, .int hi])), (tB, .inl (cI, 240, .inl fB)), (rw, .inl (cI, 3, .inl v100_f))]) hP hD hk1 hFc ht hB [0, 1] [(true, 0), (true, 1), (false, 2)] rfl (by decide +kernel) (by decide +kernel) rfl
                    clear hP hD hS hPc hDc hFc hB hk1 hz1 hvm
                    have hP := hP9
                    have hD := hD9
                    have hS := hS9
                    clear hP9 hD9 hS9
                    obtain ⟨f111_0, f111_1, f111_2, f111_3, f111_4⟩ : (0 ≤ u111_0.toInt) ∧ (u111_0.toInt ≤ 240) ∧ (¬ v111.toInt = -1 → u111_0.toInt < tsz.toInt) ∧ (u97_0.toInt ≤ u111_0.toInt) ∧ (zLk fB tsz u97_0 v111 u111_0) := hw
                    have F111 := f111_4
                    have hPc : va_P (dC, dI) vwCl [] H := zP0
                    have hDc : va_D (fun _ => True) [] := zD0
                    have hFc := zfr hS hA
                    refine va_calli (va_runS (As := [.int 115, .int v111]) (rest := []) ⟨hx, hb, hml, hown, hts⟩ (g_X11_itemOf_s l dC dI cI cJ v111 H.size) (cwS 2 hts (zgS qw1285 qw1286 qw108 qw1287) rfl rfl rfl hd_X11_itemOf ⟨by rw [hR]; exact Nat.le_of_ble_eq_true rfl, by rw [hR]; exact Nat.le_of_ble_eq_true rfl⟩) (zPS hPc hK hDc) rfl rfl hl.1 rfl (lv_room (Nat.le_of_ble_eq_true rfl)) dX11_items_114 ⟨Nat.zero_le _, Nat.zero_le _⟩) hS (fun q _ h => hFc q h) hFc (fun v114 u114 t H locs ht hvm hw hB hz1 hk1 hS9 => ?_)
                    replace hP := zkeep hP hk1
                    replace hS := hS9
                    clear hPc hDc hFc hk1 hz1 hvm hS9
                    obtain ⟨f114_0, f114_1, f114_2, f114_3⟩ : ((-1) ≤ v114.toInt) ∧ (v114.toInt ≤ 2) ∧ (0 ≤ v114.toInt → 97 ≤ v111.toInt) ∧ (v114 = cIt 0 v111.toInt) := hw
                    have F114 := f114_3
                    refine lv_goto (tgt := 121) hx hb dX11_items_117 (by decide) ?_
                    refine lv_istore (lv' := [(6, .int v114), (5, .int v71), (0, .ref h0), (1, .int 115), (2, .ref rw), (3, .int 0), (4, .int 3)]) hx hb dX11_items_121 hl (by decide) rfl (fun ls hl => ?_)
                    refine lv_goto (tgt := 41) hx hb dX11_items_123 (by decide) ?_
                    exact ih41 _ (by omega) v100_f u111_0 u97_1 v71 v114 ⟨f111_0, f111_1⟩ ⟨f97_4, f97_5⟩ ⟨f114_0, f114_1⟩ (by first | (rw [e71, e70]; exact zin_go jv41_0 (by omega) (by omega) (fun z => by rw [z] at F59; have : (1 : Int32).toInt = 1 := (by decide); omega) i80 F94 F97 (by omega) F111 F114) | exact zin_bad jv41_0 (by omega) (by omega) (fun z => by rw [z] at F59; have : (1 : Int32).toInt = 1 := (by decide); omega) i80 F94 F97 (by omega)) (by first | (rw [e71, e70]; exact zinVS jv41_1 jv41_0 (by omega) (by omega) (fun z => by rw [z] at F59; have : (1 : Int32).toInt = 1 := (by decide); omega) i80 F94 F97 (by omega) F97_1 F111 e100 (by omega) (by omega)) | exact zinVB (by omega)) (by omega) (by omega) rfl H locs ls hP hD hS (lv_sub hl [0, 1, 2, 3, 4, 5, 6] rfl)
        refine lv_istore (lv' := [(6, .int v36), (5, .int 0), (0, .ref h0), (1, .int 115), (2, .ref rw), (3, .int 0), (4, .int 3)]) hx hb dX11_items_39 hl (by decide) rfl (fun ls hl => ?_)
        have zj41_m41_L_5 : (0 : Int32).toInt = 0 := by decide
        have zj41_m41_F_h0_4 : ((-1) : Int32).toInt = (-1) := by decide
        exact J41 _ m3_A_rw u33_0 (-1) 0 v36 ⟨f33_0, f33_1⟩ (by decide) ⟨f36_0, f36_1⟩ (zin0 F33 F36 (by decide)) (zinV0 F33 jv3_0 (by omega)) (by omega) (by omega) rfl H locs ls hP hD hS (lv_sub hl [0, 1, 2, 3, 4, 5, 6] rfl)
      · have c7 : m3_L_5.toInt < 3 := z4 (by decide) rfl c7
        refine lv_aload_n hx hb dX11_items_10 rfl (lv_at hl 3 rfl) ?_
        refine lv_iload_n hx hb dX11_items_11 rfl (lv_at hl 4 rfl) ?_
        refine lv_iload hx hb dX11_items_12 (lv_at hl 0 rfl) ?_
        refine lv_iadd hx hb dX11_items_14 ?_
        refine lv_topi (fun v14 e14 => ?_)
        have i14 : v14.toInt = 0 + m3_L_5.toInt := zadd e14 (by decide) rfl (by omega) (by omega)
        refine lv_iload_n hx hb dX11_items_15 rfl (lv_at hl 2 rfl) ?_
        refine lv_iload hx hb dX11_items_16 (lv_at hl 0 rfl) ?_
        have hPc : va_P (dC, dI) vwCl [] H := zP0
        have hDc : va_D (fun _ => True) [] := zD0
        have hFc := zfr hS hA
        refine va_calli (va_runS (As := [.int 115, .int m3_L_5]) (rest := [.int v14, .ref rw]) ⟨hx, hb, hml, hown, hts⟩ (g_X11_usual_s l dC dI cI cJ m3_L_5 H.size) (cwS 2 hts (zgS qw1270 qw1271 qw108 qw1272) rfl rfl rfl hd_X11_usual ⟨by rw [hR]; exact Nat.le_of_ble_eq_true rfl, by rw [hR]; exact Nat.le_of_ble_eq_true rfl⟩) (zPS hPc hK hDc) rfl rfl hl.1 rfl (lv_room (Nat.le_of_ble_eq_true rfl)) dX11_items_18 ⟨Nat.zero_le _, Nat.zero_le _⟩) hS (fun q _ h => hFc q h) hFc (fun v18 u18 t H locs ht hvm hw hB hz1 hk1 hS9 => ?_)
        replace hP := zkeep hP hk1
        replace hS := hS9
        clear hPc hDc hFc hk1 hz1 hvm hS9
        obtain ⟨f18_0, f18_1, f18_2⟩ : (3 ≤ v18.toInt) ∧ (v18.toInt ≤ 40) ∧ (0 ≤ m3_L_5.toInt → v18.toInt = cDf 0 m3_L_5.toInt.toNat) := hw
        have F18 := f18_2
        refine va_iast hx hb hK hP hD hS 2 0 rfl rfl (vp_in_iff.mpr ⟨by omega, by omega⟩) dX11_items_21 (fun H locs hP9 hD9 hS9 => ?_)
        clear hP hD hS
        obtain ⟨v21_f, e21⟩ : ∃ g : Nat → Int32, g = upd m3_A_rw (v14).toNatClampNeg v18 := ⟨_, rfl⟩
        rw [← e21] at hP9 hD9
        obtain ⟨hP, hD⟩ := zst (wX := [(h0, .inr (11, [.int th, .ref tB, .int tsz, .int tat, .int (-1), .int dp, .ref rC, .ref rV, .ref rD, .ref rK, .ref rT, .ref rS, .ref rU, .int lw, .int tx, .ref rL, .ref rX, .ref qR, .ref qB, .ref qP, .int qnb, .int qnp, .ref aR, .ref aB, .ref aP, .int nb, .int np, .ref aN, .ref rf, .int ho, .int br, .ref aK, .int ac, .long dw, .ref aE, .int sr, .int sf, .ref aA, .ref aH, .ref aI, .int hi])), (tB, .inl (cI, 240, .inl fB)), (rw, .inl (cI, 3, .inl v21_f))]) hP9 hD9 rfl
        have hS := hS9
        clear hP9 hD9 hS9
        obtain ⟨v22, e22⟩ : ∃ y : Int32, y = m3_L_5 + Int32.ofInt (1) := ⟨_, rfl⟩
        refine lv_iinc (v := v22) (lv' := [(5, .int v22), (0, .ref h0), (1, .int 115), (2, .ref rw), (3, .int 0), (4, .int 3)]) hx hb dX11_items_22 hl (k := 0) rfl e22.symm (by decide) rfl (fun ls hl => ?_)
        have i22 : v22.toInt = m3_L_5.toInt + 1 := zaddI e22 (by decide) (by omega) (by omega)
        refine lv_goto (tgt := 3) hx hb dX11_items_25 (by decide) ?_
        exact ih3 _ (by omega) v21_f v22 (by omega) (zUsS jv3_0 e21 (by omega) (by omega) (F18 (by omega)) i22) rfl H locs ls hP hD hS (lv_sub hl [0, 1, 2, 3, 4, 5] rfl)
  refine lv_istore (lv' := [(5, .int 0), (0, .ref h0), (1, .int 115), (2, .ref rw), (3, .int 0), (4, .int 3)]) hx hb dX11_items_1 hl (by decide) rfl (fun ls hl => ?_)
  have zj3_m3_L_5 : (0 : Int32).toInt = 0 := by decide
  exact J3 _ frw 0 (by decide) (zUs0) rfl H locs ls hP hD hS (lv_sub hl [0, 1, 2, 3, 4, 5] rfl)
set_option maxHeartbeats 4000000 in
set_option maxRecDepth 100000 in
theorem g_X11_items_b (l : Launch) (dC : Nat → ClassId) (dI : Nat → Nat → Nat) (cI cJ : ClassId) (h0 : Nat) (rw : Nat) (p3 : Int32) (th : Int32) (tB : Nat) (tsz : Int32) (tat : Int32) (dp : Int32) (rC : Nat) (rV : Nat) (rD : Nat) (rK : Nat) (rT : Nat) (rS : Nat) (rU : Nat) (lw : Int32) (tx : Int32) (rL : Nat) (rX : Nat) (qR : Nat) (qB : Nat) (qP : Nat) (qnb : Int32) (qnp : Int32) (aR : Nat) (aB : Nat) (aP : Nat) (nb : Int32) (np : Int32) (aN : Nat) (rf : Nat) (ho : Int32) (br : Int32) (aK : Nat) (ac : Int32) (dw : Int64) (aE : Nat) (sr : Int32) (sf : Int32) (aA : Nat) (aH : Nat) (aI : Nat) (hi : Int32) (fB : Nat → Int32) (frw : Nat → Int32) (sz : Nat) (n_ac : 0 ≤ ac.toInt ∧ ac.toInt ≤ 40) (n_hi : 0 ≤ hi.toInt ∧ hi.toInt ≤ 1) (n_ho : (-1) ≤ ho.toInt ∧ ho.toInt ≤ 3) (n_lw : 0 ≤ lw.toInt ∧ lw.toInt ≤ 4) (n_nb : 0 ≤ nb.toInt ∧ nb.toInt ≤ 6) (n_np : 0 ≤ np.toInt ∧ np.toInt ≤ 5) (n_p3 : 0 ≤ p3.toInt ∧ p3.toInt ≤ 20) (n_qnb : 0 ≤ qnb.toInt ∧ qnb.toInt ≤ 6) (n_qnp : 0 ≤ qnp.toInt ∧ qnp.toInt ≤ 5) (n_tat : 0 ≤ tat.toInt ∧ tat.toInt ≤ 240) (n_tsz : 0 ≤ tsz.toInt ∧ tsz.toInt ≤ 240)    : Met l yX11_items (.code yX11_items cX11_items 7 none :: wA) ({ frames := 3, cells := 0, slots := 0, locals := 63 }) (zP (dC, dI) [(cI, .int), (cJ, .long)] [.ref h0, .int 98, .ref rw, .int p3, .int 4] sz [(h0, .inr (11, [.int th, .ref tB, .int tsz, .int tat, .int (-1), .int dp, .ref rC, .ref rV, .ref rD, .ref rK, .ref rT, .ref rS, .ref rU, .int lw, .int tx, .ref rL, .ref rX, .ref qR, .ref qB, .ref qP, .int qnb, .int qnp, .ref aR, .ref aB, .ref aP, .int nb, .int np, .ref aN, .ref rf, .int ho, .int br, .ref aK, .int ac, .long dw, .ref aE, .int sr, .int sf, .ref aA, .ref aH, .ref aI, .int hi])), (tB, .inl (cI, 240, .inl fB)), (rw, .inl (cI, 24, .inl frw))]) (va_Qv (fun (u : Int32 × Int32 × (Nat → Int32)) => (0 ≤ u.1.toInt) ∧ (u.1.toInt ≤ 240) ∧ ((-1) ≤ u.2.1.toInt) ∧ (u.2.1.toInt ≤ 240) ∧ (tat.toInt ≤ u.1.toInt) ∧ (zIt frw u.2.2 p3.toInt (u.2.1.toInt = -1)) ∧ (zW (sIts (sB fB tsz.toInt) tsz.toInt 1 0 tat.toInt) u.2.1 u.1) ∧ (u.2.1.toInt = -1 → zIg fB tsz 1 4 (p3.toInt.toNat) tat.toInt frw u.2.2)) (fun (u : Int32 × Int32 × (Nat → Int32)) (t : State) => va_P (dC, dI) vwCl [(h0, .inr (11, [.int th, .ref tB, .int tsz, .int u.1, .int u.2.1, .int dp, .ref rC, .ref rV, .ref rD, .ref rK, .ref rT, .ref rS, .ref rU, .int lw, .int tx, .ref rL, .ref rX, .ref qR, .ref qB, .ref qP, .int qnb, .int qnp, .ref aR, .ref aB, .ref aP, .int nb, .int np, .ref aN, .ref rf, .int ho, .int br, .ref aK, .int ac, .long dw, .ref aE, .int sr, .int sf, .ref aA, .ref aH, .ref aI, .int hi])), (tB, .inl (cI, 240, .inl fB)), (rw, .inl (cI, 24, .inl u.2.2))] t.heap ∧ va_D (va_A [(h0, .inr (11, [.int th, .ref tB, .int tsz, .int tat, .int (-1), .int dp, .ref rC, .ref rV, .ref rD, .ref rK, .ref rT, .ref rS, .ref rU, .int lw, .int tx, .ref rL, .ref rX, .ref qR, .ref qB, .ref qP, .int qnb, .int qnp, .ref aR, .ref aB, .ref aP, .int nb, .int np, .ref aN, .ref rf, .int ho, .int br, .ref aK, .int ac, .long dw, .ref aE, .int sr, .int sf, .ref aA, .ref aH, .ref aI, .int hi])), (tB, .inl (cI, 240, .inl fB)), (rw, .inl (cI, 24, .inl frw))] sz) [(h0, .inr (11, [.int th, .ref tB, .int tsz, .int u.1, .int u.2.1, .int dp, .ref rC, .ref rV, .ref rD, .ref rK, .ref rT, .ref rS, .ref rU, .int lw, .int tx, .ref rL, .ref rX, .ref qR, .ref qB, .ref qP, .int qnb, .int qnp, .ref aR, .ref aB, .ref aP, .int nb, .int np, .ref aN, .ref rf, .int ho, .int br, .ref aK, .int ac, .long dw, .ref aE, .int sr, .int sf, .ref aA, .ref aH, .ref aI, .int hi])), (tB, .inl (cI, 240, .inl fB)), (rw, .inl (cI, 24, .inl u.2.2))]) (va_A [(h0, .inr (11, [.int th, .ref tB, .int tsz, .int tat, .int (-1), .int dp, .ref rC, .ref rV, .ref rD, .ref rK, .ref rT, .ref rS, .ref rU, .int lw, .int tx, .ref rL, .ref rX, .ref qR, .ref qB, .ref qP, .int qnb, .int qnp, .ref aR, .ref aB, .ref aP, .int nb, .int np, .ref aN, .ref rf, .int ho, .int br, .ref aK, .int ac, .long dw, .ref aE, .int sr, .int sf, .ref aA, .ref aH, .ref aI, .int hi])), (tB, .inl (cI, 240, .inl fB)), (rw, .inl (cI, 24, .inl frw))] sz)) 0 0 (va_A [(h0, .inr (11, [.int th, .ref tB, .int tsz, .int tat, .int (-1), .int dp, .ref rC, .ref rV, .ref rD, .ref rK, .ref rT, .ref rS, .ref rU, .int lw, .int tx, .ref rL, .ref rX, .ref qR, .ref qB, .ref qP, .int qnb, .int qnp, .ref aR, .ref aB, .ref aP, .int nb, .int np, .ref aN, .ref rf, .int ho, .int br, .ref aK, .int ac, .long dw, .ref aE, .int sr, .int sf, .ref aA, .ref aH, .ref aI, .int hi])), (tB, .inl (cI, 240, .inl fB)), (rw, .inl (cI, 24, .inl frw))] sz) := by
  refine Met.ofW (cc := cX11_items) (maxL := 7) (ret := none) (by decide) rfl ?_
  intro p e s m args below meth c s₁ B hml hv
  have y_ac : zHid (0 ≤ ac.toInt ∧ ac.toInt ≤ 40) := n_ac
  have y_hi : zHid (0 ≤ hi.toInt ∧ hi.toInt ≤ 1) := n_hi
  have y_ho : zHid ((-1) ≤ ho.toInt ∧ ho.toInt ≤ 3) := n_ho
  have y_lw : zHid (0 ≤ lw.toInt ∧ lw.toInt ≤ 4) := n_lw
  have y_nb : zHid (0 ≤ nb.toInt ∧ nb.toInt ≤ 6) := n_nb
  have y_np : zHid (0 ≤ np.toInt ∧ np.toInt ≤ 5) := n_np
  have y_qnb : zHid (0 ≤ qnb.toInt ∧ qnb.toInt ≤ 6) := n_qnb
  have y_qnp : zHid (0 ≤ qnp.toInt ∧ qnp.toInt ≤ 5) := n_qnp
  clear n_ac n_hi n_ho n_lw n_nb n_np n_qnb n_qnp
  obtain ⟨hargs, hsz, hP, hK, hT⟩ := hv
  have hx := B.exec
  have hb := B.bytes
  have hr := B.returns
  have hts : ∀ w ∈ wA, w.before args s = true := fun w h => atoms_spec (ws := .code yX11_items cX11_items 7 none :: wA) B.pre w (List.mem_cons_of_mem _ h)
  have hown : s.vm.findClass RX11 = some m.cls := findClass_of_methodNamed B.named
  have hlocks := B.notSynchronized
  subst hsz
  have hD := hT.self (sz := s.heap.size)
  generalize hAe : va_A [(h0, .inr (11, [.int th, .ref tB, .int tsz, .int tat, .int (-1), .int dp, .ref rC, .ref rV, .ref rD, .ref rK, .ref rT, .ref rS, .ref rU, .int lw, .int tx, .ref rL, .ref rX, .ref qR, .ref qB, .ref qP, .int qnb, .int qnp, .ref aR, .ref aB, .ref aP, .int nb, .int np, .ref aN, .ref rf, .int ho, .int br, .ref aK, .int ac, .long dw, .ref aE, .int sr, .int sf, .ref aA, .ref aH, .ref aI, .int hi])), (tB, .inl (cI, 240, .inl fB)), (rw, .inl (cI, 24, .inl frw))] s.heap.size = A at hD ⊢
  have hA : ∀ q : Nat, s.heap.size ≤ q → A q := fun q h => by rw [← hAe]; exact Or.inr h
  have hl := lv_entry ([.ref h0, .int 98, .ref rw, .int p3, .int 4]) (n := 7) (Nat.le_of_ble_eq_true rfl)
  rw [show entryFrame m args 7 = entryFrame m ([.ref h0, .int 98, .ref rw, .int p3, .int 4] : List Value).toArray 7 by rw [hargs], lg_entry_eq]
  generalize (lg_sl ([.ref h0, .int 98, .ref rw, .int p3, .int 4]) ++ List.replicate (7 - (lg_sl ([.ref h0, .int 98, .ref rw, .int p3, .int 4])).length) Slot.unset).toArray = ls at hl ⊢
  have hl : lv_has ls 7 [(0, .ref h0), (1, .int 98), (2, .ref rw), (3, .int p3), (4, .int 4)] := hl
  refine zstart (fun H hH => ?_)
  rw [← hH] at hP
  have hS : va_S A s.heap H [] := by rw [hH]; exact va_S.rf
  generalize ([] : List Loc) = locs at hS ⊢
  refine zgen (fun R Q hR hQ => ?_)
  have zm1 : (-1 : Int32).toInt = -1 := by decide
  refine lv_iconst (v := 0) hx hb dX11_items_0 (by decide) ?_
  have J3 : ∀ (n : Nat) (m3_A_rw : Nat → Int32) (m3_L_5 : Int32), (0 ≤ m3_L_5.toInt ∧ m3_L_5.toInt ≤ 4) → (zIt frw m3_A_rw p3.toInt (1 ≤ m3_L_5.toInt)) → (zUs 1 (p3.toInt.toNat) frw m3_A_rw m3_L_5) → (5 - m3_L_5.toInt).toNat = n → ∀ (H : Heap) (locs : List Loc) (ls : Array Slot), va_P (dC, dI) vwCl [(h0, .inr (11, [.int th, .ref tB, .int tsz, .int tat, .int (-1), .int dp, .ref rC, .ref rV, .ref rD, .ref rK, .ref rT, .ref rS, .ref rU, .int lw, .int tx, .ref rL, .ref rX, .ref qR, .ref qB, .ref qP, .int qnb, .int qnp, .ref aR, .ref aB, .ref aP, .int nb, .int np, .ref aN, .ref rf, .int ho, .int br, .ref aK, .int ac, .long dw, .ref aE, .int sr, .int sf, .ref aA, .ref aH, .ref aI, .int hi])), (tB, .inl (cI, 240, .inl fB)), (rw, .inl (cI, 24, .inl m3_A_rw))] H → va_D A [(h0, .inr (11, [.int th, .ref tB, .int tsz, .int tat, .int (-1), .int dp, .ref rC, .ref rV, .ref rD, .ref rK, .ref rT, .ref rS, .ref rU, .int lw, .int tx, .ref rL, .ref rX, .ref qR, .ref qB, .ref qP, .int qnb, .int qnp, .ref aR, .ref aB, .ref aP, .int nb, .int np, .ref aN, .ref rf, .int ho, .int br, .ref aK, .int ac, .long dw, .ref aE, .int sr, .int sf, .ref aA, .ref aH, .ref aI, .int hi])), (tB, .inl (cI, 240, .inl fB)), (rw, .inl (cI, 24, .inl m3_A_rw))] → va_S A s.heap H locs → lv_has ls 7 [(5, .int m3_L_5), (0, .ref h0), (1, .int 98), (2, .ref rw), (3, .int p3), (4, .int 4)] → W p l e R s m args below meth c H locs 0 0 Q (F0 m 3 ls []) := by
    intro n3
    induction n3 using Nat.strongRecOn with
    | _ n3 ih3 =>
      intro m3_A_rw m3_L_5 jf3_0 jv3_0 jv3_1 hmu3 H locs ls hP hD hS hl
      refine lv_iload hx hb dX11_items_3 (lv_at hl 0 rfl) ?_
      refine lv_iload hx hb dX11_items_5 (lv_at hl 5 rfl) ?_
      refine lv_icmp_ge (tgt := 28) hx hb dX11_items_7 (by decide) (fun c7 => ?_) (fun c7 => ?_)
      · have c7 : 4 ≤ m3_L_5.toInt := z3 (by decide) rfl c7
        refine lv_iconst (v := 0) hx hb dX11_items_28 (by decide) ?_
        refine lv_istore (lv' := [(5, .int 0), (0, .ref h0), (1, .int 98), (2, .ref rw), (3, .int p3), (4, .int 4)]) hx hb dX11_items_29 hl (by decide) rfl (fun ls hl => ?_)
        refine lv_iload_n hx hb dX11_items_31 rfl (lv_at hl 2 rfl) ?_
        refine lv_aload_n hx hb dX11_items_32 rfl (lv_at hl 1 rfl) ?_
        obtain ⟨hPc, hDc, hFc⟩ := zc3 (wc := [(h0, .inr (11, [.int th, .ref tB, .int tsz, .int tat, .int (-1), .int dp, .ref rC, .ref rV, .ref rD, .ref rK, .ref rT, .ref rS, .ref rU, .int lw, .int tx, .ref rL, .ref rX, .ref qR, .ref qB, .ref qP, .int qnb, .int qnp, .ref aR, .ref aB, .ref aP, .int nb, .int np, .ref aN, .ref rf, .int ho, .int br, .ref aK, .int ac, .long dw, .ref aE, .int sr, .int sf, .ref aA, .ref aH, .ref aI, .int hi])), (tB, .inl (cI, 240, .inl fB))]) hP hD hS hA [0, 1] (by decide +kernel) rfl
        refine va_calli (va_runV (As := []) (rest := [.int 98]) ⟨hx, hb, hml, hown, hts⟩ (g_X11_look_u l dC dI cI cJ h0 th tB tsz tat ((-1)) dp rC rV rD rK rT rS rU lw tx rL rX qR qB qP qnb qnp aR aB aP nb np aN rf ho br aK ac dw aE sr sf aA aH aI hi fB H.size y_ac y_hi y_ho y_lw y_nb y_np y_qnb y_qnp n_tat n_tsz (by decide)) (cwV 0 hts (zgV qw1273 qw1275 qw32 qw108 qw1276) rfl rfl rfl hd_X11_look ⟨by rw [hR]; exact Nat.le_of_ble_eq_true rfl, by rw [hR]; exact Nat.le_of_ble_eq_true rfl⟩) (zPV hPc hK hDc (va_recv (q := (RX11, TX11, 41)) hK hP (ci := 11) (q0 := 0) rfl rfl)) rfl rfl hl.1 rfl (lv_room (Nat.le_of_ble_eq_true rfl)) dX11_items_33 ⟨Nat.zero_le _, Nat.zero_le _⟩) hS (fun q _ h => hFc q h) hFc (fun v33 u33 t H locs ht hvm hw hB hz1 hk1 hS9 => ?_)
        obtain ⟨u33_0, rfl⟩ : ∃ z, z = u33 := ⟨_, rfl⟩
        obtain ⟨hP9, hD9⟩ := zj2 (wX := [(h0, .inr (11, [.int th, .ref tB, .int tsz, .int u33_0, .int (-1), .int dp, .ref rC, .ref rV, .ref rD, .ref rK, .ref rT, .ref rS, .ref rU, .int lw, .int tx, .ref rL, .ref rX, .ref qR, .ref qB, .ref qP, .int qnb, .int qnp, .ref aR, .ref aB, .ref aP, .int nb, .int np, .ref aN, .ref rf, .int ho, .int br, .ref aK, .int ac, .long dw, .ref aE, .int sr, .int sf, .ref aA, .ref aH, .ref aI, .int hi])), (tB, .inl (cI, 240, .inl fB)), (rw, .inl (cI, 24, .inl m3_A_rw))]) hP hD hk1 hFc ht hB [0, 1] [(true, 0), (true, 1), (false, 2)] rfl (by decide +kernel) (by decide +kernel) rfl
        clear hP hD hS hPc hDc hFc hB hk1 hz1 hvm
        have hP := hP9
        have hD := hD9
        have hS := hS9
        clear hP9 hD9 hS9
        obtain ⟨f33_0, f33_1, f33_2, f33_3, f33_4⟩ : (0 ≤ u33_0.toInt) ∧ (u33_0.toInt ≤ 240) ∧ (¬ v33.toInt = -1 → u33_0.toInt < tsz.toInt) ∧ (tat.toInt ≤ u33_0.toInt) ∧ (zLk fB tsz tat v33 u33_0) := hw
        have F33 := f33_4
        have hPc : va_P (dC, dI) vwCl [] H := zP0
        have hDc : va_D (fun _ => True) [] := zD0
        have hFc := zfr hS hA
        refine va_calli (va_runS (As := [.int 98, .int v33]) (rest := []) ⟨hx, hb, hml, hown, hts⟩ (g_X11_itemOf_b l dC dI cI cJ v33 H.size) (cwS 2 hts (zgS qw1285 qw1286 qw108 qw1287) rfl rfl rfl hd_X11_itemOf ⟨by rw [hR]; exact Nat.le_of_ble_eq_true rfl, by rw [hR]; exact Nat.le_of_ble_eq_true rfl⟩) (zPS hPc hK hDc) rfl rfl hl.1 rfl (lv_room (Nat.le_of_ble_eq_true rfl)) dX11_items_36 ⟨Nat.zero_le _, Nat.zero_le _⟩) hS (fun q _ h => hFc q h) hFc (fun v36 u36 t H locs ht hvm hw hB hz1 hk1 hS9 => ?_)
        replace hP := zkeep hP hk1
        replace hS := hS9
        clear hPc hDc hFc hk1 hz1 hvm hS9
        obtain ⟨f36_0, f36_1, f36_2, f36_3⟩ : ((-1) ≤ v36.toInt) ∧ (v36.toInt ≤ 3) ∧ (0 ≤ v36.toInt → 97 ≤ v33.toInt) ∧ (v36 = cIt 1 v33.toInt) := hw
        have F36 := f36_3
        have J41 : ∀ (n : Nat) (m41_A_rw : Nat → Int32) (m41_F_h0_3 : Int32) (m41_F_h0_4 : Int32) (m41_L_5 : Int32) (m41_L_6 : Int32), (0 ≤ m41_F_h0_3.toInt ∧ m41_F_h0_3.toInt ≤ 240) → ((-1) ≤ m41_F_h0_4.toInt ∧ m41_F_h0_4.toInt ≤ 240) → ((-1) ≤ m41_L_6.toInt ∧ m41_L_6.toInt ≤ 3) → (zIt frw m41_A_rw p3.toInt (m41_F_h0_4.toInt = -1)) → (zIn fB tsz (sIts (sB fB tsz.toInt) tsz.toInt 1 0 tat.toInt) 1 m41_L_5 m41_F_h0_4 m41_F_h0_3 m41_L_6) → (zInV fB tsz 1 4 (p3.toInt.toNat) tat.toInt frw m41_A_rw m41_L_5 m41_F_h0_4 m41_F_h0_3) → (0 ≤ m41_L_6.toInt → m41_F_h0_3.toInt < tsz.toInt) → (tat.toInt ≤ m41_F_h0_3.toInt) → (300 - m41_F_h0_3.toInt).toNat = n → ∀ (H : Heap) (locs : List Loc) (ls : Array Slot), va_P (dC, dI) vwCl [(h0, .inr (11, [.int th, .ref tB, .int tsz, .int m41_F_h0_3, .int m41_F_h0_4, .int dp, .ref rC, .ref rV, .ref rD, .ref rK, .ref rT, .ref rS, .ref rU, .int lw, .int tx, .ref rL, .ref rX, .ref qR, .ref qB, .ref qP, .int qnb, .int qnp, .ref aR, .ref aB, .ref aP, .int nb, .int np, .ref aN, .ref rf, .int ho, .int br, .ref aK, .int ac, .long dw, .ref aE, .int sr, .int sf, .ref aA, .ref aH, .ref aI, .int hi])), (tB, .inl (cI, 240, .inl fB)), (rw, .inl (cI, 24, .inl m41_A_rw))] H → va_D A [(h0, .inr (11, [.int th, .ref tB, .int tsz, .int m41_F_h0_3, .int m41_F_h0_4, .int dp, .ref rC, .ref rV, .ref rD, .ref rK, .ref rT, .ref rS, .ref rU, .int lw, .int tx, .ref rL, .ref rX, .ref qR, .ref qB, .ref qP, .int qnb, .int qnp, .ref aR, .ref aB, .ref aP, .int nb, .int np, .ref aN, .ref rf, .int ho, .int br, .ref aK, .int ac, .long dw, .ref aE, .int sr, .int sf, .ref aA, .ref aH, .ref aI, .int hi])), (tB, .inl (cI, 240, .inl fB)), (rw, .inl (cI, 24, .inl m41_A_rw))] → va_S A s.heap H locs → lv_has ls 7 [(6, .int m41_L_6), (5, .int m41_L_5), (0, .ref h0), (1, .int 98), (2, .ref rw), (3, .int p3), (4, .int 4)] → W p l e R s m args below meth c H locs 0 0 Q (F0 m 41 ls []) := by
          intro n41
          induction n41 using Nat.strongRecOn with
          | _ n41 ih41 =>
            intro m41_A_rw m41_F_h0_3 m41_F_h0_4 m41_L_5 m41_L_6 jf41_0 jf41_1 jf41_2 jv41_0 jv41_1 jv41_2 jf41_6 jf41_7 hmu41 H locs ls hP hD hS hl
            refine lv_aload_n hx hb dX11_items_41 rfl (lv_at hl 2 rfl) ?_
            refine va_get (D := (dC, dI)) (ci := 11) (v := .int m41_F_h0_4) (C := RX11) (T := TX11) (N := 41) hx hb hts iX11 hown hK hP 0 rfl rfl 4 (by decide) (hts _ qw1131) (fun _ h9 => h9) rfl dX11_items_42 ?_
            refine lv_iconst (v := (-1)) hx hb dX11_items_45 (by decide) ?_
            refine lv_icmp_ne (tgt := 126) hx hb dX11_items_46 (by decide) (fun c46 => ?_) (fun c46 => ?_)
            · have c46 : ¬ m41_F_h0_4.toInt = (-1) := z6 rfl (by decide) c46
              rw [hQ]
              exact W.vret hx hb hr (fun t ht hW => ⟨⟨(m41_F_h0_3, m41_F_h0_4, m41_A_rw), rfl, ⟨by (try dsimp only); omega, by (try dsimp only); omega, by (try dsimp only); omega, by (try dsimp only); omega, by (try dsimp only); omega, zIt_m jv41_0 (fun _ => by omega), by (try dsimp only); first | exact zin_end jv41_1 (Or.inl (by omega)) | exact zin_end jv41_1 (Or.inr (Or.inl (by omega))), by (try dsimp only); first | exact zinVE jv41_2 jv41_1 (Or.inl (by omega)) | exact zinVE jv41_2 jv41_1 (Or.inr (Or.inl (by omega)))⟩, ⟨by rw [ht]; exact hP, hD⟩⟩, hS.F ht⟩) hS.2.2 dX11_items_126
            · have c46 : m41_F_h0_4.toInt = (-1) := z5 rfl (by decide) c46
              refine lv_iload hx hb dX11_items_49 (lv_at hl 0 rfl) ?_
              refine lv_iconst (v := (-1)) hx hb dX11_items_51 (by decide) ?_
              refine lv_icmp_eq (tgt := 126) hx hb dX11_items_52 (by decide) (fun c52 => ?_) (fun c52 => ?_)
              · have c52 : m41_L_6.toInt = (-1) := z5 rfl (by decide) c52
                rw [hQ]
                exact W.vret hx hb hr (fun t ht hW => ⟨⟨(m41_F_h0_3, m41_F_h0_4, m41_A_rw), rfl, ⟨by (try dsimp only); omega, by (try dsimp only); omega, by (try dsimp only); omega, by (try dsimp only); omega, by (try dsimp only); omega, zIt_m jv41_0 (fun _ => by omega), by (try dsimp only); first | exact zin_end jv41_1 (Or.inl (by omega)) | exact zin_end jv41_1 (Or.inr (Or.inl (by omega))), by (try dsimp only); first | exact zinVE jv41_2 jv41_1 (Or.inl (by omega)) | exact zinVE jv41_2 jv41_1 (Or.inr (Or.inl (by omega)))⟩, ⟨by rw [ht]; exact hP, hD⟩⟩, hS.F ht⟩) hS.2.2 dX11_items_126
              · have c52 : ¬ m41_L_6.toInt = (-1) := z6 rfl (by decide) c52
                refine lv_iload hx hb dX11_items_55 (lv_at hl 1 rfl) ?_
                refine lv_iload hx hb dX11_items_57 (lv_at hl 0 rfl) ?_
                have hPc : va_P (dC, dI) vwCl [] H := zP0
                have hDc : va_D (fun _ => True) [] := zD0
                have hFc := zfr hS hA
                refine va_calli (va_runS (As := [.int m41_L_5, .int m41_L_6]) (rest := []) ⟨hx, hb, hml, hown, hts⟩ (g_X11_has l dC dI cI cJ m41_L_5 m41_L_6 H.size) (cwS 2 hts (zgS qw1288 qw1289 qw108 qw1290) rfl rfl rfl hd_X11_has ⟨by rw [hR]; exact Nat.le_of_ble_eq_true rfl, by rw [hR]; exact Nat.le_of_ble_eq_true rfl⟩) (zPS hPc hK hDc) rfl rfl hl.1 rfl (lv_room (Nat.le_of_ble_eq_true rfl)) dX11_items_59 ⟨Nat.zero_le _, Nat.zero_le _⟩) hS (fun q _ h => hFc q h) hFc (fun v59 u59 t H locs ht hvm hw hB hz1 hk1 hS9 => ?_)
                replace hP := zkeep hP hk1
                replace hS := hS9
                clear hPc hDc hFc hk1 hz1 hvm hS9
                obtain ⟨f59_0, f59_1, f59_2, f59_3⟩ : (0 ≤ v59.toInt) ∧ (v59.toInt ≤ 1) ∧ (v59.toInt = ((m41_L_5 >>> (m41_L_6 &&& 31)) &&& 1).toInt) ∧ (v59.toInt = (cBt m41_L_5 m41_L_6).toInt) := hw
                have F59 := f59_3
                refine lv_if_ne (tgt := 126) hx hb dX11_items_62 (by decide) (fun c62 => ?_) (fun c62 => ?_)
                · have c62 : ¬ v59.toInt = 0 := z6 rfl (by decide) c62
                  rw [hQ]
                  exact W.vret hx hb hr (fun t ht hW => ⟨⟨(m41_F_h0_3, m41_F_h0_4, m41_A_rw), rfl, ⟨by (try dsimp only); omega, by (try dsimp only); omega, by (try dsimp only); omega, by (try dsimp only); omega, by (try dsimp only); omega, zIt_m jv41_0 (fun _ => by omega), by (try dsimp only); exact zin_end jv41_1 (Or.inr (Or.inr (Int32.toInt_inj.mp (F59.symm.trans (by rw [show (1 : Int32).toInt = 1 from by decide]; omega))))), by (try dsimp only); exact zinVE jv41_2 jv41_1 (Or.inr (Or.inr (Int32.toInt_inj.mp (F59.symm.trans (by rw [show (1 : Int32).toInt = 1 from by decide]; omega)))))⟩, ⟨by rw [ht]; exact hP, hD⟩⟩, hS.F ht⟩) hS.2.2 dX11_items_126
                · have c62 : v59.toInt = 0 := z5 rfl (by decide) c62
                  refine lv_iload hx hb dX11_items_65 (lv_at hl 1 rfl) ?_
                  refine lv_iconst (v := 1) hx hb dX11_items_67 (by decide) ?_
                  refine lv_iload hx hb dX11_items_68 (lv_at hl 0 rfl) ?_
                  refine lv_ishl hx hb dX11_items_70 ?_
                  refine lv_topi (fun v70 e70 => ?_)
                  have i70 : 1 ≤ v70.toInt ∧ v70.toInt ≤ 32 := zshl1 e70 (by omega) (by omega)
                  refine lv_ior hx hb dX11_items_71 ?_
                  refine lv_topi (fun v71 e71 => ?_)
                  refine lv_istore (lv' := [(5, .int v71), (6, .int m41_L_6), (0, .ref h0), (1, .int 98), (2, .ref rw), (3, .int p3), (4, .int 4)]) hx hb dX11_items_72 hl (by decide) rfl (fun ls hl => ?_)
                  refine lv_aload_n hx hb dX11_items_74 rfl (lv_at hl 2 rfl) ?_
                  refine lv_dup hx hb dX11_items_75 rfl ?_
                  refine va_get (D := (dC, dI)) (ci := 11) (v := .int m41_F_h0_3) (C := RX11) (T := TX11) (N := 41) hx hb hts iX11 hown hK hP 0 rfl rfl 3 (by decide) (hts _ qw1130) (fun _ h9 => h9) rfl dX11_items_76 ?_
                  refine lv_iconst (v := 1) hx hb dX11_items_79 (by decide) ?_
                  refine lv_iadd hx hb dX11_items_80 ?_
                  refine lv_topi (fun v80 e80 => ?_)
                  have i80 : v80.toInt = m41_F_h0_3.toInt + 1 := zadd e80 rfl (by decide) (by omega) (by omega)
                  refine va_put (D := (dC, dI)) (ci := 11) (v := .int v80) (ty := .int) (C := RX11) (T := TX11) (N := 41) hx hb hts iX11 tyX11 tyX11_ok nmX11 hown hK hP hD hS 0 rfl rfl 3 (by decide) (hts _ qw1130) (fun _ h9 => h9) rfl (by decide +kernel) rfl rfl (Nat.le_of_ble_eq_true rfl) dX11_items_81 (fun H locs hP9 hD9 hS9 => ?_)
                  clear hP hD hS
                  obtain ⟨hP, hD⟩ := zst (wX := [(h0, .inr (11, [.int th, .ref tB, .int tsz, .int v80, .int m41_F_h0_4, .int dp, .ref rC, .ref rV, .ref rD, .ref rK, .ref rT, .ref rS, .ref rU, .int lw, .int tx, .ref rL, .ref rX, .ref qR, .ref qB, .ref qP, .int qnb, .int qnp, .ref aR, .ref aB, .ref aP, .int nb, .int np, .ref aN, .ref rf, .int ho, .int br, .ref aK, .int ac, .long dw, .ref aE, .int sr, .int sf, .ref aA, .ref aH, .ref aI, .int hi])), (tB, .inl (cI, 240, .inl fB)), (rw, .inl (cI, 24, .inl m41_A_rw))]) hP9 hD9 rfl
                  have hS := hS9
                  clear hP9 hD9 hS9
                  refine lv_aload_n hx hb dX11_items_84 rfl (lv_at hl 4 rfl) ?_
                  refine lv_iload_n hx hb dX11_items_85 rfl (lv_at hl 5 rfl) ?_
                  refine lv_iload hx hb dX11_items_86 (lv_at hl 1 rfl) ?_
                  refine lv_iadd hx hb dX11_items_88 ?_
                  refine lv_topi (fun v88 e88 => ?_)
                  have i88 : v88.toInt = p3.toInt + m41_L_6.toInt := zadd e88 rfl rfl (by omega) (by omega)
                  refine lv_aload_n hx hb dX11_items_89 rfl (lv_at hl 2 rfl) ?_
                  refine lv_iconst (v := 0) hx hb dX11_items_90 (by decide) ?_
                  refine lv_iload_n hx hb dX11_items_91 rfl (lv_at hl 3 rfl) ?_
                  refine lv_iload hx hb dX11_items_92 (lv_at hl 1 rfl) ?_
                  have hPc : va_P (dC, dI) vwCl [] H := zP0
                  have hDc : va_D (fun _ => True) [] := zD0
                  have hFc := zfr hS hA
                  refine va_calli (va_runS (As := [.int 98, .int m41_L_6]) (rest := [.int 0, .ref h0, .int v88, .ref rw]) ⟨hx, hb, hml, hown, hts⟩ (g_X11_highest_b l dC dI cI cJ m41_L_6 H.size) (cwS 2 hts (zgS qw1291 qw1292 qw108 qw1293) rfl rfl rfl hd_X11_highest ⟨by rw [hR]; exact Nat.le_of_ble_eq_true rfl, by rw [hR]; exact Nat.le_of_ble_eq_true rfl⟩) (zPS hPc hK hDc) rfl rfl hl.1 rfl (lv_room (Nat.le_of_ble_eq_true rfl)) dX11_items_94 ⟨Nat.zero_le _, Nat.zero_le _⟩) hS (fun q _ h => hFc q h) hFc (fun v94 u94 t H locs ht hvm hw hB hz1 hk1 hS9 => ?_)
                  replace hP := zkeep hP hk1
                  replace hS := hS9
                  clear hPc hDc hFc hk1 hz1 hvm hS9
                  obtain ⟨f94_0, f94_1, f94_2, f94_3⟩ : (9 ≤ v94.toInt) ∧ (v94.toInt ≤ 99) ∧ (m41_L_6.toInt = 0 → v94.toInt = 9) ∧ (v94.toInt = cHi 1 m41_L_6) := hw
                  have F94 := f94_3
                  have zx_m41_F_h0_4 : ((-1) : Int32).toInt = (-1) := by decide
                  have zy_m41_F_h0_4 : m41_F_h0_4 = (-1) := z7 (a := (-1)) (by decide) (by omega)
                  rw [zy_m41_F_h0_4] at hP hD
                  obtain ⟨hPc, hDc, hFc⟩ := zc3 (wc := [(h0, .inr (11, [.int th, .ref tB, .int tsz, .int v80, .int (-1), .int dp, .ref rC, .ref rV, .ref rD, .ref rK, .ref rT, .ref rS, .ref rU, .int lw, .int tx, .ref rL, .ref rX, .ref qR, .ref qB, .ref qP, .int qnb, .int qnp, .ref aR, .ref aB, .ref aP, .int nb, .int np, .ref aN, .ref rf, .int ho, .int br, .ref aK, .int ac, .long dw, .ref aE, .int sr, .int sf, .ref aA, .ref aH, .ref aI, .int hi])), (tB, .inl (cI, 240, .inl fB))]) hP hD hS hA [0, 1] (by decide +kernel) rfl
                  refine va_calli (va_runV (As := [.int 0, .int v94]) (rest := [.int v88, .ref rw]) ⟨hx, hb, hml, hown, hts⟩ (g_X11_number l dC dI cI cJ h0 v94 th tB tsz v80 dp rC rV rD rK rT rS rU lw tx rL rX qR qB qP qnb qnp aR aB aP nb np aN rf ho br aK ac dw aE sr sf aA aH aI hi fB H.size y_ac y_hi y_ho y_lw y_nb y_np (by omega) y_qnb y_qnp (by omega) n_tsz) (cwV 2 hts (zgV qw1294 qw1296 qw35 qw108 qw1297) rfl rfl rfl hd_X11_number ⟨by rw [hR]; exact Nat.le_of_ble_eq_true rfl, by rw [hR]; exact Nat.le_of_ble_eq_true rfl⟩) (zPV hPc hK hDc (va_recv (q := (RX11, TX11, 41)) hK hP (ci := 11) (q0 := 0) rfl rfl)) rfl rfl hl.1 rfl (lv_room (Nat.le_of_ble_eq_true rfl)) dX11_items_97 ⟨Nat.zero_le _, Nat.zero_le _⟩) hS (fun q _ h => hFc q h) hFc (fun v97 u97 t H locs ht hvm hw hB hz1 hk1 hS9 => ?_)
                  obtain ⟨u97_0, u97_1⟩ := u97
                  obtain ⟨hP9, hD9⟩ := zj2 (wX := [(h0, .inr (11, [.int th, .ref tB, .int tsz, .int u97_0, .int u97_1, .int dp, .ref rC, .ref rV, .ref rD, .ref rK, .ref rT, .ref rS, .ref rU, .int lw, .int tx, .ref rL, .ref rX, .ref qR, .ref qB, .ref qP, .int qnb, .int qnp, .ref aR, .ref aB, .ref aP, .int nb, .int np, .ref aN, .ref rf, .int ho, .int br, .ref aK, .int ac, .long dw, .ref aE, .int sr, .int sf, .ref aA, .ref aH, .ref aI, .int hi])), (tB, .inl (cI, 240, .inl fB)), (rw, .inl (cI, 24, .inl m41_A_rw))]) hP hD hk1 hFc ht hB [0, 1] [(true, 0), (true, 1), (false, 2)] rfl (by decide +kernel) (by decide +kernel) rfl
                  clear hP hD hS hPc hDc hFc hB hk1 hz1 hvm
                  have hP := hP9
                  have hD := hD9
                  have hS := hS9
                  clear hP9 hD9 hS9
                  obtain ⟨f97_0, f97_1, f97_2, f97_3, f97_4, f97_5, f97_6, f97_7, f97_8, f97_9⟩ : (0 ≤ v97.toInt) ∧ (v97.toInt ≤ 99) ∧ (0 ≤ u97_0.toInt) ∧ (u97_0.toInt ≤ 240) ∧ ((-1) ≤ u97_1.toInt) ∧ (u97_1.toInt ≤ 240) ∧ (zW (sNm2 (sB fB tsz.toInt) v94.toInt (sk (sB fB tsz.toInt) tsz.toInt v80.toInt)) u97_1 u97_0) ∧ (u97_1.toInt = -1 → v97.toInt = sVl2 (sB fB tsz.toInt) (sk (sB fB tsz.toInt) tsz.toInt v80.toInt)) ∧ (u97_1.toInt = -1 → (0 ≤ v97.toInt ∧ v97.toInt ≤ v94.toInt ∧ v80.toInt + 1 ≤ u97_0.toInt)) ∧ (v80.toInt ≤ u97_0.toInt) := hw
                  have F97 := f97_6
                  have F97_1 := f97_7
                  refine va_iast hx hb hK hP hD hS 2 0 rfl rfl (vp_in_iff.mpr ⟨by omega, by omega⟩) dX11_items_100 (fun H locs hP9 hD9 hS9 => ?_)
                  clear hP hD hS
                  obtain ⟨v100_f, e100⟩ : ∃ g : Nat → Int32, g = upd m41_A_rw (v88).toNatClampNeg v97 := ⟨_, rfl⟩
                  rw [← e100] at hP9 hD9
                  obtain ⟨hP, hD⟩ := zst (wX := [(h0, .inr (11, [.int th, .ref tB, .int tsz, .int u97_0, .int u97_1, .int dp, .ref rC, .ref rV, .ref rD, .ref rK, .ref rT, .ref rS, .ref rU, .int lw, .int tx, .ref rL, .ref rX, .ref qR, .ref qB, .ref qP, .int qnb, .int qnp, .ref aR, .ref aB, .ref aP, .int nb, .int np, .ref aN, .ref rf, .int ho, .int br, .ref aK, .int ac, .long dw, .ref aE, .int sr, .int sf, .ref aA, .ref aH, .ref aI, .int hi])), (tB, .inl (cI, 240, .inl fB)), (rw, .inl (cI, 24, .inl v100_f))]) hP9 hD9 rfl
                  have hS := hS9
                  clear hP9 hD9 hS9
                  refine lv_aload_n hx hb dX11_items_101 rfl (lv_at hl 2 rfl) ?_
                  refine va_get (D := (dC, dI)) (ci := 11) (v := .int u97_1) (C := RX11) (T := TX11) (N := 41) hx hb hts iX11 hown hK hP 0 rfl rfl 4 (by decide) (hts _ qw1131) (fun _ h9 => h9) rfl dX11_items_102 ?_
                  refine lv_iconst (v := (-1)) hx hb dX11_items_105 (by decide) ?_
                  refine lv_icmp_ne (tgt := 120) hx hb dX11_items_106 (by decide) (fun c106 => ?_) (fun c106 => ?_)
                  · have c106 : ¬ u97_1.toInt = (-1) := z6 rfl (by decide) c106
                    refine lv_iconst (v := (-1)) hx hb dX11_items_120 (by decide) ?_
                    refine lv_istore (lv' := [(6, .int (-1)), (5, .int v71), (0, .ref h0), (1, .int 98), (2, .ref rw), (3, .int p3), (4, .int 4)]) hx hb dX11_items_121 hl (by decide) rfl (fun ls hl => ?_)
                    refine lv_goto (tgt := 41) hx hb dX11_items_123 (by decide) ?_
                    have zj41_m41_L_6 : ((-1) : Int32).toInt = (-1) := by decide
                    exact ih41 _ (by omega) v100_f u97_0 u97_1 v71 (-1) ⟨f97_2, f97_3⟩ ⟨f97_4, f97_5⟩ (by decide) (zIt_s m41_L_6.toInt jv41_0 e100 (by omega) (by omega) (by omega) (by omega) (fun _ _ => by omega) (fun _ => by omega)) (by first | (rw [e71, e70]; exact zin_go jv41_1 (by omega) (by omega) (fun z => by rw [z] at F59; have : (1 : Int32).toInt = 1 := (by decide); omega) i80 F94 F97 (by omega) F111 F114) | exact zin_bad jv41_1 (by omega) (by omega) (fun z => by rw [z] at F59; have : (1 : Int32).toInt = 1 := (by decide); omega) i80 F94 F97 (by omega)) (by first | (rw [e71, e70]; exact zinVS jv41_2 jv41_1 (by omega) (by omega) (fun z => by rw [z] at F59; have : (1 : Int32).toInt = 1 := (by decide); omega) i80 F94 F97 (by omega) F97_1 F111 e100 (by omega) (by omega)) | exact zinVB (by omega)) (by omega) (by omega) rfl H locs ls hP hD hS (lv_sub hl [0, 1, 2, 3, 4, 5, 6] rfl)
                  · have c106 : u97_1.toInt = (-1) := z5 rfl (by decide) c106
                    refine lv_iload_n hx hb dX11_items_109 rfl (lv_at hl 3 rfl) ?_
                    refine lv_aload_n hx hb dX11_items_110 rfl (lv_at hl 2 rfl) ?_
                    obtain ⟨hPc, hDc, hFc⟩ := zc3 (wc := [(h0, .inr (11, [.int th, .ref tB, .int tsz, .int u97_0, .int u97_1, .int dp, .ref rC, .ref rV, .ref rD, .ref rK, .ref rT, .ref rS, .ref rU, .int lw, .int tx, .ref rL, .ref rX, .ref qR, .ref qB, .ref qP, .int qnb, .int qnp, .ref aR, .ref aB, .ref aP, .int nb, .int np, .ref aN, .ref rf, .int ho, .int br, .ref aK, .int ac, .long dw, .ref aE, .int sr, .int sf, .ref aA, .ref aH, .ref aI, .int hi])), (tB, .inl (cI, 240, .inl fB))]) hP hD hS hA [0, 1] (by decide +kernel) rfl
                    refine va_calli (va_runV (As := []) (rest := [.int 98]) ⟨hx, hb, hml, hown, hts⟩ (g_X11_look_u l dC dI cI cJ h0 th tB tsz u97_0 u97_1 dp rC rV rD rK rT rS rU lw tx rL rX qR qB qP qnb qnp aR aB aP nb np aN rf ho br aK ac dw aE sr sf aA aH aI hi fB H.size y_ac y_hi y_ho y_lw y_nb y_np y_qnb y_qnp ⟨f97_2, f97_3⟩ n_tsz (by omega)) (cwV 0 hts (zgV qw1273 qw1275 qw32 qw108 qw1276) rfl rfl rfl hd_X11_look ⟨by rw [hR]; exact Nat.le_of_ble_eq_true rfl, by rw [hR]; exact Nat.le_of_ble_eq_true rfl⟩) (zPV hPc hK hDc (va_recv (q := (RX11, TX11, 41)) hK hP (ci := 11) (q0 := 0) rfl rfl)) rfl rfl hl.1 rfl (lv_room (Nat.le_of_ble_eq_true rfl)) dX11_items_111 ⟨Nat.zero_le _, Nat.zero_le _⟩) hS (fun q _ h => hFc q h) hFc (fun v111 u111 t H locs ht hvm hw hB hz1 hk1 hS9 => ?_)
                    obtain ⟨u111_0, rfl⟩ : ∃ z, z = u111 := ⟨_, rfl⟩
                    obtain ⟨hP9, hD9⟩ := zj2 (wX := [(h0, .inr (11, [.int th, .ref tB, .int tsz, .int u111_0, .int u97_1, .int dp, .ref rC, .ref rV, .ref rD, .ref rK, .ref rT, .ref rS, .ref rU, .int lw, .int tx, .ref rL, .ref rX, .ref qR, .ref qB, .ref qP, .int qnb, .int qnp, .ref aR, .ref aB, .ref aP, .int nb, .int np, .ref aN, .ref rf, .int ho, .int br, .ref aK, .int ac, .long dw, .ref aE, .int sr, .int sf, .ref aA, .ref aH, .ref aI, .int hi])), (tB, .inl (cI, 240, .inl fB)), (rw, .inl (cI, 24, .inl v100_f))]) hP hD hk1 hFc ht hB [0, 1] [(true, 0), (true, 1), (false, 2)] rfl (by decide +kernel) (by decide +kernel) rfl
                    clear hP hD hS hPc hDc hFc hB hk1 hz1 hvm
                    have hP := hP9
                    have hD := hD9
                    have hS := hS9
                    clear hP9 hD9 hS9
                    obtain ⟨f111_0, f111_1, f111_2, f111_3, f111_4⟩ : (0 ≤ u111_0.toInt) ∧ (u111_0.toInt ≤ 240) ∧ (¬ v111.toInt = -1 → u111_0.toInt < tsz.toInt) ∧ (u97_0.toInt ≤ u111_0.toInt) ∧ (zLk fB tsz u97_0 v111 u111_0) := hw
                    have F111 := f111_4
                    have hPc : va_P (dC, dI) vwCl [] H := zP0
                    have hDc : va_D (fun _ => True) [] := zD0
                    have hFc := zfr hS hA
                    refine va_calli (va_runS (As := [.int 98, .int v111]) (rest := []) ⟨hx, hb, hml, hown, hts⟩ (g_X11_itemOf_b l dC dI cI cJ v111 H.size) (cwS 2 hts (zgS qw1285 qw1286 qw108 qw1287) rfl rfl rfl hd_X11_itemOf ⟨by rw [hR]; exact Nat.le_of_ble_eq_true rfl, by rw [hR]; exact Nat.le_of_ble_eq_true rfl⟩) (zPS hPc hK hDc) rfl rfl hl.1 rfl (lv_room (Nat.le_of_ble_eq_true rfl)) dX11_items_114 ⟨Nat.zero_le _, Nat.zero_le _⟩) hS (fun q _ h => hFc q h) hFc (fun v114 u114 t H locs ht hvm hw hB hz1 hk1 hS9 => ?_)
                    replace hP := zkeep hP hk1
                    replace hS := hS9
                    clear hPc hDc hFc hk1 hz1 hvm hS9
                    obtain ⟨f114_0, f114_1, f114_2, f114_3⟩ : ((-1) ≤ v114.toInt) ∧ (v114.toInt ≤ 3) ∧ (0 ≤ v114.toInt → 97 ≤ v111.toInt) ∧ (v114 = cIt 1 v111.toInt) := hw
                    have F114 := f114_3
                    refine lv_goto (tgt := 121) hx hb dX11_items_117 (by decide) ?_
                    refine lv_istore (lv' := [(6, .int v114), (5, .int v71), (0, .ref h0), (1, .int 98), (2, .ref rw), (3, .int p3), (4, .int 4)]) hx hb dX11_items_121 hl (by decide) rfl (fun ls hl => ?_)
                    refine lv_goto (tgt := 41) hx hb dX11_items_123 (by decide) ?_
                    exact ih41 _ (by omega) v100_f u111_0 u97_1 v71 v114 ⟨f111_0, f111_1⟩ ⟨f97_4, f97_5⟩ ⟨f114_0, f114_1⟩ (zIt_s m41_L_6.toInt jv41_0 e100 (by omega) (by omega) (by omega) (by omega) (fun _ _ => by omega) (fun _ => by omega)) (by first | (rw [e71, e70]; exact zin_go jv41_1 (by omega) (by omega) (fun z => by rw [z] at F59; have : (1 : Int32).toInt = 1 := (by decide); omega) i80 F94 F97 (by omega) F111 F114) | exact zin_bad jv41_1 (by omega) (by omega) (fun z => by rw [z] at F59; have : (1 : Int32).toInt = 1 := (by decide); omega) i80 F94 F97 (by omega)) (by first | (rw [e71, e70]; exact zinVS jv41_2 jv41_1 (by omega) (by omega) (fun z => by rw [z] at F59; have : (1 : Int32).toInt = 1 := (by decide); omega) i80 F94 F97 (by omega) F97_1 F111 e100 (by omega) (by omega)) | exact zinVB (by omega)) (by omega) (by omega) rfl H locs ls hP hD hS (lv_sub hl [0, 1, 2, 3, 4, 5, 6] rfl)
        refine lv_istore (lv' := [(6, .int v36), (5, .int 0), (0, .ref h0), (1, .int 98), (2, .ref rw), (3, .int p3), (4, .int 4)]) hx hb dX11_items_39 hl (by decide) rfl (fun ls hl => ?_)
        have zj41_m41_L_5 : (0 : Int32).toInt = 0 := by decide
        have zj41_m41_F_h0_4 : ((-1) : Int32).toInt = (-1) := by decide
        exact J41 _ m3_A_rw u33_0 (-1) 0 v36 ⟨f33_0, f33_1⟩ (by decide) ⟨f36_0, f36_1⟩ (zIt_m jv3_0 (fun _ => by omega)) (zin0 F33 F36 (by decide)) (zinV0 F33 jv3_1 (by omega)) (by omega) (by omega) rfl H locs ls hP hD hS (lv_sub hl [0, 1, 2, 3, 4, 5, 6] rfl)
      · have c7 : m3_L_5.toInt < 4 := z4 (by decide) rfl c7
        refine lv_aload_n hx hb dX11_items_10 rfl (lv_at hl 3 rfl) ?_
        refine lv_iload_n hx hb dX11_items_11 rfl (lv_at hl 4 rfl) ?_
        refine lv_iload hx hb dX11_items_12 (lv_at hl 0 rfl) ?_
        refine lv_iadd hx hb dX11_items_14 ?_
        refine lv_topi (fun v14 e14 => ?_)
        have i14 : v14.toInt = p3.toInt + m3_L_5.toInt := zadd e14 rfl rfl (by omega) (by omega)
        refine lv_iload_n hx hb dX11_items_15 rfl (lv_at hl 2 rfl) ?_
        refine lv_iload hx hb dX11_items_16 (lv_at hl 0 rfl) ?_
        have hPc : va_P (dC, dI) vwCl [] H := zP0
        have hDc : va_D (fun _ => True) [] := zD0
        have hFc := zfr hS hA
        refine va_calli (va_runS (As := [.int 98, .int m3_L_5]) (rest := [.int v14, .ref rw]) ⟨hx, hb, hml, hown, hts⟩ (g_X11_usual_b l dC dI cI cJ m3_L_5 H.size) (cwS 2 hts (zgS qw1270 qw1271 qw108 qw1272) rfl rfl rfl hd_X11_usual ⟨by rw [hR]; exact Nat.le_of_ble_eq_true rfl, by rw [hR]; exact Nat.le_of_ble_eq_true rfl⟩) (zPS hPc hK hDc) rfl rfl hl.1 rfl (lv_room (Nat.le_of_ble_eq_true rfl)) dX11_items_18 ⟨Nat.zero_le _, Nat.zero_le _⟩) hS (fun q _ h => hFc q h) hFc (fun v18 u18 t H locs ht hvm hw hB hz1 hk1 hS9 => ?_)
        replace hP := zkeep hP hk1
        replace hS := hS9
        clear hPc hDc hFc hk1 hz1 hvm hS9
        obtain ⟨f18_0, f18_1, f18_2, f18_3⟩ : (1 ≤ v18.toInt) ∧ (v18.toInt ≤ 20) ∧ (m3_L_5.toInt = 0 → (0 ≤ v18.toInt ∧ v18.toInt ≤ 9)) ∧ (0 ≤ m3_L_5.toInt → v18.toInt = cDf 1 m3_L_5.toInt.toNat) := hw
        have F18 := f18_3
        refine va_iast hx hb hK hP hD hS 2 0 rfl rfl (vp_in_iff.mpr ⟨by omega, by omega⟩) dX11_items_21 (fun H locs hP9 hD9 hS9 => ?_)
        clear hP hD hS
        obtain ⟨v21_f, e21⟩ : ∃ g : Nat → Int32, g = upd m3_A_rw (v14).toNatClampNeg v18 := ⟨_, rfl⟩
        rw [← e21] at hP9 hD9
        obtain ⟨hP, hD⟩ := zst (wX := [(h0, .inr (11, [.int th, .ref tB, .int tsz, .int tat, .int (-1), .int dp, .ref rC, .ref rV, .ref rD, .ref rK, .ref rT, .ref rS, .ref rU, .int lw, .int tx, .ref rL, .ref rX, .ref qR, .ref qB, .ref qP, .int qnb, .int qnp, .ref aR, .ref aB, .ref aP, .int nb, .int np, .ref aN, .ref rf, .int ho, .int br, .ref aK, .int ac, .long dw, .ref aE, .int sr, .int sf, .ref aA, .ref aH, .ref aI, .int hi])), (tB, .inl (cI, 240, .inl fB)), (rw, .inl (cI, 24, .inl v21_f))]) hP9 hD9 rfl
        have hS := hS9
        clear hP9 hD9 hS9
        obtain ⟨v22, e22⟩ : ∃ y : Int32, y = m3_L_5 + Int32.ofInt (1) := ⟨_, rfl⟩
        refine lv_iinc (v := v22) (lv' := [(5, .int v22), (0, .ref h0), (1, .int 98), (2, .ref rw), (3, .int p3), (4, .int 4)]) hx hb dX11_items_22 hl (k := 0) rfl e22.symm (by decide) rfl (fun ls hl => ?_)
        have i22 : v22.toInt = m3_L_5.toInt + 1 := zaddI e22 (by decide) (by omega) (by omega)
        refine lv_goto (tgt := 3) hx hb dX11_items_25 (by decide) ?_
        exact ih3 _ (by omega) v21_f v22 (by omega) (zIt_s m3_L_5.toInt jv3_0 e21 (by omega) (by omega) (by omega) (by omega) (fun _ _ => by omega) (fun _ => by omega)) (zUsS jv3_1 e21 (by omega) (by omega) (F18 (by omega)) i22) rfl H locs ls hP hD hS (lv_sub hl [0, 1, 2, 3, 4, 5] rfl)
  refine lv_istore (lv' := [(5, .int 0), (0, .ref h0), (1, .int 98), (2, .ref rw), (3, .int p3), (4, .int 4)]) hx hb dX11_items_1 hl (by decide) rfl (fun ls hl => ?_)
  have zj3_m3_L_5 : (0 : Int32).toInt = 0 := by decide
  exact J3 _ frw 0 (by decide) (zIt_0 (by decide)) (zUs0) rfl H locs ls hP hD hS (lv_sub hl [0, 1, 2, 3, 4, 5] rfl)
set_option maxHeartbeats 4000000 in
set_option maxRecDepth 100000 in
theorem g_X11_items_p (l : Launch) (dC : Nat → ClassId) (dI : Nat → Nat → Nat) (cI cJ : ClassId) (h0 : Nat) (rw : Nat) (p3 : Int32) (th : Int32) (tB : Nat) (tsz : Int32) (tat : Int32) (dp : Int32) (rC : Nat) (rV : Nat) (rD : Nat) (rK : Nat) (rT : Nat) (rS : Nat) (rU : Nat) (lw : Int32) (tx : Int32) (rL : Nat) (rX : Nat) (qR : Nat) (qB : Nat) (qP : Nat) (qnb : Int32) (qnp : Int32) (aR : Nat) (aB : Nat) (aP : Nat) (nb : Int32) (np : Int32) (aN : Nat) (rf : Nat) (ho : Int32) (br : Int32) (aK : Nat) (ac : Int32) (dw : Int64) (aE : Nat) (sr : Int32) (sf : Int32) (aA : Nat) (aH : Nat) (aI : Nat) (hi : Int32) (fB : Nat → Int32) (frw : Nat → Int32) (sz : Nat) (n_ac : 0 ≤ ac.toInt ∧ ac.toInt ≤ 40) (n_hi : 0 ≤ hi.toInt ∧ hi.toInt ≤ 1) (n_ho : (-1) ≤ ho.toInt ∧ ho.toInt ≤ 3) (n_lw : 0 ≤ lw.toInt ∧ lw.toInt ≤ 4) (n_nb : 0 ≤ nb.toInt ∧ nb.toInt ≤ 6) (n_np : 0 ≤ np.toInt ∧ np.toInt ≤ 5) (n_p3 : 0 ≤ p3.toInt ∧ p3.toInt ≤ 16) (n_qnb : 0 ≤ qnb.toInt ∧ qnb.toInt ≤ 6) (n_qnp : 0 ≤ qnp.toInt ∧ qnp.toInt ≤ 5) (n_tat : 0 ≤ tat.toInt ∧ tat.toInt ≤ 240) (n_tsz : 0 ≤ tsz.toInt ∧ tsz.toInt ≤ 240)    : Met l yX11_items (.code yX11_items cX11_items 7 none :: wA) ({ frames := 3, cells := 0, slots := 0, locals := 63 }) (zP (dC, dI) [(cI, .int), (cJ, .long)] [.ref h0, .int 112, .ref rw, .int p3, .int 4] sz [(h0, .inr (11, [.int th, .ref tB, .int tsz, .int tat, .int (-1), .int dp, .ref rC, .ref rV, .ref rD, .ref rK, .ref rT, .ref rS, .ref rU, .int lw, .int tx, .ref rL, .ref rX, .ref qR, .ref qB, .ref qP, .int qnb, .int qnp, .ref aR, .ref aB, .ref aP, .int nb, .int np, .ref aN, .ref rf, .int ho, .int br, .ref aK, .int ac, .long dw, .ref aE, .int sr, .int sf, .ref aA, .ref aH, .ref aI, .int hi])), (tB, .inl (cI, 240, .inl fB)), (rw, .inl (cI, 20, .inl frw))]) (va_Qv (fun (u : Int32 × Int32 × (Nat → Int32)) => (0 ≤ u.1.toInt) ∧ (u.1.toInt ≤ 240) ∧ ((-1) ≤ u.2.1.toInt) ∧ (u.2.1.toInt ≤ 240) ∧ (tat.toInt ≤ u.1.toInt) ∧ (zIt frw u.2.2 p3.toInt (u.2.1.toInt = -1)) ∧ (zW (sIts (sB fB tsz.toInt) tsz.toInt 2 0 tat.toInt) u.2.1 u.1) ∧ (u.2.1.toInt = -1 → zIg fB tsz 2 4 (p3.toInt.toNat) tat.toInt frw u.2.2)) (fun (u : Int32 × Int32 × (Nat → Int32)) (t : State) => va_P (dC, dI) vwCl [(h0, .inr (11, [.int th, .ref tB, .int tsz, .int u.1, .int u.2.1, .int dp, .ref rC, .ref rV, .ref rD, .ref rK, .ref rT, .ref rS, .ref rU, .int lw, .int tx, .ref rL, .ref rX, .ref qR, .ref qB, .ref qP, .int qnb, .int qnp, .ref aR, .ref aB, .ref aP, .int nb, .int np, .ref aN, .ref rf, .int ho, .int br, .ref aK, .int ac, .long dw, .ref aE, .int sr, .int sf, .ref aA, .ref aH, .ref aI, .int hi])), (tB, .inl (cI, 240, .inl fB)), (rw, .inl (cI, 20, .inl u.2.2))] t.heap ∧ va_D (va_A [(h0, .inr (11, [.int th, .ref tB, .int tsz, .int tat, .int (-1), .int dp, .ref rC, .ref rV, .ref rD, .ref rK, .ref rT, .ref rS, .ref rU, .int lw, .int tx, .ref rL, .ref rX, .ref qR, .ref qB, .ref qP, .int qnb, .int qnp, .ref aR, .ref aB, .ref aP, .int nb, .int np, .ref aN, .ref rf, .int ho, .int br, .ref aK, .int ac, .long dw, .ref aE, .int sr, .int sf, .ref aA, .ref aH, .ref aI, .int hi])), (tB, .inl (cI, 240, .inl fB)), (rw, .inl (cI, 20, .inl frw))] sz) [(h0, .inr (11, [.int th, .ref tB, .int tsz, .int u.1, .int u.2.1, .int dp, .ref rC, .ref rV, .ref rD, .ref rK, .ref rT, .ref rS, .ref rU, .int lw, .int tx, .ref rL, .ref rX, .ref qR, .ref qB, .ref qP, .int qnb, .int qnp, .ref aR, .ref aB, .ref aP, .int nb, .int np, .ref aN, .ref rf, .int ho, .int br, .ref aK, .int ac, .long dw, .ref aE, .int sr, .int sf, .ref aA, .ref aH, .ref aI, .int hi])), (tB, .inl (cI, 240, .inl fB)), (rw, .inl (cI, 20, .inl u.2.2))]) (va_A [(h0, .inr (11, [.int th, .ref tB, .int tsz, .int tat, .int (-1), .int dp, .ref rC, .ref rV, .ref rD, .ref rK, .ref rT, .ref rS, .ref rU, .int lw, .int tx, .ref rL, .ref rX, .ref qR, .ref qB, .ref qP, .int qnb, .int qnp, .ref aR, .ref aB, .ref aP, .int nb, .int np, .ref aN, .ref rf, .int ho, .int br, .ref aK, .int ac, .long dw, .ref aE, .int sr, .int sf, .ref aA, .ref aH, .ref aI, .int hi])), (tB, .inl (cI, 240, .inl fB)), (rw, .inl (cI, 20, .inl frw))] sz)) 0 0 (va_A [(h0, .inr (11, [.int th, .ref tB, .int tsz, .int tat, .int (-1), .int dp, .ref rC, .ref rV, .ref rD, .ref rK, .ref rT, .ref rS, .ref rU, .int lw, .int tx, .ref rL, .ref rX, .ref qR, .ref qB, .ref qP, .int qnb, .int qnp, .ref aR, .ref aB, .ref aP, .int nb, .int np, .ref aN, .ref rf, .int ho, .int br, .ref aK, .int ac, .long dw, .ref aE, .int sr, .int sf, .ref aA, .ref aH, .ref aI, .int hi])), (tB, .inl (cI, 240, .inl fB)), (rw, .inl (cI, 20, .inl frw))] sz) := by
  refine Met.ofW (cc := cX11_items) (maxL := 7) (ret := none) (by decide) rfl ?_
  intro p e s m args below meth c s₁ B hml hv
  have y_ac : zHid (0 ≤ ac.toInt ∧ ac.toInt ≤ 40) := n_ac
  have y_hi : zHid (0 ≤ hi.toInt ∧ hi.toInt ≤ 1) := n_hi
  have y_ho : zHid ((-1) ≤ ho.toInt ∧ ho.toInt ≤ 3) := n_ho
  have y_lw : zHid (0 ≤ lw.toInt ∧ lw.toInt ≤ 4) := n_lw
  have y_nb : zHid (0 ≤ nb.toInt ∧ nb.toInt ≤ 6) := n_nb
  have y_np : zHid (0 ≤ np.toInt ∧ np.toInt ≤ 5) := n_np
  have y_qnb : zHid (0 ≤ qnb.toInt ∧ qnb.toInt ≤ 6) := n_qnb
  have y_qnp : zHid (0 ≤ qnp.toInt ∧ qnp.toInt ≤ 5) := n_qnp
  clear n_ac n_hi n_ho n_lw n_nb n_np n_qnb n_qnp
  obtain ⟨hargs, hsz, hP, hK, hT⟩ := hv
  have hx := B.exec
  have hb := B.bytes
  have hr := B.returns
  have hts : ∀ w ∈ wA, w.before args s = true := fun w h => atoms_spec (ws := .code yX11_items cX11_items 7 none :: wA) B.pre w (List.mem_cons_of_mem _ h)
  have hown : s.vm.findClass RX11 = some m.cls := findClass_of_methodNamed B.named
  have hlocks := B.notSynchronized
  subst hsz
  have hD := hT.self (sz := s.heap.size)
  generalize hAe : va_A [(h0, .inr (11, [.int th, .ref tB, .int tsz, .int tat, .int (-1), .int dp, .ref rC, .ref rV, .ref rD, .ref rK, .ref rT, .ref rS, .ref rU, .int lw, .int tx, .ref rL, .ref rX, .ref qR, .ref qB, .ref qP, .int qnb, .int qnp, .ref aR, .ref aB, .ref aP, .int nb, .int np, .ref aN, .ref rf, .int ho, .int br, .ref aK, .int ac, .long dw, .ref aE, .int sr, .int sf, .ref aA, .ref aH, .ref aI, .int hi])), (tB, .inl (cI, 240, .inl fB)), (rw, .inl (cI, 20, .inl frw))] s.heap.size = A at hD ⊢
  have hA : ∀ q : Nat, s.heap.size ≤ q → A q := fun q h => by rw [← hAe]; exact Or.inr h
  have hl := lv_entry ([.ref h0, .int 112, .ref rw, .int p3, .int 4]) (n := 7) (Nat.le_of_ble_eq_true rfl)
  rw [show entryFrame m args 7 = entryFrame m ([.ref h0, .int 112, .ref rw, .int p3, .int 4] : List Value).toArray 7 by rw [hargs], lg_entry_eq]
  generalize (lg_sl ([.ref h0, .int 112, .ref rw, .int p3, .int 4]) ++ List.replicate (7 - (lg_sl ([.ref h0, .int 112, .ref rw, .int p3, .int 4])).length) Slot.unset).toArray = ls at hl ⊢
  have hl : lv_has ls 7 [(0, .ref h0), (1, .int 112), (2, .ref rw), (3, .int p3), (4, .int 4)] := hl
  refine zstart (fun H hH => ?_)
  rw [← hH] at hP
  have hS : va_S A s.heap H [] := by rw [hH]; exact va_S.rf
  generalize ([] : List Loc) = locs at hS ⊢
  refine zgen (fun R Q hR hQ => ?_)
  have zm1 : (-1 : Int32).toInt = -1 := by decide
  refine lv_iconst (v := 0) hx hb dX11_items_0 (by decide) ?_
  have J3 : ∀ (n : Nat) (m3_A_rw : Nat → Int32) (m3_L_5 : Int32), (0 ≤ m3_L_5.toInt ∧ m3_L_5.toInt ≤ 4) → (zIt frw m3_A_rw p3.toInt (1 ≤ m3_L_5.toInt)) → (zUs 2 (p3.toInt.toNat) frw m3_A_rw m3_L_5) → (5 - m3_L_5.toInt).toNat = n → ∀ (H : Heap) (locs : List Loc) (ls : Array Slot), va_P (dC, dI) vwCl [(h0, .inr (11, [.int th, .ref tB, .int tsz, .int tat, .int (-1), .int dp, .ref rC, .ref rV, .ref rD, .ref rK, .ref rT, .ref rS, .ref rU, .int lw, .int tx, .ref rL, .ref rX, .ref qR, .ref qB, .ref qP, .int qnb, .int qnp, .ref aR, .ref aB, .ref aP, .int nb, .int np, .ref aN, .ref rf, .int ho, .int br, .ref aK, .int ac, .long dw, .ref aE, .int sr, .int sf, .ref aA, .ref aH, .ref aI, .int hi])), (tB, .inl (cI, 240, .inl fB)), (rw, .inl (cI, 20, .inl m3_A_rw))] H → va_D A [(h0, .inr (11, [.int th, .ref tB, .int tsz, .int tat, .int (-1), .int dp, .ref rC, .ref rV, .ref rD, .ref rK, .ref rT, .ref rS, .ref rU, .int lw, .int tx, .ref rL, .ref rX, .ref qR, .ref qB, .ref qP, .int qnb, .int qnp, .ref aR, .ref aB, .ref aP, .int nb, .int np, .ref aN, .ref rf, .int ho, .int br, .ref aK, .int ac, .long dw, .ref aE, .int sr, .int sf, .ref aA, .ref aH, .ref aI, .int hi])), (tB, .inl (cI, 240, .inl fB)), (rw, .inl (cI, 20, .inl m3_A_rw))] → va_S A s.heap H locs → lv_has ls 7 [(5, .int m3_L_5), (0, .ref h0), (1, .int 112), (2, .ref rw), (3, .int p3), (4, .int 4)] → W p l e R s m args below meth c H locs 0 0 Q (F0 m 3 ls []) := by
    intro n3
    induction n3 using Nat.strongRecOn with
    | _ n3 ih3 =>
      intro m3_A_rw m3_L_5 jf3_0 jv3_0 jv3_1 hmu3 H locs ls hP hD hS hl
      refine lv_iload hx hb dX11_items_3 (lv_at hl 0 rfl) ?_
      refine lv_iload hx hb dX11_items_5 (lv_at hl 5 rfl) ?_
      refine lv_icmp_ge (tgt := 28) hx hb dX11_items_7 (by decide) (fun c7 => ?_) (fun c7 => ?_)
      · have c7 : 4 ≤ m3_L_5.toInt := z3 (by decide) rfl c7
        refine lv_iconst (v := 0) hx hb dX11_items_28 (by decide) ?_
        refine lv_istore (lv' := [(5, .int 0), (0, .ref h0), (1, .int 112), (2, .ref rw), (3, .int p3), (4, .int 4)]) hx hb dX11_items_29 hl (by decide) rfl (fun ls hl => ?_)
        refine lv_iload_n hx hb dX11_items_31 rfl (lv_at hl 2 rfl) ?_
        refine lv_aload_n hx hb dX11_items_32 rfl (lv_at hl 1 rfl) ?_
        obtain ⟨hPc, hDc, hFc⟩ := zc3 (wc := [(h0, .inr (11, [.int th, .ref tB, .int tsz, .int tat, .int (-1), .int dp, .ref rC, .ref rV, .ref rD, .ref rK, .ref rT, .ref rS, .ref rU, .int lw, .int tx, .ref rL, .ref rX, .ref qR, .ref qB, .ref qP, .int qnb, .int qnp, .ref aR, .ref aB, .ref aP, .int nb, .int np, .ref aN, .ref rf, .int ho, .int br, .ref aK, .int ac, .long dw, .ref aE, .int sr, .int sf, .ref aA, .ref aH, .ref aI, .int hi])), (tB, .inl (cI, 240, .inl fB))]) hP hD hS hA [0, 1] (by decide +kernel) rfl
        refine va_calli (va_runV (As := []) (rest := [.int 112]) ⟨hx, hb, hml, hown, hts⟩ (g_X11_look_u l dC dI cI cJ h0 th tB tsz tat ((-1)) dp rC rV rD rK rT rS rU lw tx rL rX qR qB qP qnb qnp aR aB aP nb np aN rf ho br aK ac dw aE sr sf aA aH aI hi fB H.size y_ac y_hi y_ho y_lw y_nb y_np y_qnb y_qnp n_tat n_tsz (by decide)) (cwV 0 hts (zgV qw1273 qw1275 qw32 qw108 qw1276) rfl rfl rfl hd_X11_look ⟨by rw [hR]; exact Nat.le_of_ble_eq_true rfl, by rw [hR]; exact Nat.le_of_ble_eq_true rfl⟩) (zPV hPc hK hDc (va_recv (q := (RX11, TX11, 41)) hK hP (ci := 11) (q0 := 0) rfl rfl)) rfl rfl hl.1 rfl (lv_room (Nat.le_of_ble_eq_true rfl)) dX11_items_33 ⟨Nat.zero_le _, Nat.zero_le _⟩) hS (fun q _ h => hFc q h) hFc (fun v33 u33 t H locs ht hvm hw hB hz1 hk1 hS9 => ?_)
        obtain ⟨u33_0, rfl⟩ : ∃ z, z = u33 := ⟨_, rfl⟩
        obtain ⟨hP9, hD9⟩ := zj2 (wX := [(h0, .inr (11, [.int th, .ref tB, .int tsz, .int u33_0, .int (-1), .int dp, .ref rC, .ref rV, .ref rD, .ref rK, .ref rT, .ref rS, .ref rU, .int lw, .int tx, .ref rL, .ref rX, .ref qR, .ref qB, .ref qP, .int qnb, .int qnp, .ref aR, .ref aB, .ref aP, .int nb, .int np, .ref aN, .ref rf, .int ho, .int br, .ref aK, .int ac, .long dw, .ref aE, .int sr, .int sf, .ref aA, .ref aH, .ref aI, .int hi])), (tB, .inl (cI, 240, .inl fB)), (rw, .inl (cI, 20, .inl m3_A_rw))]) hP hD hk1 hFc ht hB [0, 1] [(true, 0), (true, 1), (false, 2)] rfl (by decide +kernel) (by decide +kernel) rfl
        clear hP hD hS hPc hDc hFc hB hk1 hz1 hvm
        have hP := hP9
        have hD := hD9
        have hS := hS9
        clear hP9 hD9 hS9
        obtain ⟨f33_0, f33_1, f33_2, f33_3, f33_4⟩ : (0 ≤ u33_0.toInt) ∧ (u33_0.toInt ≤ 240) ∧ (¬ v33.toInt = -1 → u33_0.toInt < tsz.toInt) ∧ (tat.toInt ≤ u33_0.toInt) ∧ (zLk fB tsz tat v33 u33_0) := hw
        have F33 := f33_4
        have hPc : va_P (dC, dI) vwCl [] H := zP0
        have hDc : va_D (fun _ => True) [] := zD0
        have hFc := zfr hS hA
        refine va_calli (va_runS (As := [.int 112, .int v33]) (rest := []) ⟨hx, hb, hml, hown, hts⟩ (g_X11_itemOf_p l dC dI cI cJ v33 H.size) (cwS 2 hts (zgS qw1285 qw1286 qw108 qw1287) rfl rfl rfl hd_X11_itemOf ⟨by rw [hR]; exact Nat.le_of_ble_eq_true rfl, by rw [hR]; exact Nat.le_of_ble_eq_true rfl⟩) (zPS hPc hK hDc) rfl rfl hl.1 rfl (lv_room (Nat.le_of_ble_eq_true rfl)) dX11_items_36 ⟨Nat.zero_le _, Nat.zero_le _⟩) hS (fun q _ h => hFc q h) hFc (fun v36 u36 t H locs ht hvm hw hB hz1 hk1 hS9 => ?_)
        replace hP := zkeep hP hk1
        replace hS := hS9
        clear hPc hDc hFc hk1 hz1 hvm hS9
        obtain ⟨f36_0, f36_1, f36_2, f36_3⟩ : ((-1) ≤ v36.toInt) ∧ (v36.toInt ≤ 3) ∧ (0 ≤ v36.toInt → 97 ≤ v33.toInt) ∧ (v36 = cIt 2 v33.toInt) := hw
        have F36 := f36_3
        have J41 : ∀ (n : Nat) (m41_A_rw : Nat → Int32) (m41_F_h0_3 : Int32) (m41_F_h0_4 : Int32) (m41_L_5 : Int32) (m41_L_6 : Int32), (0 ≤ m41_F_h0_3.toInt ∧ m41_F_h0_3.toInt ≤ 240) → ((-1) ≤ m41_F_h0_4.toInt ∧ m41_F_h0_4.toInt ≤ 240) → ((-1) ≤ m41_L_6.toInt ∧ m41_L_6.toInt ≤ 3) → (zIt frw m41_A_rw p3.toInt (m41_F_h0_4.toInt = -1)) → (zIn fB tsz (sIts (sB fB tsz.toInt) tsz.toInt 2 0 tat.toInt) 2 m41_L_5 m41_F_h0_4 m41_F_h0_3 m41_L_6) → (zInV fB tsz 2 4 (p3.toInt.toNat) tat.toInt frw m41_A_rw m41_L_5 m41_F_h0_4 m41_F_h0_3) → (0 ≤ m41_L_6.toInt → m41_F_h0_3.toInt < tsz.toInt) → (tat.toInt ≤ m41_F_h0_3.toInt) → (300 - m41_F_h0_3.toInt).toNat = n → ∀ (H : Heap) (locs : List Loc) (ls : Array Slot), va_P (dC, dI) vwCl [(h0, .inr (11, [.int th, .ref tB, .int tsz, .int m41_F_h0_3, .int m41_F_h0_4, .int dp, .ref rC, .ref rV, .ref rD, .ref rK, .ref rT, .ref rS, .ref rU, .int lw, .int tx, .ref rL, .ref rX, .ref qR, .ref qB, .ref qP, .int qnb, .int qnp, .ref aR, .ref aB, .ref aP, .int nb, .int np, .ref aN, .ref rf, .int ho, .int br, .ref aK, .int ac, .long dw, .ref aE, .int sr, .int sf, .ref aA, .ref aH, .ref aI, .int hi])), (tB, .inl (cI, 240, .inl fB)), (rw, .inl (cI, 20, .inl m41_A_rw))] H → va_D A [(h0, .inr (11, [.int th, .ref tB, .int tsz, .int m41_F_h0_3, .int m41_F_h0_4, .int dp, .ref rC, .ref rV, .ref rD, .ref rK, .ref rT, .ref rS, .ref rU, .int lw, .int tx, .ref rL, .ref rX, .ref qR, .ref qB, .ref qP, .int qnb, .int qnp, .ref aR, .ref aB, .ref aP, .int nb, .int np, .ref aN, .ref rf, .int ho, .int br, .ref aK, .int ac, .long dw, .ref aE, .int sr, .int sf, .ref aA, .ref aH, .ref aI, .int hi])), (tB, .inl (cI, 240, .inl fB)), (rw, .inl (cI, 20, .inl m41_A_rw))] → va_S A s.heap H locs → lv_has ls 7 [(6, .int m41_L_6), (5, .int m41_L_5), (0, .ref h0), (1, .int 112), (2, .ref rw), (3, .int p3), (4, .int 4)] → W p l e R s m args below meth c H locs 0 0 Q (F0 m 41 ls []) := by
          intro n41
          induction n41 using Nat.strongRecOn with
          | _ n41 ih41 =>
            intro m41_A_rw m41_F_h0_3 m41_F_h0_4 m41_L_5 m41_L_6 jf41_0 jf41_1 jf41_2 jv41_0 jv41_1 jv41_2 jf41_6 jf41_7 hmu41 H locs ls hP hD hS hl
            refine lv_aload_n hx hb dX11_items_41 rfl (lv_at hl 2 rfl) ?_
            refine va_get (D := (dC, dI)) (ci := 11) (v := .int m41_F_h0_4) (C := RX11) (T := TX11) (N := 41) hx hb hts iX11 hown hK hP 0 rfl rfl 4 (by decide) (hts _ qw1131) (fun _ h9 => h9) rfl dX11_items_42 ?_
            refine lv_iconst (v := (-1)) hx hb dX11_items_45 (by decide) ?_
            refine lv_icmp_ne (tgt := 126) hx hb dX11_items_46 (by decide) (fun c46 => ?_) (fun c46 => ?_)
            · have c46 : ¬ m41_F_h0_4.toInt = (-1) := z6 rfl (by decide) c46
              rw [hQ]
              exact W.vret hx hb hr (fun t ht hW => ⟨⟨(m41_F_h0_3, m41_F_h0_4, m41_A_rw), rfl, ⟨by (try dsimp only); omega, by (try dsimp only); omega, by (try dsimp only); omega, by (try dsimp only); omega, by (try dsimp only); omega, zIt_m jv41_0 (fun _ => by omega), by (try dsimp only); first | exact zin_end jv41_1 (Or.inl (by omega)) | exact zin_end jv41_1 (Or.inr (Or.inl (by omega))), by (try dsimp only); first | exact zinVE jv41_2 jv41_1 (Or.inl (by omega)) | exact zinVE jv41_2 jv41_1 (Or.inr (Or.inl (by omega)))⟩, ⟨by rw [ht]; exact hP, hD⟩⟩, hS.F ht⟩) hS.2.2 dX11_items_126
            · have c46 : m41_F_h0_4.toInt = (-1) := z5 rfl (by decide) c46
              refine lv_iload hx hb dX11_items_49 (lv_at hl 0 rfl) ?_
              refine lv_iconst (v := (-1)) hx hb dX11_items_51 (by decide) ?_
              refine lv_icmp_eq (tgt := 126) hx hb dX11_items_52 (by decide) (fun c52 => ?_) (fun c52 => ?_)
              · have c52 : m41_L_6.toInt = (-1) := z5 rfl (by decide) c52
                rw [hQ]
                exact W.vret hx hb hr (fun t ht hW => ⟨⟨(m41_F_h0_3, m41_F_h0_4, m41_A_rw), rfl, ⟨by (try dsimp only); omega, by (try dsimp only); omega, by (try dsimp only); omega, by (try dsimp only); omega, by (try dsimp only); omega, zIt_m jv41_0 (fun _ => by omega), by (try dsimp only); first | exact zin_end jv41_1 (Or.inl (by omega)) | exact zin_end jv41_1 (Or.inr (Or.inl (by omega))), by (try dsimp only); first | exact zinVE jv41_2 jv41_1 (Or.inl (by omega)) | exact zinVE jv41_2 jv41_1 (Or.inr (Or.inl (by omega)))⟩, ⟨by rw [ht]; exact hP, hD⟩⟩, hS.F ht⟩) hS.2.2 dX11_items_126
              · have c52 : ¬ m41_L_6.toInt = (-1) := z6 rfl (by decide) c52
                refine lv_iload hx hb dX11_items_55 (lv_at hl 1 rfl) ?_
                refine lv_iload hx hb dX11_items_57 (lv_at hl 0 rfl) ?_
                have hPc : va_P (dC, dI) vwCl [] H := zP0
                have hDc : va_D (fun _ => True) [] := zD0
                have hFc := zfr hS hA
                refine va_calli (va_runS (As := [.int m41_L_5, .int m41_L_6]) (rest := []) ⟨hx, hb, hml, hown, hts⟩ (g_X11_has l dC dI cI cJ m41_L_5 m41_L_6 H.size) (cwS 2 hts (zgS qw1288 qw1289 qw108 qw1290) rfl rfl rfl hd_X11_has ⟨by rw [hR]; exact Nat.le_of_ble_eq_true rfl, by rw [hR]; exact Nat.le_of_ble_eq_true rfl⟩) (zPS hPc hK hDc) rfl rfl hl.1 rfl (lv_room (Nat.le_of_ble_eq_true rfl)) dX11_items_59 ⟨Nat.zero_le _, Nat.zero_le _⟩) hS (fun q _ h => hFc q h) hFc (fun v59 u59 t H locs ht hvm hw hB hz1 hk1 hS9 => ?_)
                replace hP := zkeep hP hk1
                replace hS := hS9
                clear hPc hDc hFc hk1 hz1 hvm hS9
                obtain ⟨f59_0, f59_1, f59_2, f59_3⟩ : (0 ≤ v59.toInt) ∧ (v59.toInt ≤ 1) ∧ (v59.toInt = ((m41_L_5 >>> (m41_L_6 &&& 31)) &&& 1).toInt) ∧ (v59.toInt = (cBt m41_L_5 m41_L_6).toInt) := hw
                have F59 := f59_3
                refine lv_if_ne (tgt := 126) hx hb dX11_items_62 (by decide) (fun c62 => ?_) (fun c62 => ?_)
                · have c62 : ¬ v59.toInt = 0 := z6 rfl (by decide) c62
                  rw [hQ]
                  exact W.vret hx hb hr (fun t ht hW => ⟨⟨(m41_F_h0_3, m41_F_h0_4, m41_A_rw), rfl, ⟨by (try dsimp only); omega, by (try dsimp only); omega, by (try dsimp only); omega, by (try dsimp only); omega, by (try dsimp only); omega, zIt_m jv41_0 (fun _ => by omega), by (try dsimp only); exact zin_end jv41_1 (Or.inr (Or.inr (Int32.toInt_inj.mp (F59.symm.trans (by rw [show (1 : Int32).toInt = 1 from by decide]; omega))))), by (try dsimp only); exact zinVE jv41_2 jv41_1 (Or.inr (Or.inr (Int32.toInt_inj.mp (F59.symm.trans (by rw [show (1 : Int32).toInt = 1 from by decide]; omega)))))⟩, ⟨by rw [ht]; exact hP, hD⟩⟩, hS.F ht⟩) hS.2.2 dX11_items_126
                · have c62 : v59.toInt = 0 := z5 rfl (by decide) c62
                  refine lv_iload hx hb dX11_items_65 (lv_at hl 1 rfl) ?_
                  refine lv_iconst (v := 1) hx hb dX11_items_67 (by decide) ?_
                  refine lv_iload hx hb dX11_items_68 (lv_at hl 0 rfl) ?_
                  refine lv_ishl hx hb dX11_items_70 ?_
                  refine lv_topi (fun v70 e70 => ?_)
                  have i70 : 1 ≤ v70.toInt ∧ v70.toInt ≤ 32 := zshl1 e70 (by omega) (by omega)
                  refine lv_ior hx hb dX11_items_71 ?_
                  refine lv_topi (fun v71 e71 => ?_)
                  refine lv_istore (lv' := [(5, .int v71), (6, .int m41_L_6), (0, .ref h0), (1, .int 112), (2, .ref rw), (3, .int p3), (4, .int 4)]) hx hb dX11_items_72 hl (by decide) rfl (fun ls hl => ?_)
                  refine lv_aload_n hx hb dX11_items_74 rfl (lv_at hl 2 rfl) ?_
                  refine lv_dup hx hb dX11_items_75 rfl ?_
                  refine va_get (D := (dC, dI)) (ci := 11) (v := .int m41_F_h0_3) (C := RX11) (T := TX11) (N := 41) hx hb hts iX11 hown hK hP 0 rfl rfl 3 (by decide) (hts _ qw1130) (fun _ h9 => h9) rfl dX11_items_76 ?_
                  refine lv_iconst (v := 1) hx hb dX11_items_79 (by decide) ?_
                  refine lv_iadd hx hb dX11_items_80 ?_
                  refine lv_topi (fun v80 e80 => ?_)
                  have i80 : v80.toInt = m41_F_h0_3.toInt + 1 := zadd e80 rfl (by decide) (by omega) (by omega)
                  refine va_put (D := (dC, dI)) (ci := 11) (v := .int v80) (ty := .int) (C := RX11) (T := TX11) (N := 41) hx hb hts iX11 tyX11 tyX11_ok nmX11 hown hK hP hD hS 0 rfl rfl 3 (by decide) (hts _ qw1130) (fun _ h9 => h9) rfl (by decide +kernel) rfl rfl (Nat.le_of_ble_eq_true rfl) dX11_items_81 (fun H locs hP9 hD9 hS9 => ?_)
                  clear hP hD hS
                  obtain ⟨hP, hD⟩ := zst (wX := [(h0, .inr (11, [.int th, .ref tB, .int tsz, .int v80, .int m41_F_h0_4, .int dp, .ref rC, .ref rV, .ref rD, .ref rK, .ref rT, .ref rS, .ref rU, .int lw, .int tx, .ref rL, .ref rX, .ref qR, .ref qB, .ref qP, .int qnb, .int qnp, .ref aR, .ref aB, .ref aP, .int nb, .int np, .ref aN, .ref rf, .int ho, .int br, .ref aK, .int ac, .long dw, .ref aE, .int sr, .int sf, .ref aA, .ref aH, .ref aI, .int hi])), (tB, .inl (cI, 240, .inl fB)), (rw, .inl (cI, 20, .inl m41_A_rw))]) hP9 hD9 rfl
                  have hS := hS9
                  clear hP9 hD9 hS9
                  refine lv_aload_n hx hb dX11_items_84 rfl (lv_at hl 4 rfl) ?_
                  refine lv_iload_n hx hb dX11_items_85 rfl (lv_at hl 5 rfl) ?_
                  refine lv_iload hx hb dX11_items_86 (lv_at hl 1 rfl) ?_
                  refine lv_iadd hx hb dX11_items_88 ?_
                  refine lv_topi (fun v88 e88 => ?_)
                  have i88 : v88.toInt = p3.toInt + m41_L_6.toInt := zadd e88 rfl rfl (by omega) (by omega)
                  refine lv_aload_n hx hb dX11_items_89 rfl (lv_at hl 2 rfl) ?_
                  refine lv_iconst (v := 0) hx hb dX11_items_90 (by decide) ?_
                  refine lv_iload_n hx hb dX11_items_91 rfl (lv_at hl 3 rfl) ?_
                  refine lv_iload hx hb dX11_items_92 (lv_at hl 1 rfl) ?_
                  have hPc : va_P (dC, dI) vwCl [] H := zP0
                  have hDc : va_D (fun _ => True) [] := zD0
                  have hFc := zfr hS hA
                  refine va_calli (va_runS (As := [.int 112, .int m41_L_6]) (rest := [.int 0, .ref h0, .int v88, .ref rw]) ⟨hx, hb, hml, hown, hts⟩ (g_X11_highest_p l dC dI cI cJ m41_L_6 H.size) (cwS 2 hts (zgS qw1291 qw1292 qw108 qw1293) rfl rfl rfl hd_X11_highest ⟨by rw [hR]; exact Nat.le_of_ble_eq_true rfl, by rw [hR]; exact Nat.le_of_ble_eq_true rfl⟩) (zPS hPc hK hDc) rfl rfl hl.1 rfl (lv_room (Nat.le_of_ble_eq_true rfl)) dX11_items_94 ⟨Nat.zero_le _, Nat.zero_le _⟩) hS (fun q _ h => hFc q h) hFc (fun v94 u94 t H locs ht hvm hw hB hz1 hk1 hS9 => ?_)
                  replace hP := zkeep hP hk1
                  replace hS := hS9
                  clear hPc hDc hFc hk1 hz1 hvm hS9
                  obtain ⟨f94_0, f94_1, f94_2, f94_3⟩ : (3 ≤ v94.toInt) ∧ (v94.toInt ≤ 30) ∧ (m41_L_6.toInt = 0 → v94.toInt = 9) ∧ (v94.toInt = cHi 2 m41_L_6) := hw
                  have F94 := f94_3
                  have zx_m41_F_h0_4 : ((-1) : Int32).toInt = (-1) := by decide
                  have zy_m41_F_h0_4 : m41_F_h0_4 = (-1) := z7 (a := (-1)) (by decide) (by omega)
                  rw [zy_m41_F_h0_4] at hP hD
                  obtain ⟨hPc, hDc, hFc⟩ := zc3 (wc := [(h0, .inr (11, [.int th, .ref tB, .int tsz, .int v80, .int (-1), .int dp, .ref rC, .ref rV, .ref rD, .ref rK, .ref rT, .ref rS, .ref rU, .int lw, .int tx, .ref rL, .ref rX, .ref qR, .ref qB, .ref qP, .int qnb, .int qnp, .ref aR, .ref aB, .ref aP, .int nb, .int np, .ref aN, .ref rf, .int ho, .int br, .ref aK, .int ac, .long dw, .ref aE, .int sr, .int sf, .ref aA, .ref aH, .ref aI, .int hi])), (tB, .inl (cI, 240, .inl fB))]) hP hD hS hA [0, 1] (by decide +kernel) rfl
                  refine va_calli (va_runV (As := [.int 0, .int v94]) (rest := [.int v88, .ref rw]) ⟨hx, hb, hml, hown, hts⟩ (g_X11_number l dC dI cI cJ h0 v94 th tB tsz v80 dp rC rV rD rK rT rS rU lw tx rL rX qR qB qP qnb qnp aR aB aP nb np aN rf ho br aK ac dw aE sr sf aA aH aI hi fB H.size y_ac y_hi y_ho y_lw y_nb y_np (by omega) y_qnb y_qnp (by omega) n_tsz) (cwV 2 hts (zgV qw1294 qw1296 qw35 qw108 qw1297) rfl rfl rfl hd_X11_number ⟨by rw [hR]; exact Nat.le_of_ble_eq_true rfl, by rw [hR]; exact Nat.le_of_ble_eq_true rfl⟩) (zPV hPc hK hDc (va_recv (q := (RX11, TX11, 41)) hK hP (ci := 11) (q0 := 0) rfl rfl)) rfl rfl hl.1 rfl (lv_room (Nat.le_of_ble_eq_true rfl)) dX11_items_97 ⟨Nat.zero_le _, Nat.zero_le _⟩) hS (fun q _ h => hFc q h) hFc (fun v97 u97 t H locs ht hvm hw hB hz1 hk1 hS9 => ?_)
                  obtain ⟨u97_0, u97_1⟩ := u97
                  obtain ⟨hP9, hD9⟩ := zj2 (wX := [(h0, .inr (11, [.int th, .ref tB, .int tsz, .int u97_0, .int u97_1, .int dp, .ref rC, .ref rV, .ref rD, .ref rK, .ref rT, .ref rS, .ref rU, .int lw, .int tx, .ref rL, .ref rX, .ref qR, .ref qB, .ref qP, .int qnb, .int qnp, .ref aR, .ref aB, .ref aP, .int nb, .int np, .ref aN, .ref rf, .int ho, .int br, .ref aK, .int ac, .long dw, .ref aE, .int sr, .int sf, .ref aA, .ref aH, .ref aI, .int hi])), (tB, .inl (cI, 240, .inl fB)), (rw, .inl (cI, 20, .inl m41_A_rw))]) hP hD hk1 hFc ht hB [0, 1] [(true, 0), (true, 1), (false, 2)] rfl (by decide +kernel) (by decide +kernel) rfl
                  clear hP hD hS hPc hDc hFc hB hk1 hz1 hvm
                  have hP := hP9
                  have hD := hD9
                  have hS := hS9
                  clear hP9 hD9 hS9
                  obtain ⟨f97_0, f97_1, f97_2, f97_3, f97_4, f97_5, f97_6, f97_7, f97_8, f97_9⟩ : (0 ≤ v97.toInt) ∧ (v97.toInt ≤ 99) ∧ (0 ≤ u97_0.toInt) ∧ (u97_0.toInt ≤ 240) ∧ ((-1) ≤ u97_1.toInt) ∧ (u97_1.toInt ≤ 240) ∧ (zW (sNm2 (sB fB tsz.toInt) v94.toInt (sk (sB fB tsz.toInt) tsz.toInt v80.toInt)) u97_1 u97_0) ∧ (u97_1.toInt = -1 → v97.toInt = sVl2 (sB fB tsz.toInt) (sk (sB fB tsz.toInt) tsz.toInt v80.toInt)) ∧ (u97_1.toInt = -1 → (0 ≤ v97.toInt ∧ v97.toInt ≤ v94.toInt ∧ v80.toInt + 1 ≤ u97_0.toInt)) ∧ (v80.toInt ≤ u97_0.toInt) := hw
                  have F97 := f97_6
                  have F97_1 := f97_7
                  refine va_iast hx hb hK hP hD hS 2 0 rfl rfl (vp_in_iff.mpr ⟨by omega, by omega⟩) dX11_items_100 (fun H locs hP9 hD9 hS9 => ?_)
                  clear hP hD hS
                  obtain ⟨v100_f, e100⟩ : ∃ g : Nat → Int32, g = upd m41_A_rw (v88).toNatClampNeg v97 := ⟨_, rfl⟩
                  rw [← e100] at hP9 hD9
                  obtain ⟨hP, hD⟩ := zst (wX := [(h0, .inr (11, [.int th, .ref tB, .int tsz, .int u97_0, .int u97_1, .int dp, .ref rC, .ref rV, .ref rD, .ref rK, .ref rT, .ref rS, .ref rU, .int lw, .int tx, .ref rL, .ref rX, .ref qR, .ref qB, .ref qP, .int qnb, .int qnp, .ref aR, .ref aB, .ref aP, .int nb, .int np, .ref aN, .ref rf, .int ho, .int br, .ref aK, .int ac, .long dw, .ref aE, .int sr, .int sf, .ref aA, .ref aH, .ref aI, .int hi])), (tB, .inl (cI, 240, .inl fB)), (rw, .inl (cI, 20, .inl v100_f))]) hP9 hD9 rfl
                  have hS := hS9
                  clear hP9 hD9 hS9
                  refine lv_aload_n hx hb dX11_items_101 rfl (lv_at hl 2 rfl) ?_
                  refine va_get (D := (dC, dI)) (ci := 11) (v := .int u97_1) (C := RX11) (T := TX11) (N := 41) hx hb hts iX11 hown hK hP 0 rfl rfl 4 (by decide) (hts _ qw1131) (fun _ h9 => h9) rfl dX11_items_102 ?_
                  refine lv_iconst (v := (-1)) hx hb dX11_items_105 (by decide) ?_
                  refine lv_icmp_ne (tgt := 120) hx hb dX11_items_106 (by decide) (fun c106 => ?_) (fun c106 => ?_)
                  · have c106 : ¬ u97_1.toInt = (-1) := z6 rfl (by decide) c106
                    refine lv_iconst (v := (-1)) hx hb dX11_items_120 (by decide) ?_
                    refine lv_istore (lv' := [(6, .int (-1)), (5, .int v71), (0, .ref h0), (1, .int 112), (2, .ref rw), (3, .int p3), (4, .int 4)]) hx hb dX11_items_121 hl (by decide) rfl (fun ls hl => ?_)
                    refine lv_goto (tgt := 41) hx hb dX11_items_123 (by decide) ?_
                    have zj41_m41_L_6 : ((-1) : Int32).toInt = (-1) := by decide
                    exact ih41 _ (by omega) v100_f u97_0 u97_1 v71 (-1) ⟨f97_2, f97_3⟩ ⟨f97_4, f97_5⟩ (by decide) (zIt_s m41_L_6.toInt jv41_0 e100 (by omega) (by omega) (by omega) (by omega) (fun _ _ => by omega) (fun _ => by omega)) (by first | (rw [e71, e70]; exact zin_go jv41_1 (by omega) (by omega) (fun z => by rw [z] at F59; have : (1 : Int32).toInt = 1 := (by decide); omega) i80 F94 F97 (by omega) F111 F114) | exact zin_bad jv41_1 (by omega) (by omega) (fun z => by rw [z] at F59; have : (1 : Int32).toInt = 1 := (by decide); omega) i80 F94 F97 (by omega)) (by first | (rw [e71, e70]; exact zinVS jv41_2 jv41_1 (by omega) (by omega) (fun z => by rw [z] at F59; have : (1 : Int32).toInt = 1 := (by decide); omega) i80 F94 F97 (by omega) F97_1 F111 e100 (by omega) (by omega)) | exact zinVB (by omega)) (by omega) (by omega) rfl H locs ls hP hD hS (lv_sub hl [0, 1, 2, 3, 4, 5, 6] rfl)
                  · have c106 : u97_1.toInt = (-1) := z5 rfl (by decide) c106
                    refine lv_iload_n hx hb dX11_items_109 rfl (lv_at hl 3 rfl) ?_
                    refine lv_aload_n hx hb dX11_items_110 rfl (lv_at hl 2 rfl) ?_
                    obtain ⟨hPc, hDc, hFc⟩ := zc3 (wc := [(h0, .inr (11, [.int th, .ref tB, .int tsz, .int u97_0, .int u97_1, .int dp, .ref rC, .ref rV, .ref rD, .ref rK, .ref rT, .ref rS, .ref rU, .int lw, .int tx, .ref rL, .ref rX, .ref qR, .ref qB, .ref qP, .int qnb, .int qnp, .ref aR, .ref aB, .ref aP, .int nb, .int np, .ref aN, .ref rf, .int ho, .int br, .ref aK, .int ac, .long dw, .ref aE, .int sr, .int sf, .ref aA, .ref aH, .ref aI, .int hi])), (tB, .inl (cI, 240, .inl fB))]) hP hD hS hA [0, 1] (by decide +kernel) rfl
                    refine va_calli (va_runV (As := []) (rest := [.int 112]) ⟨hx, hb, hml, hown, hts⟩ (g_X11_look_u l dC dI cI cJ h0 th tB tsz u97_0 u97_1 dp rC rV rD rK rT rS rU lw tx rL rX qR qB qP qnb qnp aR aB aP nb np aN rf ho br aK ac dw aE sr sf aA aH aI hi fB H.size y_ac y_hi y_ho y_lw y_nb y_np y_qnb y_qnp ⟨f97_2, f97_3⟩ n_tsz (by omega)) (cwV 0 hts (zgV qw1273 qw1275 qw32 qw108 qw1276) rfl rfl rfl hd_X11_look ⟨by rw [hR]; exact Nat.le_of_ble_eq_true rfl, by rw [hR]; exact Nat.le_of_ble_eq_true rfl⟩) (zPV hPc hK hDc (va_recv (q := (RX11, TX11, 41)) hK hP (ci := 11) (q0 := 0) rfl rfl)) rfl rfl hl.1 rfl (lv_room (Nat.le_of_ble_eq_true rfl)) dX11_items_111 ⟨Nat.zero_le _, Nat.zero_le _⟩) hS (fun q _ h => hFc q h) hFc (fun v111 u111 t H locs ht hvm hw hB hz1 hk1 hS9 => ?_)
                    obtain ⟨u111_0, rfl⟩ : ∃ z, z = u111 := ⟨_, rfl⟩
                    obtain ⟨hP9, hD9⟩ := zj2 (wX := [(h0, .inr (11, [.int th, .ref tB, .int tsz, .int u111_0, .int u97_1, .int dp, .ref rC, .ref rV, .ref rD, .ref rK, .ref rT, .ref rS, .ref rU, .int lw, .int tx, .ref rL, .ref rX, .ref qR, .ref qB, .ref qP, .int qnb, .int qnp, .ref aR, .ref aB, .ref aP, .int nb, .int np, .ref aN, .ref rf, .int ho, .int br, .ref aK, .int ac, .long dw, .ref aE, .int sr, .int sf, .ref aA, .ref aH, .ref aI, .int hi])), (tB, .inl (cI, 240, .inl fB)), (rw, .inl (cI, 20, .inl v100_f))]) hP hD hk1 hFc ht hB [0, 1] [(true, 0), (true, 1), (false, 2)] rfl (by decide +kernel) (by decide +kernel) rfl
                    clear hP hD hS hPc hDc hFc hB hk1 hz1 hvm
                    have hP := hP9
                    have hD := hD9
                    have hS := hS9
                    clear hP9 hD9 hS9
                    obtain ⟨f111_0, f111_1, f111_2, f111_3, f111_4⟩ : (0 ≤ u111_0.toInt) ∧ (u111_0.toInt ≤ 240) ∧ (¬ v111.toInt = -1 → u111_0.toInt < tsz.toInt) ∧ (u97_0.toInt ≤ u111_0.toInt) ∧ (zLk fB tsz u97_0 v111 u111_0) := hw
                    have F111 := f111_4
                    have hPc : va_P (dC, dI) vwCl [] H := zP0
                    have hDc : va_D (fun _ => True) [] := zD0
                    have hFc := zfr hS hA
                    refine va_calli (va_runS (As := [.int 112, .int v111]) (rest := []) ⟨hx, hb, hml, hown, hts⟩ (g_X11_itemOf_p l dC dI cI cJ v111 H.size) (cwS 2 hts (zgS qw1285 qw1286 qw108 qw1287) rfl rfl rfl hd_X11_itemOf ⟨by rw [hR]; exact Nat.le_of_ble_eq_true rfl, by rw [hR]; exact Nat.le_of_ble_eq_true rfl⟩) (zPS hPc hK hDc) rfl rfl hl.1 rfl (lv_room (Nat.le_of_ble_eq_true rfl)) dX11_items_114 ⟨Nat.zero_le _, Nat.zero_le _⟩) hS (fun q _ h => hFc q h) hFc (fun v114 u114 t H locs ht hvm hw hB hz1 hk1 hS9 => ?_)
                    replace hP := zkeep hP hk1
                    replace hS := hS9
                    clear hPc hDc hFc hk1 hz1 hvm hS9
                    obtain ⟨f114_0, f114_1, f114_2, f114_3⟩ : ((-1) ≤ v114.toInt) ∧ (v114.toInt ≤ 3) ∧ (0 ≤ v114.toInt → 97 ≤ v111.toInt) ∧ (v114 = cIt 2 v111.toInt) := hw
                    have F114 := f114_3
                    refine lv_goto (tgt := 121) hx hb dX11_items_117 (by decide) ?_
                    refine lv_istore (lv' := [(6, .int v114), (5, .int v71), (0, .ref h0), (1, .int 112), (2, .ref rw), (3, .int p3), (4, .int 4)]) hx hb dX11_items_121 hl (by decide) rfl (fun ls hl => ?_)
                    refine lv_goto (tgt := 41) hx hb dX11_items_123 (by decide) ?_
                    exact ih41 _ (by omega) v100_f u111_0 u97_1 v71 v114 ⟨f111_0, f111_1⟩ ⟨f97_4, f97_5⟩ ⟨f114_0, f114_1⟩ (zIt_s m41_L_6.toInt jv41_0 e100 (by omega) (by omega) (by omega) (by omega) (fun _ _ => by omega) (fun _ => by omega)) (by first | (rw [e71, e70]; exact zin_go jv41_1 (by omega) (by omega) (fun z => by rw [z] at F59; have : (1 : Int32).toInt = 1 := (by decide); omega) i80 F94 F97 (by omega) F111 F114) | exact zin_bad jv41_1 (by omega) (by omega) (fun z => by rw [z] at F59; have : (1 : Int32).toInt = 1 := (by decide); omega) i80 F94 F97 (by omega)) (by first | (rw [e71, e70]; exact zinVS jv41_2 jv41_1 (by omega) (by omega) (fun z => by rw [z] at F59; have : (1 : Int32).toInt = 1 := (by decide); omega) i80 F94 F97 (by omega) F97_1 F111 e100 (by omega) (by omega)) | exact zinVB (by omega)) (by omega) (by omega) rfl H locs ls hP hD hS (lv_sub hl [0, 1, 2, 3, 4, 5, 6] rfl)
        refine lv_istore (lv' := [(6, .int v36), (5, .int 0), (0, .ref h0), (1, .int 112), (2, .ref rw), (3, .int p3), (4, .int 4)]) hx hb dX11_items_39 hl (by decide) rfl (fun ls hl => ?_)
        have zj41_m41_L_5 : (0 : Int32).toInt = 0 := by decide
        have zj41_m41_F_h0_4 : ((-1) : Int32).toInt = (-1) := by decide
        exact J41 _ m3_A_rw u33_0 (-1) 0 v36 ⟨f33_0, f33_1⟩ (by decide) ⟨f36_0, f36_1⟩ (zIt_m jv3_0 (fun _ => by omega)) (zin0 F33 F36 (by decide)) (zinV0 F33 jv3_1 (by omega)) (by omega) (by omega) rfl H locs ls hP hD hS (lv_sub hl [0, 1, 2, 3, 4, 5, 6] rfl)
      · have c7 : m3_L_5.toInt < 4 := z4 (by decide) rfl c7
        refine lv_aload_n hx hb dX11_items_10 rfl (lv_at hl 3 rfl) ?_
        refine lv_iload_n hx hb dX11_items_11 rfl (lv_at hl 4 rfl) ?_
        refine lv_iload hx hb dX11_items_12 (lv_at hl 0 rfl) ?_
        refine lv_iadd hx hb dX11_items_14 ?_
        refine lv_topi (fun v14 e14 => ?_)
        have i14 : v14.toInt = p3.toInt + m3_L_5.toInt := zadd e14 rfl rfl (by omega) (by omega)
        refine lv_iload_n hx hb dX11_items_15 rfl (lv_at hl 2 rfl) ?_
        refine lv_iload hx hb dX11_items_16 (lv_at hl 0 rfl) ?_
        have hPc : va_P (dC, dI) vwCl [] H := zP0
        have hDc : va_D (fun _ => True) [] := zD0
        have hFc := zfr hS hA
        refine va_calli (va_runS (As := [.int 112, .int m3_L_5]) (rest := [.int v14, .ref rw]) ⟨hx, hb, hml, hown, hts⟩ (g_X11_usual_p l dC dI cI cJ m3_L_5 H.size) (cwS 2 hts (zgS qw1270 qw1271 qw108 qw1272) rfl rfl rfl hd_X11_usual ⟨by rw [hR]; exact Nat.le_of_ble_eq_true rfl, by rw [hR]; exact Nat.le_of_ble_eq_true rfl⟩) (zPS hPc hK hDc) rfl rfl hl.1 rfl (lv_room (Nat.le_of_ble_eq_true rfl)) dX11_items_18 ⟨Nat.zero_le _, Nat.zero_le _⟩) hS (fun q _ h => hFc q h) hFc (fun v18 u18 t H locs ht hvm hw hB hz1 hk1 hS9 => ?_)
        replace hP := zkeep hP hk1
        replace hS := hS9
        clear hPc hDc hFc hk1 hz1 hvm hS9
        obtain ⟨f18_0, f18_1, f18_2, f18_3⟩ : (0 ≤ v18.toInt) ∧ (v18.toInt ≤ 5) ∧ (m3_L_5.toInt = 0 → (0 ≤ v18.toInt ∧ v18.toInt ≤ 9)) ∧ (0 ≤ m3_L_5.toInt → v18.toInt = cDf 2 m3_L_5.toInt.toNat) := hw
        have F18 := f18_3
        refine va_iast hx hb hK hP hD hS 2 0 rfl rfl (vp_in_iff.mpr ⟨by omega, by omega⟩) dX11_items_21 (fun H locs hP9 hD9 hS9 => ?_)
        clear hP hD hS
        obtain ⟨v21_f, e21⟩ : ∃ g : Nat → Int32, g = upd m3_A_rw (v14).toNatClampNeg v18 := ⟨_, rfl⟩
        rw [← e21] at hP9 hD9
        obtain ⟨hP, hD⟩ := zst (wX := [(h0, .inr (11, [.int th, .ref tB, .int tsz, .int tat, .int (-1), .int dp, .ref rC, .ref rV, .ref rD, .ref rK, .ref rT, .ref rS, .ref rU, .int lw, .int tx, .ref rL, .ref rX, .ref qR, .ref qB, .ref qP, .int qnb, .int qnp, .ref aR, .ref aB, .ref aP, .int nb, .int np, .ref aN, .ref rf, .int ho, .int br, .ref aK, .int ac, .long dw, .ref aE, .int sr, .int sf, .ref aA, .ref aH, .ref aI, .int hi])), (tB, .inl (cI, 240, .inl fB)), (rw, .inl (cI, 20, .inl v21_f))]) hP9 hD9 rfl
        have hS := hS9
        clear hP9 hD9 hS9
        obtain ⟨v22, e22⟩ : ∃ y : Int32, y = m3_L_5 + Int32.ofInt (1) := ⟨_, rfl⟩
        refine lv_iinc (v := v22) (lv' := [(5, .int v22), (0, .ref h0), (1, .int 112), (2, .ref rw), (3, .int p3), (4, .int 4)]) hx hb dX11_items_22 hl (k := 0) rfl e22.symm (by decide) rfl (fun ls hl => ?_)
        have i22 : v22.toInt = m3_L_5.toInt + 1 := zaddI e22 (by decide) (by omega) (by omega)
        refine lv_goto (tgt := 3) hx hb dX11_items_25 (by decide) ?_
        exact ih3 _ (by omega) v21_f v22 (by omega) (zIt_s m3_L_5.toInt jv3_0 e21 (by omega) (by omega) (by omega) (by omega) (fun _ _ => by omega) (fun _ => by omega)) (zUsS jv3_1 e21 (by omega) (by omega) (F18 (by omega)) i22) rfl H locs ls hP hD hS (lv_sub hl [0, 1, 2, 3, 4, 5] rfl)
  refine lv_istore (lv' := [(5, .int 0), (0, .ref h0), (1, .int 112), (2, .ref rw), (3, .int p3), (4, .int 4)]) hx hb dX11_items_1 hl (by decide) rfl (fun ls hl => ?_)
  have zj3_m3_L_5 : (0 : Int32).toInt = 0 := by decide
  exact J3 _ frw 0 (by decide) (zIt_0 (by decide)) (zUs0) rfl H locs ls hP hD hS (lv_sub hl [0, 1, 2, 3, 4, 5] rfl)
set_option maxHeartbeats 4000000 in
set_option maxRecDepth 100000 in
theorem g_X11_readCourt (l : Launch) (dC : Nat → ClassId) (dI : Nat → Nat → Nat) (cI cJ : ClassId) (h0 : Nat) (th : Int32) (tB : Nat) (tsz : Int32) (tat : Int32) (wr : Int32) (dp : Int32) (rC : Nat) (rV : Nat) (rD : Nat) (rK : Nat) (rT : Nat) (rS : Nat) (rU : Nat) (lw : Int32) (tx : Int32) (rL : Nat) (rX : Nat) (qR : Nat) (qB : Nat) (qP : Nat) (qnb : Int32) (qnp : Int32) (aR : Nat) (aB : Nat) (aP : Nat) (nb : Int32) (np : Int32) (aN : Nat) (rf : Nat) (ho : Int32) (br : Int32) (aK : Nat) (ac : Int32) (dw : Int64) (aE : Nat) (sr : Int32) (sf : Int32) (aA : Nat) (aH : Nat) (aI : Nat) (hi : Int32) (fB : Nat → Int32) (fqR : Nat → Int32) (fqB : Nat → Int32) (fqP : Nat → Int32) (sz : Nat) (n_ac : 0 ≤ ac.toInt ∧ ac.toInt ≤ 40) (n_hi : 0 ≤ hi.toInt ∧ hi.toInt ≤ 1) (n_ho : (-1) ≤ ho.toInt ∧ ho.toInt ≤ 3) (n_lw : 0 ≤ lw.toInt ∧ lw.toInt ≤ 4) (n_nb : 0 ≤ nb.toInt ∧ nb.toInt ≤ 6) (n_np : 0 ≤ np.toInt ∧ np.toInt ≤ 5) (n_qnb : 0 ≤ qnb.toInt ∧ qnb.toInt ≤ 6) (n_qnp : 0 ≤ qnp.toInt ∧ qnp.toInt ≤ 5) (n_tat : 0 ≤ tat.toInt ∧ tat.toInt ≤ 260) (n_tsz : 0 ≤ tsz.toInt ∧ tsz.toInt ≤ 240) (n_wr : (-1) ≤ wr.toInt ∧ wr.toInt ≤ 260) (hty : zTy tsz fB)   : Met l yX11_readCourt (.code yX11_readCourt cX11_readCourt 4 (some .int) :: wA) ({ frames := 4, cells := 0, slots := 0, locals := 89 }) (zP (dC, dI) [(cI, .int), (cJ, .long)] [.ref h0] sz [(h0, .inr (11, [.int th, .ref tB, .int tsz, .int tat, .int wr, .int dp, .ref rC, .ref rV, .ref rD, .ref rK, .ref rT, .ref rS, .ref rU, .int lw, .int tx, .ref rL, .ref rX, .ref qR, .ref qB, .ref qP, .int qnb, .int qnp, .ref aR, .ref aB, .ref aP, .int nb, .int np, .ref aN, .ref rf, .int ho, .int br, .ref aK, .int ac, .long dw, .ref aE, .int sr, .int sf, .ref aA, .ref aH, .ref aI, .int hi])), (tB, .inl (cI, 240, .inl fB)), (qR, .inl (cI, 3, .inl fqR)), (qB, .inl (cI, 24, .inl fqB)), (qP, .inl (cI, 20, .inl fqP))]) (va_Qi (fun (r : Int32) (u : Int32 × Int32 × Int32 × Int32 × (Nat → Int32) × (Nat → Int32) × (Nat → Int32)) => ((-1) ≤ r.toInt) ∧ (r.toInt ≤ 240) ∧ (0 ≤ u.1.toInt) ∧ (u.1.toInt ≤ 240) ∧ ((-1) ≤ u.2.1.toInt) ∧ (u.2.1.toInt ≤ 240) ∧ (0 ≤ u.2.2.1.toInt) ∧ (u.2.2.1.toInt ≤ 6) ∧ (0 ≤ u.2.2.2.1.toInt) ∧ (u.2.2.2.1.toInt ≤ 5) ∧ (r.toInt = u.2.1.toInt) ∧ (r.toInt = -1 → (1 ≤ u.2.2.1.toInt ∧ 1 ≤ u.2.2.2.1.toInt)) ∧ (zRc r u.2.2.1 u.2.2.2.1 u.2.2.2.2.2.1 u.2.2.2.2.2.2) ∧ ((sCrt (sB fB tsz.toInt) tsz.toInt).1 = r.toInt ∧ (r.toInt = -1 → (sCrt (sB fB tsz.toInt) tsz.toInt).2.2 = (u.2.2.1.toInt, u.2.2.2.1.toInt))) ∧ (r.toInt = -1 → zCn u.2.2.2.2.1 u.2.2.2.2.2.1 u.2.2.2.2.2.2 u.2.2.1.toInt u.2.2.2.1.toInt (sCrtV (sB fB tsz.toInt) tsz.toInt))) (fun (u : Int32 × Int32 × Int32 × Int32 × (Nat → Int32) × (Nat → Int32) × (Nat → Int32)) (t : State) => va_P (dC, dI) vwCl [(h0, .inr (11, [.int th, .ref tB, .int tsz, .int u.1, .int u.2.1, .int dp, .ref rC, .ref rV, .ref rD, .ref rK, .ref rT, .ref rS, .ref rU, .int lw, .int tx, .ref rL, .ref rX, .ref qR, .ref qB, .ref qP, .int u.2.2.1, .int u.2.2.2.1, .ref aR, .ref aB, .ref aP, .int nb, .int np, .ref aN, .ref rf, .int ho, .int br, .ref aK, .int ac, .long dw, .ref aE, .int sr, .int sf, .ref aA, .ref aH, .ref aI, .int hi])), (tB, .inl (cI, 240, .inl fB)), (qR, .inl (cI, 3, .inl u.2.2.2.2.1)), (qB, .inl (cI, 24, .inl u.2.2.2.2.2.1)), (qP, .inl (cI, 20, .inl u.2.2.2.2.2.2))] t.heap ∧ va_D (va_A [(h0, .inr (11, [.int th, .ref tB, .int tsz, .int tat, .int wr, .int dp, .ref rC, .ref rV, .ref rD, .ref rK, .ref rT, .ref rS, .ref rU, .int lw, .int tx, .ref rL, .ref rX, .ref qR, .ref qB, .ref qP, .int qnb, .int qnp, .ref aR, .ref aB, .ref aP, .int nb, .int np, .ref aN, .ref rf, .int ho, .int br, .ref aK, .int ac, .long dw, .ref aE, .int sr, .int sf, .ref aA, .ref aH, .ref aI, .int hi])), (tB, .inl (cI, 240, .inl fB)), (qR, .inl (cI, 3, .inl fqR)), (qB, .inl (cI, 24, .inl fqB)), (qP, .inl (cI, 20, .inl fqP))] sz) [(h0, .inr (11, [.int th, .ref tB, .int tsz, .int u.1, .int u.2.1, .int dp, .ref rC, .ref rV, .ref rD, .ref rK, .ref rT, .ref rS, .ref rU, .int lw, .int tx, .ref rL, .ref rX, .ref qR, .ref qB, .ref qP, .int u.2.2.1, .int u.2.2.2.1, .ref aR, .ref aB, .ref aP, .int nb, .int np, .ref aN, .ref rf, .int ho, .int br, .ref aK, .int ac, .long dw, .ref aE, .int sr, .int sf, .ref aA, .ref aH, .ref aI, .int hi])), (tB, .inl (cI, 240, .inl fB)), (qR, .inl (cI, 3, .inl u.2.2.2.2.1)), (qB, .inl (cI, 24, .inl u.2.2.2.2.2.1)), (qP, .inl (cI, 20, .inl u.2.2.2.2.2.2))]) (va_A [(h0, .inr (11, [.int th, .ref tB, .int tsz, .int tat, .int wr, .int dp, .ref rC, .ref rV, .ref rD, .ref rK, .ref rT, .ref rS, .ref rU, .int lw, .int tx, .ref rL, .ref rX, .ref qR, .ref qB, .ref qP, .int qnb, .int qnp, .ref aR, .ref aB, .ref aP, .int nb, .int np, .ref aN, .ref rf, .int ho, .int br, .ref aK, .int ac, .long dw, .ref aE, .int sr, .int sf, .ref aA, .ref aH, .ref aI, .int hi])), (tB, .inl (cI, 240, .inl fB)), (qR, .inl (cI, 3, .inl fqR)), (qB, .inl (cI, 24, .inl fqB)), (qP, .inl (cI, 20, .inl fqP))] sz)) 0 0 (va_A [(h0, .inr (11, [.int th, .ref tB, .int tsz, .int tat, .int wr, .int dp, .ref rC, .ref rV, .ref rD, .ref rK, .ref rT, .ref rS, .ref rU, .int lw, .int tx, .ref rL, .ref rX, .ref qR, .ref qB, .ref qP, .int qnb, .int qnp, .ref aR, .ref aB, .ref aP, .int nb, .int np, .ref aN, .ref rf, .int ho, .int br, .ref aK, .int ac, .long dw, .ref aE, .int sr, .int sf, .ref aA, .ref aH, .ref aI, .int hi])), (tB, .inl (cI, 240, .inl fB)), (qR, .inl (cI, 3, .inl fqR)), (qB, .inl (cI, 24, .inl fqB)), (qP, .inl (cI, 20, .inl fqP))] sz) := by
  refine Met.ofW (cc := cX11_readCourt) (maxL := 4) (ret := (some .int)) (by decide) rfl ?_
  intro p e s m args below meth c s₁ B hml hv
  have y_ac : zHid (0 ≤ ac.toInt ∧ ac.toInt ≤ 40) := n_ac
  have y_hi : zHid (0 ≤ hi.toInt ∧ hi.toInt ≤ 1) := n_hi
  have y_ho : zHid ((-1) ≤ ho.toInt ∧ ho.toInt ≤ 3) := n_ho
  have y_lw : zHid (0 ≤ lw.toInt ∧ lw.toInt ≤ 4) := n_lw
  have y_nb : zHid (0 ≤ nb.toInt ∧ nb.toInt ≤ 6) := n_nb
  have y_np : zHid (0 ≤ np.toInt ∧ np.toInt ≤ 5) := n_np
  have y_qnb : zHid (0 ≤ qnb.toInt ∧ qnb.toInt ≤ 6) := n_qnb
  have y_qnp : zHid (0 ≤ qnp.toInt ∧ qnp.toInt ≤ 5) := n_qnp
  have y_tat : zHid (0 ≤ tat.toInt ∧ tat.toInt ≤ 260) := n_tat
  have y_wr : zHid ((-1) ≤ wr.toInt ∧ wr.toInt ≤ 260) := n_wr
  clear n_ac n_hi n_ho n_lw n_nb n_np n_qnb n_qnp n_tat n_wr
  obtain ⟨hargs, hsz, hP, hK, hT⟩ := hv
  have hx := B.exec
  have hb := B.bytes
  have hr := B.returns
  have hts : ∀ w ∈ wA, w.before args s = true := fun w h => atoms_spec (ws := .code yX11_readCourt cX11_readCourt 4 (some .int) :: wA) B.pre w (List.mem_cons_of_mem _ h)
  have hown : s.vm.findClass RX11 = some m.cls := findClass_of_methodNamed B.named
  have hlocks := B.notSynchronized
  subst hsz
  have hD := hT.self (sz := s.heap.size)
  generalize hAe : va_A [(h0, .inr (11, [.int th, .ref tB, .int tsz, .int tat, .int wr, .int dp, .ref rC, .ref rV, .ref rD, .ref rK, .ref rT, .ref rS, .ref rU, .int lw, .int tx, .ref rL, .ref rX, .ref qR, .ref qB, .ref qP, .int qnb, .int qnp, .ref aR, .ref aB, .ref aP, .int nb, .int np, .ref aN, .ref rf, .int ho, .int br, .ref aK, .int ac, .long dw, .ref aE, .int sr, .int sf, .ref aA, .ref aH, .ref aI, .int hi])), (tB, .inl (cI, 240, .inl fB)), (qR, .inl (cI, 3, .inl fqR)), (qB, .inl (cI, 24, .inl fqB)), (qP, .inl (cI, 20, .inl fqP))] s.heap.size = A at hD ⊢
  have hA : ∀ q : Nat, s.heap.size ≤ q → A q := fun q h => by rw [← hAe]; exact Or.inr h
  have hl := lv_entry ([.ref h0]) (n := 4) (Nat.le_of_ble_eq_true rfl)
  rw [show entryFrame m args 4 = entryFrame m ([.ref h0] : List Value).toArray 4 by rw [hargs], lg_entry_eq]
  generalize (lg_sl ([.ref h0]) ++ List.replicate (4 - (lg_sl ([.ref h0])).length) Slot.unset).toArray = ls at hl ⊢
  have hl : lv_has ls 4 [(0, .ref h0)] := hl
  refine zstart (fun H hH => ?_)
  rw [← hH] at hP
  have hS : va_S A s.heap H [] := by rw [hH]; exact va_S.rf
  generalize ([] : List Loc) = locs at hS ⊢
  refine zgen (fun R Q hR hQ => ?_)
  have zm1 : (-1 : Int32).toInt = -1 := by decide
  refine lv_aload_n hx hb dX11_readCourt_0 rfl (lv_at hl 0 rfl) ?_
  refine lv_iconst (v := 0) hx hb dX11_readCourt_1 (by decide) ?_
  refine va_put (D := (dC, dI)) (ci := 11) (v := .int 0) (ty := .int) (C := RX11) (T := TX11) (N := 41) hx hb hts iX11 tyX11 tyX11_ok nmX11 hown hK hP hD hS 0 rfl rfl 3 (by decide) (hts _ qw1130) (fun _ h9 => h9) rfl (by decide +kernel) rfl rfl (Nat.le_of_ble_eq_true rfl) dX11_readCourt_2 (fun H locs hP9 hD9 hS9 => ?_)
  clear hP hD hS
  obtain ⟨hP, hD⟩ := zst (wX := [(h0, .inr (11, [.int th, .ref tB, .int tsz, .int 0, .int wr, .int dp, .ref rC, .ref rV, .ref rD, .ref rK, .ref rT, .ref rS, .ref rU, .int lw, .int tx, .ref rL, .ref rX, .ref qR, .ref qB, .ref qP, .int qnb, .int qnp, .ref aR, .ref aB, .ref aP, .int nb, .int np, .ref aN, .ref rf, .int ho, .int br, .ref aK, .int ac, .long dw, .ref aE, .int sr, .int sf, .ref aA, .ref aH, .ref aI, .int hi])), (tB, .inl (cI, 240, .inl fB)), (qR, .inl (cI, 3, .inl fqR)), (qB, .inl (cI, 24, .inl fqB)), (qP, .inl (cI, 20, .inl fqP))]) hP9 hD9 rfl
  have hS := hS9
  clear hP9 hD9 hS9
  refine lv_aload_n hx hb dX11_readCourt_5 rfl (lv_at hl 0 rfl) ?_
  refine lv_iconst (v := (-1)) hx hb dX11_readCourt_6 (by decide) ?_
  refine va_put (D := (dC, dI)) (ci := 11) (v := .int (-1)) (ty := .int) (C := RX11) (T := TX11) (N := 41) hx hb hts iX11 tyX11 tyX11_ok nmX11 hown hK hP hD hS 0 rfl rfl 4 (by decide) (hts _ qw1131) (fun _ h9 => h9) rfl (by decide +kernel) rfl rfl (Nat.le_of_ble_eq_true rfl) dX11_readCourt_7 (fun H locs hP9 hD9 hS9 => ?_)
  clear hP hD hS
  obtain ⟨hP, hD⟩ := zst (wX := [(h0, .inr (11, [.int th, .ref tB, .int tsz, .int 0, .int (-1), .int dp, .ref rC, .ref rV, .ref rD, .ref rK, .ref rT, .ref rS, .ref rU, .int lw, .int tx, .ref rL, .ref rX, .ref qR, .ref qB, .ref qP, .int qnb, .int qnp, .ref aR, .ref aB, .ref aP, .int nb, .int np, .ref aN, .ref rf, .int ho, .int br, .ref aK, .int ac, .long dw, .ref aE, .int sr, .int sf, .ref aA, .ref aH, .ref aI, .int hi])), (tB, .inl (cI, 240, .inl fB)), (qR, .inl (cI, 3, .inl fqR)), (qB, .inl (cI, 24, .inl fqB)), (qP, .inl (cI, 20, .inl fqP))]) hP9 hD9 rfl
  have hS := hS9
  clear hP9 hD9 hS9
  refine lv_aload_n hx hb dX11_readCourt_10 rfl (lv_at hl 0 rfl) ?_
  refine lv_iconst (v := 0) hx hb dX11_readCourt_11 (by decide) ?_
  refine va_put (D := (dC, dI)) (ci := 11) (v := .int 0) (ty := .int) (C := RX11) (T := TX11) (N := 41) hx hb hts iX11 tyX11 tyX11_ok nmX11 hown hK hP hD hS 0 rfl rfl 20 (by decide) (hts _ qw1147) (fun _ h9 => h9) rfl (by decide +kernel) rfl rfl (Nat.le_of_ble_eq_true rfl) dX11_readCourt_12 (fun H locs hP9 hD9 hS9 => ?_)
  clear hP hD hS
  obtain ⟨hP, hD⟩ := zst (wX := [(h0, .inr (11, [.int th, .ref tB, .int tsz, .int 0, .int (-1), .int dp, .ref rC, .ref rV, .ref rD, .ref rK, .ref rT, .ref rS, .ref rU, .int lw, .int tx, .ref rL, .ref rX, .ref qR, .ref qB, .ref qP, .int 0, .int qnp, .ref aR, .ref aB, .ref aP, .int nb, .int np, .ref aN, .ref rf, .int ho, .int br, .ref aK, .int ac, .long dw, .ref aE, .int sr, .int sf, .ref aA, .ref aH, .ref aI, .int hi])), (tB, .inl (cI, 240, .inl fB)), (qR, .inl (cI, 3, .inl fqR)), (qB, .inl (cI, 24, .inl fqB)), (qP, .inl (cI, 20, .inl fqP))]) hP9 hD9 rfl
  have hS := hS9
  clear hP9 hD9 hS9
  refine lv_aload_n hx hb dX11_readCourt_15 rfl (lv_at hl 0 rfl) ?_
  refine lv_iconst (v := 0) hx hb dX11_readCourt_16 (by decide) ?_
  refine va_put (D := (dC, dI)) (ci := 11) (v := .int 0) (ty := .int) (C := RX11) (T := TX11) (N := 41) hx hb hts iX11 tyX11 tyX11_ok nmX11 hown hK hP hD hS 0 rfl rfl 21 (by decide) (hts _ qw1148) (fun _ h9 => h9) rfl (by decide +kernel) rfl rfl (Nat.le_of_ble_eq_true rfl) dX11_readCourt_17 (fun H locs hP9 hD9 hS9 => ?_)
  clear hP hD hS
  obtain ⟨hP, hD⟩ := zst (wX := [(h0, .inr (11, [.int th, .ref tB, .int tsz, .int 0, .int (-1), .int dp, .ref rC, .ref rV, .ref rD, .ref rK, .ref rT, .ref rS, .ref rU, .int lw, .int tx, .ref rL, .ref rX, .ref qR, .ref qB, .ref qP, .int 0, .int 0, .ref aR, .ref aB, .ref aP, .int nb, .int np, .ref aN, .ref rf, .int ho, .int br, .ref aK, .int ac, .long dw, .ref aE, .int sr, .int sf, .ref aA, .ref aH, .ref aI, .int hi])), (tB, .inl (cI, 240, .inl fB)), (qR, .inl (cI, 3, .inl fqR)), (qB, .inl (cI, 24, .inl fqB)), (qP, .inl (cI, 20, .inl fqP))]) hP9 hD9 rfl
  have hS := hS9
  clear hP9 hD9 hS9
  refine lv_iconst (v := 0) hx hb dX11_readCourt_20 (by decide) ?_
  refine lv_istore_n (lv' := [(1, .int 0), (0, .ref h0)]) hx hb dX11_readCourt_21 rfl hl (by decide) rfl (fun ls hl => ?_)
  refine lv_iconst (v := 0) hx hb dX11_readCourt_22 (by decide) ?_
  have J24 : ∀ (n : Nat) (m24_A_qR : Nat → Int32) (m24_L_2 : Int32), (0 ≤ m24_L_2.toInt ∧ m24_L_2.toInt ≤ 3) → (zUs 0 0 fqR m24_A_qR m24_L_2) → (4 - m24_L_2.toInt).toNat = n → ∀ (H : Heap) (locs : List Loc) (ls : Array Slot), va_P (dC, dI) vwCl [(h0, .inr (11, [.int th, .ref tB, .int tsz, .int 0, .int (-1), .int dp, .ref rC, .ref rV, .ref rD, .ref rK, .ref rT, .ref rS, .ref rU, .int lw, .int tx, .ref rL, .ref rX, .ref qR, .ref qB, .ref qP, .int 0, .int 0, .ref aR, .ref aB, .ref aP, .int nb, .int np, .ref aN, .ref rf, .int ho, .int br, .ref aK, .int ac, .long dw, .ref aE, .int sr, .int sf, .ref aA, .ref aH, .ref aI, .int hi])), (tB, .inl (cI, 240, .inl fB)), (qR, .inl (cI, 3, .inl m24_A_qR)), (qB, .inl (cI, 24, .inl fqB)), (qP, .inl (cI, 20, .inl fqP))] H → va_D A [(h0, .inr (11, [.int th, .ref tB, .int tsz, .int 0, .int (-1), .int dp, .ref rC, .ref rV, .ref rD, .ref rK, .ref rT, .ref rS, .ref rU, .int lw, .int tx, .ref rL, .ref rX, .ref qR, .ref qB, .ref qP, .int 0, .int 0, .ref aR, .ref aB, .ref aP, .int nb, .int np, .ref aN, .ref rf, .int ho, .int br, .ref aK, .int ac, .long dw, .ref aE, .int sr, .int sf, .ref aA, .ref aH, .ref aI, .int hi])), (tB, .inl (cI, 240, .inl fB)), (qR, .inl (cI, 3, .inl m24_A_qR)), (qB, .inl (cI, 24, .inl fqB)), (qP, .inl (cI, 20, .inl fqP))] → va_S A s.heap H locs → lv_has ls 4 [(2, .int m24_L_2), (1, .int 0), (0, .ref h0)] → W p l e R s m args below meth c H locs 0 0 Q (F0 m 24 ls []) := by
    intro n24
    induction n24 using Nat.strongRecOn with
    | _ n24 ih24 =>
      intro m24_A_qR m24_L_2 jf24_0 jv24_0 hmu24 H locs ls hP hD hS hl
      refine lv_iload_n hx hb dX11_readCourt_24 rfl (lv_at hl 0 rfl) ?_
      refine lv_iconst (v := 3) hx hb dX11_readCourt_25 (by decide) ?_
      refine lv_icmp_ge (tgt := 47) hx hb dX11_readCourt_26 (by decide) (fun c26 => ?_) (fun c26 => ?_)
      · have c26 : 3 ≤ m24_L_2.toInt := z3 (by decide) rfl c26
        refine lv_iconst (v := 1) hx hb dX11_readCourt_47 (by decide) ?_
        have J49 : ∀ (n : Nat) (m49_A_qB : Nat → Int32) (m49_A_qP : Nat → Int32) (m49_A_qR : Nat → Int32) (m49_F_h0_20 : Int32) (m49_F_h0_21 : Int32) (m49_F_h0_3 : Int32) (m49_F_h0_4 : Int32) (m49_L_1 : Int32) (m49_L_2 : Int32), (0 ≤ m49_F_h0_20.toInt ∧ m49_F_h0_20.toInt ≤ 6) → (0 ≤ m49_F_h0_21.toInt ∧ m49_F_h0_21.toInt ≤ 5) → (0 ≤ m49_F_h0_3.toInt ∧ m49_F_h0_3.toInt ≤ 240) → ((-1) ≤ m49_F_h0_4.toInt ∧ m49_F_h0_4.toInt ≤ 240) → (0 ≤ m49_L_1.toInt ∧ m49_L_1.toInt ≤ 1) → (0 ≤ m49_L_2.toInt ∧ m49_L_2.toInt ≤ 1) → (zRc m49_F_h0_4 m49_F_h0_20 m49_F_h0_21 m49_A_qB m49_A_qP) → (zRr fB tsz m49_L_2 m49_F_h0_4 m49_F_h0_3 m49_L_1 m49_F_h0_20 m49_F_h0_21) → (zRrV fB tsz m49_L_2 m49_F_h0_4 m49_F_h0_3 m49_L_1 m49_F_h0_20 m49_F_h0_21 m49_A_qR m49_A_qB m49_A_qP) → (600 - 2 * m49_F_h0_3.toInt + m49_L_2.toInt).toNat = n → ∀ (H : Heap) (locs : List Loc) (ls : Array Slot), va_P (dC, dI) vwCl [(h0, .inr (11, [.int th, .ref tB, .int tsz, .int m49_F_h0_3, .int m49_F_h0_4, .int dp, .ref rC, .ref rV, .ref rD, .ref rK, .ref rT, .ref rS, .ref rU, .int lw, .int tx, .ref rL, .ref rX, .ref qR, .ref qB, .ref qP, .int m49_F_h0_20, .int m49_F_h0_21, .ref aR, .ref aB, .ref aP, .int nb, .int np, .ref aN, .ref rf, .int ho, .int br, .ref aK, .int ac, .long dw, .ref aE, .int sr, .int sf, .ref aA, .ref aH, .ref aI, .int hi])), (tB, .inl (cI, 240, .inl fB)), (qR, .inl (cI, 3, .inl m49_A_qR)), (qB, .inl (cI, 24, .inl m49_A_qB)), (qP, .inl (cI, 20, .inl m49_A_qP))] H → va_D A [(h0, .inr (11, [.int th, .ref tB, .int tsz, .int m49_F_h0_3, .int m49_F_h0_4, .int dp, .ref rC, .ref rV, .ref rD, .ref rK, .ref rT, .ref rS, .ref rU, .int lw, .int tx, .ref rL, .ref rX, .ref qR, .ref qB, .ref qP, .int m49_F_h0_20, .int m49_F_h0_21, .ref aR, .ref aB, .ref aP, .int nb, .int np, .ref aN, .ref rf, .int ho, .int br, .ref aK, .int ac, .long dw, .ref aE, .int sr, .int sf, .ref aA, .ref aH, .ref aI, .int hi])), (tB, .inl (cI, 240, .inl fB)), (qR, .inl (cI, 3, .inl m49_A_qR)), (qB, .inl (cI, 24, .inl m49_A_qB)), (qP, .inl (cI, 20, .inl m49_A_qP))] → va_S A s.heap H locs → lv_has ls 4 [(2, .int m49_L_2), (1, .int m49_L_1), (0, .ref h0)] → W p l e R s m args below meth c H locs 0 0 Q (F0 m 49 ls []) := by
          intro n49
          induction n49 using Nat.strongRecOn with
          | _ n49 ih49 =>
            intro m49_A_qB m49_A_qP m49_A_qR m49_F_h0_20 m49_F_h0_21 m49_F_h0_3 m49_F_h0_4 m49_L_1 m49_L_2 jf49_0 jf49_1 jf49_2 jf49_3 jf49_4 jf49_5 jv49_0 jv49_1 jv49_2 hmu49 H locs ls hP hD hS hl
            refine lv_iload_n hx hb dX11_readCourt_49 rfl (lv_at hl 0 rfl) ?_
            refine lv_if_eq (tgt := 257) hx hb dX11_readCourt_50 (by decide) (fun c50 => ?_) (fun c50 => ?_)
            · have c50 : m49_L_2.toInt = 0 := z5 rfl (by decide) c50
              refine lv_aload_n hx hb dX11_readCourt_257 rfl (lv_at hl 2 rfl) ?_
              refine va_get (D := (dC, dI)) (ci := 11) (v := .int m49_F_h0_4) (C := RX11) (T := TX11) (N := 41) hx hb hts iX11 hown hK hP 0 rfl rfl 4 (by decide) (hts _ qw1131) (fun _ h9 => h9) rfl dX11_readCourt_258 ?_
              refine lv_iconst (v := (-1)) hx hb dX11_readCourt_261 (by decide) ?_
              refine lv_icmp_ne (tgt := 291) hx hb dX11_readCourt_262 (by decide) (fun c262 => ?_) (fun c262 => ?_)
              · have c262 : ¬ m49_F_h0_4.toInt = (-1) := z6 rfl (by decide) c262
                refine lv_aload_n hx hb dX11_readCourt_291 rfl (lv_at hl 2 rfl) ?_
                refine va_get (D := (dC, dI)) (ci := 11) (v := .int m49_F_h0_4) (C := RX11) (T := TX11) (N := 41) hx hb hts iX11 hown hK hP 0 rfl rfl 4 (by decide) (hts _ qw1131) (fun _ h9 => h9) rfl dX11_readCourt_292 ?_
                rw [hQ]
                exact W.iret (v := m49_F_h0_4) hx hb hr (fun t ht hW => ⟨⟨m49_F_h0_4, (m49_F_h0_3, m49_F_h0_4, m49_F_h0_20, m49_F_h0_21, m49_A_qR, m49_A_qB, m49_A_qP), rfl, ⟨by (try dsimp only); omega, by (try dsimp only); omega, by (try dsimp only); omega, by (try dsimp only); omega, by (try dsimp only); omega, by (try dsimp only); omega, by (try dsimp only); omega, by (try dsimp only); omega, by (try dsimp only); omega, by (try dsimp only); omega, rfl, by (try dsimp only); omega, zRc_m jv49_0 (by omega), by (try dsimp only); exact ⟨zrr_f jv49_1 (by omega) rfl, fun z => absurd z (by omega)⟩, by (try dsimp only); exact fun z => absurd z (by omega)⟩, ⟨by rw [ht]; exact hP, hD⟩⟩, hS.F ht⟩) hS.2.2 dX11_readCourt_295
              · have c262 : m49_F_h0_4.toInt = (-1) := z5 rfl (by decide) c262
                refine lv_aload_n hx hb dX11_readCourt_265 rfl (lv_at hl 2 rfl) ?_
                obtain ⟨hPc, hDc, hFc⟩ := zc3 (wc := [(h0, .inr (11, [.int th, .ref tB, .int tsz, .int m49_F_h0_3, .int m49_F_h0_4, .int dp, .ref rC, .ref rV, .ref rD, .ref rK, .ref rT, .ref rS, .ref rU, .int lw, .int tx, .ref rL, .ref rX, .ref qR, .ref qB, .ref qP, .int m49_F_h0_20, .int m49_F_h0_21, .ref aR, .ref aB, .ref aP, .int nb, .int np, .ref aN, .ref rf, .int ho, .int br, .ref aK, .int ac, .long dw, .ref aE, .int sr, .int sf, .ref aA, .ref aH, .ref aI, .int hi])), (tB, .inl (cI, 240, .inl fB))]) hP hD hS hA [0, 1] (by decide +kernel) rfl
                refine va_calli (va_runV (As := []) (rest := []) ⟨hx, hb, hml, hown, hts⟩ (g_X11_look_u l dC dI cI cJ h0 th tB tsz m49_F_h0_3 m49_F_h0_4 dp rC rV rD rK rT rS rU lw tx rL rX qR qB qP m49_F_h0_20 m49_F_h0_21 aR aB aP nb np aN rf ho br aK ac dw aE sr sf aA aH aI hi fB H.size y_ac y_hi y_ho y_lw y_nb y_np jf49_0 jf49_1 jf49_2 n_tsz (by omega)) (cwV 0 hts (zgV qw1273 qw1275 qw32 qw108 qw1276) rfl rfl rfl hd_X11_look ⟨by rw [hR]; exact Nat.le_of_ble_eq_true rfl, by rw [hR]; exact Nat.le_of_ble_eq_true rfl⟩) (zPV hPc hK hDc (va_recv (q := (RX11, TX11, 41)) hK hP (ci := 11) (q0 := 0) rfl rfl)) rfl rfl hl.1 rfl (lv_room (Nat.le_of_ble_eq_true rfl)) dX11_readCourt_266 ⟨Nat.zero_le _, Nat.zero_le _⟩) hS (fun q _ h => hFc q h) hFc (fun v266 u266 t H locs ht hvm hw hB hz1 hk1 hS9 => ?_)
                obtain ⟨u266_0, rfl⟩ : ∃ z, z = u266 := ⟨_, rfl⟩
                obtain ⟨hP9, hD9⟩ := zj2 (wX := [(h0, .inr (11, [.int th, .ref tB, .int tsz, .int u266_0, .int m49_F_h0_4, .int dp, .ref rC, .ref rV, .ref rD, .ref rK, .ref rT, .ref rS, .ref rU, .int lw, .int tx, .ref rL, .ref rX, .ref qR, .ref qB, .ref qP, .int m49_F_h0_20, .int m49_F_h0_21, .ref aR, .ref aB, .ref aP, .int nb, .int np, .ref aN, .ref rf, .int ho, .int br, .ref aK, .int ac, .long dw, .ref aE, .int sr, .int sf, .ref aA, .ref aH, .ref aI, .int hi])), (tB, .inl (cI, 240, .inl fB)), (qR, .inl (cI, 3, .inl m49_A_qR)), (qB, .inl (cI, 24, .inl m49_A_qB)), (qP, .inl (cI, 20, .inl m49_A_qP))]) hP hD hk1 hFc ht hB [0, 1] [(true, 0), (true, 1), (false, 2), (false, 3), (false, 4)] rfl (by decide +kernel) (by decide +kernel) rfl
                clear hP hD hS hPc hDc hFc hB hk1 hz1 hvm
                have hP := hP9
                have hD := hD9
                have hS := hS9
                clear hP9 hD9 hS9
                obtain ⟨f266_0, f266_1, f266_2, f266_3, f266_4⟩ : (0 ≤ u266_0.toInt) ∧ (u266_0.toInt ≤ 240) ∧ (¬ v266.toInt = -1 → u266_0.toInt < tsz.toInt) ∧ (m49_F_h0_3.toInt ≤ u266_0.toInt) ∧ (zLk fB tsz m49_F_h0_3 v266 u266_0) := hw
                have F266 := f266_4
                refine lv_iconst (v := (-1)) hx hb dX11_readCourt_269 (by decide) ?_
                refine lv_icmp_ne (tgt := 287) hx hb dX11_readCourt_270 (by decide) (fun c270 => ?_) (fun c270 => ?_)
                · have c270 : ¬ v266.toInt = (-1) := z6 rfl (by decide) c270
                  refine lv_aload_n hx hb dX11_readCourt_287 rfl (lv_at hl 2 rfl) ?_
                  have zx_m49_F_h0_4 : ((-1) : Int32).toInt = (-1) := by decide
                  have zy_m49_F_h0_4 : m49_F_h0_4 = (-1) := z7 (a := (-1)) (by decide) (by omega)
                  rw [zy_m49_F_h0_4] at hP hD
                  obtain ⟨hPc, hDc, hFc⟩ := zc3 (wc := [(h0, .inr (11, [.int th, .ref tB, .int tsz, .int u266_0, .int (-1), .int dp, .ref rC, .ref rV, .ref rD, .ref rK, .ref rT, .ref rS, .ref rU, .int lw, .int tx, .ref rL, .ref rX, .ref qR, .ref qB, .ref qP, .int m49_F_h0_20, .int m49_F_h0_21, .ref aR, .ref aB, .ref aP, .int nb, .int np, .ref aN, .ref rf, .int ho, .int br, .ref aK, .int ac, .long dw, .ref aE, .int sr, .int sf, .ref aA, .ref aH, .ref aI, .int hi]))]) hP hD hS hA [0] (by decide +kernel) rfl
                  refine va_callv (va_runV (As := []) (rest := []) ⟨hx, hb, hml, hown, hts⟩ (g_X11_bad_m l dC dI cI cJ h0 th tB tsz u266_0 dp rC rV rD rK rT rS rU lw tx rL rX qR qB qP m49_F_h0_20 m49_F_h0_21 aR aB aP nb np aN rf ho br aK ac dw aE sr sf aA aH aI hi H.size y_ac y_hi y_ho y_lw y_nb y_np jf49_0 jf49_1 (by omega) n_tsz) (cwV 0 hts (zgV qw1301 qw1303 qw36 qw108 qw1304) rfl rfl rfl hd_X11_bad ⟨by rw [hR]; exact Nat.le_of_ble_eq_true rfl, by rw [hR]; exact Nat.le_of_ble_eq_true rfl⟩) (zPV hPc hK hDc (va_recv (q := (RX11, TX11, 41)) hK hP (ci := 11) (q0 := 0) rfl rfl)) rfl rfl hl.1 rfl (lv_room (Nat.le_of_ble_eq_true rfl)) dX11_readCourt_288 ⟨Nat.zero_le _, Nat.zero_le _⟩) hS (fun q _ h => hFc q h) hFc (fun u288 t H locs ht hvm hw hB hz1 hk1 hS9 => ?_)
                  obtain ⟨hP9, hD9⟩ := zj2 (wX := [(h0, .inr (11, [.int th, .ref tB, .int tsz, .int u266_0, .int u266_0, .int dp, .ref rC, .ref rV, .ref rD, .ref rK, .ref rT, .ref rS, .ref rU, .int lw, .int tx, .ref rL, .ref rX, .ref qR, .ref qB, .ref qP, .int m49_F_h0_20, .int m49_F_h0_21, .ref aR, .ref aB, .ref aP, .int nb, .int np, .ref aN, .ref rf, .int ho, .int br, .ref aK, .int ac, .long dw, .ref aE, .int sr, .int sf, .ref aA, .ref aH, .ref aI, .int hi])), (tB, .inl (cI, 240, .inl fB)), (qR, .inl (cI, 3, .inl m49_A_qR)), (qB, .inl (cI, 24, .inl m49_A_qB)), (qP, .inl (cI, 20, .inl m49_A_qP))]) hP hD hk1 hFc ht hB [0] [(true, 0), (false, 1), (false, 2), (false, 3), (false, 4)] rfl (by decide +kernel) (by decide +kernel) rfl
                  clear hP hD hS hPc hDc hFc hB hk1 hz1 hvm
                  have hP := hP9
                  have hD := hD9
                  have hS := hS9
                  clear hP9 hD9 hS9
                  refine lv_aload_n hx hb dX11_readCourt_291 rfl (lv_at hl 2 rfl) ?_
                  refine va_get (D := (dC, dI)) (ci := 11) (v := .int u266_0) (C := RX11) (T := TX11) (N := 41) hx hb hts iX11 hown hK hP 0 rfl rfl 4 (by decide) (hts _ qw1131) (fun _ h9 => h9) rfl dX11_readCourt_292 ?_
                  rw [hQ]
                  exact W.iret (v := u266_0) hx hb hr (fun t ht hW => ⟨⟨u266_0, (u266_0, u266_0, m49_F_h0_20, m49_F_h0_21, m49_A_qR, m49_A_qB, m49_A_qP), rfl, ⟨by (try dsimp only); omega, by (try dsimp only); omega, by (try dsimp only); omega, by (try dsimp only); omega, by (try dsimp only); omega, by (try dsimp only); omega, by (try dsimp only); omega, by (try dsimp only); omega, by (try dsimp only); omega, by (try dsimp only); omega, rfl, by (try dsimp only); omega, zRc_m jv49_0 (by omega), by (try dsimp only); exact ⟨zrr_h jv49_1 (by omega) (by omega) F266 (by omega) (by omega), fun z => absurd z (by omega)⟩, by (try dsimp only); exact fun z => absurd z (by omega)⟩, ⟨by rw [ht]; exact hP, hD⟩⟩, hS.F ht⟩) hS.2.2 dX11_readCourt_295
                · have c270 : v266.toInt = (-1) := z5 rfl (by decide) c270
                  refine lv_aload_n hx hb dX11_readCourt_273 rfl (lv_at hl 2 rfl) ?_
                  refine va_get (D := (dC, dI)) (ci := 11) (v := .int m49_F_h0_20) (C := RX11) (T := TX11) (N := 41) hx hb hts iX11 hown hK hP 0 rfl rfl 20 (by decide) (hts _ qw1147) (fun _ h9 => h9) rfl dX11_readCourt_274 ?_
                  refine lv_if_eq (tgt := 287) hx hb dX11_readCourt_277 (by decide) (fun c277 => ?_) (fun c277 => ?_)
                  · have c277 : m49_F_h0_20.toInt = 0 := z5 rfl (by decide) c277
                    refine lv_aload_n hx hb dX11_readCourt_287 rfl (lv_at hl 2 rfl) ?_
                    have zx_m49_F_h0_4 : ((-1) : Int32).toInt = (-1) := by decide
                    have zy_m49_F_h0_4 : m49_F_h0_4 = (-1) := z7 (a := (-1)) (by decide) (by omega)
                    rw [zy_m49_F_h0_4] at hP hD
                    obtain ⟨hPc, hDc, hFc⟩ := zc3 (wc := [(h0, .inr (11, [.int th, .ref tB, .int tsz, .int u266_0, .int (-1), .int dp, .ref rC, .ref rV, .ref rD, .ref rK, .ref rT, .ref rS, .ref rU, .int lw, .int tx, .ref rL, .ref rX, .ref qR, .ref qB, .ref qP, .int m49_F_h0_20, .int m49_F_h0_21, .ref aR, .ref aB, .ref aP, .int nb, .int np, .ref aN, .ref rf, .int ho, .int br, .ref aK, .int ac, .long dw, .ref aE, .int sr, .int sf, .ref aA, .ref aH, .ref aI, .int hi]))]) hP hD hS hA [0] (by decide +kernel) rfl
                    refine va_callv (va_runV (As := []) (rest := []) ⟨hx, hb, hml, hown, hts⟩ (g_X11_bad_m l dC dI cI cJ h0 th tB tsz u266_0 dp rC rV rD rK rT rS rU lw tx rL rX qR qB qP m49_F_h0_20 m49_F_h0_21 aR aB aP nb np aN rf ho br aK ac dw aE sr sf aA aH aI hi H.size y_ac y_hi y_ho y_lw y_nb y_np jf49_0 jf49_1 (by omega) n_tsz) (cwV 0 hts (zgV qw1301 qw1303 qw36 qw108 qw1304) rfl rfl rfl hd_X11_bad ⟨by rw [hR]; exact Nat.le_of_ble_eq_true rfl, by rw [hR]; exact Nat.le_of_ble_eq_true rfl⟩) (zPV hPc hK hDc (va_recv (q := (RX11, TX11, 41)) hK hP (ci := 11) (q0 := 0) rfl rfl)) rfl rfl hl.1 rfl (lv_room (Nat.le_of_ble_eq_true rfl)) dX11_readCourt_288 ⟨Nat.zero_le _, Nat.zero_le _⟩) hS (fun q _ h => hFc q h) hFc (fun u288 t H locs ht hvm hw hB hz1 hk1 hS9 => ?_)
                    obtain ⟨hP9, hD9⟩ := zj2 (wX := [(h0, .inr (11, [.int th, .ref tB, .int tsz, .int u266_0, .int u266_0, .int dp, .ref rC, .ref rV, .ref rD, .ref rK, .ref rT, .ref rS, .ref rU, .int lw, .int tx, .ref rL, .ref rX, .ref qR, .ref qB, .ref qP, .int m49_F_h0_20, .int m49_F_h0_21, .ref aR, .ref aB, .ref aP, .int nb, .int np, .ref aN, .ref rf, .int ho, .int br, .ref aK, .int ac, .long dw, .ref aE, .int sr, .int sf, .ref aA, .ref aH, .ref aI, .int hi])), (tB, .inl (cI, 240, .inl fB)), (qR, .inl (cI, 3, .inl m49_A_qR)), (qB, .inl (cI, 24, .inl m49_A_qB)), (qP, .inl (cI, 20, .inl m49_A_qP))]) hP hD hk1 hFc ht hB [0] [(true, 0), (false, 1), (false, 2), (false, 3), (false, 4)] rfl (by decide +kernel) (by decide +kernel) rfl
                    clear hP hD hS hPc hDc hFc hB hk1 hz1 hvm
                    have hP := hP9
                    have hD := hD9
                    have hS := hS9
                    clear hP9 hD9 hS9
                    refine lv_aload_n hx hb dX11_readCourt_291 rfl (lv_at hl 2 rfl) ?_
                    refine va_get (D := (dC, dI)) (ci := 11) (v := .int u266_0) (C := RX11) (T := TX11) (N := 41) hx hb hts iX11 hown hK hP 0 rfl rfl 4 (by decide) (hts _ qw1131) (fun _ h9 => h9) rfl dX11_readCourt_292 ?_
                    rw [hQ]
                    exact W.iret (v := u266_0) hx hb hr (fun t ht hW => ⟨⟨u266_0, (u266_0, u266_0, m49_F_h0_20, m49_F_h0_21, m49_A_qR, m49_A_qB, m49_A_qP), rfl, ⟨by (try dsimp only); omega, by (try dsimp only); omega, by (try dsimp only); omega, by (try dsimp only); omega, by (try dsimp only); omega, by (try dsimp only); omega, by (try dsimp only); omega, by (try dsimp only); omega, by (try dsimp only); omega, by (try dsimp only); omega, rfl, by (try dsimp only); omega, zRc_m jv49_0 (by omega), by (try dsimp only); exact ⟨zrr_h jv49_1 (by omega) (by omega) F266 (by omega) (by omega), fun z => absurd z (by omega)⟩, by (try dsimp only); exact fun z => absurd z (by omega)⟩, ⟨by rw [ht]; exact hP, hD⟩⟩, hS.F ht⟩) hS.2.2 dX11_readCourt_295
                  · have c277 : ¬ m49_F_h0_20.toInt = 0 := z6 rfl (by decide) c277
                    refine lv_aload_n hx hb dX11_readCourt_280 rfl (lv_at hl 2 rfl) ?_
                    refine va_get (D := (dC, dI)) (ci := 11) (v := .int m49_F_h0_21) (C := RX11) (T := TX11) (N := 41) hx hb hts iX11 hown hK hP 0 rfl rfl 21 (by decide) (hts _ qw1148) (fun _ h9 => h9) rfl dX11_readCourt_281 ?_
                    refine lv_if_ne (tgt := 291) hx hb dX11_readCourt_284 (by decide) (fun c284 => ?_) (fun c284 => ?_)
                    · have c284 : ¬ m49_F_h0_21.toInt = 0 := z6 rfl (by decide) c284
                      refine lv_aload_n hx hb dX11_readCourt_291 rfl (lv_at hl 2 rfl) ?_
                      refine va_get (D := (dC, dI)) (ci := 11) (v := .int m49_F_h0_4) (C := RX11) (T := TX11) (N := 41) hx hb hts iX11 hown hK hP 0 rfl rfl 4 (by decide) (hts _ qw1131) (fun _ h9 => h9) rfl dX11_readCourt_292 ?_
                      rw [hQ]
                      exact W.iret (v := m49_F_h0_4) hx hb hr (fun t ht hW => ⟨⟨m49_F_h0_4, (u266_0, m49_F_h0_4, m49_F_h0_20, m49_F_h0_21, m49_A_qR, m49_A_qB, m49_A_qP), rfl, ⟨by (try dsimp only); omega, by (try dsimp only); omega, by (try dsimp only); omega, by (try dsimp only); omega, by (try dsimp only); omega, by (try dsimp only); omega, by (try dsimp only); omega, by (try dsimp only); omega, by (try dsimp only); omega, by (try dsimp only); omega, rfl, by (try dsimp only); omega, zRc_m jv49_0 (by omega), by (try dsimp only); exact ⟨by rw [zrr_g (r := m49_F_h0_4) jv49_1 (by omega) (by omega) F266 (by omega) hty (by omega) (by omega)], fun _ => by rw [zrr_g (r := m49_F_h0_4) jv49_1 (by omega) (by omega) F266 (by omega) hty (by omega) (by omega)]⟩, by (try dsimp only); exact fun _ => zrrV_g jv49_2 (by omega) (by omega)⟩, ⟨by rw [ht]; exact hP, hD⟩⟩, hS.F ht⟩) hS.2.2 dX11_readCourt_295
                    · have c284 : m49_F_h0_21.toInt = 0 := z5 rfl (by decide) c284
                      refine lv_aload_n hx hb dX11_readCourt_287 rfl (lv_at hl 2 rfl) ?_
                      have zx_m49_F_h0_4 : ((-1) : Int32).toInt = (-1) := by decide
                      have zy_m49_F_h0_4 : m49_F_h0_4 = (-1) := z7 (a := (-1)) (by decide) (by omega)
                      rw [zy_m49_F_h0_4] at hP hD
                      obtain ⟨hPc, hDc, hFc⟩ := zc3 (wc := [(h0, .inr (11, [.int th, .ref tB, .int tsz, .int u266_0, .int (-1), .int dp, .ref rC, .ref rV, .ref rD, .ref rK, .ref rT, .ref rS, .ref rU, .int lw, .int tx, .ref rL, .ref rX, .ref qR, .ref qB, .ref qP, .int m49_F_h0_20, .int m49_F_h0_21, .ref aR, .ref aB, .ref aP, .int nb, .int np, .ref aN, .ref rf, .int ho, .int br, .ref aK, .int ac, .long dw, .ref aE, .int sr, .int sf, .ref aA, .ref aH, .ref aI, .int hi]))]) hP hD hS hA [0] (by decide +kernel) rfl
                      refine va_callv (va_runV (As := []) (rest := []) ⟨hx, hb, hml, hown, hts⟩ (g_X11_bad_m l dC dI cI cJ h0 th tB tsz u266_0 dp rC rV rD rK rT rS rU lw tx rL rX qR qB qP m49_F_h0_20 m49_F_h0_21 aR aB aP nb np aN rf ho br aK ac dw aE sr sf aA aH aI hi H.size y_ac y_hi y_ho y_lw y_nb y_np jf49_0 jf49_1 (by omega) n_tsz) (cwV 0 hts (zgV qw1301 qw1303 qw36 qw108 qw1304) rfl rfl rfl hd_X11_bad ⟨by rw [hR]; exact Nat.le_of_ble_eq_true rfl, by rw [hR]; exact Nat.le_of_ble_eq_true rfl⟩) (zPV hPc hK hDc (va_recv (q := (RX11, TX11, 41)) hK hP (ci := 11) (q0 := 0) rfl rfl)) rfl rfl hl.1 rfl (lv_room (Nat.le_of_ble_eq_true rfl)) dX11_readCourt_288 ⟨Nat.zero_le _, Nat.zero_le _⟩) hS (fun q _ h => hFc q h) hFc (fun u288 t H locs ht hvm hw hB hz1 hk1 hS9 => ?_)
                      obtain ⟨hP9, hD9⟩ := zj2 (wX := [(h0, .inr (11, [.int th, .ref tB, .int tsz, .int u266_0, .int u266_0, .int dp, .ref rC, .ref rV, .ref rD, .ref rK, .ref rT, .ref rS, .ref rU, .int lw, .int tx, .ref rL, .ref rX, .ref qR, .ref qB, .ref qP, .int m49_F_h0_20, .int m49_F_h0_21, .ref aR, .ref aB, .ref aP, .int nb, .int np, .ref aN, .ref rf, .int ho, .int br, .ref aK, .int ac, .long dw, .ref aE, .int sr, .int sf, .ref aA, .ref aH, .ref aI, .int hi])), (tB, .inl (cI, 240, .inl fB)), (qR, .inl (cI, 3, .inl m49_A_qR)), (qB, .inl (cI, 24, .inl m49_A_qB)), (qP, .inl (cI, 20, .inl m49_A_qP))]) hP hD hk1 hFc ht hB [0] [(true, 0), (false, 1), (false, 2), (false, 3), (false, 4)] rfl (by decide +kernel) (by decide +kernel) rfl
                      clear hP hD hS hPc hDc hFc hB hk1 hz1 hvm
                      have hP := hP9
                      have hD := hD9
                      have hS := hS9
                      clear hP9 hD9 hS9
                      refine lv_aload_n hx hb dX11_readCourt_291 rfl (lv_at hl 2 rfl) ?_
                      refine va_get (D := (dC, dI)) (ci := 11) (v := .int u266_0) (C := RX11) (T := TX11) (N := 41) hx hb hts iX11 hown hK hP 0 rfl rfl 4 (by decide) (hts _ qw1131) (fun _ h9 => h9) rfl dX11_readCourt_292 ?_
                      rw [hQ]
                      exact W.iret (v := u266_0) hx hb hr (fun t ht hW => ⟨⟨u266_0, (u266_0, u266_0, m49_F_h0_20, m49_F_h0_21, m49_A_qR, m49_A_qB, m49_A_qP), rfl, ⟨by (try dsimp only); omega, by (try dsimp only); omega, by (try dsimp only); omega, by (try dsimp only); omega, by (try dsimp only); omega, by (try dsimp only); omega, by (try dsimp only); omega, by (try dsimp only); omega, by (try dsimp only); omega, by (try dsimp only); omega, rfl, by (try dsimp only); omega, zRc_m jv49_0 (by omega), by (try dsimp only); exact ⟨zrr_h jv49_1 (by omega) (by omega) F266 (by omega) (by omega), fun z => absurd z (by omega)⟩, by (try dsimp only); exact fun z => absurd z (by omega)⟩, ⟨by rw [ht]; exact hP, hD⟩⟩, hS.F ht⟩) hS.2.2 dX11_readCourt_295
            · have c50 : ¬ m49_L_2.toInt = 0 := z6 rfl (by decide) c50
              refine lv_aload_n hx hb dX11_readCourt_53 rfl (lv_at hl 2 rfl) ?_
              refine va_get (D := (dC, dI)) (ci := 11) (v := .int m49_F_h0_4) (C := RX11) (T := TX11) (N := 41) hx hb hts iX11 hown hK hP 0 rfl rfl 4 (by decide) (hts _ qw1131) (fun _ h9 => h9) rfl dX11_readCourt_54 ?_
              refine lv_iconst (v := (-1)) hx hb dX11_readCourt_57 (by decide) ?_
              refine lv_icmp_ne (tgt := 257) hx hb dX11_readCourt_58 (by decide) (fun c58 => ?_) (fun c58 => ?_)
              · have c58 : ¬ m49_F_h0_4.toInt = (-1) := z6 rfl (by decide) c58
                refine lv_aload_n hx hb dX11_readCourt_257 rfl (lv_at hl 2 rfl) ?_
                refine va_get (D := (dC, dI)) (ci := 11) (v := .int m49_F_h0_4) (C := RX11) (T := TX11) (N := 41) hx hb hts iX11 hown hK hP 0 rfl rfl 4 (by decide) (hts _ qw1131) (fun _ h9 => h9) rfl dX11_readCourt_258 ?_
                refine lv_iconst (v := (-1)) hx hb dX11_readCourt_261 (by decide) ?_
                refine lv_icmp_ne (tgt := 291) hx hb dX11_readCourt_262 (by decide) (fun c262 => ?_) (fun c262 => by exfalso; have c262 : m49_F_h0_4.toInt = (-1) := z5 rfl (by decide) c262; omega)
                have c262 : ¬ m49_F_h0_4.toInt = (-1) := z6 rfl (by decide) c262
                refine lv_aload_n hx hb dX11_readCourt_291 rfl (lv_at hl 2 rfl) ?_
                refine va_get (D := (dC, dI)) (ci := 11) (v := .int m49_F_h0_4) (C := RX11) (T := TX11) (N := 41) hx hb hts iX11 hown hK hP 0 rfl rfl 4 (by decide) (hts _ qw1131) (fun _ h9 => h9) rfl dX11_readCourt_292 ?_
                rw [hQ]
                exact W.iret (v := m49_F_h0_4) hx hb hr (fun t ht hW => ⟨⟨m49_F_h0_4, (m49_F_h0_3, m49_F_h0_4, m49_F_h0_20, m49_F_h0_21, m49_A_qR, m49_A_qB, m49_A_qP), rfl, ⟨by (try dsimp only); omega, by (try dsimp only); omega, by (try dsimp only); omega, by (try dsimp only); omega, by (try dsimp only); omega, by (try dsimp only); omega, by (try dsimp only); omega, by (try dsimp only); omega, by (try dsimp only); omega, by (try dsimp only); omega, rfl, by (try dsimp only); omega, zRc_m jv49_0 (by omega), by (try dsimp only); exact ⟨zrr_f jv49_1 (by omega) rfl, fun z => absurd z (by omega)⟩, by (try dsimp only); exact fun z => absurd z (by omega)⟩, ⟨by rw [ht]; exact hP, hD⟩⟩, hS.F ht⟩) hS.2.2 dX11_readCourt_295
              · have c58 : m49_F_h0_4.toInt = (-1) := z5 rfl (by decide) c58
                refine lv_aload_n hx hb dX11_readCourt_61 rfl (lv_at hl 2 rfl) ?_
                obtain ⟨hPc, hDc, hFc⟩ := zc3 (wc := [(h0, .inr (11, [.int th, .ref tB, .int tsz, .int m49_F_h0_3, .int m49_F_h0_4, .int dp, .ref rC, .ref rV, .ref rD, .ref rK, .ref rT, .ref rS, .ref rU, .int lw, .int tx, .ref rL, .ref rX, .ref qR, .ref qB, .ref qP, .int m49_F_h0_20, .int m49_F_h0_21, .ref aR, .ref aB, .ref aP, .int nb, .int np, .ref aN, .ref rf, .int ho, .int br, .ref aK, .int ac, .long dw, .ref aE, .int sr, .int sf, .ref aA, .ref aH, .ref aI, .int hi])), (tB, .inl (cI, 240, .inl fB))]) hP hD hS hA [0, 1] (by decide +kernel) rfl
                refine va_calli (va_runV (As := []) (rest := []) ⟨hx, hb, hml, hown, hts⟩ (g_X11_look_u l dC dI cI cJ h0 th tB tsz m49_F_h0_3 m49_F_h0_4 dp rC rV rD rK rT rS rU lw tx rL rX qR qB qP m49_F_h0_20 m49_F_h0_21 aR aB aP nb np aN rf ho br aK ac dw aE sr sf aA aH aI hi fB H.size y_ac y_hi y_ho y_lw y_nb y_np jf49_0 jf49_1 jf49_2 n_tsz (by omega)) (cwV 0 hts (zgV qw1273 qw1275 qw32 qw108 qw1276) rfl rfl rfl hd_X11_look ⟨by rw [hR]; exact Nat.le_of_ble_eq_true rfl, by rw [hR]; exact Nat.le_of_ble_eq_true rfl⟩) (zPV hPc hK hDc (va_recv (q := (RX11, TX11, 41)) hK hP (ci := 11) (q0 := 0) rfl rfl)) rfl rfl hl.1 rfl (lv_room (Nat.le_of_ble_eq_true rfl)) dX11_readCourt_62 ⟨Nat.zero_le _, Nat.zero_le _⟩) hS (fun q _ h => hFc q h) hFc (fun v62 u62 t H locs ht hvm hw hB hz1 hk1 hS9 => ?_)
                obtain ⟨u62_0, rfl⟩ : ∃ z, z = u62 := ⟨_, rfl⟩
                obtain ⟨hP9, hD9⟩ := zj2 (wX := [(h0, .inr (11, [.int th, .ref tB, .int tsz, .int u62_0, .int m49_F_h0_4, .int dp, .ref rC, .ref rV, .ref rD, .ref rK, .ref rT, .ref rS, .ref rU, .int lw, .int tx, .ref rL, .ref rX, .ref qR, .ref qB, .ref qP, .int m49_F_h0_20, .int m49_F_h0_21, .ref aR, .ref aB, .ref aP, .int nb, .int np, .ref aN, .ref rf, .int ho, .int br, .ref aK, .int ac, .long dw, .ref aE, .int sr, .int sf, .ref aA, .ref aH, .ref aI, .int hi])), (tB, .inl (cI, 240, .inl fB)), (qR, .inl (cI, 3, .inl m49_A_qR)), (qB, .inl (cI, 24, .inl m49_A_qB)), (qP, .inl (cI, 20, .inl m49_A_qP))]) hP hD hk1 hFc ht hB [0, 1] [(true, 0), (true, 1), (false, 2), (false, 3), (false, 4)] rfl (by decide +kernel) (by decide +kernel) rfl
                clear hP hD hS hPc hDc hFc hB hk1 hz1 hvm
                have hP := hP9
                have hD := hD9
                have hS := hS9
                clear hP9 hD9 hS9
                obtain ⟨f62_0, f62_1, f62_2, f62_3, f62_4⟩ : (0 ≤ u62_0.toInt) ∧ (u62_0.toInt ≤ 240) ∧ (¬ v62.toInt = -1 → u62_0.toInt < tsz.toInt) ∧ (m49_F_h0_3.toInt ≤ u62_0.toInt) ∧ (zLk fB tsz m49_F_h0_3 v62 u62_0) := hw
                have F62 := f62_4
                refine lv_istore_n (lv' := [(3, .int v62), (2, .int m49_L_2), (1, .int m49_L_1), (0, .ref h0)]) hx hb dX11_readCourt_65 rfl hl (by decide) rfl (fun ls hl => ?_)
                refine lv_iload_n hx hb dX11_readCourt_66 rfl (lv_at hl 0 rfl) ?_
                refine lv_bipush (v := 115) hx hb dX11_readCourt_67 (by decide) ?_
                refine lv_icmp_ne (tgt := 102) hx hb dX11_readCourt_69 (by decide) (fun c69 => ?_) (fun c69 => ?_)
                · have c69 : ¬ v62.toInt = 115 := z6 rfl (by decide) c69
                  refine lv_iload_n hx hb dX11_readCourt_102 rfl (lv_at hl 0 rfl) ?_
                  refine lv_bipush (v := 98) hx hb dX11_readCourt_103 (by decide) ?_
                  refine lv_icmp_ne (tgt := 156) hx hb dX11_readCourt_105 (by decide) (fun c105 => ?_) (fun c105 => ?_)
                  · have c105 : ¬ v62.toInt = 98 := z6 rfl (by decide) c105
                    refine lv_iload_n hx hb dX11_readCourt_156 rfl (lv_at hl 0 rfl) ?_
                    refine lv_bipush (v := 112) hx hb dX11_readCourt_157 (by decide) ?_
                    refine lv_icmp_ne (tgt := 209) hx hb dX11_readCourt_159 (by decide) (fun c159 => ?_) (fun c159 => ?_)
                    · have c159 : ¬ v62.toInt = 112 := z6 rfl (by decide) c159
                      refine lv_aload_n hx hb dX11_readCourt_209 rfl (lv_at hl 3 rfl) ?_
                      have zx_m49_F_h0_4 : ((-1) : Int32).toInt = (-1) := by decide
                      have zy_m49_F_h0_4 : m49_F_h0_4 = (-1) := z7 (a := (-1)) (by decide) (by omega)
                      rw [zy_m49_F_h0_4] at hP hD
                      obtain ⟨hPc, hDc, hFc⟩ := zc3 (wc := [(h0, .inr (11, [.int th, .ref tB, .int tsz, .int u62_0, .int (-1), .int dp, .ref rC, .ref rV, .ref rD, .ref rK, .ref rT, .ref rS, .ref rU, .int lw, .int tx, .ref rL, .ref rX, .ref qR, .ref qB, .ref qP, .int m49_F_h0_20, .int m49_F_h0_21, .ref aR, .ref aB, .ref aP, .int nb, .int np, .ref aN, .ref rf, .int ho, .int br, .ref aK, .int ac, .long dw, .ref aE, .int sr, .int sf, .ref aA, .ref aH, .ref aI, .int hi]))]) hP hD hS hA [0] (by decide +kernel) rfl
                      refine va_callv (va_runV (As := []) (rest := []) ⟨hx, hb, hml, hown, hts⟩ (g_X11_bad_m l dC dI cI cJ h0 th tB tsz u62_0 dp rC rV rD rK rT rS rU lw tx rL rX qR qB qP m49_F_h0_20 m49_F_h0_21 aR aB aP nb np aN rf ho br aK ac dw aE sr sf aA aH aI hi H.size y_ac y_hi y_ho y_lw y_nb y_np jf49_0 jf49_1 (by omega) n_tsz) (cwV 0 hts (zgV qw1301 qw1303 qw36 qw108 qw1304) rfl rfl rfl hd_X11_bad ⟨by rw [hR]; exact Nat.le_of_ble_eq_true rfl, by rw [hR]; exact Nat.le_of_ble_eq_true rfl⟩) (zPV hPc hK hDc (va_recv (q := (RX11, TX11, 41)) hK hP (ci := 11) (q0 := 0) rfl rfl)) rfl rfl hl.1 rfl (lv_room (Nat.le_of_ble_eq_true rfl)) dX11_readCourt_210 ⟨Nat.zero_le _, Nat.zero_le _⟩) hS (fun q _ h => hFc q h) hFc (fun u210 t H locs ht hvm hw hB hz1 hk1 hS9 => ?_)
                      obtain ⟨hP9, hD9⟩ := zj2 (wX := [(h0, .inr (11, [.int th, .ref tB, .int tsz, .int u62_0, .int u62_0, .int dp, .ref rC, .ref rV, .ref rD, .ref rK, .ref rT, .ref rS, .ref rU, .int lw, .int tx, .ref rL, .ref rX, .ref qR, .ref qB, .ref qP, .int m49_F_h0_20, .int m49_F_h0_21, .ref aR, .ref aB, .ref aP, .int nb, .int np, .ref aN, .ref rf, .int ho, .int br, .ref aK, .int ac, .long dw, .ref aE, .int sr, .int sf, .ref aA, .ref aH, .ref aI, .int hi])), (tB, .inl (cI, 240, .inl fB)), (qR, .inl (cI, 3, .inl m49_A_qR)), (qB, .inl (cI, 24, .inl m49_A_qB)), (qP, .inl (cI, 20, .inl m49_A_qP))]) hP hD hk1 hFc ht hB [0] [(true, 0), (false, 1), (false, 2), (false, 3), (false, 4)] rfl (by decide +kernel) (by decide +kernel) rfl
                      clear hP hD hS hPc hDc hFc hB hk1 hz1 hvm
                      have hP := hP9
                      have hD := hD9
                      have hS := hS9
                      clear hP9 hD9 hS9
                      refine lv_aload_n hx hb dX11_readCourt_213 rfl (lv_at hl 3 rfl) ?_
                      refine va_get (D := (dC, dI)) (ci := 11) (v := .int u62_0) (C := RX11) (T := TX11) (N := 41) hx hb hts iX11 hown hK hP 0 rfl rfl 4 (by decide) (hts _ qw1131) (fun _ h9 => h9) rfl dX11_readCourt_214 ?_
                      refine lv_iconst (v := (-1)) hx hb dX11_readCourt_217 (by decide) ?_
                      refine lv_icmp_ne (tgt := 234) hx hb dX11_readCourt_218 (by decide) (fun c218 => ?_) (fun c218 => by exfalso; have c218 : u62_0.toInt = (-1) := z5 rfl (by decide) c218; omega)
                      have c218 : ¬ u62_0.toInt = (-1) := z6 rfl (by decide) c218
                      refine lv_iconst (v := 0) hx hb dX11_readCourt_234 (by decide) ?_
                      refine lv_istore_n (lv' := [(2, .int 0), (3, .int v62), (1, .int m49_L_1), (0, .ref h0)]) hx hb dX11_readCourt_235 rfl hl (by decide) rfl (fun ls hl => ?_)
                      refine lv_aload_n hx hb dX11_readCourt_236 rfl (lv_at hl 3 rfl) ?_
                      refine lv_dup hx hb dX11_readCourt_237 rfl ?_
                      refine va_get (D := (dC, dI)) (ci := 11) (v := .int u62_0) (C := RX11) (T := TX11) (N := 41) hx hb hts iX11 hown hK hP 0 rfl rfl 3 (by decide) (hts _ qw1130) (fun _ h9 => h9) rfl dX11_readCourt_238 ?_
                      refine lv_iload_n hx hb dX11_readCourt_241 rfl (lv_at hl 0 rfl) ?_
                      refine lv_if_eq (tgt := 249) hx hb dX11_readCourt_242 (by decide) (fun _ => ?_) (fun c => absurd (by decide) c)
                      refine lv_iconst (v := 0) hx hb dX11_readCourt_249 (by decide) ?_
                      refine lv_iadd hx hb dX11_readCourt_250 ?_
                      refine lv_topi (fun v250 e250 => ?_)
                      have i250 : v250.toInt = u62_0.toInt + 0 := zadd e250 rfl (by decide) (by omega) (by omega)
                      refine va_put (D := (dC, dI)) (ci := 11) (v := .int v250) (ty := .int) (C := RX11) (T := TX11) (N := 41) hx hb hts iX11 tyX11 tyX11_ok nmX11 hown hK hP hD hS 0 rfl rfl 3 (by decide) (hts _ qw1130) (fun _ h9 => h9) rfl (by decide +kernel) rfl rfl (Nat.le_of_ble_eq_true rfl) dX11_readCourt_251 (fun H locs hP9 hD9 hS9 => ?_)
                      clear hP hD hS
                      obtain ⟨hP, hD⟩ := zst (wX := [(h0, .inr (11, [.int th, .ref tB, .int tsz, .int v250, .int u62_0, .int dp, .ref rC, .ref rV, .ref rD, .ref rK, .ref rT, .ref rS, .ref rU, .int lw, .int tx, .ref rL, .ref rX, .ref qR, .ref qB, .ref qP, .int m49_F_h0_20, .int m49_F_h0_21, .ref aR, .ref aB, .ref aP, .int nb, .int np, .ref aN, .ref rf, .int ho, .int br, .ref aK, .int ac, .long dw, .ref aE, .int sr, .int sf, .ref aA, .ref aH, .ref aI, .int hi])), (tB, .inl (cI, 240, .inl fB)), (qR, .inl (cI, 3, .inl m49_A_qR)), (qB, .inl (cI, 24, .inl m49_A_qB)), (qP, .inl (cI, 20, .inl m49_A_qP))]) hP9 hD9 rfl
                      have hS := hS9
                      clear hP9 hD9 hS9
                      refine lv_goto (tgt := 49) hx hb dX11_readCourt_254 (by decide) ?_
                      have zj49_m49_L_2 : (0 : Int32).toInt = 0 := by decide
                      exact ih49 _ (by omega) m49_A_qB m49_A_qP m49_A_qR m49_F_h0_20 m49_F_h0_21 v250 u62_0 m49_L_1 0 jf49_0 jf49_1 (by omega) (by omega) jf49_4 (by decide) (by first | exact zRc_b jv49_0 f140_5 (by omega) (by omega) (by omega) (by omega) (by omega) | exact zRc_p jv49_0 f193_5 (by omega) (by omega) (by omega) (by omega) (by omega) | exact zRc_m jv49_0 (by omega)) (by first | exact zrr_m jv49_1 (by omega) (zrc_s F62 (by omega) (by omega) i84 F96) (by omega) F222 (by omega) (by omega) (by decide) | exact zrr_e jv49_1 (by omega) (zrc_s F62 (by omega) (by omega) i84 F96) (by omega) F222 (by omega) (by omega) (by decide) | exact zrr_w jv49_1 (by omega) (zrc_s F62 (by omega) (by omega) i84 F96) (by omega) (by decide) | exact zrr_m jv49_1 (by omega) (zrc_b F62 (by omega) (by omega) i123 i149 F140) (by omega) F222 (by omega) (by omega) (by decide) | exact zrr_e jv49_1 (by omega) (zrc_b F62 (by omega) (by omega) i123 i149 F140) (by omega) F222 (by omega) (by omega) (by decide) | exact zrr_w jv49_1 (by omega) (zrc_b F62 (by omega) (by omega) i123 i149 F140) (by omega) (by decide) | exact zrr_m jv49_1 (by omega) (zrc_p F62 (by omega) (by omega) i176 i202 F193) (by omega) F222 (by omega) (by omega) (by decide) | exact zrr_e jv49_1 (by omega) (zrc_p F62 (by omega) (by omega) i176 i202 F193) (by omega) F222 (by omega) (by omega) (by decide) | exact zrr_w jv49_1 (by omega) (zrc_p F62 (by omega) (by omega) i176 i202 F193) (by omega) (by decide) | exact zrr_m jv49_1 (by omega) (zrc_n (w := u62_0) F62 (by omega) (by omega) (by omega) (by omega) (by omega)) (by omega) F222 (by omega) (by omega) (by decide) | exact zrr_e jv49_1 (by omega) (zrc_n (w := u62_0) F62 (by omega) (by omega) (by omega) (by omega) (by omega)) (by omega) F222 (by omega) (by omega) (by decide) | exact zrr_w jv49_1 (by omega) (zrc_n (w := u62_0) F62 (by omega) (by omega) (by omega) (by omega) (by omega)) (by omega) (by decide)) (by first | exact zrrV_w (by omega) | exact zrrV_m jv49_2 (by omega) (by omega) (zrc_s F62 (by omega) (by omega) i84 F96) (zrw_s F62 (by omega) (by omega) i84 rfl F96_1) (by omega) F222 (by omega) (by omega) (by decide) | exact zrrV_e jv49_2 (by omega) (by omega) (zrc_s F62 (by omega) (by omega) i84 F96) (zrw_s F62 (by omega) (by omega) i84 rfl F96_1) (by omega) F222 (by omega) (by decide) | exact zrrV_m jv49_2 (by omega) (by omega) (zrc_b F62 (by omega) (by omega) i123 i149 F140) (zrw_b F62 (by omega) (by omega) i123 i149 (by omega) F140_1) (by omega) F222 (by omega) (by omega) (by decide) | exact zrrV_e jv49_2 (by omega) (by omega) (zrc_b F62 (by omega) (by omega) i123 i149 F140) (zrw_b F62 (by omega) (by omega) i123 i149 (by omega) F140_1) (by omega) F222 (by omega) (by decide) | exact zrrV_m jv49_2 (by omega) (by omega) (zrc_p F62 (by omega) (by omega) i176 i202 F193) (zrw_p F62 (by omega) (by omega) i176 i202 (by omega) F193_1) (by omega) F222 (by omega) (by omega) (by decide) | exact zrrV_e jv49_2 (by omega) (by omega) (zrc_p F62 (by omega) (by omega) i176 i202 F193) (zrw_p F62 (by omega) (by omega) i176 i202 (by omega) F193_1) (by omega) F222 (by omega) (by decide)) rfl H locs ls hP hD hS (lv_sub hl [0, 2, 3] rfl)
                    · have c159 : v62.toInt = 112 := z5 rfl (by decide) c159
                      refine lv_aload_n hx hb dX11_readCourt_162 rfl (lv_at hl 3 rfl) ?_
                      refine va_get (D := (dC, dI)) (ci := 11) (v := .int m49_F_h0_21) (C := RX11) (T := TX11) (N := 41) hx hb hts iX11 hown hK hP 0 rfl rfl 21 (by decide) (hts _ qw1148) (fun _ h9 => h9) rfl dX11_readCourt_163 ?_
                      refine lv_iconst (v := 5) hx hb dX11_readCourt_166 (by decide) ?_
                      refine lv_icmp_ge (tgt := 209) hx hb dX11_readCourt_167 (by decide) (fun c167 => ?_) (fun c167 => ?_)
                      · have c167 : 5 ≤ m49_F_h0_21.toInt := z3 (by decide) rfl c167
                        refine lv_aload_n hx hb dX11_readCourt_209 rfl (lv_at hl 3 rfl) ?_
                        have zx_m49_F_h0_4 : ((-1) : Int32).toInt = (-1) := by decide
                        have zy_m49_F_h0_4 : m49_F_h0_4 = (-1) := z7 (a := (-1)) (by decide) (by omega)
                        rw [zy_m49_F_h0_4] at hP hD
                        obtain ⟨hPc, hDc, hFc⟩ := zc3 (wc := [(h0, .inr (11, [.int th, .ref tB, .int tsz, .int u62_0, .int (-1), .int dp, .ref rC, .ref rV, .ref rD, .ref rK, .ref rT, .ref rS, .ref rU, .int lw, .int tx, .ref rL, .ref rX, .ref qR, .ref qB, .ref qP, .int m49_F_h0_20, .int m49_F_h0_21, .ref aR, .ref aB, .ref aP, .int nb, .int np, .ref aN, .ref rf, .int ho, .int br, .ref aK, .int ac, .long dw, .ref aE, .int sr, .int sf, .ref aA, .ref aH, .ref aI, .int hi]))]) hP hD hS hA [0] (by decide +kernel) rfl
                        refine va_callv (va_runV (As := []) (rest := []) ⟨hx, hb, hml, hown, hts⟩ (g_X11_bad_m l dC dI cI cJ h0 th tB tsz u62_0 dp rC rV rD rK rT rS rU lw tx rL rX qR qB qP m49_F_h0_20 m49_F_h0_21 aR aB aP nb np aN rf ho br aK ac dw aE sr sf aA aH aI hi H.size y_ac y_hi y_ho y_lw y_nb y_np jf49_0 jf49_1 (by omega) n_tsz) (cwV 0 hts (zgV qw1301 qw1303 qw36 qw108 qw1304) rfl rfl rfl hd_X11_bad ⟨by rw [hR]; exact Nat.le_of_ble_eq_true rfl, by rw [hR]; exact Nat.le_of_ble_eq_true rfl⟩) (zPV hPc hK hDc (va_recv (q := (RX11, TX11, 41)) hK hP (ci := 11) (q0 := 0) rfl rfl)) rfl rfl hl.1 rfl (lv_room (Nat.le_of_ble_eq_true rfl)) dX11_readCourt_210 ⟨Nat.zero_le _, Nat.zero_le _⟩) hS (fun q _ h => hFc q h) hFc (fun u210 t H locs ht hvm hw hB hz1 hk1 hS9 => ?_)
                        obtain ⟨hP9, hD9⟩ := zj2 (wX := [(h0, .inr (11, [.int th, .ref tB, .int tsz, .int u62_0, .int u62_0, .int dp, .ref rC, .ref rV, .ref rD, .ref rK, .ref rT, .ref rS, .ref rU, .int lw, .int tx, .ref rL, .ref rX, .ref qR, .ref qB, .ref qP, .int m49_F_h0_20, .int m49_F_h0_21, .ref aR, .ref aB, .ref aP, .int nb, .int np, .ref aN, .ref rf, .int ho, .int br, .ref aK, .int ac, .long dw, .ref aE, .int sr, .int sf, .ref aA, .ref aH, .ref aI, .int hi])), (tB, .inl (cI, 240, .inl fB)), (qR, .inl (cI, 3, .inl m49_A_qR)), (qB, .inl (cI, 24, .inl m49_A_qB)), (qP, .inl (cI, 20, .inl m49_A_qP))]) hP hD hk1 hFc ht hB [0] [(true, 0), (false, 1), (false, 2), (false, 3), (false, 4)] rfl (by decide +kernel) (by decide +kernel) rfl
                        clear hP hD hS hPc hDc hFc hB hk1 hz1 hvm
                        have hP := hP9
                        have hD := hD9
                        have hS := hS9
                        clear hP9 hD9 hS9
                        refine lv_aload_n hx hb dX11_readCourt_213 rfl (lv_at hl 3 rfl) ?_
                        refine va_get (D := (dC, dI)) (ci := 11) (v := .int u62_0) (C := RX11) (T := TX11) (N := 41) hx hb hts iX11 hown hK hP 0 rfl rfl 4 (by decide) (hts _ qw1131) (fun _ h9 => h9) rfl dX11_readCourt_214 ?_
                        refine lv_iconst (v := (-1)) hx hb dX11_readCourt_217 (by decide) ?_
                        refine lv_icmp_ne (tgt := 234) hx hb dX11_readCourt_218 (by decide) (fun c218 => ?_) (fun c218 => by exfalso; have c218 : u62_0.toInt = (-1) := z5 rfl (by decide) c218; omega)
                        have c218 : ¬ u62_0.toInt = (-1) := z6 rfl (by decide) c218
                        refine lv_iconst (v := 0) hx hb dX11_readCourt_234 (by decide) ?_
                        refine lv_istore_n (lv' := [(2, .int 0), (3, .int v62), (1, .int m49_L_1), (0, .ref h0)]) hx hb dX11_readCourt_235 rfl hl (by decide) rfl (fun ls hl => ?_)
                        refine lv_aload_n hx hb dX11_readCourt_236 rfl (lv_at hl 3 rfl) ?_
                        refine lv_dup hx hb dX11_readCourt_237 rfl ?_
                        refine va_get (D := (dC, dI)) (ci := 11) (v := .int u62_0) (C := RX11) (T := TX11) (N := 41) hx hb hts iX11 hown hK hP 0 rfl rfl 3 (by decide) (hts _ qw1130) (fun _ h9 => h9) rfl dX11_readCourt_238 ?_
                        refine lv_iload_n hx hb dX11_readCourt_241 rfl (lv_at hl 0 rfl) ?_
                        refine lv_if_eq (tgt := 249) hx hb dX11_readCourt_242 (by decide) (fun _ => ?_) (fun c => absurd (by decide) c)
                        refine lv_iconst (v := 0) hx hb dX11_readCourt_249 (by decide) ?_
                        refine lv_iadd hx hb dX11_readCourt_250 ?_
                        refine lv_topi (fun v250 e250 => ?_)
                        have i250 : v250.toInt = u62_0.toInt + 0 := zadd e250 rfl (by decide) (by omega) (by omega)
                        refine va_put (D := (dC, dI)) (ci := 11) (v := .int v250) (ty := .int) (C := RX11) (T := TX11) (N := 41) hx hb hts iX11 tyX11 tyX11_ok nmX11 hown hK hP hD hS 0 rfl rfl 3 (by decide) (hts _ qw1130) (fun _ h9 => h9) rfl (by decide +kernel) rfl rfl (Nat.le_of_ble_eq_true rfl) dX11_readCourt_251 (fun H locs hP9 hD9 hS9 => ?_)
                        clear hP hD hS
                        obtain ⟨hP, hD⟩ := zst (wX := [(h0, .inr (11, [.int th, .ref tB, .int tsz, .int v250, .int u62_0, .int dp, .ref rC, .ref rV, .ref rD, .ref rK, .ref rT, .ref rS, .ref rU, .int lw, .int tx, .ref rL, .ref rX, .ref qR, .ref qB, .ref qP, .int m49_F_h0_20, .int m49_F_h0_21, .ref aR, .ref aB, .ref aP, .int nb, .int np, .ref aN, .ref rf, .int ho, .int br, .ref aK, .int ac, .long dw, .ref aE, .int sr, .int sf, .ref aA, .ref aH, .ref aI, .int hi])), (tB, .inl (cI, 240, .inl fB)), (qR, .inl (cI, 3, .inl m49_A_qR)), (qB, .inl (cI, 24, .inl m49_A_qB)), (qP, .inl (cI, 20, .inl m49_A_qP))]) hP9 hD9 rfl
                        have hS := hS9
                        clear hP9 hD9 hS9
                        refine lv_goto (tgt := 49) hx hb dX11_readCourt_254 (by decide) ?_
                        have zj49_m49_L_2 : (0 : Int32).toInt = 0 := by decide
                        exact ih49 _ (by omega) m49_A_qB m49_A_qP m49_A_qR m49_F_h0_20 m49_F_h0_21 v250 u62_0 m49_L_1 0 jf49_0 jf49_1 (by omega) (by omega) jf49_4 (by decide) (by first | exact zRc_b jv49_0 f140_5 (by omega) (by omega) (by omega) (by omega) (by omega) | exact zRc_p jv49_0 f193_5 (by omega) (by omega) (by omega) (by omega) (by omega) | exact zRc_m jv49_0 (by omega)) (by first | exact zrr_m jv49_1 (by omega) (zrc_s F62 (by omega) (by omega) i84 F96) (by omega) F222 (by omega) (by omega) (by decide) | exact zrr_e jv49_1 (by omega) (zrc_s F62 (by omega) (by omega) i84 F96) (by omega) F222 (by omega) (by omega) (by decide) | exact zrr_w jv49_1 (by omega) (zrc_s F62 (by omega) (by omega) i84 F96) (by omega) (by decide) | exact zrr_m jv49_1 (by omega) (zrc_b F62 (by omega) (by omega) i123 i149 F140) (by omega) F222 (by omega) (by omega) (by decide) | exact zrr_e jv49_1 (by omega) (zrc_b F62 (by omega) (by omega) i123 i149 F140) (by omega) F222 (by omega) (by omega) (by decide) | exact zrr_w jv49_1 (by omega) (zrc_b F62 (by omega) (by omega) i123 i149 F140) (by omega) (by decide) | exact zrr_m jv49_1 (by omega) (zrc_p F62 (by omega) (by omega) i176 i202 F193) (by omega) F222 (by omega) (by omega) (by decide) | exact zrr_e jv49_1 (by omega) (zrc_p F62 (by omega) (by omega) i176 i202 F193) (by omega) F222 (by omega) (by omega) (by decide) | exact zrr_w jv49_1 (by omega) (zrc_p F62 (by omega) (by omega) i176 i202 F193) (by omega) (by decide) | exact zrr_m jv49_1 (by omega) (zrc_n (w := u62_0) F62 (by omega) (by omega) (by omega) (by omega) (by omega)) (by omega) F222 (by omega) (by omega) (by decide) | exact zrr_e jv49_1 (by omega) (zrc_n (w := u62_0) F62 (by omega) (by omega) (by omega) (by omega) (by omega)) (by omega) F222 (by omega) (by omega) (by decide) | exact zrr_w jv49_1 (by omega) (zrc_n (w := u62_0) F62 (by omega) (by omega) (by omega) (by omega) (by omega)) (by omega) (by decide)) (by first | exact zrrV_w (by omega) | exact zrrV_m jv49_2 (by omega) (by omega) (zrc_s F62 (by omega) (by omega) i84 F96) (zrw_s F62 (by omega) (by omega) i84 rfl F96_1) (by omega) F222 (by omega) (by omega) (by decide) | exact zrrV_e jv49_2 (by omega) (by omega) (zrc_s F62 (by omega) (by omega) i84 F96) (zrw_s F62 (by omega) (by omega) i84 rfl F96_1) (by omega) F222 (by omega) (by decide) | exact zrrV_m jv49_2 (by omega) (by omega) (zrc_b F62 (by omega) (by omega) i123 i149 F140) (zrw_b F62 (by omega) (by omega) i123 i149 (by omega) F140_1) (by omega) F222 (by omega) (by omega) (by decide) | exact zrrV_e jv49_2 (by omega) (by omega) (zrc_b F62 (by omega) (by omega) i123 i149 F140) (zrw_b F62 (by omega) (by omega) i123 i149 (by omega) F140_1) (by omega) F222 (by omega) (by decide) | exact zrrV_m jv49_2 (by omega) (by omega) (zrc_p F62 (by omega) (by omega) i176 i202 F193) (zrw_p F62 (by omega) (by omega) i176 i202 (by omega) F193_1) (by omega) F222 (by omega) (by omega) (by decide) | exact zrrV_e jv49_2 (by omega) (by omega) (zrc_p F62 (by omega) (by omega) i176 i202 F193) (zrw_p F62 (by omega) (by omega) i176 i202 (by omega) F193_1) (by omega) F222 (by omega) (by decide)) rfl H locs ls hP hD hS (lv_sub hl [0, 2, 3] rfl)
                      · have c167 : m49_F_h0_21.toInt < 5 := z4 (by decide) rfl c167
                        refine lv_aload_n hx hb dX11_readCourt_170 rfl (lv_at hl 3 rfl) ?_
                        refine lv_dup hx hb dX11_readCourt_171 rfl ?_
                        refine va_get (D := (dC, dI)) (ci := 11) (v := .int u62_0) (C := RX11) (T := TX11) (N := 41) hx hb hts iX11 hown hK hP 0 rfl rfl 3 (by decide) (hts _ qw1130) (fun _ h9 => h9) rfl dX11_readCourt_172 ?_
                        refine lv_iconst (v := 1) hx hb dX11_readCourt_175 (by decide) ?_
                        refine lv_iadd hx hb dX11_readCourt_176 ?_
                        refine lv_topi (fun v176 e176 => ?_)
                        have i176 : v176.toInt = u62_0.toInt + 1 := zadd e176 rfl (by decide) (by omega) (by omega)
                        refine va_put (D := (dC, dI)) (ci := 11) (v := .int v176) (ty := .int) (C := RX11) (T := TX11) (N := 41) hx hb hts iX11 tyX11 tyX11_ok nmX11 hown hK hP hD hS 0 rfl rfl 3 (by decide) (hts _ qw1130) (fun _ h9 => h9) rfl (by decide +kernel) rfl rfl (Nat.le_of_ble_eq_true rfl) dX11_readCourt_177 (fun H locs hP9 hD9 hS9 => ?_)
                        clear hP hD hS
                        obtain ⟨hP, hD⟩ := zst (wX := [(h0, .inr (11, [.int th, .ref tB, .int tsz, .int v176, .int m49_F_h0_4, .int dp, .ref rC, .ref rV, .ref rD, .ref rK, .ref rT, .ref rS, .ref rU, .int lw, .int tx, .ref rL, .ref rX, .ref qR, .ref qB, .ref qP, .int m49_F_h0_20, .int m49_F_h0_21, .ref aR, .ref aB, .ref aP, .int nb, .int np, .ref aN, .ref rf, .int ho, .int br, .ref aK, .int ac, .long dw, .ref aE, .int sr, .int sf, .ref aA, .ref aH, .ref aI, .int hi])), (tB, .inl (cI, 240, .inl fB)), (qR, .inl (cI, 3, .inl m49_A_qR)), (qB, .inl (cI, 24, .inl m49_A_qB)), (qP, .inl (cI, 20, .inl m49_A_qP))]) hP9 hD9 rfl
                        have hS := hS9
                        clear hP9 hD9 hS9
                        refine lv_aload_n hx hb dX11_readCourt_180 rfl (lv_at hl 3 rfl) ?_
                        refine lv_iload_n hx hb dX11_readCourt_181 rfl (lv_at hl 0 rfl) ?_
                        refine lv_aload_n hx hb dX11_readCourt_182 rfl (lv_at hl 3 rfl) ?_
                        refine va_get (D := (dC, dI)) (ci := 11) (v := .ref qP) (C := RX11) (T := TX11) (N := 41) hx hb hts iX11 hown hK hP 0 rfl rfl 19 (by decide) (hts _ qw1146) (fun _ h9 => h9) rfl dX11_readCourt_183 ?_
                        refine lv_iconst (v := 4) hx hb dX11_readCourt_186 (by decide) ?_
                        refine lv_aload_n hx hb dX11_readCourt_187 rfl (lv_at hl 3 rfl) ?_
                        refine va_get (D := (dC, dI)) (ci := 11) (v := .int m49_F_h0_21) (C := RX11) (T := TX11) (N := 41) hx hb hts iX11 hown hK hP 0 rfl rfl 21 (by decide) (hts _ qw1148) (fun _ h9 => h9) rfl dX11_readCourt_188 ?_
                        refine lv_imul hx hb dX11_readCourt_191 ?_
                        refine lv_topi (fun v191 e191 => ?_)
                        have i191 : v191.toInt = 4 * m49_F_h0_21.toInt := zmul e191 (by decide) rfl (by omega) (by omega)
                        refine lv_iconst (v := 4) hx hb dX11_readCourt_192 (by decide) ?_
                        have zx_v62 : (112 : Int32).toInt = 112 := by decide
                        have zy_v62 : v62 = 112 := z7 (a := 112) (by decide) (by omega)
                        rw [zy_v62] at hl
                        rw [zy_v62]
                        have zx_m49_F_h0_4 : ((-1) : Int32).toInt = (-1) := by decide
                        have zy_m49_F_h0_4 : m49_F_h0_4 = (-1) := z7 (a := (-1)) (by decide) (by omega)
                        rw [zy_m49_F_h0_4] at hP hD
                        obtain ⟨hPc, hDc, hFc⟩ := zc3 (wc := [(h0, .inr (11, [.int th, .ref tB, .int tsz, .int v176, .int (-1), .int dp, .ref rC, .ref rV, .ref rD, .ref rK, .ref rT, .ref rS, .ref rU, .int lw, .int tx, .ref rL, .ref rX, .ref qR, .ref qB, .ref qP, .int m49_F_h0_20, .int m49_F_h0_21, .ref aR, .ref aB, .ref aP, .int nb, .int np, .ref aN, .ref rf, .int ho, .int br, .ref aK, .int ac, .long dw, .ref aE, .int sr, .int sf, .ref aA, .ref aH, .ref aI, .int hi])), (tB, .inl (cI, 240, .inl fB)), (qP, .inl (cI, 20, .inl m49_A_qP))]) hP hD hS hA [0, 1, 4] (by decide +kernel) rfl
                        refine va_callv (va_runV (As := [.int 112, .ref qP, .int v191, .int 4]) (rest := []) ⟨hx, hb, hml, hown, hts⟩ (g_X11_items_p l dC dI cI cJ h0 qP v191 th tB tsz v176 dp rC rV rD rK rT rS rU lw tx rL rX qR qB qP m49_F_h0_20 m49_F_h0_21 aR aB aP nb np aN rf ho br aK ac dw aE sr sf aA aH aI hi fB m49_A_qP H.size y_ac y_hi y_ho y_lw y_nb y_np (by omega) jf49_0 jf49_1 (by omega) n_tsz) (cwV 4 hts (zgV qw1281 qw1283 qw34 qw108 qw1284) rfl rfl rfl hd_X11_items ⟨by rw [hR]; exact Nat.le_of_ble_eq_true rfl, by rw [hR]; exact Nat.le_of_ble_eq_true rfl⟩) (zPV hPc hK hDc (va_recv (q := (RX11, TX11, 41)) hK hP (ci := 11) (q0 := 0) rfl rfl)) rfl rfl hl.1 rfl (lv_room (Nat.le_of_ble_eq_true rfl)) dX11_readCourt_193 ⟨Nat.zero_le _, Nat.zero_le _⟩) hS (fun q _ h => hFc q h) hFc (fun u193 t H locs ht hvm hw hB hz1 hk1 hS9 => ?_)
                        obtain ⟨u193_0, u193_1, u193_2⟩ := u193
                        obtain ⟨hP9, hD9⟩ := zj2 (wX := [(h0, .inr (11, [.int th, .ref tB, .int tsz, .int u193_0, .int u193_1, .int dp, .ref rC, .ref rV, .ref rD, .ref rK, .ref rT, .ref rS, .ref rU, .int lw, .int tx, .ref rL, .ref rX, .ref qR, .ref qB, .ref qP, .int m49_F_h0_20, .int m49_F_h0_21, .ref aR, .ref aB, .ref aP, .int nb, .int np, .ref aN, .ref rf, .int ho, .int br, .ref aK, .int ac, .long dw, .ref aE, .int sr, .int sf, .ref aA, .ref aH, .ref aI, .int hi])), (tB, .inl (cI, 240, .inl fB)), (qR, .inl (cI, 3, .inl m49_A_qR)), (qB, .inl (cI, 24, .inl m49_A_qB)), (qP, .inl (cI, 20, .inl u193_2))]) hP hD hk1 hFc ht hB [0, 1, 4] [(true, 0), (true, 1), (false, 2), (false, 3), (true, 2)] rfl (by decide +kernel) (by decide +kernel) rfl
                        clear hP hD hS hPc hDc hFc hB hk1 hz1 hvm
                        have hP := hP9
                        have hD := hD9
                        have hS := hS9
                        clear hP9 hD9 hS9
                        obtain ⟨f193_0, f193_1, f193_2, f193_3, f193_4, f193_5, f193_6, f193_7⟩ : (0 ≤ u193_0.toInt) ∧ (u193_0.toInt ≤ 240) ∧ ((-1) ≤ u193_1.toInt) ∧ (u193_1.toInt ≤ 240) ∧ (v176.toInt ≤ u193_0.toInt) ∧ (zIt m49_A_qP u193_2 v191.toInt (u193_1.toInt = -1)) ∧ (zW (sIts (sB fB tsz.toInt) tsz.toInt 2 0 v176.toInt) u193_1 u193_0) ∧ (u193_1.toInt = -1 → zIg fB tsz 2 4 (v191.toInt.toNat) v176.toInt m49_A_qP u193_2) := hw
                        have F193 := f193_6
                        have F193_1 : zHid (u193_1.toInt = -1 → zIg fB tsz 2 4 (v191.toInt.toNat) v176.toInt m49_A_qP u193_2) := f193_7
                        clear f193_7
                        refine lv_aload_n hx hb dX11_readCourt_196 rfl (lv_at hl 3 rfl) ?_
                        refine lv_dup hx hb dX11_readCourt_197 rfl ?_
                        refine va_get (D := (dC, dI)) (ci := 11) (v := .int m49_F_h0_21) (C := RX11) (T := TX11) (N := 41) hx hb hts iX11 hown hK hP 0 rfl rfl 21 (by decide) (hts _ qw1148) (fun _ h9 => h9) rfl dX11_readCourt_198 ?_
                        refine lv_iconst (v := 1) hx hb dX11_readCourt_201 (by decide) ?_
                        refine lv_iadd hx hb dX11_readCourt_202 ?_
                        refine lv_topi (fun v202 e202 => ?_)
                        have i202 : v202.toInt = m49_F_h0_21.toInt + 1 := zadd e202 rfl (by decide) (by omega) (by omega)
                        refine va_put (D := (dC, dI)) (ci := 11) (v := .int v202) (ty := .int) (C := RX11) (T := TX11) (N := 41) hx hb hts iX11 tyX11 tyX11_ok nmX11 hown hK hP hD hS 0 rfl rfl 21 (by decide) (hts _ qw1148) (fun _ h9 => h9) rfl (by decide +kernel) rfl rfl (Nat.le_of_ble_eq_true rfl) dX11_readCourt_203 (fun H locs hP9 hD9 hS9 => ?_)
                        clear hP hD hS
                        obtain ⟨hP, hD⟩ := zst (wX := [(h0, .inr (11, [.int th, .ref tB, .int tsz, .int u193_0, .int u193_1, .int dp, .ref rC, .ref rV, .ref rD, .ref rK, .ref rT, .ref rS, .ref rU, .int lw, .int tx, .ref rL, .ref rX, .ref qR, .ref qB, .ref qP, .int m49_F_h0_20, .int v202, .ref aR, .ref aB, .ref aP, .int nb, .int np, .ref aN, .ref rf, .int ho, .int br, .ref aK, .int ac, .long dw, .ref aE, .int sr, .int sf, .ref aA, .ref aH, .ref aI, .int hi])), (tB, .inl (cI, 240, .inl fB)), (qR, .inl (cI, 3, .inl m49_A_qR)), (qB, .inl (cI, 24, .inl m49_A_qB)), (qP, .inl (cI, 20, .inl u193_2))]) hP9 hD9 rfl
                        have hS := hS9
                        clear hP9 hD9 hS9
                        refine lv_goto (tgt := 213) hx hb dX11_readCourt_206 (by decide) ?_
                        refine lv_aload_n hx hb dX11_readCourt_213 rfl (lv_at hl 3 rfl) ?_
                        refine va_get (D := (dC, dI)) (ci := 11) (v := .int u193_1) (C := RX11) (T := TX11) (N := 41) hx hb hts iX11 hown hK hP 0 rfl rfl 4 (by decide) (hts _ qw1131) (fun _ h9 => h9) rfl dX11_readCourt_214 ?_
                        refine lv_iconst (v := (-1)) hx hb dX11_readCourt_217 (by decide) ?_
                        refine lv_icmp_ne (tgt := 234) hx hb dX11_readCourt_218 (by decide) (fun c218 => ?_) (fun c218 => ?_)
                        · have c218 : ¬ u193_1.toInt = (-1) := z6 rfl (by decide) c218
                          refine lv_iconst (v := 0) hx hb dX11_readCourt_234 (by decide) ?_
                          refine lv_istore_n (lv' := [(2, .int 0), (3, .int 112), (1, .int m49_L_1), (0, .ref h0)]) hx hb dX11_readCourt_235 rfl hl (by decide) rfl (fun ls hl => ?_)
                          refine lv_aload_n hx hb dX11_readCourt_236 rfl (lv_at hl 3 rfl) ?_
                          refine lv_dup hx hb dX11_readCourt_237 rfl ?_
                          refine va_get (D := (dC, dI)) (ci := 11) (v := .int u193_0) (C := RX11) (T := TX11) (N := 41) hx hb hts iX11 hown hK hP 0 rfl rfl 3 (by decide) (hts _ qw1130) (fun _ h9 => h9) rfl dX11_readCourt_238 ?_
                          refine lv_iload_n hx hb dX11_readCourt_241 rfl (lv_at hl 0 rfl) ?_
                          refine lv_if_eq (tgt := 249) hx hb dX11_readCourt_242 (by decide) (fun _ => ?_) (fun c => absurd (by decide) c)
                          refine lv_iconst (v := 0) hx hb dX11_readCourt_249 (by decide) ?_
                          refine lv_iadd hx hb dX11_readCourt_250 ?_
                          refine lv_topi (fun v250 e250 => ?_)
                          have i250 : v250.toInt = u193_0.toInt + 0 := zadd e250 rfl (by decide) (by omega) (by omega)
                          refine va_put (D := (dC, dI)) (ci := 11) (v := .int v250) (ty := .int) (C := RX11) (T := TX11) (N := 41) hx hb hts iX11 tyX11 tyX11_ok nmX11 hown hK hP hD hS 0 rfl rfl 3 (by decide) (hts _ qw1130) (fun _ h9 => h9) rfl (by decide +kernel) rfl rfl (Nat.le_of_ble_eq_true rfl) dX11_readCourt_251 (fun H locs hP9 hD9 hS9 => ?_)
                          clear hP hD hS
                          obtain ⟨hP, hD⟩ := zst (wX := [(h0, .inr (11, [.int th, .ref tB, .int tsz, .int v250, .int u193_1, .int dp, .ref rC, .ref rV, .ref rD, .ref rK, .ref rT, .ref rS, .ref rU, .int lw, .int tx, .ref rL, .ref rX, .ref qR, .ref qB, .ref qP, .int m49_F_h0_20, .int v202, .ref aR, .ref aB, .ref aP, .int nb, .int np, .ref aN, .ref rf, .int ho, .int br, .ref aK, .int ac, .long dw, .ref aE, .int sr, .int sf, .ref aA, .ref aH, .ref aI, .int hi])), (tB, .inl (cI, 240, .inl fB)), (qR, .inl (cI, 3, .inl m49_A_qR)), (qB, .inl (cI, 24, .inl m49_A_qB)), (qP, .inl (cI, 20, .inl u193_2))]) hP9 hD9 rfl
                          have hS := hS9
                          clear hP9 hD9 hS9
                          refine lv_goto (tgt := 49) hx hb dX11_readCourt_254 (by decide) ?_
                          have zj49_m49_L_2 : (0 : Int32).toInt = 0 := by decide
                          exact ih49 _ (by omega) m49_A_qB u193_2 m49_A_qR m49_F_h0_20 v202 v250 u193_1 m49_L_1 0 jf49_0 (by omega) (by omega) ⟨f193_2, f193_3⟩ jf49_4 (by decide) (by first | exact zRc_b jv49_0 f140_5 (by omega) (by omega) (by omega) (by omega) (by omega) | exact zRc_p jv49_0 f193_5 (by omega) (by omega) (by omega) (by omega) (by omega) | exact zRc_m jv49_0 (by omega)) (by first | exact zrr_m jv49_1 (by omega) (zrc_s F62 (by omega) (by omega) i84 F96) (by omega) F222 (by omega) (by omega) (by decide) | exact zrr_e jv49_1 (by omega) (zrc_s F62 (by omega) (by omega) i84 F96) (by omega) F222 (by omega) (by omega) (by decide) | exact zrr_w jv49_1 (by omega) (zrc_s F62 (by omega) (by omega) i84 F96) (by omega) (by decide) | exact zrr_m jv49_1 (by omega) (zrc_b F62 (by omega) (by omega) i123 i149 F140) (by omega) F222 (by omega) (by omega) (by decide) | exact zrr_e jv49_1 (by omega) (zrc_b F62 (by omega) (by omega) i123 i149 F140) (by omega) F222 (by omega) (by omega) (by decide) | exact zrr_w jv49_1 (by omega) (zrc_b F62 (by omega) (by omega) i123 i149 F140) (by omega) (by decide) | exact zrr_m jv49_1 (by omega) (zrc_p F62 (by omega) (by omega) i176 i202 F193) (by omega) F222 (by omega) (by omega) (by decide) | exact zrr_e jv49_1 (by omega) (zrc_p F62 (by omega) (by omega) i176 i202 F193) (by omega) F222 (by omega) (by omega) (by decide) | exact zrr_w jv49_1 (by omega) (zrc_p F62 (by omega) (by omega) i176 i202 F193) (by omega) (by decide) | exact zrr_m jv49_1 (by omega) (zrc_n (w := u62_0) F62 (by omega) (by omega) (by omega) (by omega) (by omega)) (by omega) F222 (by omega) (by omega) (by decide) | exact zrr_e jv49_1 (by omega) (zrc_n (w := u62_0) F62 (by omega) (by omega) (by omega) (by omega) (by omega)) (by omega) F222 (by omega) (by omega) (by decide) | exact zrr_w jv49_1 (by omega) (zrc_n (w := u62_0) F62 (by omega) (by omega) (by omega) (by omega) (by omega)) (by omega) (by decide)) (by first | exact zrrV_w (by omega) | exact zrrV_m jv49_2 (by omega) (by omega) (zrc_s F62 (by omega) (by omega) i84 F96) (zrw_s F62 (by omega) (by omega) i84 rfl F96_1) (by omega) F222 (by omega) (by omega) (by decide) | exact zrrV_e jv49_2 (by omega) (by omega) (zrc_s F62 (by omega) (by omega) i84 F96) (zrw_s F62 (by omega) (by omega) i84 rfl F96_1) (by omega) F222 (by omega) (by decide) | exact zrrV_m jv49_2 (by omega) (by omega) (zrc_b F62 (by omega) (by omega) i123 i149 F140) (zrw_b F62 (by omega) (by omega) i123 i149 (by omega) F140_1) (by omega) F222 (by omega) (by omega) (by decide) | exact zrrV_e jv49_2 (by omega) (by omega) (zrc_b F62 (by omega) (by omega) i123 i149 F140) (zrw_b F62 (by omega) (by omega) i123 i149 (by omega) F140_1) (by omega) F222 (by omega) (by decide) | exact zrrV_m jv49_2 (by omega) (by omega) (zrc_p F62 (by omega) (by omega) i176 i202 F193) (zrw_p F62 (by omega) (by omega) i176 i202 (by omega) F193_1) (by omega) F222 (by omega) (by omega) (by decide) | exact zrrV_e jv49_2 (by omega) (by omega) (zrc_p F62 (by omega) (by omega) i176 i202 F193) (zrw_p F62 (by omega) (by omega) i176 i202 (by omega) F193_1) (by omega) F222 (by omega) (by decide)) rfl H locs ls hP hD hS (lv_sub hl [0, 2, 3] rfl)
                        · have c218 : u193_1.toInt = (-1) := z5 rfl (by decide) c218
                          refine lv_aload_n hx hb dX11_readCourt_221 rfl (lv_at hl 3 rfl) ?_
                          obtain ⟨hPc, hDc, hFc⟩ := zc3 (wc := [(h0, .inr (11, [.int th, .ref tB, .int tsz, .int u193_0, .int u193_1, .int dp, .ref rC, .ref rV, .ref rD, .ref rK, .ref rT, .ref rS, .ref rU, .int lw, .int tx, .ref rL, .ref rX, .ref qR, .ref qB, .ref qP, .int m49_F_h0_20, .int v202, .ref aR, .ref aB, .ref aP, .int nb, .int np, .ref aN, .ref rf, .int ho, .int br, .ref aK, .int ac, .long dw, .ref aE, .int sr, .int sf, .ref aA, .ref aH, .ref aI, .int hi])), (tB, .inl (cI, 240, .inl fB))]) hP hD hS hA [0, 1] (by decide +kernel) rfl
                          refine va_calli (va_runV (As := []) (rest := []) ⟨hx, hb, hml, hown, hts⟩ (g_X11_look_u l dC dI cI cJ h0 th tB tsz u193_0 u193_1 dp rC rV rD rK rT rS rU lw tx rL rX qR qB qP m49_F_h0_20 v202 aR aB aP nb np aN rf ho br aK ac dw aE sr sf aA aH aI hi fB H.size y_ac y_hi y_ho y_lw y_nb y_np jf49_0 (by omega) ⟨f193_0, f193_1⟩ n_tsz (by omega)) (cwV 0 hts (zgV qw1273 qw1275 qw32 qw108 qw1276) rfl rfl rfl hd_X11_look ⟨by rw [hR]; exact Nat.le_of_ble_eq_true rfl, by rw [hR]; exact Nat.le_of_ble_eq_true rfl⟩) (zPV hPc hK hDc (va_recv (q := (RX11, TX11, 41)) hK hP (ci := 11) (q0 := 0) rfl rfl)) rfl rfl hl.1 rfl (lv_room (Nat.le_of_ble_eq_true rfl)) dX11_readCourt_222 ⟨Nat.zero_le _, Nat.zero_le _⟩) hS (fun q _ h => hFc q h) hFc (fun v222 u222 t H locs ht hvm hw hB hz1 hk1 hS9 => ?_)
                          obtain ⟨u222_0, rfl⟩ : ∃ z, z = u222 := ⟨_, rfl⟩
                          obtain ⟨hP9, hD9⟩ := zj2 (wX := [(h0, .inr (11, [.int th, .ref tB, .int tsz, .int u222_0, .int u193_1, .int dp, .ref rC, .ref rV, .ref rD, .ref rK, .ref rT, .ref rS, .ref rU, .int lw, .int tx, .ref rL, .ref rX, .ref qR, .ref qB, .ref qP, .int m49_F_h0_20, .int v202, .ref aR, .ref aB, .ref aP, .int nb, .int np, .ref aN, .ref rf, .int ho, .int br, .ref aK, .int ac, .long dw, .ref aE, .int sr, .int sf, .ref aA, .ref aH, .ref aI, .int hi])), (tB, .inl (cI, 240, .inl fB)), (qR, .inl (cI, 3, .inl m49_A_qR)), (qB, .inl (cI, 24, .inl m49_A_qB)), (qP, .inl (cI, 20, .inl u193_2))]) hP hD hk1 hFc ht hB [0, 1] [(true, 0), (true, 1), (false, 2), (false, 3), (false, 4)] rfl (by decide +kernel) (by decide +kernel) rfl
                          clear hP hD hS hPc hDc hFc hB hk1 hz1 hvm
                          have hP := hP9
                          have hD := hD9
                          have hS := hS9
                          clear hP9 hD9 hS9
                          obtain ⟨f222_0, f222_1, f222_2, f222_3, f222_4⟩ : (0 ≤ u222_0.toInt) ∧ (u222_0.toInt ≤ 240) ∧ (¬ v222.toInt = -1 → u222_0.toInt < tsz.toInt) ∧ (u193_0.toInt ≤ u222_0.toInt) ∧ (zLk fB tsz u193_0 v222 u222_0) := hw
                          have F222 := f222_4
                          refine lv_bipush (v := 59) hx hb dX11_readCourt_225 (by decide) ?_
                          refine lv_icmp_ne (tgt := 234) hx hb dX11_readCourt_227 (by decide) (fun c227 => ?_) (fun c227 => ?_)
                          · have c227 : ¬ v222.toInt = 59 := z6 rfl (by decide) c227
                            refine lv_iconst (v := 0) hx hb dX11_readCourt_234 (by decide) ?_
                            refine lv_istore_n (lv' := [(2, .int 0), (3, .int 112), (1, .int m49_L_1), (0, .ref h0)]) hx hb dX11_readCourt_235 rfl hl (by decide) rfl (fun ls hl => ?_)
                            refine lv_aload_n hx hb dX11_readCourt_236 rfl (lv_at hl 3 rfl) ?_
                            refine lv_dup hx hb dX11_readCourt_237 rfl ?_
                            refine va_get (D := (dC, dI)) (ci := 11) (v := .int u222_0) (C := RX11) (T := TX11) (N := 41) hx hb hts iX11 hown hK hP 0 rfl rfl 3 (by decide) (hts _ qw1130) (fun _ h9 => h9) rfl dX11_readCourt_238 ?_
                            refine lv_iload_n hx hb dX11_readCourt_241 rfl (lv_at hl 0 rfl) ?_
                            refine lv_if_eq (tgt := 249) hx hb dX11_readCourt_242 (by decide) (fun _ => ?_) (fun c => absurd (by decide) c)
                            refine lv_iconst (v := 0) hx hb dX11_readCourt_249 (by decide) ?_
                            refine lv_iadd hx hb dX11_readCourt_250 ?_
                            refine lv_topi (fun v250 e250 => ?_)
                            have i250 : v250.toInt = u222_0.toInt + 0 := zadd e250 rfl (by decide) (by omega) (by omega)
                            refine va_put (D := (dC, dI)) (ci := 11) (v := .int v250) (ty := .int) (C := RX11) (T := TX11) (N := 41) hx hb hts iX11 tyX11 tyX11_ok nmX11 hown hK hP hD hS 0 rfl rfl 3 (by decide) (hts _ qw1130) (fun _ h9 => h9) rfl (by decide +kernel) rfl rfl (Nat.le_of_ble_eq_true rfl) dX11_readCourt_251 (fun H locs hP9 hD9 hS9 => ?_)
                            clear hP hD hS
                            obtain ⟨hP, hD⟩ := zst (wX := [(h0, .inr (11, [.int th, .ref tB, .int tsz, .int v250, .int u193_1, .int dp, .ref rC, .ref rV, .ref rD, .ref rK, .ref rT, .ref rS, .ref rU, .int lw, .int tx, .ref rL, .ref rX, .ref qR, .ref qB, .ref qP, .int m49_F_h0_20, .int v202, .ref aR, .ref aB, .ref aP, .int nb, .int np, .ref aN, .ref rf, .int ho, .int br, .ref aK, .int ac, .long dw, .ref aE, .int sr, .int sf, .ref aA, .ref aH, .ref aI, .int hi])), (tB, .inl (cI, 240, .inl fB)), (qR, .inl (cI, 3, .inl m49_A_qR)), (qB, .inl (cI, 24, .inl m49_A_qB)), (qP, .inl (cI, 20, .inl u193_2))]) hP9 hD9 rfl
                            have hS := hS9
                            clear hP9 hD9 hS9
                            refine lv_goto (tgt := 49) hx hb dX11_readCourt_254 (by decide) ?_
                            have zj49_m49_L_2 : (0 : Int32).toInt = 0 := by decide
                            exact ih49 _ (by omega) m49_A_qB u193_2 m49_A_qR m49_F_h0_20 v202 v250 u193_1 m49_L_1 0 jf49_0 (by omega) (by omega) ⟨f193_2, f193_3⟩ jf49_4 (by decide) (by first | exact zRc_b jv49_0 f140_5 (by omega) (by omega) (by omega) (by omega) (by omega) | exact zRc_p jv49_0 f193_5 (by omega) (by omega) (by omega) (by omega) (by omega) | exact zRc_m jv49_0 (by omega)) (by first | exact zrr_m jv49_1 (by omega) (zrc_s F62 (by omega) (by omega) i84 F96) (by omega) F222 (by omega) (by omega) (by decide) | exact zrr_e jv49_1 (by omega) (zrc_s F62 (by omega) (by omega) i84 F96) (by omega) F222 (by omega) (by omega) (by decide) | exact zrr_w jv49_1 (by omega) (zrc_s F62 (by omega) (by omega) i84 F96) (by omega) (by decide) | exact zrr_m jv49_1 (by omega) (zrc_b F62 (by omega) (by omega) i123 i149 F140) (by omega) F222 (by omega) (by omega) (by decide) | exact zrr_e jv49_1 (by omega) (zrc_b F62 (by omega) (by omega) i123 i149 F140) (by omega) F222 (by omega) (by omega) (by decide) | exact zrr_w jv49_1 (by omega) (zrc_b F62 (by omega) (by omega) i123 i149 F140) (by omega) (by decide) | exact zrr_m jv49_1 (by omega) (zrc_p F62 (by omega) (by omega) i176 i202 F193) (by omega) F222 (by omega) (by omega) (by decide) | exact zrr_e jv49_1 (by omega) (zrc_p F62 (by omega) (by omega) i176 i202 F193) (by omega) F222 (by omega) (by omega) (by decide) | exact zrr_w jv49_1 (by omega) (zrc_p F62 (by omega) (by omega) i176 i202 F193) (by omega) (by decide) | exact zrr_m jv49_1 (by omega) (zrc_n (w := u62_0) F62 (by omega) (by omega) (by omega) (by omega) (by omega)) (by omega) F222 (by omega) (by omega) (by decide) | exact zrr_e jv49_1 (by omega) (zrc_n (w := u62_0) F62 (by omega) (by omega) (by omega) (by omega) (by omega)) (by omega) F222 (by omega) (by omega) (by decide) | exact zrr_w jv49_1 (by omega) (zrc_n (w := u62_0) F62 (by omega) (by omega) (by omega) (by omega) (by omega)) (by omega) (by decide)) (by first | exact zrrV_w (by omega) | exact zrrV_m jv49_2 (by omega) (by omega) (zrc_s F62 (by omega) (by omega) i84 F96) (zrw_s F62 (by omega) (by omega) i84 rfl F96_1) (by omega) F222 (by omega) (by omega) (by decide) | exact zrrV_e jv49_2 (by omega) (by omega) (zrc_s F62 (by omega) (by omega) i84 F96) (zrw_s F62 (by omega) (by omega) i84 rfl F96_1) (by omega) F222 (by omega) (by decide) | exact zrrV_m jv49_2 (by omega) (by omega) (zrc_b F62 (by omega) (by omega) i123 i149 F140) (zrw_b F62 (by omega) (by omega) i123 i149 (by omega) F140_1) (by omega) F222 (by omega) (by omega) (by decide) | exact zrrV_e jv49_2 (by omega) (by omega) (zrc_b F62 (by omega) (by omega) i123 i149 F140) (zrw_b F62 (by omega) (by omega) i123 i149 (by omega) F140_1) (by omega) F222 (by omega) (by decide) | exact zrrV_m jv49_2 (by omega) (by omega) (zrc_p F62 (by omega) (by omega) i176 i202 F193) (zrw_p F62 (by omega) (by omega) i176 i202 (by omega) F193_1) (by omega) F222 (by omega) (by omega) (by decide) | exact zrrV_e jv49_2 (by omega) (by omega) (zrc_p F62 (by omega) (by omega) i176 i202 F193) (zrw_p F62 (by omega) (by omega) i176 i202 (by omega) F193_1) (by omega) F222 (by omega) (by decide)) rfl H locs ls hP hD hS (lv_sub hl [0, 2, 3] rfl)
                          · have c227 : v222.toInt = 59 := z5 rfl (by decide) c227
                            refine lv_iconst (v := 1) hx hb dX11_readCourt_230 (by decide) ?_
                            refine lv_goto (tgt := 235) hx hb dX11_readCourt_231 (by decide) ?_
                            refine lv_istore_n (lv' := [(2, .int 1), (3, .int 112), (1, .int m49_L_1), (0, .ref h0)]) hx hb dX11_readCourt_235 rfl hl (by decide) rfl (fun ls hl => ?_)
                            refine lv_aload_n hx hb dX11_readCourt_236 rfl (lv_at hl 3 rfl) ?_
                            refine lv_dup hx hb dX11_readCourt_237 rfl ?_
                            refine va_get (D := (dC, dI)) (ci := 11) (v := .int u222_0) (C := RX11) (T := TX11) (N := 41) hx hb hts iX11 hown hK hP 0 rfl rfl 3 (by decide) (hts _ qw1130) (fun _ h9 => h9) rfl dX11_readCourt_238 ?_
                            refine lv_iload_n hx hb dX11_readCourt_241 rfl (lv_at hl 0 rfl) ?_
                            refine lv_if_eq (tgt := 249) hx hb dX11_readCourt_242 (by decide) (fun c => absurd c (by decide)) (fun _ => ?_)
                            refine lv_iconst (v := 1) hx hb dX11_readCourt_245 (by decide) ?_
                            refine lv_goto (tgt := 250) hx hb dX11_readCourt_246 (by decide) ?_
                            refine lv_iadd hx hb dX11_readCourt_250 ?_
                            refine lv_topi (fun v250 e250 => ?_)
                            have i250 : v250.toInt = u222_0.toInt + 1 := zadd e250 rfl (by decide) (by omega) (by omega)
                            refine va_put (D := (dC, dI)) (ci := 11) (v := .int v250) (ty := .int) (C := RX11) (T := TX11) (N := 41) hx hb hts iX11 tyX11 tyX11_ok nmX11 hown hK hP hD hS 0 rfl rfl 3 (by decide) (hts _ qw1130) (fun _ h9 => h9) rfl (by decide +kernel) rfl rfl (Nat.le_of_ble_eq_true rfl) dX11_readCourt_251 (fun H locs hP9 hD9 hS9 => ?_)
                            clear hP hD hS
                            obtain ⟨hP, hD⟩ := zst (wX := [(h0, .inr (11, [.int th, .ref tB, .int tsz, .int v250, .int u193_1, .int dp, .ref rC, .ref rV, .ref rD, .ref rK, .ref rT, .ref rS, .ref rU, .int lw, .int tx, .ref rL, .ref rX, .ref qR, .ref qB, .ref qP, .int m49_F_h0_20, .int v202, .ref aR, .ref aB, .ref aP, .int nb, .int np, .ref aN, .ref rf, .int ho, .int br, .ref aK, .int ac, .long dw, .ref aE, .int sr, .int sf, .ref aA, .ref aH, .ref aI, .int hi])), (tB, .inl (cI, 240, .inl fB)), (qR, .inl (cI, 3, .inl m49_A_qR)), (qB, .inl (cI, 24, .inl m49_A_qB)), (qP, .inl (cI, 20, .inl u193_2))]) hP9 hD9 rfl
                            have hS := hS9
                            clear hP9 hD9 hS9
                            refine lv_goto (tgt := 49) hx hb dX11_readCourt_254 (by decide) ?_
                            have zj49_m49_L_2 : (1 : Int32).toInt = 1 := by decide
                            exact ih49 _ (by omega) m49_A_qB u193_2 m49_A_qR m49_F_h0_20 v202 v250 u193_1 m49_L_1 1 jf49_0 (by omega) (by omega) ⟨f193_2, f193_3⟩ jf49_4 (by decide) (by first | exact zRc_b jv49_0 f140_5 (by omega) (by omega) (by omega) (by omega) (by omega) | exact zRc_p jv49_0 f193_5 (by omega) (by omega) (by omega) (by omega) (by omega) | exact zRc_m jv49_0 (by omega)) (by first | exact zrr_m jv49_1 (by omega) (zrc_s F62 (by omega) (by omega) i84 F96) (by omega) F222 (by omega) (by omega) (by decide) | exact zrr_e jv49_1 (by omega) (zrc_s F62 (by omega) (by omega) i84 F96) (by omega) F222 (by omega) (by omega) (by decide) | exact zrr_w jv49_1 (by omega) (zrc_s F62 (by omega) (by omega) i84 F96) (by omega) (by decide) | exact zrr_m jv49_1 (by omega) (zrc_b F62 (by omega) (by omega) i123 i149 F140) (by omega) F222 (by omega) (by omega) (by decide) | exact zrr_e jv49_1 (by omega) (zrc_b F62 (by omega) (by omega) i123 i149 F140) (by omega) F222 (by omega) (by omega) (by decide) | exact zrr_w jv49_1 (by omega) (zrc_b F62 (by omega) (by omega) i123 i149 F140) (by omega) (by decide) | exact zrr_m jv49_1 (by omega) (zrc_p F62 (by omega) (by omega) i176 i202 F193) (by omega) F222 (by omega) (by omega) (by decide) | exact zrr_e jv49_1 (by omega) (zrc_p F62 (by omega) (by omega) i176 i202 F193) (by omega) F222 (by omega) (by omega) (by decide) | exact zrr_w jv49_1 (by omega) (zrc_p F62 (by omega) (by omega) i176 i202 F193) (by omega) (by decide) | exact zrr_m jv49_1 (by omega) (zrc_n (w := u62_0) F62 (by omega) (by omega) (by omega) (by omega) (by omega)) (by omega) F222 (by omega) (by omega) (by decide) | exact zrr_e jv49_1 (by omega) (zrc_n (w := u62_0) F62 (by omega) (by omega) (by omega) (by omega) (by omega)) (by omega) F222 (by omega) (by omega) (by decide) | exact zrr_w jv49_1 (by omega) (zrc_n (w := u62_0) F62 (by omega) (by omega) (by omega) (by omega) (by omega)) (by omega) (by decide)) (by first | exact zrrV_w (by omega) | exact zrrV_m jv49_2 (by omega) (by omega) (zrc_s F62 (by omega) (by omega) i84 F96) (zrw_s F62 (by omega) (by omega) i84 rfl F96_1) (by omega) F222 (by omega) (by omega) (by decide) | exact zrrV_e jv49_2 (by omega) (by omega) (zrc_s F62 (by omega) (by omega) i84 F96) (zrw_s F62 (by omega) (by omega) i84 rfl F96_1) (by omega) F222 (by omega) (by decide) | exact zrrV_m jv49_2 (by omega) (by omega) (zrc_b F62 (by omega) (by omega) i123 i149 F140) (zrw_b F62 (by omega) (by omega) i123 i149 (by omega) F140_1) (by omega) F222 (by omega) (by omega) (by decide) | exact zrrV_e jv49_2 (by omega) (by omega) (zrc_b F62 (by omega) (by omega) i123 i149 F140) (zrw_b F62 (by omega) (by omega) i123 i149 (by omega) F140_1) (by omega) F222 (by omega) (by decide) | exact zrrV_m jv49_2 (by omega) (by omega) (zrc_p F62 (by omega) (by omega) i176 i202 F193) (zrw_p F62 (by omega) (by omega) i176 i202 (by omega) F193_1) (by omega) F222 (by omega) (by omega) (by decide) | exact zrrV_e jv49_2 (by omega) (by omega) (zrc_p F62 (by omega) (by omega) i176 i202 F193) (zrw_p F62 (by omega) (by omega) i176 i202 (by omega) F193_1) (by omega) F222 (by omega) (by decide)) rfl H locs ls hP hD hS (lv_sub hl [0, 2, 3] rfl)
                  · have c105 : v62.toInt = 98 := z5 rfl (by decide) c105
                    refine lv_aload_n hx hb dX11_readCourt_108 rfl (lv_at hl 3 rfl) ?_
                    refine va_get (D := (dC, dI)) (ci := 11) (v := .int m49_F_h0_20) (C := RX11) (T := TX11) (N := 41) hx hb hts iX11 hown hK hP 0 rfl rfl 20 (by decide) (hts _ qw1147) (fun _ h9 => h9) rfl dX11_readCourt_109 ?_
                    refine lv_bipush (v := 6) hx hb dX11_readCourt_112 (by decide) ?_
                    refine lv_icmp_ge (tgt := 156) hx hb dX11_readCourt_114 (by decide) (fun c114 => ?_) (fun c114 => ?_)
                    · have c114 : 6 ≤ m49_F_h0_20.toInt := z3 (by decide) rfl c114
                      refine lv_iload_n hx hb dX11_readCourt_156 rfl (lv_at hl 0 rfl) ?_
                      refine lv_bipush (v := 112) hx hb dX11_readCourt_157 (by decide) ?_
                      refine lv_icmp_ne (tgt := 209) hx hb dX11_readCourt_159 (by decide) (fun c159 => ?_) (fun c159 => by exfalso; have c159 : v62.toInt = 112 := z5 rfl (by decide) c159; omega)
                      have c159 : ¬ v62.toInt = 112 := z6 rfl (by decide) c159
                      refine lv_aload_n hx hb dX11_readCourt_209 rfl (lv_at hl 3 rfl) ?_
                      have zx_m49_F_h0_4 : ((-1) : Int32).toInt = (-1) := by decide
                      have zy_m49_F_h0_4 : m49_F_h0_4 = (-1) := z7 (a := (-1)) (by decide) (by omega)
                      rw [zy_m49_F_h0_4] at hP hD
                      obtain ⟨hPc, hDc, hFc⟩ := zc3 (wc := [(h0, .inr (11, [.int th, .ref tB, .int tsz, .int u62_0, .int (-1), .int dp, .ref rC, .ref rV, .ref rD, .ref rK, .ref rT, .ref rS, .ref rU, .int lw, .int tx, .ref rL, .ref rX, .ref qR, .ref qB, .ref qP, .int m49_F_h0_20, .int m49_F_h0_21, .ref aR, .ref aB, .ref aP, .int nb, .int np, .ref aN, .ref rf, .int ho, .int br, .ref aK, .int ac, .long dw, .ref aE, .int sr, .int sf, .ref aA, .ref aH, .ref aI, .int hi]))]) hP hD hS hA [0] (by decide +kernel) rfl
                      refine va_callv (va_runV (As := []) (rest := []) ⟨hx, hb, hml, hown, hts⟩ (g_X11_bad_m l dC dI cI cJ h0 th tB tsz u62_0 dp rC rV rD rK rT rS rU lw tx rL rX qR qB qP m49_F_h0_20 m49_F_h0_21 aR aB aP nb np aN rf ho br aK ac dw aE sr sf aA aH aI hi H.size y_ac y_hi y_ho y_lw y_nb y_np jf49_0 jf49_1 (by omega) n_tsz) (cwV 0 hts (zgV qw1301 qw1303 qw36 qw108 qw1304) rfl rfl rfl hd_X11_bad ⟨by rw [hR]; exact Nat.le_of_ble_eq_true rfl, by rw [hR]; exact Nat.le_of_ble_eq_true rfl⟩) (zPV hPc hK hDc (va_recv (q := (RX11, TX11, 41)) hK hP (ci := 11) (q0 := 0) rfl rfl)) rfl rfl hl.1 rfl (lv_room (Nat.le_of_ble_eq_true rfl)) dX11_readCourt_210 ⟨Nat.zero_le _, Nat.zero_le _⟩) hS (fun q _ h => hFc q h) hFc (fun u210 t H locs ht hvm hw hB hz1 hk1 hS9 => ?_)
                      obtain ⟨hP9, hD9⟩ := zj2 (wX := [(h0, .inr (11, [.int th, .ref tB, .int tsz, .int u62_0, .int u62_0, .int dp, .ref rC, .ref rV, .ref rD, .ref rK, .ref rT, .ref rS, .ref rU, .int lw, .int tx, .ref rL, .ref rX, .ref qR, .ref qB, .ref qP, .int m49_F_h0_20, .int m49_F_h0_21, .ref aR, .ref aB, .ref aP, .int nb, .int np, .ref aN, .ref rf, .int ho, .int br, .ref aK, .int ac, .long dw, .ref aE, .int sr, .int sf, .ref aA, .ref aH, .ref aI, .int hi])), (tB, .inl (cI, 240, .inl fB)), (qR, .inl (cI, 3, .inl m49_A_qR)), (qB, .inl (cI, 24, .inl m49_A_qB)), (qP, .inl (cI, 20, .inl m49_A_qP))]) hP hD hk1 hFc ht hB [0] [(true, 0), (false, 1), (false, 2), (false, 3), (false, 4)] rfl (by decide +kernel) (by decide +kernel) rfl
                      clear hP hD hS hPc hDc hFc hB hk1 hz1 hvm
                      have hP := hP9
                      have hD := hD9
                      have hS := hS9
                      clear hP9 hD9 hS9
                      refine lv_aload_n hx hb dX11_readCourt_213 rfl (lv_at hl 3 rfl) ?_
                      refine va_get (D := (dC, dI)) (ci := 11) (v := .int u62_0) (C := RX11) (T := TX11) (N := 41) hx hb hts iX11 hown hK hP 0 rfl rfl 4 (by decide) (hts _ qw1131) (fun _ h9 => h9) rfl dX11_readCourt_214 ?_
                      refine lv_iconst (v := (-1)) hx hb dX11_readCourt_217 (by decide) ?_
                      refine lv_icmp_ne (tgt := 234) hx hb dX11_readCourt_218 (by decide) (fun c218 => ?_) (fun c218 => by exfalso; have c218 : u62_0.toInt = (-1) := z5 rfl (by decide) c218; omega)
                      have c218 : ¬ u62_0.toInt = (-1) := z6 rfl (by decide) c218
                      refine lv_iconst (v := 0) hx hb dX11_readCourt_234 (by decide) ?_
                      refine lv_istore_n (lv' := [(2, .int 0), (3, .int v62), (1, .int m49_L_1), (0, .ref h0)]) hx hb dX11_readCourt_235 rfl hl (by decide) rfl (fun ls hl => ?_)
                      refine lv_aload_n hx hb dX11_readCourt_236 rfl (lv_at hl 3 rfl) ?_
                      refine lv_dup hx hb dX11_readCourt_237 rfl ?_
                      refine va_get (D := (dC, dI)) (ci := 11) (v := .int u62_0) (C := RX11) (T := TX11) (N := 41) hx hb hts iX11 hown hK hP 0 rfl rfl 3 (by decide) (hts _ qw1130) (fun _ h9 => h9) rfl dX11_readCourt_238 ?_
                      refine lv_iload_n hx hb dX11_readCourt_241 rfl (lv_at hl 0 rfl) ?_
                      refine lv_if_eq (tgt := 249) hx hb dX11_readCourt_242 (by decide) (fun _ => ?_) (fun c => absurd (by decide) c)
                      refine lv_iconst (v := 0) hx hb dX11_readCourt_249 (by decide) ?_
                      refine lv_iadd hx hb dX11_readCourt_250 ?_
                      refine lv_topi (fun v250 e250 => ?_)
                      have i250 : v250.toInt = u62_0.toInt + 0 := zadd e250 rfl (by decide) (by omega) (by omega)
                      refine va_put (D := (dC, dI)) (ci := 11) (v := .int v250) (ty := .int) (C := RX11) (T := TX11) (N := 41) hx hb hts iX11 tyX11 tyX11_ok nmX11 hown hK hP hD hS 0 rfl rfl 3 (by decide) (hts _ qw1130) (fun _ h9 => h9) rfl (by decide +kernel) rfl rfl (Nat.le_of_ble_eq_true rfl) dX11_readCourt_251 (fun H locs hP9 hD9 hS9 => ?_)
                      clear hP hD hS
                      obtain ⟨hP, hD⟩ := zst (wX := [(h0, .inr (11, [.int th, .ref tB, .int tsz, .int v250, .int u62_0, .int dp, .ref rC, .ref rV, .ref rD, .ref rK, .ref rT, .ref rS, .ref rU, .int lw, .int tx, .ref rL, .ref rX, .ref qR, .ref qB, .ref qP, .int m49_F_h0_20, .int m49_F_h0_21, .ref aR, .ref aB, .ref aP, .int nb, .int np, .ref aN, .ref rf, .int ho, .int br, .ref aK, .int ac, .long dw, .ref aE, .int sr, .int sf, .ref aA, .ref aH, .ref aI, .int hi])), (tB, .inl (cI, 240, .inl fB)), (qR, .inl (cI, 3, .inl m49_A_qR)), (qB, .inl (cI, 24, .inl m49_A_qB)), (qP, .inl (cI, 20, .inl m49_A_qP))]) hP9 hD9 rfl
                      have hS := hS9
                      clear hP9 hD9 hS9
                      refine lv_goto (tgt := 49) hx hb dX11_readCourt_254 (by decide) ?_
                      have zj49_m49_L_2 : (0 : Int32).toInt = 0 := by decide
                      exact ih49 _ (by omega) m49_A_qB m49_A_qP m49_A_qR m49_F_h0_20 m49_F_h0_21 v250 u62_0 m49_L_1 0 jf49_0 jf49_1 (by omega) (by omega) jf49_4 (by decide) (by first | exact zRc_b jv49_0 f140_5 (by omega) (by omega) (by omega) (by omega) (by omega) | exact zRc_p jv49_0 f193_5 (by omega) (by omega) (by omega) (by omega) (by omega) | exact zRc_m jv49_0 (by omega)) (by first | exact zrr_m jv49_1 (by omega) (zrc_s F62 (by omega) (by omega) i84 F96) (by omega) F222 (by omega) (by omega) (by decide) | exact zrr_e jv49_1 (by omega) (zrc_s F62 (by omega) (by omega) i84 F96) (by omega) F222 (by omega) (by omega) (by decide) | exact zrr_w jv49_1 (by omega) (zrc_s F62 (by omega) (by omega) i84 F96) (by omega) (by decide) | exact zrr_m jv49_1 (by omega) (zrc_b F62 (by omega) (by omega) i123 i149 F140) (by omega) F222 (by omega) (by omega) (by decide) | exact zrr_e jv49_1 (by omega) (zrc_b F62 (by omega) (by omega) i123 i149 F140) (by omega) F222 (by omega) (by omega) (by decide) | exact zrr_w jv49_1 (by omega) (zrc_b F62 (by omega) (by omega) i123 i149 F140) (by omega) (by decide) | exact zrr_m jv49_1 (by omega) (zrc_p F62 (by omega) (by omega) i176 i202 F193) (by omega) F222 (by omega) (by omega) (by decide) | exact zrr_e jv49_1 (by omega) (zrc_p F62 (by omega) (by omega) i176 i202 F193) (by omega) F222 (by omega) (by omega) (by decide) | exact zrr_w jv49_1 (by omega) (zrc_p F62 (by omega) (by omega) i176 i202 F193) (by omega) (by decide) | exact zrr_m jv49_1 (by omega) (zrc_n (w := u62_0) F62 (by omega) (by omega) (by omega) (by omega) (by omega)) (by omega) F222 (by omega) (by omega) (by decide) | exact zrr_e jv49_1 (by omega) (zrc_n (w := u62_0) F62 (by omega) (by omega) (by omega) (by omega) (by omega)) (by omega) F222 (by omega) (by omega) (by decide) | exact zrr_w jv49_1 (by omega) (zrc_n (w := u62_0) F62 (by omega) (by omega) (by omega) (by omega) (by omega)) (by omega) (by decide)) (by first | exact zrrV_w (by omega) | exact zrrV_m jv49_2 (by omega) (by omega) (zrc_s F62 (by omega) (by omega) i84 F96) (zrw_s F62 (by omega) (by omega) i84 rfl F96_1) (by omega) F222 (by omega) (by omega) (by decide) | exact zrrV_e jv49_2 (by omega) (by omega) (zrc_s F62 (by omega) (by omega) i84 F96) (zrw_s F62 (by omega) (by omega) i84 rfl F96_1) (by omega) F222 (by omega) (by decide) | exact zrrV_m jv49_2 (by omega) (by omega) (zrc_b F62 (by omega) (by omega) i123 i149 F140) (zrw_b F62 (by omega) (by omega) i123 i149 (by omega) F140_1) (by omega) F222 (by omega) (by omega) (by decide) | exact zrrV_e jv49_2 (by omega) (by omega) (zrc_b F62 (by omega) (by omega) i123 i149 F140) (zrw_b F62 (by omega) (by omega) i123 i149 (by omega) F140_1) (by omega) F222 (by omega) (by decide) | exact zrrV_m jv49_2 (by omega) (by omega) (zrc_p F62 (by omega) (by omega) i176 i202 F193) (zrw_p F62 (by omega) (by omega) i176 i202 (by omega) F193_1) (by omega) F222 (by omega) (by omega) (by decide) | exact zrrV_e jv49_2 (by omega) (by omega) (zrc_p F62 (by omega) (by omega) i176 i202 F193) (zrw_p F62 (by omega) (by omega) i176 i202 (by omega) F193_1) (by omega) F222 (by omega) (by decide)) rfl H locs ls hP hD hS (lv_sub hl [0, 2, 3] rfl)
                    · have c114 : m49_F_h0_20.toInt < 6 := z4 (by decide) rfl c114
                      refine lv_aload_n hx hb dX11_readCourt_117 rfl (lv_at hl 3 rfl) ?_
                      refine lv_dup hx hb dX11_readCourt_118 rfl ?_
                      refine va_get (D := (dC, dI)) (ci := 11) (v := .int u62_0) (C := RX11) (T := TX11) (N := 41) hx hb hts iX11 hown hK hP 0 rfl rfl 3 (by decide) (hts _ qw1130) (fun _ h9 => h9) rfl dX11_readCourt_119 ?_
                      refine lv_iconst (v := 1) hx hb dX11_readCourt_122 (by decide) ?_
                      refine lv_iadd hx hb dX11_readCourt_123 ?_
                      refine lv_topi (fun v123 e123 => ?_)
                      have i123 : v123.toInt = u62_0.toInt + 1 := zadd e123 rfl (by decide) (by omega) (by omega)
                      refine va_put (D := (dC, dI)) (ci := 11) (v := .int v123) (ty := .int) (C := RX11) (T := TX11) (N := 41) hx hb hts iX11 tyX11 tyX11_ok nmX11 hown hK hP hD hS 0 rfl rfl 3 (by decide) (hts _ qw1130) (fun _ h9 => h9) rfl (by decide +kernel) rfl rfl (Nat.le_of_ble_eq_true rfl) dX11_readCourt_124 (fun H locs hP9 hD9 hS9 => ?_)
                      clear hP hD hS
                      obtain ⟨hP, hD⟩ := zst (wX := [(h0, .inr (11, [.int th, .ref tB, .int tsz, .int v123, .int m49_F_h0_4, .int dp, .ref rC, .ref rV, .ref rD, .ref rK, .ref rT, .ref rS, .ref rU, .int lw, .int tx, .ref rL, .ref rX, .ref qR, .ref qB, .ref qP, .int m49_F_h0_20, .int m49_F_h0_21, .ref aR, .ref aB, .ref aP, .int nb, .int np, .ref aN, .ref rf, .int ho, .int br, .ref aK, .int ac, .long dw, .ref aE, .int sr, .int sf, .ref aA, .ref aH, .ref aI, .int hi])), (tB, .inl (cI, 240, .inl fB)), (qR, .inl (cI, 3, .inl m49_A_qR)), (qB, .inl (cI, 24, .inl m49_A_qB)), (qP, .inl (cI, 20, .inl m49_A_qP))]) hP9 hD9 rfl
                      have hS := hS9
                      clear hP9 hD9 hS9
                      refine lv_aload_n hx hb dX11_readCourt_127 rfl (lv_at hl 3 rfl) ?_
                      refine lv_iload_n hx hb dX11_readCourt_128 rfl (lv_at hl 0 rfl) ?_
                      refine lv_aload_n hx hb dX11_readCourt_129 rfl (lv_at hl 3 rfl) ?_
                      refine va_get (D := (dC, dI)) (ci := 11) (v := .ref qB) (C := RX11) (T := TX11) (N := 41) hx hb hts iX11 hown hK hP 0 rfl rfl 18 (by decide) (hts _ qw1145) (fun _ h9 => h9) rfl dX11_readCourt_130 ?_
                      refine lv_iconst (v := 4) hx hb dX11_readCourt_133 (by decide) ?_
                      refine lv_aload_n hx hb dX11_readCourt_134 rfl (lv_at hl 3 rfl) ?_
                      refine va_get (D := (dC, dI)) (ci := 11) (v := .int m49_F_h0_20) (C := RX11) (T := TX11) (N := 41) hx hb hts iX11 hown hK hP 0 rfl rfl 20 (by decide) (hts _ qw1147) (fun _ h9 => h9) rfl dX11_readCourt_135 ?_
                      refine lv_imul hx hb dX11_readCourt_138 ?_
                      refine lv_topi (fun v138 e138 => ?_)
                      have i138 : v138.toInt = 4 * m49_F_h0_20.toInt := zmul e138 (by decide) rfl (by omega) (by omega)
                      refine lv_iconst (v := 4) hx hb dX11_readCourt_139 (by decide) ?_
                      have zx_v62 : (98 : Int32).toInt = 98 := by decide
                      have zy_v62 : v62 = 98 := z7 (a := 98) (by decide) (by omega)
                      rw [zy_v62] at hl
                      rw [zy_v62]
                      have zx_m49_F_h0_4 : ((-1) : Int32).toInt = (-1) := by decide
                      have zy_m49_F_h0_4 : m49_F_h0_4 = (-1) := z7 (a := (-1)) (by decide) (by omega)
                      rw [zy_m49_F_h0_4] at hP hD
                      obtain ⟨hPc, hDc, hFc⟩ := zc3 (wc := [(h0, .inr (11, [.int th, .ref tB, .int tsz, .int v123, .int (-1), .int dp, .ref rC, .ref rV, .ref rD, .ref rK, .ref rT, .ref rS, .ref rU, .int lw, .int tx, .ref rL, .ref rX, .ref qR, .ref qB, .ref qP, .int m49_F_h0_20, .int m49_F_h0_21, .ref aR, .ref aB, .ref aP, .int nb, .int np, .ref aN, .ref rf, .int ho, .int br, .ref aK, .int ac, .long dw, .ref aE, .int sr, .int sf, .ref aA, .ref aH, .ref aI, .int hi])), (tB, .inl (cI, 240, .inl fB)), (qB, .inl (cI, 24, .inl m49_A_qB))]) hP hD hS hA [0, 1, 3] (by decide +kernel) rfl
                      refine va_callv (va_runV (As := [.int 98, .ref qB, .int v138, .int 4]) (rest := []) ⟨hx, hb, hml, hown, hts⟩ (g_X11_items_b l dC dI cI cJ h0 qB v138 th tB tsz v123 dp rC rV rD rK rT rS rU lw tx rL rX qR qB qP m49_F_h0_20 m49_F_h0_21 aR aB aP nb np aN rf ho br aK ac dw aE sr sf aA aH aI hi fB m49_A_qB H.size y_ac y_hi y_ho y_lw y_nb y_np (by omega) jf49_0 jf49_1 (by omega) n_tsz) (cwV 4 hts (zgV qw1281 qw1283 qw34 qw108 qw1284) rfl rfl rfl hd_X11_items ⟨by rw [hR]; exact Nat.le_of_ble_eq_true rfl, by rw [hR]; exact Nat.le_of_ble_eq_true rfl⟩) (zPV hPc hK hDc (va_recv (q := (RX11, TX11, 41)) hK hP (ci := 11) (q0 := 0) rfl rfl)) rfl rfl hl.1 rfl (lv_room (Nat.le_of_ble_eq_true rfl)) dX11_readCourt_140 ⟨Nat.zero_le _, Nat.zero_le _⟩) hS (fun q _ h => hFc q h) hFc (fun u140 t H locs ht hvm hw hB hz1 hk1 hS9 => ?_)
                      obtain ⟨u140_0, u140_1, u140_2⟩ := u140
                      obtain ⟨hP9, hD9⟩ := zj2 (wX := [(h0, .inr (11, [.int th, .ref tB, .int tsz, .int u140_0, .int u140_1, .int dp, .ref rC, .ref rV, .ref rD, .ref rK, .ref rT, .ref rS, .ref rU, .int lw, .int tx, .ref rL, .ref rX, .ref qR, .ref qB, .ref qP, .int m49_F_h0_20, .int m49_F_h0_21, .ref aR, .ref aB, .ref aP, .int nb, .int np, .ref aN, .ref rf, .int ho, .int br, .ref aK, .int ac, .long dw, .ref aE, .int sr, .int sf, .ref aA, .ref aH, .ref aI, .int hi])), (tB, .inl (cI, 240, .inl fB)), (qR, .inl (cI, 3, .inl m49_A_qR)), (qB, .inl (cI, 24, .inl u140_2)), (qP, .inl (cI, 20, .inl m49_A_qP))]) hP hD hk1 hFc ht hB [0, 1, 3] [(true, 0), (true, 1), (false, 2), (true, 2), (false, 4)] rfl (by decide +kernel) (by decide +kernel) rfl
                      clear hP hD hS hPc hDc hFc hB hk1 hz1 hvm
                      have hP := hP9
                      have hD := hD9
                      have hS := hS9
                      clear hP9 hD9 hS9
                      obtain ⟨f140_0, f140_1, f140_2, f140_3, f140_4, f140_5, f140_6, f140_7⟩ : (0 ≤ u140_0.toInt) ∧ (u140_0.toInt ≤ 240) ∧ ((-1) ≤ u140_1.toInt) ∧ (u140_1.toInt ≤ 240) ∧ (v123.toInt ≤ u140_0.toInt) ∧ (zIt m49_A_qB u140_2 v138.toInt (u140_1.toInt = -1)) ∧ (zW (sIts (sB fB tsz.toInt) tsz.toInt 1 0 v123.toInt) u140_1 u140_0) ∧ (u140_1.toInt = -1 → zIg fB tsz 1 4 (v138.toInt.toNat) v123.toInt m49_A_qB u140_2) := hw
                      have F140 := f140_6
                      have F140_1 : zHid (u140_1.toInt = -1 → zIg fB tsz 1 4 (v138.toInt.toNat) v123.toInt m49_A_qB u140_2) := f140_7
                      clear f140_7
                      refine lv_aload_n hx hb dX11_readCourt_143 rfl (lv_at hl 3 rfl) ?_
                      refine lv_dup hx hb dX11_readCourt_144 rfl ?_
                      refine va_get (D := (dC, dI)) (ci := 11) (v := .int m49_F_h0_20) (C := RX11) (T := TX11) (N := 41) hx hb hts iX11 hown hK hP 0 rfl rfl 20 (by decide) (hts _ qw1147) (fun _ h9 => h9) rfl dX11_readCourt_145 ?_
                      refine lv_iconst (v := 1) hx hb dX11_readCourt_148 (by decide) ?_
                      refine lv_iadd hx hb dX11_readCourt_149 ?_
                      refine lv_topi (fun v149 e149 => ?_)
                      have i149 : v149.toInt = m49_F_h0_20.toInt + 1 := zadd e149 rfl (by decide) (by omega) (by omega)
                      refine va_put (D := (dC, dI)) (ci := 11) (v := .int v149) (ty := .int) (C := RX11) (T := TX11) (N := 41) hx hb hts iX11 tyX11 tyX11_ok nmX11 hown hK hP hD hS 0 rfl rfl 20 (by decide) (hts _ qw1147) (fun _ h9 => h9) rfl (by decide +kernel) rfl rfl (Nat.le_of_ble_eq_true rfl) dX11_readCourt_150 (fun H locs hP9 hD9 hS9 => ?_)
                      clear hP hD hS
                      obtain ⟨hP, hD⟩ := zst (wX := [(h0, .inr (11, [.int th, .ref tB, .int tsz, .int u140_0, .int u140_1, .int dp, .ref rC, .ref rV, .ref rD, .ref rK, .ref rT, .ref rS, .ref rU, .int lw, .int tx, .ref rL, .ref rX, .ref qR, .ref qB, .ref qP, .int v149, .int m49_F_h0_21, .ref aR, .ref aB, .ref aP, .int nb, .int np, .ref aN, .ref rf, .int ho, .int br, .ref aK, .int ac, .long dw, .ref aE, .int sr, .int sf, .ref aA, .ref aH, .ref aI, .int hi])), (tB, .inl (cI, 240, .inl fB)), (qR, .inl (cI, 3, .inl m49_A_qR)), (qB, .inl (cI, 24, .inl u140_2)), (qP, .inl (cI, 20, .inl m49_A_qP))]) hP9 hD9 rfl
                      have hS := hS9
                      clear hP9 hD9 hS9
                      refine lv_goto (tgt := 213) hx hb dX11_readCourt_153 (by decide) ?_
                      refine lv_aload_n hx hb dX11_readCourt_213 rfl (lv_at hl 3 rfl) ?_
                      refine va_get (D := (dC, dI)) (ci := 11) (v := .int u140_1) (C := RX11) (T := TX11) (N := 41) hx hb hts iX11 hown hK hP 0 rfl rfl 4 (by decide) (hts _ qw1131) (fun _ h9 => h9) rfl dX11_readCourt_214 ?_
                      refine lv_iconst (v := (-1)) hx hb dX11_readCourt_217 (by decide) ?_
                      refine lv_icmp_ne (tgt := 234) hx hb dX11_readCourt_218 (by decide) (fun c218 => ?_) (fun c218 => ?_)
                      · have c218 : ¬ u140_1.toInt = (-1) := z6 rfl (by decide) c218
                        refine lv_iconst (v := 0) hx hb dX11_readCourt_234 (by decide) ?_
                        refine lv_istore_n (lv' := [(2, .int 0), (3, .int 98), (1, .int m49_L_1), (0, .ref h0)]) hx hb dX11_readCourt_235 rfl hl (by decide) rfl (fun ls hl => ?_)
                        refine lv_aload_n hx hb dX11_readCourt_236 rfl (lv_at hl 3 rfl) ?_
                        refine lv_dup hx hb dX11_readCourt_237 rfl ?_
                        refine va_get (D := (dC, dI)) (ci := 11) (v := .int u140_0) (C := RX11) (T := TX11) (N := 41) hx hb hts iX11 hown hK hP 0 rfl rfl 3 (by decide) (hts _ qw1130) (fun _ h9 => h9) rfl dX11_readCourt_238 ?_
                        refine lv_iload_n hx hb dX11_readCourt_241 rfl (lv_at hl 0 rfl) ?_
                        refine lv_if_eq (tgt := 249) hx hb dX11_readCourt_242 (by decide) (fun _ => ?_) (fun c => absurd (by decide) c)
                        refine lv_iconst (v := 0) hx hb dX11_readCourt_249 (by decide) ?_
                        refine lv_iadd hx hb dX11_readCourt_250 ?_
                        refine lv_topi (fun v250 e250 => ?_)
                        have i250 : v250.toInt = u140_0.toInt + 0 := zadd e250 rfl (by decide) (by omega) (by omega)
                        refine va_put (D := (dC, dI)) (ci := 11) (v := .int v250) (ty := .int) (C := RX11) (T := TX11) (N := 41) hx hb hts iX11 tyX11 tyX11_ok nmX11 hown hK hP hD hS 0 rfl rfl 3 (by decide) (hts _ qw1130) (fun _ h9 => h9) rfl (by decide +kernel) rfl rfl (Nat.le_of_ble_eq_true rfl) dX11_readCourt_251 (fun H locs hP9 hD9 hS9 => ?_)
                        clear hP hD hS
                        obtain ⟨hP, hD⟩ := zst (wX := [(h0, .inr (11, [.int th, .ref tB, .int tsz, .int v250, .int u140_1, .int dp, .ref rC, .ref rV, .ref rD, .ref rK, .ref rT, .ref rS, .ref rU, .int lw, .int tx, .ref rL, .ref rX, .ref qR, .ref qB, .ref qP, .int v149, .int m49_F_h0_21, .ref aR, .ref aB, .ref aP, .int nb, .int np, .ref aN, .ref rf, .int ho, .int br, .ref aK, .int ac, .long dw, .ref aE, .int sr, .int sf, .ref aA, .ref aH, .ref aI, .int hi])), (tB, .inl (cI, 240, .inl fB)), (qR, .inl (cI, 3, .inl m49_A_qR)), (qB, .inl (cI, 24, .inl u140_2)), (qP, .inl (cI, 20, .inl m49_A_qP))]) hP9 hD9 rfl
                        have hS := hS9
                        clear hP9 hD9 hS9
                        refine lv_goto (tgt := 49) hx hb dX11_readCourt_254 (by decide) ?_
                        have zj49_m49_L_2 : (0 : Int32).toInt = 0 := by decide
                        exact ih49 _ (by omega) u140_2 m49_A_qP m49_A_qR v149 m49_F_h0_21 v250 u140_1 m49_L_1 0 (by omega) jf49_1 (by omega) ⟨f140_2, f140_3⟩ jf49_4 (by decide) (by first | exact zRc_b jv49_0 f140_5 (by omega) (by omega) (by omega) (by omega) (by omega) | exact zRc_p jv49_0 f193_5 (by omega) (by omega) (by omega) (by omega) (by omega) | exact zRc_m jv49_0 (by omega)) (by first | exact zrr_m jv49_1 (by omega) (zrc_s F62 (by omega) (by omega) i84 F96) (by omega) F222 (by omega) (by omega) (by decide) | exact zrr_e jv49_1 (by omega) (zrc_s F62 (by omega) (by omega) i84 F96) (by omega) F222 (by omega) (by omega) (by decide) | exact zrr_w jv49_1 (by omega) (zrc_s F62 (by omega) (by omega) i84 F96) (by omega) (by decide) | exact zrr_m jv49_1 (by omega) (zrc_b F62 (by omega) (by omega) i123 i149 F140) (by omega) F222 (by omega) (by omega) (by decide) | exact zrr_e jv49_1 (by omega) (zrc_b F62 (by omega) (by omega) i123 i149 F140) (by omega) F222 (by omega) (by omega) (by decide) | exact zrr_w jv49_1 (by omega) (zrc_b F62 (by omega) (by omega) i123 i149 F140) (by omega) (by decide) | exact zrr_m jv49_1 (by omega) (zrc_p F62 (by omega) (by omega) i176 i202 F193) (by omega) F222 (by omega) (by omega) (by decide) | exact zrr_e jv49_1 (by omega) (zrc_p F62 (by omega) (by omega) i176 i202 F193) (by omega) F222 (by omega) (by omega) (by decide) | exact zrr_w jv49_1 (by omega) (zrc_p F62 (by omega) (by omega) i176 i202 F193) (by omega) (by decide) | exact zrr_m jv49_1 (by omega) (zrc_n (w := u62_0) F62 (by omega) (by omega) (by omega) (by omega) (by omega)) (by omega) F222 (by omega) (by omega) (by decide) | exact zrr_e jv49_1 (by omega) (zrc_n (w := u62_0) F62 (by omega) (by omega) (by omega) (by omega) (by omega)) (by omega) F222 (by omega) (by omega) (by decide) | exact zrr_w jv49_1 (by omega) (zrc_n (w := u62_0) F62 (by omega) (by omega) (by omega) (by omega) (by omega)) (by omega) (by decide)) (by first | exact zrrV_w (by omega) | exact zrrV_m jv49_2 (by omega) (by omega) (zrc_s F62 (by omega) (by omega) i84 F96) (zrw_s F62 (by omega) (by omega) i84 rfl F96_1) (by omega) F222 (by omega) (by omega) (by decide) | exact zrrV_e jv49_2 (by omega) (by omega) (zrc_s F62 (by omega) (by omega) i84 F96) (zrw_s F62 (by omega) (by omega) i84 rfl F96_1) (by omega) F222 (by omega) (by decide) | exact zrrV_m jv49_2 (by omega) (by omega) (zrc_b F62 (by omega) (by omega) i123 i149 F140) (zrw_b F62 (by omega) (by omega) i123 i149 (by omega) F140_1) (by omega) F222 (by omega) (by omega) (by decide) | exact zrrV_e jv49_2 (by omega) (by omega) (zrc_b F62 (by omega) (by omega) i123 i149 F140) (zrw_b F62 (by omega) (by omega) i123 i149 (by omega) F140_1) (by omega) F222 (by omega) (by decide) | exact zrrV_m jv49_2 (by omega) (by omega) (zrc_p F62 (by omega) (by omega) i176 i202 F193) (zrw_p F62 (by omega) (by omega) i176 i202 (by omega) F193_1) (by omega) F222 (by omega) (by omega) (by decide) | exact zrrV_e jv49_2 (by omega) (by omega) (zrc_p F62 (by omega) (by omega) i176 i202 F193) (zrw_p F62 (by omega) (by omega) i176 i202 (by omega) F193_1) (by omega) F222 (by omega) (by decide)) rfl H locs ls hP hD hS (lv_sub hl [0, 2, 3] rfl)
                      · have c218 : u140_1.toInt = (-1) := z5 rfl (by decide) c218
                        refine lv_aload_n hx hb dX11_readCourt_221 rfl (lv_at hl 3 rfl) ?_
                        obtain ⟨hPc, hDc, hFc⟩ := zc3 (wc := [(h0, .inr (11, [.int th, .ref tB, .int tsz, .int u140_0, .int u140_1, .int dp, .ref rC, .ref rV, .ref rD, .ref rK, .ref rT, .ref rS, .ref rU, .int lw, .int tx, .ref rL, .ref rX, .ref qR, .ref qB, .ref qP, .int v149, .int m49_F_h0_21, .ref aR, .ref aB, .ref aP, .int nb, .int np, .ref aN, .ref rf, .int ho, .int br, .ref aK, .int ac, .long dw, .ref aE, .int sr, .int sf, .ref aA, .ref aH, .ref aI, .int hi])), (tB, .inl (cI, 240, .inl fB))]) hP hD hS hA [0, 1] (by decide +kernel) rfl
                        refine va_calli (va_runV (As := []) (rest := []) ⟨hx, hb, hml, hown, hts⟩ (g_X11_look_u l dC dI cI cJ h0 th tB tsz u140_0 u140_1 dp rC rV rD rK rT rS rU lw tx rL rX qR qB qP v149 m49_F_h0_21 aR aB aP nb np aN rf ho br aK ac dw aE sr sf aA aH aI hi fB H.size y_ac y_hi y_ho y_lw y_nb y_np (by omega) jf49_1 ⟨f140_0, f140_1⟩ n_tsz (by omega)) (cwV 0 hts (zgV qw1273 qw1275 qw32 qw108 qw1276) rfl rfl rfl hd_X11_look ⟨by rw [hR]; exact Nat.le_of_ble_eq_true rfl, by rw [hR]; exact Nat.le_of_ble_eq_true rfl⟩) (zPV hPc hK hDc (va_recv (q := (RX11, TX11, 41)) hK hP (ci := 11) (q0 := 0) rfl rfl)) rfl rfl hl.1 rfl (lv_room (Nat.le_of_ble_eq_true rfl)) dX11_readCourt_222 ⟨Nat.zero_le _, Nat.zero_le _⟩) hS (fun q _ h => hFc q h) hFc (fun v222 u222 t H locs ht hvm hw hB hz1 hk1 hS9 => ?_)
                        obtain ⟨u222_0, rfl⟩ : ∃ z, z = u222 := ⟨_, rfl⟩
                        obtain ⟨hP9, hD9⟩ := zj2 (wX := [(h0, .inr (11, [.int th, .ref tB, .int tsz, .int u222_0, .int u140_1, .int dp, .ref rC, .ref rV, .ref rD, .ref rK, .ref rT, .ref rS, .ref rU, .int lw, .int tx, .ref rL, .ref rX, .ref qR, .ref qB, .ref qP, .int v149, .int m49_F_h0_21, .ref aR, .ref aB, .ref aP, .int nb, .int np, .ref aN, .ref rf, .int ho, .int br, .ref aK, .int ac, .long dw, .ref aE, .int sr, .int sf, .ref aA, .ref aH, .ref aI, .int hi])), (tB, .inl (cI, 240, .inl fB)), (qR, .inl (cI, 3, .inl m49_A_qR)), (qB, .inl (cI, 24, .inl u140_2)), (qP, .inl (cI, 20, .inl m49_A_qP))]) hP hD hk1 hFc ht hB [0, 1] [(true, 0), (true, 1), (false, 2), (false, 3), (false, 4)] rfl (by decide +kernel) (by decide +kernel) rfl
                        clear hP hD hS hPc hDc hFc hB hk1 hz1 hvm
                        have hP := hP9
                        have hD := hD9
                        have hS := hS9
                        clear hP9 hD9 hS9
                        obtain ⟨f222_0, f222_1, f222_2, f222_3, f222_4⟩ : (0 ≤ u222_0.toInt) ∧ (u222_0.toInt ≤ 240) ∧ (¬ v222.toInt = -1 → u222_0.toInt < tsz.toInt) ∧ (u140_0.toInt ≤ u222_0.toInt) ∧ (zLk fB tsz u140_0 v222 u222_0) := hw
                        have F222 := f222_4
                        refine lv_bipush (v := 59) hx hb dX11_readCourt_225 (by decide) ?_
                        refine lv_icmp_ne (tgt := 234) hx hb dX11_readCourt_227 (by decide) (fun c227 => ?_) (fun c227 => ?_)
                        · have c227 : ¬ v222.toInt = 59 := z6 rfl (by decide) c227
                          refine lv_iconst (v := 0) hx hb dX11_readCourt_234 (by decide) ?_
                          refine lv_istore_n (lv' := [(2, .int 0), (3, .int 98), (1, .int m49_L_1), (0, .ref h0)]) hx hb dX11_readCourt_235 rfl hl (by decide) rfl (fun ls hl => ?_)
                          refine lv_aload_n hx hb dX11_readCourt_236 rfl (lv_at hl 3 rfl) ?_
                          refine lv_dup hx hb dX11_readCourt_237 rfl ?_
                          refine va_get (D := (dC, dI)) (ci := 11) (v := .int u222_0) (C := RX11) (T := TX11) (N := 41) hx hb hts iX11 hown hK hP 0 rfl rfl 3 (by decide) (hts _ qw1130) (fun _ h9 => h9) rfl dX11_readCourt_238 ?_
                          refine lv_iload_n hx hb dX11_readCourt_241 rfl (lv_at hl 0 rfl) ?_
                          refine lv_if_eq (tgt := 249) hx hb dX11_readCourt_242 (by decide) (fun _ => ?_) (fun c => absurd (by decide) c)
                          refine lv_iconst (v := 0) hx hb dX11_readCourt_249 (by decide) ?_
                          refine lv_iadd hx hb dX11_readCourt_250 ?_
                          refine lv_topi (fun v250 e250 => ?_)
                          have i250 : v250.toInt = u222_0.toInt + 0 := zadd e250 rfl (by decide) (by omega) (by omega)
                          refine va_put (D := (dC, dI)) (ci := 11) (v := .int v250) (ty := .int) (C := RX11) (T := TX11) (N := 41) hx hb hts iX11 tyX11 tyX11_ok nmX11 hown hK hP hD hS 0 rfl rfl 3 (by decide) (hts _ qw1130) (fun _ h9 => h9) rfl (by decide +kernel) rfl rfl (Nat.le_of_ble_eq_true rfl) dX11_readCourt_251 (fun H locs hP9 hD9 hS9 => ?_)
                          clear hP hD hS
                          obtain ⟨hP, hD⟩ := zst (wX := [(h0, .inr (11, [.int th, .ref tB, .int tsz, .int v250, .int u140_1, .int dp, .ref rC, .ref rV, .ref rD, .ref rK, .ref rT, .ref rS, .ref rU, .int lw, .int tx, .ref rL, .ref rX, .ref qR, .ref qB, .ref qP, .int v149, .int m49_F_h0_21, .ref aR, .ref aB, .ref aP, .int nb, .int np, .ref aN, .ref rf, .int ho, .int br, .ref aK, .int ac, .long dw, .ref aE, .int sr, .int sf, .ref aA, .ref aH, .ref aI, .int hi])), (tB, .inl (cI, 240, .inl fB)), (qR, .inl (cI, 3, .inl m49_A_qR)), (qB, .inl (cI, 24, .inl u140_2)), (qP, .inl (cI, 20, .inl m49_A_qP))]) hP9 hD9 rfl
                          have hS := hS9
                          clear hP9 hD9 hS9
                          refine lv_goto (tgt := 49) hx hb dX11_readCourt_254 (by decide) ?_
                          have zj49_m49_L_2 : (0 : Int32).toInt = 0 := by decide
                          exact ih49 _ (by omega) u140_2 m49_A_qP m49_A_qR v149 m49_F_h0_21 v250 u140_1 m49_L_1 0 (by omega) jf49_1 (by omega) ⟨f140_2, f140_3⟩ jf49_4 (by decide) (by first | exact zRc_b jv49_0 f140_5 (by omega) (by omega) (by omega) (by omega) (by omega) | exact zRc_p jv49_0 f193_5 (by omega) (by omega) (by omega) (by omega) (by omega) | exact zRc_m jv49_0 (by omega)) (by first | exact zrr_m jv49_1 (by omega) (zrc_s F62 (by omega) (by omega) i84 F96) (by omega) F222 (by omega) (by omega) (by decide) | exact zrr_e jv49_1 (by omega) (zrc_s F62 (by omega) (by omega) i84 F96) (by omega) F222 (by omega) (by omega) (by decide) | exact zrr_w jv49_1 (by omega) (zrc_s F62 (by omega) (by omega) i84 F96) (by omega) (by decide) | exact zrr_m jv49_1 (by omega) (zrc_b F62 (by omega) (by omega) i123 i149 F140) (by omega) F222 (by omega) (by omega) (by decide) | exact zrr_e jv49_1 (by omega) (zrc_b F62 (by omega) (by omega) i123 i149 F140) (by omega) F222 (by omega) (by omega) (by decide) | exact zrr_w jv49_1 (by omega) (zrc_b F62 (by omega) (by omega) i123 i149 F140) (by omega) (by decide) | exact zrr_m jv49_1 (by omega) (zrc_p F62 (by omega) (by omega) i176 i202 F193) (by omega) F222 (by omega) (by omega) (by decide) | exact zrr_e jv49_1 (by omega) (zrc_p F62 (by omega) (by omega) i176 i202 F193) (by omega) F222 (by omega) (by omega) (by decide) | exact zrr_w jv49_1 (by omega) (zrc_p F62 (by omega) (by omega) i176 i202 F193) (by omega) (by decide) | exact zrr_m jv49_1 (by omega) (zrc_n (w := u62_0) F62 (by omega) (by omega) (by omega) (by omega) (by omega)) (by omega) F222 (by omega) (by omega) (by decide) | exact zrr_e jv49_1 (by omega) (zrc_n (w := u62_0) F62 (by omega) (by omega) (by omega) (by omega) (by omega)) (by omega) F222 (by omega) (by omega) (by decide) | exact zrr_w jv49_1 (by omega) (zrc_n (w := u62_0) F62 (by omega) (by omega) (by omega) (by omega) (by omega)) (by omega) (by decide)) (by first | exact zrrV_w (by omega) | exact zrrV_m jv49_2 (by omega) (by omega) (zrc_s F62 (by omega) (by omega) i84 F96) (zrw_s F62 (by omega) (by omega) i84 rfl F96_1) (by omega) F222 (by omega) (by omega) (by decide) | exact zrrV_e jv49_2 (by omega) (by omega) (zrc_s F62 (by omega) (by omega) i84 F96) (zrw_s F62 (by omega) (by omega) i84 rfl F96_1) (by omega) F222 (by omega) (by decide) | exact zrrV_m jv49_2 (by omega) (by omega) (zrc_b F62 (by omega) (by omega) i123 i149 F140) (zrw_b F62 (by omega) (by omega) i123 i149 (by omega) F140_1) (by omega) F222 (by omega) (by omega) (by decide) | exact zrrV_e jv49_2 (by omega) (by omega) (zrc_b F62 (by omega) (by omega) i123 i149 F140) (zrw_b F62 (by omega) (by omega) i123 i149 (by omega) F140_1) (by omega) F222 (by omega) (by decide) | exact zrrV_m jv49_2 (by omega) (by omega) (zrc_p F62 (by omega) (by omega) i176 i202 F193) (zrw_p F62 (by omega) (by omega) i176 i202 (by omega) F193_1) (by omega) F222 (by omega) (by omega) (by decide) | exact zrrV_e jv49_2 (by omega) (by omega) (zrc_p F62 (by omega) (by omega) i176 i202 F193) (zrw_p F62 (by omega) (by omega) i176 i202 (by omega) F193_1) (by omega) F222 (by omega) (by decide)) rfl H locs ls hP hD hS (lv_sub hl [0, 2, 3] rfl)
                        · have c227 : v222.toInt = 59 := z5 rfl (by decide) c227
                          refine lv_iconst (v := 1) hx hb dX11_readCourt_230 (by decide) ?_
                          refine lv_goto (tgt := 235) hx hb dX11_readCourt_231 (by decide) ?_
                          refine lv_istore_n (lv' := [(2, .int 1), (3, .int 98), (1, .int m49_L_1), (0, .ref h0)]) hx hb dX11_readCourt_235 rfl hl (by decide) rfl (fun ls hl => ?_)
                          refine lv_aload_n hx hb dX11_readCourt_236 rfl (lv_at hl 3 rfl) ?_
                          refine lv_dup hx hb dX11_readCourt_237 rfl ?_
                          refine va_get (D := (dC, dI)) (ci := 11) (v := .int u222_0) (C := RX11) (T := TX11) (N := 41) hx hb hts iX11 hown hK hP 0 rfl rfl 3 (by decide) (hts _ qw1130) (fun _ h9 => h9) rfl dX11_readCourt_238 ?_
                          refine lv_iload_n hx hb dX11_readCourt_241 rfl (lv_at hl 0 rfl) ?_
                          refine lv_if_eq (tgt := 249) hx hb dX11_readCourt_242 (by decide) (fun c => absurd c (by decide)) (fun _ => ?_)
                          refine lv_iconst (v := 1) hx hb dX11_readCourt_245 (by decide) ?_
                          refine lv_goto (tgt := 250) hx hb dX11_readCourt_246 (by decide) ?_
                          refine lv_iadd hx hb dX11_readCourt_250 ?_
                          refine lv_topi (fun v250 e250 => ?_)
                          have i250 : v250.toInt = u222_0.toInt + 1 := zadd e250 rfl (by decide) (by omega) (by omega)
                          refine va_put (D := (dC, dI)) (ci := 11) (v := .int v250) (ty := .int) (C := RX11) (T := TX11) (N := 41) hx hb hts iX11 tyX11 tyX11_ok nmX11 hown hK hP hD hS 0 rfl rfl 3 (by decide) (hts _ qw1130) (fun _ h9 => h9) rfl (by decide +kernel) rfl rfl (Nat.le_of_ble_eq_true rfl) dX11_readCourt_251 (fun H locs hP9 hD9 hS9 => ?_)
                          clear hP hD hS
                          obtain ⟨hP, hD⟩ := zst (wX := [(h0, .inr (11, [.int th, .ref tB, .int tsz, .int v250, .int u140_1, .int dp, .ref rC, .ref rV, .ref rD, .ref rK, .ref rT, .ref rS, .ref rU, .int lw, .int tx, .ref rL, .ref rX, .ref qR, .ref qB, .ref qP, .int v149, .int m49_F_h0_21, .ref aR, .ref aB, .ref aP, .int nb, .int np, .ref aN, .ref rf, .int ho, .int br, .ref aK, .int ac, .long dw, .ref aE, .int sr, .int sf, .ref aA, .ref aH, .ref aI, .int hi])), (tB, .inl (cI, 240, .inl fB)), (qR, .inl (cI, 3, .inl m49_A_qR)), (qB, .inl (cI, 24, .inl u140_2)), (qP, .inl (cI, 20, .inl m49_A_qP))]) hP9 hD9 rfl
                          have hS := hS9
                          clear hP9 hD9 hS9
                          refine lv_goto (tgt := 49) hx hb dX11_readCourt_254 (by decide) ?_
                          have zj49_m49_L_2 : (1 : Int32).toInt = 1 := by decide
                          exact ih49 _ (by omega) u140_2 m49_A_qP m49_A_qR v149 m49_F_h0_21 v250 u140_1 m49_L_1 1 (by omega) jf49_1 (by omega) ⟨f140_2, f140_3⟩ jf49_4 (by decide) (by first | exact zRc_b jv49_0 f140_5 (by omega) (by omega) (by omega) (by omega) (by omega) | exact zRc_p jv49_0 f193_5 (by omega) (by omega) (by omega) (by omega) (by omega) | exact zRc_m jv49_0 (by omega)) (by first | exact zrr_m jv49_1 (by omega) (zrc_s F62 (by omega) (by omega) i84 F96) (by omega) F222 (by omega) (by omega) (by decide) | exact zrr_e jv49_1 (by omega) (zrc_s F62 (by omega) (by omega) i84 F96) (by omega) F222 (by omega) (by omega) (by decide) | exact zrr_w jv49_1 (by omega) (zrc_s F62 (by omega) (by omega) i84 F96) (by omega) (by decide) | exact zrr_m jv49_1 (by omega) (zrc_b F62 (by omega) (by omega) i123 i149 F140) (by omega) F222 (by omega) (by omega) (by decide) | exact zrr_e jv49_1 (by omega) (zrc_b F62 (by omega) (by omega) i123 i149 F140) (by omega) F222 (by omega) (by omega) (by decide) | exact zrr_w jv49_1 (by omega) (zrc_b F62 (by omega) (by omega) i123 i149 F140) (by omega) (by decide) | exact zrr_m jv49_1 (by omega) (zrc_p F62 (by omega) (by omega) i176 i202 F193) (by omega) F222 (by omega) (by omega) (by decide) | exact zrr_e jv49_1 (by omega) (zrc_p F62 (by omega) (by omega) i176 i202 F193) (by omega) F222 (by omega) (by omega) (by decide) | exact zrr_w jv49_1 (by omega) (zrc_p F62 (by omega) (by omega) i176 i202 F193) (by omega) (by decide) | exact zrr_m jv49_1 (by omega) (zrc_n (w := u62_0) F62 (by omega) (by omega) (by omega) (by omega) (by omega)) (by omega) F222 (by omega) (by omega) (by decide) | exact zrr_e jv49_1 (by omega) (zrc_n (w := u62_0) F62 (by omega) (by omega) (by omega) (by omega) (by omega)) (by omega) F222 (by omega) (by omega) (by decide) | exact zrr_w jv49_1 (by omega) (zrc_n (w := u62_0) F62 (by omega) (by omega) (by omega) (by omega) (by omega)) (by omega) (by decide)) (by first | exact zrrV_w (by omega) | exact zrrV_m jv49_2 (by omega) (by omega) (zrc_s F62 (by omega) (by omega) i84 F96) (zrw_s F62 (by omega) (by omega) i84 rfl F96_1) (by omega) F222 (by omega) (by omega) (by decide) | exact zrrV_e jv49_2 (by omega) (by omega) (zrc_s F62 (by omega) (by omega) i84 F96) (zrw_s F62 (by omega) (by omega) i84 rfl F96_1) (by omega) F222 (by omega) (by decide) | exact zrrV_m jv49_2 (by omega) (by omega) (zrc_b F62 (by omega) (by omega) i123 i149 F140) (zrw_b F62 (by omega) (by omega) i123 i149 (by omega) F140_1) (by omega) F222 (by omega) (by omega) (by decide) | exact zrrV_e jv49_2 (by omega) (by omega) (zrc_b F62 (by omega) (by omega) i123 i149 F140) (zrw_b F62 (by omega) (by omega) i123 i149 (by omega) F140_1) (by omega) F222 (by omega) (by decide) | exact zrrV_m jv49_2 (by omega) (by omega) (zrc_p F62 (by omega) (by omega) i176 i202 F193) (zrw_p F62 (by omega) (by omega) i176 i202 (by omega) F193_1) (by omega) F222 (by omega) (by omega) (by decide) | exact zrrV_e jv49_2 (by omega) (by omega) (zrc_p F62 (by omega) (by omega) i176 i202 F193) (zrw_p F62 (by omega) (by omega) i176 i202 (by omega) F193_1) (by omega) F222 (by omega) (by decide)) rfl H locs ls hP hD hS (lv_sub hl [0, 2, 3] rfl)
                · have c69 : v62.toInt = 115 := z5 rfl (by decide) c69
                  refine lv_iload_n hx hb dX11_readCourt_72 rfl (lv_at hl 2 rfl) ?_
                  refine lv_if_ne (tgt := 102) hx hb dX11_readCourt_73 (by decide) (fun c73 => ?_) (fun c73 => ?_)
                  · have c73 : ¬ m49_L_1.toInt = 0 := z6 rfl (by decide) c73
                    refine lv_iload_n hx hb dX11_readCourt_102 rfl (lv_at hl 0 rfl) ?_
                    refine lv_bipush (v := 98) hx hb dX11_readCourt_103 (by decide) ?_
                    refine lv_icmp_ne (tgt := 156) hx hb dX11_readCourt_105 (by decide) (fun c105 => ?_) (fun c105 => by exfalso; have c105 : v62.toInt = 98 := z5 rfl (by decide) c105; omega)
                    have c105 : ¬ v62.toInt = 98 := z6 rfl (by decide) c105
                    refine lv_iload_n hx hb dX11_readCourt_156 rfl (lv_at hl 0 rfl) ?_
                    refine lv_bipush (v := 112) hx hb dX11_readCourt_157 (by decide) ?_
                    refine lv_icmp_ne (tgt := 209) hx hb dX11_readCourt_159 (by decide) (fun c159 => ?_) (fun c159 => by exfalso; have c159 : v62.toInt = 112 := z5 rfl (by decide) c159; omega)
                    have c159 : ¬ v62.toInt = 112 := z6 rfl (by decide) c159
                    refine lv_aload_n hx hb dX11_readCourt_209 rfl (lv_at hl 3 rfl) ?_
                    have zx_m49_F_h0_4 : ((-1) : Int32).toInt = (-1) := by decide
                    have zy_m49_F_h0_4 : m49_F_h0_4 = (-1) := z7 (a := (-1)) (by decide) (by omega)
                    rw [zy_m49_F_h0_4] at hP hD
                    obtain ⟨hPc, hDc, hFc⟩ := zc3 (wc := [(h0, .inr (11, [.int th, .ref tB, .int tsz, .int u62_0, .int (-1), .int dp, .ref rC, .ref rV, .ref rD, .ref rK, .ref rT, .ref rS, .ref rU, .int lw, .int tx, .ref rL, .ref rX, .ref qR, .ref qB, .ref qP, .int m49_F_h0_20, .int m49_F_h0_21, .ref aR, .ref aB, .ref aP, .int nb, .int np, .ref aN, .ref rf, .int ho, .int br, .ref aK, .int ac, .long dw, .ref aE, .int sr, .int sf, .ref aA, .ref aH, .ref aI, .int hi]))]) hP hD hS hA [0] (by decide +kernel) rfl
                    refine va_callv (va_runV (As := []) (rest := []) ⟨hx, hb, hml, hown, hts⟩ (g_X11_bad_m l dC dI cI cJ h0 th tB tsz u62_0 dp rC rV rD rK rT rS rU lw tx rL rX qR qB qP m49_F_h0_20 m49_F_h0_21 aR aB aP nb np aN rf ho br aK ac dw aE sr sf aA aH aI hi H.size y_ac y_hi y_ho y_lw y_nb y_np jf49_0 jf49_1 (by omega) n_tsz) (cwV 0 hts (zgV qw1301 qw1303 qw36 qw108 qw1304) rfl rfl rfl hd_X11_bad ⟨by rw [hR]; exact Nat.le_of_ble_eq_true rfl, by rw [hR]; exact Nat.le_of_ble_eq_true rfl⟩) (zPV hPc hK hDc (va_recv (q := (RX11, TX11, 41)) hK hP (ci := 11) (q0 := 0) rfl rfl)) rfl rfl hl.1 rfl (lv_room (Nat.le_of_ble_eq_true rfl)) dX11_readCourt_210 ⟨Nat.zero_le _, Nat.zero_le _⟩) hS (fun q _ h => hFc q h) hFc (fun u210 t H locs ht hvm hw hB hz1 hk1 hS9 => ?_)
                    obtain ⟨hP9, hD9⟩ := zj2 (wX := [(h0, .inr (11, [.int th, .ref tB, .int tsz, .int u62_0, .int u62_0, .int dp, .ref rC, .ref rV, .ref rD, .ref rK, .ref rT, .ref rS, .ref rU, .int lw, .int tx, .ref rL, .ref rX, .ref qR, .ref qB, .ref qP, .int m49_F_h0_20, .int m49_F_h0_21, .ref aR, .ref aB, .ref aP, .int nb, .int np, .ref aN, .ref rf, .int ho, .int br, .ref aK, .int ac, .long dw, .ref aE, .int sr, .int sf, .ref aA, .ref aH, .ref aI, .int hi])), (tB, .inl (cI, 240, .inl fB)), (qR, .inl (cI, 3, .inl m49_A_qR)), (qB, .inl (cI, 24, .inl m49_A_qB)), (qP, .inl (cI, 20, .inl m49_A_qP))]) hP hD hk1 hFc ht hB [0] [(true, 0), (false, 1), (false, 2), (false, 3), (false, 4)] rfl (by decide +kernel) (by decide +kernel) rfl
                    clear hP hD hS hPc hDc hFc hB hk1 hz1 hvm
                    have hP := hP9
                    have hD := hD9
                    have hS := hS9
                    clear hP9 hD9 hS9
                    refine lv_aload_n hx hb dX11_readCourt_213 rfl (lv_at hl 3 rfl) ?_
                    refine va_get (D := (dC, dI)) (ci := 11) (v := .int u62_0) (C := RX11) (T := TX11) (N := 41) hx hb hts iX11 hown hK hP 0 rfl rfl 4 (by decide) (hts _ qw1131) (fun _ h9 => h9) rfl dX11_readCourt_214 ?_
                    refine lv_iconst (v := (-1)) hx hb dX11_readCourt_217 (by decide) ?_
                    refine lv_icmp_ne (tgt := 234) hx hb dX11_readCourt_218 (by decide) (fun c218 => ?_) (fun c218 => by exfalso; have c218 : u62_0.toInt = (-1) := z5 rfl (by decide) c218; omega)
                    have c218 : ¬ u62_0.toInt = (-1) := z6 rfl (by decide) c218
                    refine lv_iconst (v := 0) hx hb dX11_readCourt_234 (by decide) ?_
                    refine lv_istore_n (lv' := [(2, .int 0), (3, .int v62), (1, .int m49_L_1), (0, .ref h0)]) hx hb dX11_readCourt_235 rfl hl (by decide) rfl (fun ls hl => ?_)
                    refine lv_aload_n hx hb dX11_readCourt_236 rfl (lv_at hl 3 rfl) ?_
                    refine lv_dup hx hb dX11_readCourt_237 rfl ?_
                    refine va_get (D := (dC, dI)) (ci := 11) (v := .int u62_0) (C := RX11) (T := TX11) (N := 41) hx hb hts iX11 hown hK hP 0 rfl rfl 3 (by decide) (hts _ qw1130) (fun _ h9 => h9) rfl dX11_readCourt_238 ?_
                    refine lv_iload_n hx hb dX11_readCourt_241 rfl (lv_at hl 0 rfl) ?_
                    refine lv_if_eq (tgt := 249) hx hb dX11_readCourt_242 (by decide) (fun _ => ?_) (fun c => absurd (by decide) c)
                    refine lv_iconst (v := 0) hx hb dX11_readCourt_249 (by decide) ?_
                    refine lv_iadd hx hb dX11_readCourt_250 ?_
                    refine lv_topi (fun v250 e250 => ?_)
                    have i250 : v250.toInt = u62_0.toInt + 0 := zadd e250 rfl (by decide) (by omega) (by omega)
                    refine va_put (D := (dC, dI)) (ci := 11) (v := .int v250) (ty := .int) (C := RX11) (T := TX11) (N := 41) hx hb hts iX11 tyX11 tyX11_ok nmX11 hown hK hP hD hS 0 rfl rfl 3 (by decide) (hts _ qw1130) (fun _ h9 => h9) rfl (by decide +kernel) rfl rfl (Nat.le_of_ble_eq_true rfl) dX11_readCourt_251 (fun H locs hP9 hD9 hS9 => ?_)
                    clear hP hD hS
                    obtain ⟨hP, hD⟩ := zst (wX := [(h0, .inr (11, [.int th, .ref tB, .int tsz, .int v250, .int u62_0, .int dp, .ref rC, .ref rV, .ref rD, .ref rK, .ref rT, .ref rS, .ref rU, .int lw, .int tx, .ref rL, .ref rX, .ref qR, .ref qB, .ref qP, .int m49_F_h0_20, .int m49_F_h0_21, .ref aR, .ref aB, .ref aP, .int nb, .int np, .ref aN, .ref rf, .int ho, .int br, .ref aK, .int ac, .long dw, .ref aE, .int sr, .int sf, .ref aA, .ref aH, .ref aI, .int hi])), (tB, .inl (cI, 240, .inl fB)), (qR, .inl (cI, 3, .inl m49_A_qR)), (qB, .inl (cI, 24, .inl m49_A_qB)), (qP, .inl (cI, 20, .inl m49_A_qP))]) hP9 hD9 rfl
                    have hS := hS9
                    clear hP9 hD9 hS9
                    refine lv_goto (tgt := 49) hx hb dX11_readCourt_254 (by decide) ?_
                    have zj49_m49_L_2 : (0 : Int32).toInt = 0 := by decide
                    exact ih49 _ (by omega) m49_A_qB m49_A_qP m49_A_qR m49_F_h0_20 m49_F_h0_21 v250 u62_0 m49_L_1 0 jf49_0 jf49_1 (by omega) (by omega) jf49_4 (by decide) (by first | exact zRc_b jv49_0 f140_5 (by omega) (by omega) (by omega) (by omega) (by omega) | exact zRc_p jv49_0 f193_5 (by omega) (by omega) (by omega) (by omega) (by omega) | exact zRc_m jv49_0 (by omega)) (by first | exact zrr_m jv49_1 (by omega) (zrc_s F62 (by omega) (by omega) i84 F96) (by omega) F222 (by omega) (by omega) (by decide) | exact zrr_e jv49_1 (by omega) (zrc_s F62 (by omega) (by omega) i84 F96) (by omega) F222 (by omega) (by omega) (by decide) | exact zrr_w jv49_1 (by omega) (zrc_s F62 (by omega) (by omega) i84 F96) (by omega) (by decide) | exact zrr_m jv49_1 (by omega) (zrc_b F62 (by omega) (by omega) i123 i149 F140) (by omega) F222 (by omega) (by omega) (by decide) | exact zrr_e jv49_1 (by omega) (zrc_b F62 (by omega) (by omega) i123 i149 F140) (by omega) F222 (by omega) (by omega) (by decide) | exact zrr_w jv49_1 (by omega) (zrc_b F62 (by omega) (by omega) i123 i149 F140) (by omega) (by decide) | exact zrr_m jv49_1 (by omega) (zrc_p F62 (by omega) (by omega) i176 i202 F193) (by omega) F222 (by omega) (by omega) (by decide) | exact zrr_e jv49_1 (by omega) (zrc_p F62 (by omega) (by omega) i176 i202 F193) (by omega) F222 (by omega) (by omega) (by decide) | exact zrr_w jv49_1 (by omega) (zrc_p F62 (by omega) (by omega) i176 i202 F193) (by omega) (by decide) | exact zrr_m jv49_1 (by omega) (zrc_n (w := u62_0) F62 (by omega) (by omega) (by omega) (by omega) (by omega)) (by omega) F222 (by omega) (by omega) (by decide) | exact zrr_e jv49_1 (by omega) (zrc_n (w := u62_0) F62 (by omega) (by omega) (by omega) (by omega) (by omega)) (by omega) F222 (by omega) (by omega) (by decide) | exact zrr_w jv49_1 (by omega) (zrc_n (w := u62_0) F62 (by omega) (by omega) (by omega) (by omega) (by omega)) (by omega) (by decide)) (by first | exact zrrV_w (by omega) | exact zrrV_m jv49_2 (by omega) (by omega) (zrc_s F62 (by omega) (by omega) i84 F96) (zrw_s F62 (by omega) (by omega) i84 rfl F96_1) (by omega) F222 (by omega) (by omega) (by decide) | exact zrrV_e jv49_2 (by omega) (by omega) (zrc_s F62 (by omega) (by omega) i84 F96) (zrw_s F62 (by omega) (by omega) i84 rfl F96_1) (by omega) F222 (by omega) (by decide) | exact zrrV_m jv49_2 (by omega) (by omega) (zrc_b F62 (by omega) (by omega) i123 i149 F140) (zrw_b F62 (by omega) (by omega) i123 i149 (by omega) F140_1) (by omega) F222 (by omega) (by omega) (by decide) | exact zrrV_e jv49_2 (by omega) (by omega) (zrc_b F62 (by omega) (by omega) i123 i149 F140) (zrw_b F62 (by omega) (by omega) i123 i149 (by omega) F140_1) (by omega) F222 (by omega) (by decide) | exact zrrV_m jv49_2 (by omega) (by omega) (zrc_p F62 (by omega) (by omega) i176 i202 F193) (zrw_p F62 (by omega) (by omega) i176 i202 (by omega) F193_1) (by omega) F222 (by omega) (by omega) (by decide) | exact zrrV_e jv49_2 (by omega) (by omega) (zrc_p F62 (by omega) (by omega) i176 i202 F193) (zrw_p F62 (by omega) (by omega) i176 i202 (by omega) F193_1) (by omega) F222 (by omega) (by decide)) rfl H locs ls hP hD hS (lv_sub hl [0, 2, 3] rfl)
                  · have c73 : m49_L_1.toInt = 0 := z5 rfl (by decide) c73
                    refine lv_iconst (v := 1) hx hb dX11_readCourt_76 (by decide) ?_
                    refine lv_istore_n (lv' := [(1, .int 1), (3, .int v62), (2, .int m49_L_2), (0, .ref h0)]) hx hb dX11_readCourt_77 rfl hl (by decide) rfl (fun ls hl => ?_)
                    refine lv_aload_n hx hb dX11_readCourt_78 rfl (lv_at hl 3 rfl) ?_
                    refine lv_dup hx hb dX11_readCourt_79 rfl ?_
                    refine va_get (D := (dC, dI)) (ci := 11) (v := .int u62_0) (C := RX11) (T := TX11) (N := 41) hx hb hts iX11 hown hK hP 0 rfl rfl 3 (by decide) (hts _ qw1130) (fun _ h9 => h9) rfl dX11_readCourt_80 ?_
                    refine lv_iconst (v := 1) hx hb dX11_readCourt_83 (by decide) ?_
                    refine lv_iadd hx hb dX11_readCourt_84 ?_
                    refine lv_topi (fun v84 e84 => ?_)
                    have i84 : v84.toInt = u62_0.toInt + 1 := zadd e84 rfl (by decide) (by omega) (by omega)
                    refine va_put (D := (dC, dI)) (ci := 11) (v := .int v84) (ty := .int) (C := RX11) (T := TX11) (N := 41) hx hb hts iX11 tyX11 tyX11_ok nmX11 hown hK hP hD hS 0 rfl rfl 3 (by decide) (hts _ qw1130) (fun _ h9 => h9) rfl (by decide +kernel) rfl rfl (Nat.le_of_ble_eq_true rfl) dX11_readCourt_85 (fun H locs hP9 hD9 hS9 => ?_)
                    clear hP hD hS
                    obtain ⟨hP, hD⟩ := zst (wX := [(h0, .inr (11, [.int th, .ref tB, .int tsz, .int v84, .int m49_F_h0_4, .int dp, .ref rC, .ref rV, .ref rD, .ref rK, .ref rT, .ref rS, .ref rU, .int lw, .int tx, .ref rL, .ref rX, .ref qR, .ref qB, .ref qP, .int m49_F_h0_20, .int m49_F_h0_21, .ref aR, .ref aB, .ref aP, .int nb, .int np, .ref aN, .ref rf, .int ho, .int br, .ref aK, .int ac, .long dw, .ref aE, .int sr, .int sf, .ref aA, .ref aH, .ref aI, .int hi])), (tB, .inl (cI, 240, .inl fB)), (qR, .inl (cI, 3, .inl m49_A_qR)), (qB, .inl (cI, 24, .inl m49_A_qB)), (qP, .inl (cI, 20, .inl m49_A_qP))]) hP9 hD9 rfl
                    have hS := hS9
                    clear hP9 hD9 hS9
                    refine lv_aload_n hx hb dX11_readCourt_88 rfl (lv_at hl 3 rfl) ?_
                    refine lv_iload_n hx hb dX11_readCourt_89 rfl (lv_at hl 1 rfl) ?_
                    refine lv_aload_n hx hb dX11_readCourt_90 rfl (lv_at hl 3 rfl) ?_
                    refine va_get (D := (dC, dI)) (ci := 11) (v := .ref qR) (C := RX11) (T := TX11) (N := 41) hx hb hts iX11 hown hK hP 0 rfl rfl 17 (by decide) (hts _ qw1144) (fun _ h9 => h9) rfl dX11_readCourt_91 ?_
                    refine lv_iconst (v := 0) hx hb dX11_readCourt_94 (by decide) ?_
                    refine lv_iconst (v := 3) hx hb dX11_readCourt_95 (by decide) ?_
                    have zx_v62 : (115 : Int32).toInt = 115 := by decide
                    have zy_v62 : v62 = 115 := z7 (a := 115) (by decide) (by omega)
                    rw [zy_v62] at hl
                    rw [zy_v62]
                    have zx_m49_F_h0_4 : ((-1) : Int32).toInt = (-1) := by decide
                    have zy_m49_F_h0_4 : m49_F_h0_4 = (-1) := z7 (a := (-1)) (by decide) (by omega)
                    rw [zy_m49_F_h0_4] at hP hD
                    obtain ⟨hPc, hDc, hFc⟩ := zc3 (wc := [(h0, .inr (11, [.int th, .ref tB, .int tsz, .int v84, .int (-1), .int dp, .ref rC, .ref rV, .ref rD, .ref rK, .ref rT, .ref rS, .ref rU, .int lw, .int tx, .ref rL, .ref rX, .ref qR, .ref qB, .ref qP, .int m49_F_h0_20, .int m49_F_h0_21, .ref aR, .ref aB, .ref aP, .int nb, .int np, .ref aN, .ref rf, .int ho, .int br, .ref aK, .int ac, .long dw, .ref aE, .int sr, .int sf, .ref aA, .ref aH, .ref aI, .int hi])), (tB, .inl (cI, 240, .inl fB)), (qR, .inl (cI, 3, .inl m49_A_qR))]) hP hD hS hA [0, 1, 2] (by decide +kernel) rfl
                    refine va_callv (va_runV (As := [.int 115, .ref qR, .int 0, .int 3]) (rest := []) ⟨hx, hb, hml, hown, hts⟩ (g_X11_items_s l dC dI cI cJ h0 qR th tB tsz v84 dp rC rV rD rK rT rS rU lw tx rL rX qR qB qP m49_F_h0_20 m49_F_h0_21 aR aB aP nb np aN rf ho br aK ac dw aE sr sf aA aH aI hi fB m49_A_qR H.size y_ac y_hi y_ho y_lw y_nb y_np jf49_0 jf49_1 (by omega) n_tsz) (cwV 4 hts (zgV qw1281 qw1283 qw34 qw108 qw1284) rfl rfl rfl hd_X11_items ⟨by rw [hR]; exact Nat.le_of_ble_eq_true rfl, by rw [hR]; exact Nat.le_of_ble_eq_true rfl⟩) (zPV hPc hK hDc (va_recv (q := (RX11, TX11, 41)) hK hP (ci := 11) (q0 := 0) rfl rfl)) rfl rfl hl.1 rfl (lv_room (Nat.le_of_ble_eq_true rfl)) dX11_readCourt_96 ⟨Nat.zero_le _, Nat.zero_le _⟩) hS (fun q _ h => hFc q h) hFc (fun u96 t H locs ht hvm hw hB hz1 hk1 hS9 => ?_)
                    obtain ⟨u96_0, u96_1, u96_2⟩ := u96
                    obtain ⟨hP9, hD9⟩ := zj2 (wX := [(h0, .inr (11, [.int th, .ref tB, .int tsz, .int u96_0, .int u96_1, .int dp, .ref rC, .ref rV, .ref rD, .ref rK, .ref rT, .ref rS, .ref rU, .int lw, .int tx, .ref rL, .ref rX, .ref qR, .ref qB, .ref qP, .int m49_F_h0_20, .int m49_F_h0_21, .ref aR, .ref aB, .ref aP, .int nb, .int np, .ref aN, .ref rf, .int ho, .int br, .ref aK, .int ac, .long dw, .ref aE, .int sr, .int sf, .ref aA, .ref aH, .ref aI, .int hi])), (tB, .inl (cI, 240, .inl fB)), (qR, .inl (cI, 3, .inl u96_2)), (qB, .inl (cI, 24, .inl m49_A_qB)), (qP, .inl (cI, 20, .inl m49_A_qP))]) hP hD hk1 hFc ht hB [0, 1, 2] [(true, 0), (true, 1), (true, 2), (false, 3), (false, 4)] rfl (by decide +kernel) (by decide +kernel) rfl
                    clear hP hD hS hPc hDc hFc hB hk1 hz1 hvm
                    have hP := hP9
                    have hD := hD9
                    have hS := hS9
                    clear hP9 hD9 hS9
                    obtain ⟨f96_0, f96_1, f96_2, f96_3, f96_4, f96_5, f96_6⟩ : (0 ≤ u96_0.toInt) ∧ (u96_0.toInt ≤ 240) ∧ ((-1) ≤ u96_1.toInt) ∧ (u96_1.toInt ≤ 240) ∧ (v84.toInt ≤ u96_0.toInt) ∧ (zW (sIts (sB fB tsz.toInt) tsz.toInt 0 0 v84.toInt) u96_1 u96_0) ∧ (u96_1.toInt = -1 → zIg fB tsz 0 3 0 v84.toInt m49_A_qR u96_2) := hw
                    have F96 := f96_5
                    have F96_1 : zHid (u96_1.toInt = -1 → zIg fB tsz 0 3 0 v84.toInt m49_A_qR u96_2) := f96_6
                    clear f96_6
                    refine lv_goto (tgt := 213) hx hb dX11_readCourt_99 (by decide) ?_
                    refine lv_aload_n hx hb dX11_readCourt_213 rfl (lv_at hl 3 rfl) ?_
                    refine va_get (D := (dC, dI)) (ci := 11) (v := .int u96_1) (C := RX11) (T := TX11) (N := 41) hx hb hts iX11 hown hK hP 0 rfl rfl 4 (by decide) (hts _ qw1131) (fun _ h9 => h9) rfl dX11_readCourt_214 ?_
                    refine lv_iconst (v := (-1)) hx hb dX11_readCourt_217 (by decide) ?_
                    refine lv_icmp_ne (tgt := 234) hx hb dX11_readCourt_218 (by decide) (fun c218 => ?_) (fun c218 => ?_)
                    · have c218 : ¬ u96_1.toInt = (-1) := z6 rfl (by decide) c218
                      refine lv_iconst (v := 0) hx hb dX11_readCourt_234 (by decide) ?_
                      refine lv_istore_n (lv' := [(2, .int 0), (1, .int 1), (3, .int 115), (0, .ref h0)]) hx hb dX11_readCourt_235 rfl hl (by decide) rfl (fun ls hl => ?_)
                      refine lv_aload_n hx hb dX11_readCourt_236 rfl (lv_at hl 3 rfl) ?_
                      refine lv_dup hx hb dX11_readCourt_237 rfl ?_
                      refine va_get (D := (dC, dI)) (ci := 11) (v := .int u96_0) (C := RX11) (T := TX11) (N := 41) hx hb hts iX11 hown hK hP 0 rfl rfl 3 (by decide) (hts _ qw1130) (fun _ h9 => h9) rfl dX11_readCourt_238 ?_
                      refine lv_iload_n hx hb dX11_readCourt_241 rfl (lv_at hl 0 rfl) ?_
                      refine lv_if_eq (tgt := 249) hx hb dX11_readCourt_242 (by decide) (fun _ => ?_) (fun c => absurd (by decide) c)
                      refine lv_iconst (v := 0) hx hb dX11_readCourt_249 (by decide) ?_
                      refine lv_iadd hx hb dX11_readCourt_250 ?_
                      refine lv_topi (fun v250 e250 => ?_)
                      have i250 : v250.toInt = u96_0.toInt + 0 := zadd e250 rfl (by decide) (by omega) (by omega)
                      refine va_put (D := (dC, dI)) (ci := 11) (v := .int v250) (ty := .int) (C := RX11) (T := TX11) (N := 41) hx hb hts iX11 tyX11 tyX11_ok nmX11 hown hK hP hD hS 0 rfl rfl 3 (by decide) (hts _ qw1130) (fun _ h9 => h9) rfl (by decide +kernel) rfl rfl (Nat.le_of_ble_eq_true rfl) dX11_readCourt_251 (fun H locs hP9 hD9 hS9 => ?_)
                      clear hP hD hS
                      obtain ⟨hP, hD⟩ := zst (wX := [(h0, .inr (11, [.int th, .ref tB, .int tsz, .int v250, .int u96_1, .int dp, .ref rC, .ref rV, .ref rD, .ref rK, .ref rT, .ref rS, .ref rU, .int lw, .int tx, .ref rL, .ref rX, .ref qR, .ref qB, .ref qP, .int m49_F_h0_20, .int m49_F_h0_21, .ref aR, .ref aB, .ref aP, .int nb, .int np, .ref aN, .ref rf, .int ho, .int br, .ref aK, .int ac, .long dw, .ref aE, .int sr, .int sf, .ref aA, .ref aH, .ref aI, .int hi])), (tB, .inl (cI, 240, .inl fB)), (qR, .inl (cI, 3, .inl u96_2)), (qB, .inl (cI, 24, .inl m49_A_qB)), (qP, .inl (cI, 20, .inl m49_A_qP))]) hP9 hD9 rfl
                      have hS := hS9
                      clear hP9 hD9 hS9
                      refine lv_goto (tgt := 49) hx hb dX11_readCourt_254 (by decide) ?_
                      have zj49_m49_L_1 : (1 : Int32).toInt = 1 := by decide
                      have zj49_m49_L_2 : (0 : Int32).toInt = 0 := by decide
                      exact ih49 _ (by omega) m49_A_qB m49_A_qP u96_2 m49_F_h0_20 m49_F_h0_21 v250 u96_1 1 0 jf49_0 jf49_1 (by omega) ⟨f96_2, f96_3⟩ (by decide) (by decide) (by first | exact zRc_b jv49_0 f140_5 (by omega) (by omega) (by omega) (by omega) (by omega) | exact zRc_p jv49_0 f193_5 (by omega) (by omega) (by omega) (by omega) (by omega) | exact zRc_m jv49_0 (by omega)) (by first | exact zrr_m jv49_1 (by omega) (zrc_s F62 (by omega) (by omega) i84 F96) (by omega) F222 (by omega) (by omega) (by decide) | exact zrr_e jv49_1 (by omega) (zrc_s F62 (by omega) (by omega) i84 F96) (by omega) F222 (by omega) (by omega) (by decide) | exact zrr_w jv49_1 (by omega) (zrc_s F62 (by omega) (by omega) i84 F96) (by omega) (by decide) | exact zrr_m jv49_1 (by omega) (zrc_b F62 (by omega) (by omega) i123 i149 F140) (by omega) F222 (by omega) (by omega) (by decide) | exact zrr_e jv49_1 (by omega) (zrc_b F62 (by omega) (by omega) i123 i149 F140) (by omega) F222 (by omega) (by omega) (by decide) | exact zrr_w jv49_1 (by omega) (zrc_b F62 (by omega) (by omega) i123 i149 F140) (by omega) (by decide) | exact zrr_m jv49_1 (by omega) (zrc_p F62 (by omega) (by omega) i176 i202 F193) (by omega) F222 (by omega) (by omega) (by decide) | exact zrr_e jv49_1 (by omega) (zrc_p F62 (by omega) (by omega) i176 i202 F193) (by omega) F222 (by omega) (by omega) (by decide) | exact zrr_w jv49_1 (by omega) (zrc_p F62 (by omega) (by omega) i176 i202 F193) (by omega) (by decide) | exact zrr_m jv49_1 (by omega) (zrc_n (w := u62_0) F62 (by omega) (by omega) (by omega) (by omega) (by omega)) (by omega) F222 (by omega) (by omega) (by decide) | exact zrr_e jv49_1 (by omega) (zrc_n (w := u62_0) F62 (by omega) (by omega) (by omega) (by omega) (by omega)) (by omega) F222 (by omega) (by omega) (by decide) | exact zrr_w jv49_1 (by omega) (zrc_n (w := u62_0) F62 (by omega) (by omega) (by omega) (by omega) (by omega)) (by omega) (by decide)) (by first | exact zrrV_w (by omega) | exact zrrV_m jv49_2 (by omega) (by omega) (zrc_s F62 (by omega) (by omega) i84 F96) (zrw_s F62 (by omega) (by omega) i84 rfl F96_1) (by omega) F222 (by omega) (by omega) (by decide) | exact zrrV_e jv49_2 (by omega) (by omega) (zrc_s F62 (by omega) (by omega) i84 F96) (zrw_s F62 (by omega) (by omega) i84 rfl F96_1) (by omega) F222 (by omega) (by decide) | exact zrrV_m jv49_2 (by omega) (by omega) (zrc_b F62 (by omega) (by omega) i123 i149 F140) (zrw_b F62 (by omega) (by omega) i123 i149 (by omega) F140_1) (by omega) F222 (by omega) (by omega) (by decide) | exact zrrV_e jv49_2 (by omega) (by omega) (zrc_b F62 (by omega) (by omega) i123 i149 F140) (zrw_b F62 (by omega) (by omega) i123 i149 (by omega) F140_1) (by omega) F222 (by omega) (by decide) | exact zrrV_m jv49_2 (by omega) (by omega) (zrc_p F62 (by omega) (by omega) i176 i202 F193) (zrw_p F62 (by omega) (by omega) i176 i202 (by omega) F193_1) (by omega) F222 (by omega) (by omega) (by decide) | exact zrrV_e jv49_2 (by omega) (by omega) (zrc_p F62 (by omega) (by omega) i176 i202 F193) (zrw_p F62 (by omega) (by omega) i176 i202 (by omega) F193_1) (by omega) F222 (by omega) (by decide)) rfl H locs ls hP hD hS (lv_sub hl [0, 1, 3] rfl)
                    · have c218 : u96_1.toInt = (-1) := z5 rfl (by decide) c218
                      refine lv_aload_n hx hb dX11_readCourt_221 rfl (lv_at hl 3 rfl) ?_
                      obtain ⟨hPc, hDc, hFc⟩ := zc3 (wc := [(h0, .inr (11, [.int th, .ref tB, .int tsz, .int u96_0, .int u96_1, .int dp, .ref rC, .ref rV, .ref rD, .ref rK, .ref rT, .ref rS, .ref rU, .int lw, .int tx, .ref rL, .ref rX, .ref qR, .ref qB, .ref qP, .int m49_F_h0_20, .int m49_F_h0_21, .ref aR, .ref aB, .ref aP, .int nb, .int np, .ref aN, .ref rf, .int ho, .int br, .ref aK, .int ac, .long dw, .ref aE, .int sr, .int sf, .ref aA, .ref aH, .ref aI, .int hi])), (tB, .inl (cI, 240, .inl fB))]) hP hD hS hA [0, 1] (by decide +kernel) rfl
                      refine va_calli (va_runV (As := []) (rest := []) ⟨hx, hb, hml, hown, hts⟩ (g_X11_look_u l dC dI cI cJ h0 th tB tsz u96_0 u96_1 dp rC rV rD rK rT rS rU lw tx rL rX qR qB qP m49_F_h0_20 m49_F_h0_21 aR aB aP nb np aN rf ho br aK ac dw aE sr sf aA aH aI hi fB H.size y_ac y_hi y_ho y_lw y_nb y_np jf49_0 jf49_1 ⟨f96_0, f96_1⟩ n_tsz (by omega)) (cwV 0 hts (zgV qw1273 qw1275 qw32 qw108 qw1276) rfl rfl rfl hd_X11_look ⟨by rw [hR]; exact Nat.le_of_ble_eq_true rfl, by rw [hR]; exact Nat.le_of_ble_eq_true rfl⟩) (zPV hPc hK hDc (va_recv (q := (RX11, TX11, 41)) hK hP (ci := 11) (q0 := 0) rfl rfl)) rfl rfl hl.1 rfl (lv_room (Nat.le_of_ble_eq_true rfl)) dX11_readCourt_222 ⟨Nat.zero_le _, Nat.zero_le _⟩) hS (fun q _ h => hFc q h) hFc (fun v222 u222 t H locs ht hvm hw hB hz1 hk1 hS9 => ?_)
                      obtain ⟨u222_0, rfl⟩ : ∃ z, z = u222 := ⟨_, rfl⟩
                      obtain ⟨hP9, hD9⟩ := zj2 (wX := [(h0, .inr (11, [.int th, .ref tB, .int tsz, .int u222_0, .int u96_1, .int dp, .ref rC, .ref rV, .ref rD, .ref rK, .ref rT, .ref rS, .ref rU, .int lw, .int tx, .ref rL, .ref rX, .ref qR, .ref qB, .ref qP, .int m49_F_h0_20, .int m49_F_h0_21, .ref aR, .ref aB, .ref aP, .int nb, .int np, .ref aN, .ref rf, .int ho, .int br, .ref aK, .int ac, .long dw, .ref aE, .int sr, .int sf, .ref aA, .ref aH, .ref aI, .int hi])), (tB, .inl (cI, 240, .inl fB)), (qR, .inl (cI, 3, .inl u96_2)), (qB, .inl (cI, 24, .inl m49_A_qB)), (qP, .inl (cI, 20, .inl m49_A_qP))]) hP hD hk1 hFc ht hB [0, 1] [(true, 0), (true, 1), (false, 2), (false, 3), (false, 4)] rfl (by decide +kernel) (by decide +kernel) rfl
                      clear hP hD hS hPc hDc hFc hB hk1 hz1 hvm
                      have hP := hP9
                      have hD := hD9
                      have hS := hS9
                      clear hP9 hD9 hS9
                      obtain ⟨f222_0, f222_1, f222_2, f222_3, f222_4⟩ : (0 ≤ u222_0.toInt) ∧ (u222_0.toInt ≤ 240) ∧ (¬ v222.toInt = -1 → u222_0.toInt < tsz.toInt) ∧ (u96_0.toInt ≤ u222_0.toInt) ∧ (zLk fB tsz u96_0 v222 u222_0) := hw
                      have F222 := f222_4
                      refine lv_bipush (v := 59) hx hb dX11_readCourt_225 (by decide) ?_
                      refine lv_icmp_ne (tgt := 234) hx hb dX11_readCourt_227 (by decide) (fun c227 => ?_) (fun c227 => ?_)
                      · have c227 : ¬ v222.toInt = 59 := z6 rfl (by decide) c227
                        refine lv_iconst (v := 0) hx hb dX11_readCourt_234 (by decide) ?_
                        refine lv_istore_n (lv' := [(2, .int 0), (1, .int 1), (3, .int 115), (0, .ref h0)]) hx hb dX11_readCourt_235 rfl hl (by decide) rfl (fun ls hl => ?_)
                        refine lv_aload_n hx hb dX11_readCourt_236 rfl (lv_at hl 3 rfl) ?_
                        refine lv_dup hx hb dX11_readCourt_237 rfl ?_
                        refine va_get (D := (dC, dI)) (ci := 11) (v := .int u222_0) (C := RX11) (T := TX11) (N := 41) hx hb hts iX11 hown hK hP 0 rfl rfl 3 (by decide) (hts _ qw1130) (fun _ h9 => h9) rfl dX11_readCourt_238 ?_
                        refine lv_iload_n hx hb dX11_readCourt_241 rfl (lv_at hl 0 rfl) ?_
                        refine lv_if_eq (tgt := 249) hx hb dX11_readCourt_242 (by decide) (fun _ => ?_) (fun c => absurd (by decide) c)
                        refine lv_iconst (v := 0) hx hb dX11_readCourt_249 (by decide) ?_
                        refine lv_iadd hx hb dX11_readCourt_250 ?_
                        refine lv_topi (fun v250 e250 => ?_)
                        have i250 : v250.toInt = u222_0.toInt + 0 := zadd e250 rfl (by decide) (by omega) (by omega)
                        refine va_put (D := (dC, dI)) (ci := 11) (v := .int v250) (ty := .int) (C := RX11) (T := TX11) (N := 41) hx hb hts iX11 tyX11 tyX11_ok nmX11 hown hK hP hD hS 0 rfl rfl 3 (by decide) (hts _ qw1130) (fun _ h9 => h9) rfl (by decide +kernel) rfl rfl (Nat.le_of_ble_eq_true rfl) dX11_readCourt_251 (fun H locs hP9 hD9 hS9 => ?_)
                        clear hP hD hS
                        obtain ⟨hP, hD⟩ := zst (wX := [(h0, .inr (11, [.int th, .ref tB, .int tsz, .int v250, .int u96_1, .int dp, .ref rC, .ref rV, .ref rD, .ref rK, .ref rT, .ref rS, .ref rU, .int lw, .int tx, .ref rL, .ref rX, .ref qR, .ref qB, .ref qP, .int m49_F_h0_20, .int m49_F_h0_21, .ref aR, .ref aB, .ref aP, .int nb, .int np, .ref aN, .ref rf, .int ho, .int br, .ref aK, .int ac, .long dw, .ref aE, .int sr, .int sf, .ref aA, .ref aH, .ref aI, .int hi])), (tB, .inl (cI, 240, .inl fB)), (qR, .inl (cI, 3, .inl u96_2)), (qB, .inl (cI, 24, .inl m49_A_qB)), (qP, .inl (cI, 20, .inl m49_A_qP))]) hP9 hD9 rfl
                        have hS := hS9
                        clear hP9 hD9 hS9
                        refine lv_goto (tgt := 49) hx hb dX11_readCourt_254 (by decide) ?_
                        have zj49_m49_L_1 : (1 : Int32).toInt = 1 := by decide
                        have zj49_m49_L_2 : (0 : Int32).toInt = 0 := by decide
                        exact ih49 _ (by omega) m49_A_qB m49_A_qP u96_2 m49_F_h0_20 m49_F_h0_21 v250 u96_1 1 0 jf49_0 jf49_1 (by omega) ⟨f96_2, f96_3⟩ (by decide) (by decide) (by first | exact zRc_b jv49_0 f140_5 (by omega) (by omega) (by omega) (by omega) (by omega) | exact zRc_p jv49_0 f193_5 (by omega) (by omega) (by omega) (by omega) (by omega) | exact zRc_m jv49_0 (by omega)) (by first | exact zrr_m jv49_1 (by omega) (zrc_s F62 (by omega) (by omega) i84 F96) (by omega) F222 (by omega) (by omega) (by decide) | exact zrr_e jv49_1 (by omega) (zrc_s F62 (by omega) (by omega) i84 F96) (by omega) F222 (by omega) (by omega) (by decide) | exact zrr_w jv49_1 (by omega) (zrc_s F62 (by omega) (by omega) i84 F96) (by omega) (by decide) | exact zrr_m jv49_1 (by omega) (zrc_b F62 (by omega) (by omega) i123 i149 F140) (by omega) F222 (by omega) (by omega) (by decide) | exact zrr_e jv49_1 (by omega) (zrc_b F62 (by omega) (by omega) i123 i149 F140) (by omega) F222 (by omega) (by omega) (by decide) | exact zrr_w jv49_1 (by omega) (zrc_b F62 (by omega) (by omega) i123 i149 F140) (by omega) (by decide) | exact zrr_m jv49_1 (by omega) (zrc_p F62 (by omega) (by omega) i176 i202 F193) (by omega) F222 (by omega) (by omega) (by decide) | exact zrr_e jv49_1 (by omega) (zrc_p F62 (by omega) (by omega) i176 i202 F193) (by omega) F222 (by omega) (by omega) (by decide) | exact zrr_w jv49_1 (by omega) (zrc_p F62 (by omega) (by omega) i176 i202 F193) (by omega) (by decide) | exact zrr_m jv49_1 (by omega) (zrc_n (w := u62_0) F62 (by omega) (by omega) (by omega) (by omega) (by omega)) (by omega) F222 (by omega) (by omega) (by decide) | exact zrr_e jv49_1 (by omega) (zrc_n (w := u62_0) F62 (by omega) (by omega) (by omega) (by omega) (by omega)) (by omega) F222 (by omega) (by omega) (by decide) | exact zrr_w jv49_1 (by omega) (zrc_n (w := u62_0) F62 (by omega) (by omega) (by omega) (by omega) (by omega)) (by omega) (by decide)) (by first | exact zrrV_w (by omega) | exact zrrV_m jv49_2 (by omega) (by omega) (zrc_s F62 (by omega) (by omega) i84 F96) (zrw_s F62 (by omega) (by omega) i84 rfl F96_1) (by omega) F222 (by omega) (by omega) (by decide) | exact zrrV_e jv49_2 (by omega) (by omega) (zrc_s F62 (by omega) (by omega) i84 F96) (zrw_s F62 (by omega) (by omega) i84 rfl F96_1) (by omega) F222 (by omega) (by decide) | exact zrrV_m jv49_2 (by omega) (by omega) (zrc_b F62 (by omega) (by omega) i123 i149 F140) (zrw_b F62 (by omega) (by omega) i123 i149 (by omega) F140_1) (by omega) F222 (by omega) (by omega) (by decide) | exact zrrV_e jv49_2 (by omega) (by omega) (zrc_b F62 (by omega) (by omega) i123 i149 F140) (zrw_b F62 (by omega) (by omega) i123 i149 (by omega) F140_1) (by omega) F222 (by omega) (by decide) | exact zrrV_m jv49_2 (by omega) (by omega) (zrc_p F62 (by omega) (by omega) i176 i202 F193) (zrw_p F62 (by omega) (by omega) i176 i202 (by omega) F193_1) (by omega) F222 (by omega) (by omega) (by decide) | exact zrrV_e jv49_2 (by omega) (by omega) (zrc_p F62 (by omega) (by omega) i176 i202 F193) (zrw_p F62 (by omega) (by omega) i176 i202 (by omega) F193_1) (by omega) F222 (by omega) (by decide)) rfl H locs ls hP hD hS (lv_sub hl [0, 1, 3] rfl)
                      · have c227 : v222.toInt = 59 := z5 rfl (by decide) c227
                        refine lv_iconst (v := 1) hx hb dX11_readCourt_230 (by decide) ?_
                        refine lv_goto (tgt := 235) hx hb dX11_readCourt_231 (by decide) ?_
                        refine lv_istore_n (lv' := [(2, .int 1), (1, .int 1), (3, .int 115), (0, .ref h0)]) hx hb dX11_readCourt_235 rfl hl (by decide) rfl (fun ls hl => ?_)
                        refine lv_aload_n hx hb dX11_readCourt_236 rfl (lv_at hl 3 rfl) ?_
                        refine lv_dup hx hb dX11_readCourt_237 rfl ?_
                        refine va_get (D := (dC, dI)) (ci := 11) (v := .int u222_0) (C := RX11) (T := TX11) (N := 41) hx hb hts iX11 hown hK hP 0 rfl rfl 3 (by decide) (hts _ qw1130) (fun _ h9 => h9) rfl dX11_readCourt_238 ?_
                        refine lv_iload_n hx hb dX11_readCourt_241 rfl (lv_at hl 0 rfl) ?_
                        refine lv_if_eq (tgt := 249) hx hb dX11_readCourt_242 (by decide) (fun c => absurd c (by decide)) (fun _ => ?_)
                        refine lv_iconst (v := 1) hx hb dX11_readCourt_245 (by decide) ?_
                        refine lv_goto (tgt := 250) hx hb dX11_readCourt_246 (by decide) ?_
                        refine lv_iadd hx hb dX11_readCourt_250 ?_
                        refine lv_topi (fun v250 e250 => ?_)
                        have i250 : v250.toInt = u222_0.toInt + 1 := zadd e250 rfl (by decide) (by omega) (by omega)
                        refine va_put (D := (dC, dI)) (ci := 11) (v := .int v250) (ty := .int) (C := RX11) (T := TX11) (N := 41) hx hb hts iX11 tyX11 tyX11_ok nmX11 hown hK hP hD hS 0 rfl rfl 3 (by decide) (hts _ qw1130) (fun _ h9 => h9) rfl (by decide +kernel) rfl rfl (Nat.le_of_ble_eq_true rfl) dX11_readCourt_251 (fun H locs hP9 hD9 hS9 => ?_)
                        clear hP hD hS
                        obtain ⟨hP, hD⟩ := zst (wX := [(h0, .inr (11, [.int th, .ref tB, .int tsz, .int v250, .int u96_1, .int dp, .ref rC, .ref rV, .ref rD, .ref rK, .ref rT, .ref rS, .ref rU, .int lw, .int tx, .ref rL, .ref rX, .ref qR, .ref qB, .ref qP, .int m49_F_h0_20, .int m49_F_h0_21, .ref aR, .ref aB, .ref aP, .int nb, .int np, .ref aN, .ref rf, .int ho, .int br, .ref aK, .int ac, .long dw, .ref aE, .int sr, .int sf, .ref aA, .ref aH, .ref aI, .int hi])), (tB, .inl (cI, 240, .inl fB)), (qR, .inl (cI, 3, .inl u96_2)), (qB, .inl (cI, 24, .inl m49_A_qB)), (qP, .inl (cI, 20, .inl m49_A_qP))]) hP9 hD9 rfl
                        have hS := hS9
                        clear hP9 hD9 hS9
                        refine lv_goto (tgt := 49) hx hb dX11_readCourt_254 (by decide) ?_
                        have zj49_m49_L_1 : (1 : Int32).toInt = 1 := by decide
                        have zj49_m49_L_2 : (1 : Int32).toInt = 1 := by decide
                        exact ih49 _ (by omega) m49_A_qB m49_A_qP u96_2 m49_F_h0_20 m49_F_h0_21 v250 u96_1 1 1 jf49_0 jf49_1 (by omega) ⟨f96_2, f96_3⟩ (by decide) (by decide) (by first | exact zRc_b jv49_0 f140_5 (by omega) (by omega) (by omega) (by omega) (by omega) | exact zRc_p jv49_0 f193_5 (by omega) (by omega) (by omega) (by omega) (by omega) | exact zRc_m jv49_0 (by omega)) (by first | exact zrr_m jv49_1 (by omega) (zrc_s F62 (by omega) (by omega) i84 F96) (by omega) F222 (by omega) (by omega) (by decide) | exact zrr_e jv49_1 (by omega) (zrc_s F62 (by omega) (by omega) i84 F96) (by omega) F222 (by omega) (by omega) (by decide) | exact zrr_w jv49_1 (by omega) (zrc_s F62 (by omega) (by omega) i84 F96) (by omega) (by decide) | exact zrr_m jv49_1 (by omega) (zrc_b F62 (by omega) (by omega) i123 i149 F140) (by omega) F222 (by omega) (by omega) (by decide) | exact zrr_e jv49_1 (by omega) (zrc_b F62 (by omega) (by omega) i123 i149 F140) (by omega) F222 (by omega) (by omega) (by decide) | exact zrr_w jv49_1 (by omega) (zrc_b F62 (by omega) (by omega) i123 i149 F140) (by omega) (by decide) | exact zrr_m jv49_1 (by omega) (zrc_p F62 (by omega) (by omega) i176 i202 F193) (by omega) F222 (by omega) (by omega) (by decide) | exact zrr_e jv49_1 (by omega) (zrc_p F62 (by omega) (by omega) i176 i202 F193) (by omega) F222 (by omega) (by omega) (by decide) | exact zrr_w jv49_1 (by omega) (zrc_p F62 (by omega) (by omega) i176 i202 F193) (by omega) (by decide) | exact zrr_m jv49_1 (by omega) (zrc_n (w := u62_0) F62 (by omega) (by omega) (by omega) (by omega) (by omega)) (by omega) F222 (by omega) (by omega) (by decide) | exact zrr_e jv49_1 (by omega) (zrc_n (w := u62_0) F62 (by omega) (by omega) (by omega) (by omega) (by omega)) (by omega) F222 (by omega) (by omega) (by decide) | exact zrr_w jv49_1 (by omega) (zrc_n (w := u62_0) F62 (by omega) (by omega) (by omega) (by omega) (by omega)) (by omega) (by decide)) (by first | exact zrrV_w (by omega) | exact zrrV_m jv49_2 (by omega) (by omega) (zrc_s F62 (by omega) (by omega) i84 F96) (zrw_s F62 (by omega) (by omega) i84 rfl F96_1) (by omega) F222 (by omega) (by omega) (by decide) | exact zrrV_e jv49_2 (by omega) (by omega) (zrc_s F62 (by omega) (by omega) i84 F96) (zrw_s F62 (by omega) (by omega) i84 rfl F96_1) (by omega) F222 (by omega) (by decide) | exact zrrV_m jv49_2 (by omega) (by omega) (zrc_b F62 (by omega) (by omega) i123 i149 F140) (zrw_b F62 (by omega) (by omega) i123 i149 (by omega) F140_1) (by omega) F222 (by omega) (by omega) (by decide) | exact zrrV_e jv49_2 (by omega) (by omega) (zrc_b F62 (by omega) (by omega) i123 i149 F140) (zrw_b F62 (by omega) (by omega) i123 i149 (by omega) F140_1) (by omega) F222 (by omega) (by decide) | exact zrrV_m jv49_2 (by omega) (by omega) (zrc_p F62 (by omega) (by omega) i176 i202 F193) (zrw_p F62 (by omega) (by omega) i176 i202 (by omega) F193_1) (by omega) F222 (by omega) (by omega) (by decide) | exact zrrV_e jv49_2 (by omega) (by omega) (zrc_p F62 (by omega) (by omega) i176 i202 F193) (zrw_p F62 (by omega) (by omega) i176 i202 (by omega) F193_1) (by omega) F222 (by omega) (by decide)) rfl H locs ls hP hD hS (lv_sub hl [0, 1, 3] rfl)
        refine lv_istore_n (lv' := [(2, .int 1), (1, .int 0), (0, .ref h0)]) hx hb dX11_readCourt_48 rfl hl (by decide) rfl (fun ls hl => ?_)
        have zj49_m49_L_1 : (0 : Int32).toInt = 0 := by decide
        have zj49_m49_L_2 : (1 : Int32).toInt = 1 := by decide
        have zj49_m49_F_h0_3 : (0 : Int32).toInt = 0 := by decide
        have zj49_m49_F_h0_4 : ((-1) : Int32).toInt = (-1) := by decide
        have zj49_m49_F_h0_20 : (0 : Int32).toInt = 0 := by decide
        have zj49_m49_F_h0_21 : (0 : Int32).toInt = 0 := by decide
        exact J49 _ fqB fqP m24_A_qR 0 0 0 (-1) 0 1 (by decide) (by decide) (by decide) (by decide) (by decide) (by decide) (zRc_0) (zRr0) (zRrV0 jv24_0 (by omega)) rfl H locs ls hP hD hS (lv_sub hl [0, 1, 2] rfl)
      · have c26 : m24_L_2.toInt < 3 := z4 (by decide) rfl c26
        refine lv_aload_n hx hb dX11_readCourt_29 rfl (lv_at hl 2 rfl) ?_
        refine va_get (D := (dC, dI)) (ci := 11) (v := .ref qR) (C := RX11) (T := TX11) (N := 41) hx hb hts iX11 hown hK hP 0 rfl rfl 17 (by decide) (hts _ qw1144) (fun _ h9 => h9) rfl dX11_readCourt_30 ?_
        refine lv_iload_n hx hb dX11_readCourt_33 rfl (lv_at hl 0 rfl) ?_
        refine lv_bipush (v := 115) hx hb dX11_readCourt_34 (by decide) ?_
        refine lv_iload_n hx hb dX11_readCourt_36 rfl (lv_at hl 0 rfl) ?_
        have hPc : va_P (dC, dI) vwCl [] H := zP0
        have hDc : va_D (fun _ => True) [] := zD0
        have hFc := zfr hS hA
        refine va_calli (va_runS (As := [.int 115, .int m24_L_2]) (rest := [.int m24_L_2, .ref qR]) ⟨hx, hb, hml, hown, hts⟩ (g_X11_usual_s l dC dI cI cJ m24_L_2 H.size) (cwS 2 hts (zgS qw1270 qw1271 qw108 qw1272) rfl rfl rfl hd_X11_usual ⟨by rw [hR]; exact Nat.le_of_ble_eq_true rfl, by rw [hR]; exact Nat.le_of_ble_eq_true rfl⟩) (zPS hPc hK hDc) rfl rfl hl.1 rfl (lv_room (Nat.le_of_ble_eq_true rfl)) dX11_readCourt_37 ⟨Nat.zero_le _, Nat.zero_le _⟩) hS (fun q _ h => hFc q h) hFc (fun v37 u37 t H locs ht hvm hw hB hz1 hk1 hS9 => ?_)
        replace hP := zkeep hP hk1
        replace hS := hS9
        clear hPc hDc hFc hk1 hz1 hvm hS9
        obtain ⟨f37_0, f37_1, f37_2⟩ : (3 ≤ v37.toInt) ∧ (v37.toInt ≤ 40) ∧ (0 ≤ m24_L_2.toInt → v37.toInt = cDf 0 m24_L_2.toInt.toNat) := hw
        have F37 := f37_2
        refine va_iast hx hb hK hP hD hS 2 0 rfl rfl (vp_in_iff.mpr ⟨by omega, by omega⟩) dX11_readCourt_40 (fun H locs hP9 hD9 hS9 => ?_)
        clear hP hD hS
        obtain ⟨v40_f, e40⟩ : ∃ g : Nat → Int32, g = upd m24_A_qR (m24_L_2).toNatClampNeg v37 := ⟨_, rfl⟩
        rw [← e40] at hP9 hD9
        obtain ⟨hP, hD⟩ := zst (wX := [(h0, .inr (11, [.int th, .ref tB, .int tsz, .int 0, .int (-1), .int dp, .ref rC, .ref rV, .ref rD, .ref rK, .ref rT, .ref rS, .ref rU, .int lw, .int tx, .ref rL, .ref rX, .ref qR, .ref qB, .ref qP, .int 0, .int 0, .ref aR, .ref aB, .ref aP, .int nb, .int np, .ref aN, .ref rf, .int ho, .int br, .ref aK, .int ac, .long dw, .ref aE, .int sr, .int sf, .ref aA, .ref aH, .ref aI, .int hi])), (tB, .inl (cI, 240, .inl fB)), (qR, .inl (cI, 3, .inl v40_f)), (qB, .inl (cI, 24, .inl fqB)), (qP, .inl (cI, 20, .inl fqP))]) hP9 hD9 rfl
        have hS := hS9
        clear hP9 hD9 hS9
        obtain ⟨v41, e41⟩ : ∃ y : Int32, y = m24_L_2 + Int32.ofInt (1) := ⟨_, rfl⟩
        refine lv_iinc (v := v41) (lv' := [(2, .int v41), (1, .int 0), (0, .ref h0)]) hx hb dX11_readCourt_41 hl (k := 0) rfl e41.symm (by decide) rfl (fun ls hl => ?_)
        have i41 : v41.toInt = m24_L_2.toInt + 1 := zaddI e41 (by decide) (by omega) (by omega)
        refine lv_goto (tgt := 24) hx hb dX11_readCourt_44 (by decide) ?_
        exact ih24 _ (by omega) v40_f v41 (by omega) (zUsS jv24_0 e40 (by omega) (by omega) (F37 (by omega)) i41) rfl H locs ls hP hD hS (lv_sub hl [0, 1, 2] rfl)
  refine lv_istore_n (lv' := [(2, .int 0), (1, .int 0), (0, .ref h0)]) hx hb dX11_readCourt_23 rfl hl (by decide) rfl (fun ls hl => ?_)
  have zj24_m24_L_2 : (0 : Int32).toInt = 0 := by decide
  exact J24 _ fqR 0 (by decide) (zUs0) rfl H locs ls hP hD hS (lv_sub hl [0, 1, 2] rfl)
set_option maxHeartbeats 4000000 in
set_option maxRecDepth 100000 in
theorem g_X11_takeCourt (l : Launch) (dC : Nat → ClassId) (dI : Nat → Nat → Nat) (cI cJ : ClassId) (h0 : Nat) (th : Int32) (tB : Nat) (tsz : Int32) (tat : Int32) (wr : Int32) (dp : Int32) (rC : Nat) (rV : Nat) (rD : Nat) (rK : Nat) (rT : Nat) (rS : Nat) (rU : Nat) (lw : Int32) (tx : Int32) (rL : Nat) (rX : Nat) (qR : Nat) (qB : Nat) (qP : Nat) (qnb : Int32) (qnp : Int32) (aR : Nat) (aB : Nat) (aP : Nat) (nb : Int32) (np : Int32) (aN : Nat) (rf : Nat) (ho : Int32) (br : Int32) (aK : Nat) (ac : Int32) (dw : Int64) (aE : Nat) (sr : Int32) (sf : Int32) (aA : Nat) (aH : Nat) (aI : Nat) (hi : Int32) (fqR : Nat → Int32) (fqB : Nat → Int32) (fqP : Nat → Int32) (fR : Nat → Int32) (fBr : Nat → Int32) (fPa : Nat → Int32) (fN : Nat → Int32) (sz : Nat) (n_ac : 0 ≤ ac.toInt ∧ ac.toInt ≤ 40) (n_hi : 0 ≤ hi.toInt ∧ hi.toInt ≤ 1) (n_ho : (-1) ≤ ho.toInt ∧ ho.toInt ≤ 3) (n_lw : 0 ≤ lw.toInt ∧ lw.toInt ≤ 4) (n_nb : 0 ≤ nb.toInt ∧ nb.toInt ≤ 6) (n_np : 0 ≤ np.toInt ∧ np.toInt ≤ 5) (n_qnb : 0 ≤ qnb.toInt ∧ qnb.toInt ≤ 6) (n_qnp : 0 ≤ qnp.toInt ∧ qnp.toInt ≤ 5) (n_tat : 0 ≤ tat.toInt ∧ tat.toInt ≤ 260) (n_tsz : 0 ≤ tsz.toInt ∧ tsz.toInt ≤ 240) (n_wr : (-1) ≤ wr.toInt ∧ wr.toInt ≤ 260) (hqb : zBr qnb fqB) (hqp : zBr qnp fqP)   : Met l yX11_takeCourt (.code yX11_takeCourt cX11_takeCourt 2 (some .int) :: wA) ({ frames := 1, cells := 0, slots := 0, locals := 22 }) (zP (dC, dI) [(cI, .int), (cJ, .long)] [.ref h0] sz [(h0, .inr (11, [.int th, .ref tB, .int tsz, .int tat, .int wr, .int dp, .ref rC, .ref rV, .ref rD, .ref rK, .ref rT, .ref rS, .ref rU, .int lw, .int tx, .ref rL, .ref rX, .ref qR, .ref qB, .ref qP, .int qnb, .int qnp, .ref aR, .ref aB, .ref aP, .int nb, .int np, .ref aN, .ref rf, .int ho, .int br, .ref aK, .int ac, .long dw, .ref aE, .int sr, .int sf, .ref aA, .ref aH, .ref aI, .int hi])), (qR, .inl (cI, 3, .inl fqR)), (qB, .inl (cI, 24, .inl fqB)), (qP, .inl (cI, 20, .inl fqP)), (aR, .inl (cI, 3, .inl fR)), (aB, .inl (cI, 24, .inl fBr)), (aP, .inl (cI, 20, .inl fPa)), (aN, .inl (cI, 97, .inl fN))]) (va_Qi (fun (r : Int32) (u : (Nat → Int32) × (Nat → Int32) × (Nat → Int32) × (Nat → Int32)) => (0 ≤ r.toInt) ∧ (r.toInt ≤ 6) ∧ (zBr qnb u.2.1) ∧ (zBr qnp u.2.2.1) ∧ (zNw qnp u.2.2.2) ∧ (r.toInt = qnb.toInt) ∧ ((∀ j : Nat, j < 3 → u.1 j = fqR j) ∧ (∀ j : Nat, j < 24 → u.2.1 j = fqB j) ∧ ∀ j : Nat, j < 20 → u.2.2.1 j = fqP j) ∧ (∀ c : zK3, zCn fqR fqB fqP qnb.toInt qnp.toInt c → zSr qnb.toInt qnp.toInt (sBeg c) u.2.2.2)) (fun (u : (Nat → Int32) × (Nat → Int32) × (Nat → Int32) × (Nat → Int32)) (t : State) => va_P (dC, dI) vwCl [(h0, .inr (11, [.int th, .ref tB, .int tsz, .int tat, .int wr, .int dp, .ref rC, .ref rV, .ref rD, .ref rK, .ref rT, .ref rS, .ref rU, .int lw, .int tx, .ref rL, .ref rX, .ref qR, .ref qB, .ref qP, .int qnb, .int qnp, .ref aR, .ref aB, .ref aP, .int qnb, .int qnp, .ref aN, .ref rf, .int ho, .int br, .ref aK, .int 0, .long dw, .ref aE, .int sr, .int sf, .ref aA, .ref aH, .ref aI, .int 0])), (qR, .inl (cI, 3, .inl fqR)), (qB, .inl (cI, 24, .inl fqB)), (qP, .inl (cI, 20, .inl fqP)), (aR, .inl (cI, 3, .inl u.1)), (aB, .inl (cI, 24, .inl u.2.1)), (aP, .inl (cI, 20, .inl u.2.2.1)), (aN, .inl (cI, 97, .inl u.2.2.2))] t.heap ∧ va_D (va_A [(h0, .inr (11, [.int th, .ref tB, .int tsz, .int tat, .int wr, .int dp, .ref rC, .ref rV, .ref rD, .ref rK, .ref rT, .ref rS, .ref rU, .int lw, .int tx, .ref rL, .ref rX, .ref qR, .ref qB, .ref qP, .int qnb, .int qnp, .ref aR, .ref aB, .ref aP, .int nb, .int np, .ref aN, .ref rf, .int ho, .int br, .ref aK, .int ac, .long dw, .ref aE, .int sr, .int sf, .ref aA, .ref aH, .ref aI, .int hi])), (qR, .inl (cI, 3, .inl fqR)), (qB, .inl (cI, 24, .inl fqB)), (qP, .inl (cI, 20, .inl fqP)), (aR, .inl (cI, 3, .inl fR)), (aB, .inl (cI, 24, .inl fBr)), (aP, .inl (cI, 20, .inl fPa)), (aN, .inl (cI, 97, .inl fN))] sz) [(h0, .inr (11, [.int th, .ref tB, .int tsz, .int tat, .int wr, .int dp, .ref rC, .ref rV, .ref rD, .ref rK, .ref rT, .ref rS, .ref rU, .int lw, .int tx, .ref rL, .ref rX, .ref qR, .ref qB, .ref qP, .int qnb, .int qnp, .ref aR, .ref aB, .ref aP, .int qnb, .int qnp, .ref aN, .ref rf, .int ho, .int br, .ref aK, .int 0, .long dw, .ref aE, .int sr, .int sf, .ref aA, .ref aH, .ref aI, .int 0])), (qR, .inl (cI, 3, .inl fqR)), (qB, .inl (cI, 24, .inl fqB)), (qP, .inl (cI, 20, .inl fqP)), (aR, .inl (cI, 3, .inl u.1)), (aB, .inl (cI, 24, .inl u.2.1)), (aP, .inl (cI, 20, .inl u.2.2.1)), (aN, .inl (cI, 97, .inl u.2.2.2))]) (va_A [(h0, .inr (11, [.int th, .ref tB, .int tsz, .int tat, .int wr, .int dp, .ref rC, .ref rV, .ref rD, .ref rK, .ref rT, .ref rS, .ref rU, .int lw, .int tx, .ref rL, .ref rX, .ref qR, .ref qB, .ref qP, .int qnb, .int qnp, .ref aR, .ref aB, .ref aP, .int nb, .int np, .ref aN, .ref rf, .int ho, .int br, .ref aK, .int ac, .long dw, .ref aE, .int sr, .int sf, .ref aA, .ref aH, .ref aI, .int hi])), (qR, .inl (cI, 3, .inl fqR)), (qB, .inl (cI, 24, .inl fqB)), (qP, .inl (cI, 20, .inl fqP)), (aR, .inl (cI, 3, .inl fR)), (aB, .inl (cI, 24, .inl fBr)), (aP, .inl (cI, 20, .inl fPa)), (aN, .inl (cI, 97, .inl fN))] sz)) 0 0 (va_A [(h0, .inr (11, [.int th, .ref tB, .int tsz, .int tat, .int wr, .int dp, .ref rC, .ref rV, .ref rD, .ref rK, .ref rT, .ref rS, .ref rU, .int lw, .int tx, .ref rL, .ref rX, .ref qR, .ref qB, .ref qP, .int qnb, .int qnp, .ref aR, .ref aB, .ref aP, .int nb, .int np, .ref aN, .ref rf, .int ho, .int br, .ref aK, .int ac, .long dw, .ref aE, .int sr, .int sf, .ref aA, .ref aH, .ref aI, .int hi])), (qR, .inl (cI, 3, .inl fqR)), (qB, .inl (cI, 24, .inl fqB)), (qP, .inl (cI, 20, .inl fqP)), (aR, .inl (cI, 3, .inl fR)), (aB, .inl (cI, 24, .inl fBr)), (aP, .inl (cI, 20, .inl fPa)), (aN, .inl (cI, 97, .inl fN))] sz) := by
  refine Met.ofW (cc := cX11_takeCourt) (maxL := 2) (ret := (some .int)) (by decide) rfl ?_
  intro p e s m args below meth c s₁ B hml hv
  have y_ac : zHid (0 ≤ ac.toInt ∧ ac.toInt ≤ 40) := n_ac
  have y_hi : zHid (0 ≤ hi.toInt ∧ hi.toInt ≤ 1) := n_hi
  have y_ho : zHid ((-1) ≤ ho.toInt ∧ ho.toInt ≤ 3) := n_ho
  have y_lw : zHid (0 ≤ lw.toInt ∧ lw.toInt ≤ 4) := n_lw
  have y_nb : zHid (0 ≤ nb.toInt ∧ nb.toInt ≤ 6) := n_nb
  have y_np : zHid (0 ≤ np.toInt ∧ np.toInt ≤ 5) := n_np
  have y_tat : zHid (0 ≤ tat.toInt ∧ tat.toInt ≤ 260) := n_tat
  have y_tsz : zHid (0 ≤ tsz.toInt ∧ tsz.toInt ≤ 240) := n_tsz
  have y_wr : zHid ((-1) ≤ wr.toInt ∧ wr.toInt ≤ 260) := n_wr
  clear n_ac n_hi n_ho n_lw n_nb n_np n_tat n_tsz n_wr
  obtain ⟨hargs, hsz, hP, hK, hT⟩ := hv
  have hx := B.exec
  have hb := B.bytes
  have hr := B.returns
  have hts : ∀ w ∈ wA, w.before args s = true := fun w h => atoms_spec (ws := .code yX11_takeCourt cX11_takeCourt 2 (some .int) :: wA) B.pre w (List.mem_cons_of_mem _ h)
  have hown : s.vm.findClass RX11 = some m.cls := findClass_of_methodNamed B.named
  have hlocks := B.notSynchronized
  subst hsz
  have hD := hT.self (sz := s.heap.size)
  generalize hAe : va_A [(h0, .inr (11, [.int th, .ref tB, .int tsz, .int tat, .int wr, .int dp, .ref rC, .ref rV, .ref rD, .ref rK, .ref rT, .ref rS, .ref rU, .int lw, .int tx, .ref rL, .ref rX, .ref qR, .ref qB, .ref qP, .int qnb, .int qnp, .ref aR, .ref aB, .ref aP, .int nb, .int np, .ref aN, .ref rf, .int ho, .int br, .ref aK, .int ac, .long dw, .ref aE, .int sr, .int sf, .ref aA, .ref aH, .ref aI, .int hi])), (qR, .inl (cI, 3, .inl fqR)), (qB, .inl (cI, 24, .inl fqB)), (qP, .inl (cI, 20, .inl fqP)), (aR, .inl (cI, 3, .inl fR)), (aB, .inl (cI, 24, .inl fBr)), (aP, .inl (cI, 20, .inl fPa)), (aN, .inl (cI, 97, .inl fN))] s.heap.size = A at hD ⊢
  have hA : ∀ q : Nat, s.heap.size ≤ q → A q := fun q h => by rw [← hAe]; exact Or.inr h
  have hl := lv_entry ([.ref h0]) (n := 2) (Nat.le_of_ble_eq_true rfl)
  rw [show entryFrame m args 2 = entryFrame m ([.ref h0] : List Value).toArray 2 by rw [hargs], lg_entry_eq]
  generalize (lg_sl ([.ref h0]) ++ List.replicate (2 - (lg_sl ([.ref h0])).length) Slot.unset).toArray = ls at hl ⊢
  have hl : lv_has ls 2 [(0, .ref h0)] := hl
  refine zstart (fun H hH => ?_)
  rw [← hH] at hP
  have hS : va_S A s.heap H [] := by rw [hH]; exact va_S.rf
  generalize ([] : List Loc) = locs at hS ⊢
  refine zgen (fun R Q hR hQ => ?_)
  refine lv_aload_n hx hb dX11_takeCourt_0 rfl (lv_at hl 0 rfl) ?_
  refine lv_aload_n hx hb dX11_takeCourt_1 rfl (lv_at hl 0 rfl) ?_
  refine va_get (D := (dC, dI)) (ci := 11) (v := .int qnb) (C := RX11) (T := TX11) (N := 41) hx hb hts iX11 hown hK hP 0 rfl rfl 20 (by decide) (hts _ qw1147) (fun _ h9 => h9) rfl dX11_takeCourt_2 ?_
  refine va_put (D := (dC, dI)) (ci := 11) (v := .int qnb) (ty := .int) (C := RX11) (T := TX11) (N := 41) hx hb hts iX11 tyX11 tyX11_ok nmX11 hown hK hP hD hS 0 rfl rfl 25 (by decide) (hts _ qw1152) (fun _ h9 => h9) rfl (by decide +kernel) rfl rfl (Nat.le_of_ble_eq_true rfl) dX11_takeCourt_5 (fun H locs hP9 hD9 hS9 => ?_)
  clear hP hD hS
  obtain ⟨hP, hD⟩ := zst (wX := [(h0, .inr (11, [.int th, .ref tB, .int tsz, .int tat, .int wr, .int dp, .ref rC, .ref rV, .ref rD, .ref rK, .ref rT, .ref rS, .ref rU, .int lw, .int tx, .ref rL, .ref rX, .ref qR, .ref qB, .ref qP, .int qnb, .int qnp, .ref aR, .ref aB, .ref aP, .int qnb, .int np, .ref aN, .ref rf, .int ho, .int br, .ref aK, .int ac, .long dw, .ref aE, .int sr, .int sf, .ref aA, .ref aH, .ref aI, .int hi])), (qR, .inl (cI, 3, .inl fqR)), (qB, .inl (cI, 24, .inl fqB)), (qP, .inl (cI, 20, .inl fqP)), (aR, .inl (cI, 3, .inl fR)), (aB, .inl (cI, 24, .inl fBr)), (aP, .inl (cI, 20, .inl fPa)), (aN, .inl (cI, 97, .inl fN))]) hP9 hD9 rfl
  have hS := hS9
  clear hP9 hD9 hS9
  refine lv_aload_n hx hb dX11_takeCourt_8 rfl (lv_at hl 0 rfl) ?_
  refine lv_aload_n hx hb dX11_takeCourt_9 rfl (lv_at hl 0 rfl) ?_
  refine va_get (D := (dC, dI)) (ci := 11) (v := .int qnp) (C := RX11) (T := TX11) (N := 41) hx hb hts iX11 hown hK hP 0 rfl rfl 21 (by decide) (hts _ qw1148) (fun _ h9 => h9) rfl dX11_takeCourt_10 ?_
  refine va_put (D := (dC, dI)) (ci := 11) (v := .int qnp) (ty := .int) (C := RX11) (T := TX11) (N := 41) hx hb hts iX11 tyX11 tyX11_ok nmX11 hown hK hP hD hS 0 rfl rfl 26 (by decide) (hts _ qw1153) (fun _ h9 => h9) rfl (by decide +kernel) rfl rfl (Nat.le_of_ble_eq_true rfl) dX11_takeCourt_13 (fun H locs hP9 hD9 hS9 => ?_)
  clear hP hD hS
  obtain ⟨hP, hD⟩ := zst (wX := [(h0, .inr (11, [.int th, .ref tB, .int tsz, .int tat, .int wr, .int dp, .ref rC, .ref rV, .ref rD, .ref rK, .ref rT, .ref rS, .ref rU, .int lw, .int tx, .ref rL, .ref rX, .ref qR, .ref qB, .ref qP, .int qnb, .int qnp, .ref aR, .ref aB, .ref aP, .int qnb, .int qnp, .ref aN, .ref rf, .int ho, .int br, .ref aK, .int ac, .long dw, .ref aE, .int sr, .int sf, .ref aA, .ref aH, .ref aI, .int hi])), (qR, .inl (cI, 3, .inl fqR)), (qB, .inl (cI, 24, .inl fqB)), (qP, .inl (cI, 20, .inl fqP)), (aR, .inl (cI, 3, .inl fR)), (aB, .inl (cI, 24, .inl fBr)), (aP, .inl (cI, 20, .inl fPa)), (aN, .inl (cI, 97, .inl fN))]) hP9 hD9 rfl
  have hS := hS9
  clear hP9 hD9 hS9
  refine lv_iconst (v := 0) hx hb dX11_takeCourt_16 (by decide) ?_
  have J18 : ∀ (n : Nat) (m18_A_aR : Nat → Int32) (m18_L_1 : Int32), (0 ≤ m18_L_1.toInt ∧ m18_L_1.toInt ≤ 3) → (zEq m18_A_aR fqR 0 m18_L_1) → (4 - m18_L_1.toInt).toNat = n → ∀ (H : Heap) (locs : List Loc) (ls : Array Slot), va_P (dC, dI) vwCl [(h0, .inr (11, [.int th, .ref tB, .int tsz, .int tat, .int wr, .int dp, .ref rC, .ref rV, .ref rD, .ref rK, .ref rT, .ref rS, .ref rU, .int lw, .int tx, .ref rL, .ref rX, .ref qR, .ref qB, .ref qP, .int qnb, .int qnp, .ref aR, .ref aB, .ref aP, .int qnb, .int qnp, .ref aN, .ref rf, .int ho, .int br, .ref aK, .int ac, .long dw, .ref aE, .int sr, .int sf, .ref aA, .ref aH, .ref aI, .int hi])), (qR, .inl (cI, 3, .inl fqR)), (qB, .inl (cI, 24, .inl fqB)), (qP, .inl (cI, 20, .inl fqP)), (aR, .inl (cI, 3, .inl m18_A_aR)), (aB, .inl (cI, 24, .inl fBr)), (aP, .inl (cI, 20, .inl fPa)), (aN, .inl (cI, 97, .inl fN))] H → va_D A [(h0, .inr (11, [.int th, .ref tB, .int tsz, .int tat, .int wr, .int dp, .ref rC, .ref rV, .ref rD, .ref rK, .ref rT, .ref rS, .ref rU, .int lw, .int tx, .ref rL, .ref rX, .ref qR, .ref qB, .ref qP, .int qnb, .int qnp, .ref aR, .ref aB, .ref aP, .int qnb, .int qnp, .ref aN, .ref rf, .int ho, .int br, .ref aK, .int ac, .long dw, .ref aE, .int sr, .int sf, .ref aA, .ref aH, .ref aI, .int hi])), (qR, .inl (cI, 3, .inl fqR)), (qB, .inl (cI, 24, .inl fqB)), (qP, .inl (cI, 20, .inl fqP)), (aR, .inl (cI, 3, .inl m18_A_aR)), (aB, .inl (cI, 24, .inl fBr)), (aP, .inl (cI, 20, .inl fPa)), (aN, .inl (cI, 97, .inl fN))] → va_S A s.heap H locs → lv_has ls 2 [(1, .int m18_L_1), (0, .ref h0)] → W p l e R s m args below meth c H locs 0 0 Q (F0 m 18 ls []) := by
    intro n18
    induction n18 using Nat.strongRecOn with
    | _ n18 ih18 =>
      intro m18_A_aR m18_L_1 jf18_0 jv18_0 hmu18 H locs ls hP hD hS hl
      refine lv_iload_n hx hb dX11_takeCourt_18 rfl (lv_at hl 0 rfl) ?_
      refine lv_iconst (v := 3) hx hb dX11_takeCourt_19 (by decide) ?_
      refine lv_icmp_ge (tgt := 41) hx hb dX11_takeCourt_20 (by decide) (fun c20 => ?_) (fun c20 => ?_)
      · have c20 : 3 ≤ m18_L_1.toInt := z3 (by decide) rfl c20
        refine lv_iconst (v := 0) hx hb dX11_takeCourt_41 (by decide) ?_
        have J43 : ∀ (n : Nat) (m43_A_aB : Nat → Int32) (m43_L_1 : Int32), (0 ≤ m43_L_1.toInt ∧ m43_L_1.toInt ≤ 24) → (zEq m43_A_aB fqB 0 m43_L_1) → (25 - m43_L_1.toInt).toNat = n → ∀ (H : Heap) (locs : List Loc) (ls : Array Slot), va_P (dC, dI) vwCl [(h0, .inr (11, [.int th, .ref tB, .int tsz, .int tat, .int wr, .int dp, .ref rC, .ref rV, .ref rD, .ref rK, .ref rT, .ref rS, .ref rU, .int lw, .int tx, .ref rL, .ref rX, .ref qR, .ref qB, .ref qP, .int qnb, .int qnp, .ref aR, .ref aB, .ref aP, .int qnb, .int qnp, .ref aN, .ref rf, .int ho, .int br, .ref aK, .int ac, .long dw, .ref aE, .int sr, .int sf, .ref aA, .ref aH, .ref aI, .int hi])), (qR, .inl (cI, 3, .inl fqR)), (qB, .inl (cI, 24, .inl fqB)), (qP, .inl (cI, 20, .inl fqP)), (aR, .inl (cI, 3, .inl m18_A_aR)), (aB, .inl (cI, 24, .inl m43_A_aB)), (aP, .inl (cI, 20, .inl fPa)), (aN, .inl (cI, 97, .inl fN))] H → va_D A [(h0, .inr (11, [.int th, .ref tB, .int tsz, .int tat, .int wr, .int dp, .ref rC, .ref rV, .ref rD, .ref rK, .ref rT, .ref rS, .ref rU, .int lw, .int tx, .ref rL, .ref rX, .ref qR, .ref qB, .ref qP, .int qnb, .int qnp, .ref aR, .ref aB, .ref aP, .int qnb, .int qnp, .ref aN, .ref rf, .int ho, .int br, .ref aK, .int ac, .long dw, .ref aE, .int sr, .int sf, .ref aA, .ref aH, .ref aI, .int hi])), (qR, .inl (cI, 3, .inl fqR)), (qB, .inl (cI, 24, .inl fqB)), (qP, .inl (cI, 20, .inl fqP)), (aR, .inl (cI, 3, .inl m18_A_aR)), (aB, .inl (cI, 24, .inl m43_A_aB)), (aP, .inl (cI, 20, .inl fPa)), (aN, .inl (cI, 97, .inl fN))] → va_S A s.heap H locs → lv_has ls 2 [(1, .int m43_L_1), (0, .ref h0)] → W p l e R s m args below meth c H locs 0 0 Q (F0 m 43 ls []) := by
          intro n43
          induction n43 using Nat.strongRecOn with
          | _ n43 ih43 =>
            intro m43_A_aB m43_L_1 jf43_0 jv43_0 hmu43 H locs ls hP hD hS hl
            refine lv_iload_n hx hb dX11_takeCourt_43 rfl (lv_at hl 0 rfl) ?_
            refine lv_bipush (v := 24) hx hb dX11_takeCourt_44 (by decide) ?_
            refine lv_icmp_ge (tgt := 67) hx hb dX11_takeCourt_46 (by decide) (fun c46 => ?_) (fun c46 => ?_)
            · have c46 : 24 ≤ m43_L_1.toInt := z3 (by decide) rfl c46
              refine lv_iconst (v := 0) hx hb dX11_takeCourt_67 (by decide) ?_
              have J69 : ∀ (n : Nat) (m69_A_aP : Nat → Int32) (m69_L_1 : Int32), (0 ≤ m69_L_1.toInt ∧ m69_L_1.toInt ≤ 20) → (zEq m69_A_aP fqP 0 m69_L_1) → (21 - m69_L_1.toInt).toNat = n → ∀ (H : Heap) (locs : List Loc) (ls : Array Slot), va_P (dC, dI) vwCl [(h0, .inr (11, [.int th, .ref tB, .int tsz, .int tat, .int wr, .int dp, .ref rC, .ref rV, .ref rD, .ref rK, .ref rT, .ref rS, .ref rU, .int lw, .int tx, .ref rL, .ref rX, .ref qR, .ref qB, .ref qP, .int qnb, .int qnp, .ref aR, .ref aB, .ref aP, .int qnb, .int qnp, .ref aN, .ref rf, .int ho, .int br, .ref aK, .int ac, .long dw, .ref aE, .int sr, .int sf, .ref aA, .ref aH, .ref aI, .int hi])), (qR, .inl (cI, 3, .inl fqR)), (qB, .inl (cI, 24, .inl fqB)), (qP, .inl (cI, 20, .inl fqP)), (aR, .inl (cI, 3, .inl m18_A_aR)), (aB, .inl (cI, 24, .inl m43_A_aB)), (aP, .inl (cI, 20, .inl m69_A_aP)), (aN, .inl (cI, 97, .inl fN))] H → va_D A [(h0, .inr (11, [.int th, .ref tB, .int tsz, .int tat, .int wr, .int dp, .ref rC, .ref rV, .ref rD, .ref rK, .ref rT, .ref rS, .ref rU, .int lw, .int tx, .ref rL, .ref rX, .ref qR, .ref qB, .ref qP, .int qnb, .int qnp, .ref aR, .ref aB, .ref aP, .int qnb, .int qnp, .ref aN, .ref rf, .int ho, .int br, .ref aK, .int ac, .long dw, .ref aE, .int sr, .int sf, .ref aA, .ref aH, .ref aI, .int hi])), (qR, .inl (cI, 3, .inl fqR)), (qB, .inl (cI, 24, .inl fqB)), (qP, .inl (cI, 20, .inl fqP)), (aR, .inl (cI, 3, .inl m18_A_aR)), (aB, .inl (cI, 24, .inl m43_A_aB)), (aP, .inl (cI, 20, .inl m69_A_aP)), (aN, .inl (cI, 97, .inl fN))] → va_S A s.heap H locs → lv_has ls 2 [(1, .int m69_L_1), (0, .ref h0)] → W p l e R s m args below meth c H locs 0 0 Q (F0 m 69 ls []) := by
                intro n69
                induction n69 using Nat.strongRecOn with
                | _ n69 ih69 =>
                  intro m69_A_aP m69_L_1 jf69_0 jv69_0 hmu69 H locs ls hP hD hS hl
                  refine lv_iload_n hx hb dX11_takeCourt_69 rfl (lv_at hl 0 rfl) ?_
                  refine lv_bipush (v := 20) hx hb dX11_takeCourt_70 (by decide) ?_
                  refine lv_icmp_ge (tgt := 93) hx hb dX11_takeCourt_72 (by decide) (fun c72 => ?_) (fun c72 => ?_)
                  · have c72 : 20 ≤ m69_L_1.toInt := z3 (by decide) rfl c72
                    refine lv_iconst (v := 0) hx hb dX11_takeCourt_93 (by decide) ?_
                    have J95 : ∀ (n : Nat) (m95_A_aN : Nat → Int32) (m95_L_1 : Int32), (0 ≤ m95_L_1.toInt ∧ m95_L_1.toInt ≤ 98) → (zZr m95_A_aN m95_L_1) → (99 - m95_L_1.toInt).toNat = n → ∀ (H : Heap) (locs : List Loc) (ls : Array Slot), va_P (dC, dI) vwCl [(h0, .inr (11, [.int th, .ref tB, .int tsz, .int tat, .int wr, .int dp, .ref rC, .ref rV, .ref rD, .ref rK, .ref rT, .ref rS, .ref rU, .int lw, .int tx, .ref rL, .ref rX, .ref qR, .ref qB, .ref qP, .int qnb, .int qnp, .ref aR, .ref aB, .ref aP, .int qnb, .int qnp, .ref aN, .ref rf, .int ho, .int br, .ref aK, .int ac, .long dw, .ref aE, .int sr, .int sf, .ref aA, .ref aH, .ref aI, .int hi])), (qR, .inl (cI, 3, .inl fqR)), (qB, .inl (cI, 24, .inl fqB)), (qP, .inl (cI, 20, .inl fqP)), (aR, .inl (cI, 3, .inl m18_A_aR)), (aB, .inl (cI, 24, .inl m43_A_aB)), (aP, .inl (cI, 20, .inl m69_A_aP)), (aN, .inl (cI, 97, .inl m95_A_aN))] H → va_D A [(h0, .inr (11, [.int th, .ref tB, .int tsz, .int tat, .int wr, .int dp, .ref rC, .ref rV, .ref rD, .ref rK, .ref rT, .ref rS, .ref rU, .int lw, .int tx, .ref rL, .ref rX, .ref qR, .ref qB, .ref qP, .int qnb, .int qnp, .ref aR, .ref aB, .ref aP, .int qnb, .int qnp, .ref aN, .ref rf, .int ho, .int br, .ref aK, .int ac, .long dw, .ref aE, .int sr, .int sf, .ref aA, .ref aH, .ref aI, .int hi])), (qR, .inl (cI, 3, .inl fqR)), (qB, .inl (cI, 24, .inl fqB)), (qP, .inl (cI, 20, .inl fqP)), (aR, .inl (cI, 3, .inl m18_A_aR)), (aB, .inl (cI, 24, .inl m43_A_aB)), (aP, .inl (cI, 20, .inl m69_A_aP)), (aN, .inl (cI, 97, .inl m95_A_aN))] → va_S A s.heap H locs → lv_has ls 2 [(1, .int m95_L_1), (0, .ref h0)] → W p l e R s m args below meth c H locs 0 0 Q (F0 m 95 ls []) := by
                      intro n95
                      induction n95 using Nat.strongRecOn with
                      | _ n95 ih95 =>
                        intro m95_A_aN m95_L_1 jf95_0 jv95_0 hmu95 H locs ls hP hD hS hl
                        refine lv_iload_n hx hb dX11_takeCourt_95 rfl (lv_at hl 0 rfl) ?_
                        refine lv_bipush (v := 97) hx hb dX11_takeCourt_96 (by decide) ?_
                        refine lv_icmp_ge (tgt := 114) hx hb dX11_takeCourt_98 (by decide) (fun c98 => ?_) (fun c98 => ?_)
                        · have c98 : 97 ≤ m95_L_1.toInt := z3 (by decide) rfl c98
                          refine lv_iconst (v := 0) hx hb dX11_takeCourt_114 (by decide) ?_
                          have J116 : ∀ (n : Nat) (m116_A_aN : Nat → Int32) (m116_L_1 : Int32), (0 ≤ m116_L_1.toInt ∧ m116_L_1.toInt ≤ 6) → (zNw qnp m116_A_aN) → (zBg1 m116_A_aN m43_A_aB m116_L_1) → (7 - m116_L_1.toInt).toNat = n → ∀ (H : Heap) (locs : List Loc) (ls : Array Slot), va_P (dC, dI) vwCl [(h0, .inr (11, [.int th, .ref tB, .int tsz, .int tat, .int wr, .int dp, .ref rC, .ref rV, .ref rD, .ref rK, .ref rT, .ref rS, .ref rU, .int lw, .int tx, .ref rL, .ref rX, .ref qR, .ref qB, .ref qP, .int qnb, .int qnp, .ref aR, .ref aB, .ref aP, .int qnb, .int qnp, .ref aN, .ref rf, .int ho, .int br, .ref aK, .int ac, .long dw, .ref aE, .int sr, .int sf, .ref aA, .ref aH, .ref aI, .int hi])), (qR, .inl (cI, 3, .inl fqR)), (qB, .inl (cI, 24, .inl fqB)), (qP, .inl (cI, 20, .inl fqP)), (aR, .inl (cI, 3, .inl m18_A_aR)), (aB, .inl (cI, 24, .inl m43_A_aB)), (aP, .inl (cI, 20, .inl m69_A_aP)), (aN, .inl (cI, 97, .inl m116_A_aN))] H → va_D A [(h0, .inr (11, [.int th, .ref tB, .int tsz, .int tat, .int wr, .int dp, .ref rC, .ref rV, .ref rD, .ref rK, .ref rT, .ref rS, .ref rU, .int lw, .int tx, .ref rL, .ref rX, .ref qR, .ref qB, .ref qP, .int qnb, .int qnp, .ref aR, .ref aB, .ref aP, .int qnb, .int qnp, .ref aN, .ref rf, .int ho, .int br, .ref aK, .int ac, .long dw, .ref aE, .int sr, .int sf, .ref aA, .ref aH, .ref aI, .int hi])), (qR, .inl (cI, 3, .inl fqR)), (qB, .inl (cI, 24, .inl fqB)), (qP, .inl (cI, 20, .inl fqP)), (aR, .inl (cI, 3, .inl m18_A_aR)), (aB, .inl (cI, 24, .inl m43_A_aB)), (aP, .inl (cI, 20, .inl m69_A_aP)), (aN, .inl (cI, 97, .inl m116_A_aN))] → va_S A s.heap H locs → lv_has ls 2 [(1, .int m116_L_1), (0, .ref h0)] → W p l e R s m args below meth c H locs 0 0 Q (F0 m 116 ls []) := by
                            intro n116
                            induction n116 using Nat.strongRecOn with
                            | _ n116 ih116 =>
                              intro m116_A_aN m116_L_1 jf116_0 jv116_0 jv116_1 hmu116 H locs ls hP hD hS hl
                              refine lv_iload_n hx hb dX11_takeCourt_116 rfl (lv_at hl 0 rfl) ?_
                              refine lv_aload_n hx hb dX11_takeCourt_117 rfl (lv_at hl 1 rfl) ?_
                              refine va_get (D := (dC, dI)) (ci := 11) (v := .int qnb) (C := RX11) (T := TX11) (N := 41) hx hb hts iX11 hown hK hP 0 rfl rfl 25 (by decide) (hts _ qw1152) (fun _ h9 => h9) rfl dX11_takeCourt_118 ?_
                              refine lv_icmp_ge (tgt := 144) hx hb dX11_takeCourt_121 (by decide) (fun c121 => ?_) (fun c121 => ?_)
                              · have c121 : qnb.toInt ≤ m116_L_1.toInt := z3 rfl rfl c121
                                refine lv_iconst (v := 0) hx hb dX11_takeCourt_144 (by decide) ?_
                                have J146 : ∀ (n : Nat) (m146_A_aN : Nat → Int32) (m146_L_1 : Int32), (0 ≤ m146_L_1.toInt ∧ m146_L_1.toInt ≤ 5) → (zNw qnp m146_A_aN) → (zBg2 m146_A_aN m43_A_aB m69_A_aP qnb.toInt m146_L_1) → (6 - m146_L_1.toInt).toNat = n → ∀ (H : Heap) (locs : List Loc) (ls : Array Slot), va_P (dC, dI) vwCl [(h0, .inr (11, [.int th, .ref tB, .int tsz, .int tat, .int wr, .int dp, .ref rC, .ref rV, .ref rD, .ref rK, .ref rT, .ref rS, .ref rU, .int lw, .int tx, .ref rL, .ref rX, .ref qR, .ref qB, .ref qP, .int qnb, .int qnp, .ref aR, .ref aB, .ref aP, .int qnb, .int qnp, .ref aN, .ref rf, .int ho, .int br, .ref aK, .int ac, .long dw, .ref aE, .int sr, .int sf, .ref aA, .ref aH, .ref aI, .int hi])), (qR, .inl (cI, 3, .inl fqR)), (qB, .inl (cI, 24, .inl fqB)), (qP, .inl (cI, 20, .inl fqP)), (aR, .inl (cI, 3, .inl m18_A_aR)), (aB, .inl (cI, 24, .inl m43_A_aB)), (aP, .inl (cI, 20, .inl m69_A_aP)), (aN, .inl (cI, 97, .inl m146_A_aN))] H → va_D A [(h0, .inr (11, [.int th, .ref tB, .int tsz, .int tat, .int wr, .int dp, .ref rC, .ref rV, .ref rD, .ref rK, .ref rT, .ref rS, .ref rU, .int lw, .int tx, .ref rL, .ref rX, .ref qR, .ref qB, .ref qP, .int qnb, .int qnp, .ref aR, .ref aB, .ref aP, .int qnb, .int qnp, .ref aN, .ref rf, .int ho, .int br, .ref aK, .int ac, .long dw, .ref aE, .int sr, .int sf, .ref aA, .ref aH, .ref aI, .int hi])), (qR, .inl (cI, 3, .inl fqR)), (qB, .inl (cI, 24, .inl fqB)), (qP, .inl (cI, 20, .inl fqP)), (aR, .inl (cI, 3, .inl m18_A_aR)), (aB, .inl (cI, 24, .inl m43_A_aB)), (aP, .inl (cI, 20, .inl m69_A_aP)), (aN, .inl (cI, 97, .inl m146_A_aN))] → va_S A s.heap H locs → lv_has ls 2 [(1, .int m146_L_1), (0, .ref h0)] → W p l e R s m args below meth c H locs 0 0 Q (F0 m 146 ls []) := by
                                  intro n146
                                  induction n146 using Nat.strongRecOn with
                                  | _ n146 ih146 =>
                                    intro m146_A_aN m146_L_1 jf146_0 jv146_0 jv146_1 hmu146 H locs ls hP hD hS hl
                                    refine lv_iload_n hx hb dX11_takeCourt_146 rfl (lv_at hl 0 rfl) ?_
                                    refine lv_aload_n hx hb dX11_takeCourt_147 rfl (lv_at hl 1 rfl) ?_
                                    refine va_get (D := (dC, dI)) (ci := 11) (v := .int qnp) (C := RX11) (T := TX11) (N := 41) hx hb hts iX11 hown hK hP 0 rfl rfl 26 (by decide) (hts _ qw1153) (fun _ h9 => h9) rfl dX11_takeCourt_148 ?_
                                    refine lv_icmp_ge (tgt := 175) hx hb dX11_takeCourt_151 (by decide) (fun c151 => ?_) (fun c151 => ?_)
                                    · have c151 : qnp.toInt ≤ m146_L_1.toInt := z3 rfl rfl c151
                                      refine lv_aload_n hx hb dX11_takeCourt_175 rfl (lv_at hl 1 rfl) ?_
                                      refine va_get (D := (dC, dI)) (ci := 11) (v := .ref aN) (C := RX11) (T := TX11) (N := 41) hx hb hts iX11 hown hK hP 0 rfl rfl 27 (by decide) (hts _ qw1154) (fun _ h9 => h9) rfl dX11_takeCourt_176 ?_
                                      refine lv_bipush (v := 14) hx hb dX11_takeCourt_179 (by decide) ?_
                                      refine lv_aload_n hx hb dX11_takeCourt_181 rfl (lv_at hl 1 rfl) ?_
                                      refine va_get (D := (dC, dI)) (ci := 11) (v := .ref aR) (C := RX11) (T := TX11) (N := 41) hx hb hts iX11 hown hK hP 0 rfl rfl 22 (by decide) (hts _ qw1149) (fun _ h9 => h9) rfl dX11_takeCourt_182 ?_
                                      refine lv_iconst (v := 0) hx hb dX11_takeCourt_185 (by decide) ?_
                                      refine va_iald hx hb hK hP 4 0 rfl rfl (by unfold vp_in; decide) dX11_takeCourt_186 ?_
                                      refine lv_topi (fun v186 e186 => ?_)
                                      refine va_iast hx hb hK hP hD hS 7 0 rfl rfl (by unfold vp_in; decide) dX11_takeCourt_187 (fun H locs hP9 hD9 hS9 => ?_)
                                      clear hP hD hS
                                      obtain ⟨v187_f, e187⟩ : ∃ g : Nat → Int32, g = upd m146_A_aN (14 : Int32).toNatClampNeg v186 := ⟨_, rfl⟩
                                      rw [← e187] at hP9 hD9
                                      obtain ⟨hP, hD⟩ := zst (wX := [(h0, .inr (11, [.int th, .ref tB, .int tsz, .int tat, .int wr, .int dp, .ref rC, .ref rV, .ref rD, .ref rK, .ref rT, .ref rS, .ref rU, .int lw, .int tx, .ref rL, .ref rX, .ref qR, .ref qB, .ref qP, .int qnb, .int qnp, .ref aR, .ref aB, .ref aP, .int qnb, .int qnp, .ref aN, .ref rf, .int ho, .int br, .ref aK, .int ac, .long dw, .ref aE, .int sr, .int sf, .ref aA, .ref aH, .ref aI, .int hi])), (qR, .inl (cI, 3, .inl fqR)), (qB, .inl (cI, 24, .inl fqB)), (qP, .inl (cI, 20, .inl fqP)), (aR, .inl (cI, 3, .inl m18_A_aR)), (aB, .inl (cI, 24, .inl m43_A_aB)), (aP, .inl (cI, 20, .inl m69_A_aP)), (aN, .inl (cI, 97, .inl v187_f))]) hP9 hD9 rfl
                                      have hS := hS9
                                      clear hP9 hD9 hS9
                                      refine lv_aload_n hx hb dX11_takeCourt_188 rfl (lv_at hl 1 rfl) ?_
                                      refine lv_iconst (v := 0) hx hb dX11_takeCourt_189 (by decide) ?_
                                      refine va_put (D := (dC, dI)) (ci := 11) (v := .int 0) (ty := .int) (C := RX11) (T := TX11) (N := 41) hx hb hts iX11 tyX11 tyX11_ok nmX11 hown hK hP hD hS 0 rfl rfl 32 (by decide) (hts _ qw1159) (fun _ h9 => h9) rfl (by decide +kernel) rfl rfl (Nat.le_of_ble_eq_true rfl) dX11_takeCourt_190 (fun H locs hP9 hD9 hS9 => ?_)
                                      clear hP hD hS
                                      obtain ⟨hP, hD⟩ := zst (wX := [(h0, .inr (11, [.int th, .ref tB, .int tsz, .int tat, .int wr, .int dp, .ref rC, .ref rV, .ref rD, .ref rK, .ref rT, .ref rS, .ref rU, .int lw, .int tx, .ref rL, .ref rX, .ref qR, .ref qB, .ref qP, .int qnb, .int qnp, .ref aR, .ref aB, .ref aP, .int qnb, .int qnp, .ref aN, .ref rf, .int ho, .int br, .ref aK, .int 0, .long dw, .ref aE, .int sr, .int sf, .ref aA, .ref aH, .ref aI, .int hi])), (qR, .inl (cI, 3, .inl fqR)), (qB, .inl (cI, 24, .inl fqB)), (qP, .inl (cI, 20, .inl fqP)), (aR, .inl (cI, 3, .inl m18_A_aR)), (aB, .inl (cI, 24, .inl m43_A_aB)), (aP, .inl (cI, 20, .inl m69_A_aP)), (aN, .inl (cI, 97, .inl v187_f))]) hP9 hD9 rfl
                                      have hS := hS9
                                      clear hP9 hD9 hS9
                                      refine lv_aload_n hx hb dX11_takeCourt_193 rfl (lv_at hl 1 rfl) ?_
                                      refine lv_iconst (v := 0) hx hb dX11_takeCourt_194 (by decide) ?_
                                      refine va_put (D := (dC, dI)) (ci := 11) (v := .int 0) (ty := .boolean) (C := RX11) (T := TX11) (N := 41) hx hb hts iX11 tyX11 tyX11_ok nmX11 hown hK hP hD hS 0 rfl rfl 40 (by decide) (hts _ qw1167) (fun _ h9 => h9) rfl (by decide +kernel) rfl rfl (Nat.le_of_ble_eq_true rfl) dX11_takeCourt_195 (fun H locs hP9 hD9 hS9 => ?_)
                                      clear hP hD hS
                                      obtain ⟨hP, hD⟩ := zst (wX := [(h0, .inr (11, [.int th, .ref tB, .int tsz, .int tat, .int wr, .int dp, .ref rC, .ref rV, .ref rD, .ref rK, .ref rT, .ref rS, .ref rU, .int lw, .int tx, .ref rL, .ref rX, .ref qR, .ref qB, .ref qP, .int qnb, .int qnp, .ref aR, .ref aB, .ref aP, .int qnb, .int qnp, .ref aN, .ref rf, .int ho, .int br, .ref aK, .int 0, .long dw, .ref aE, .int sr, .int sf, .ref aA, .ref aH, .ref aI, .int 0])), (qR, .inl (cI, 3, .inl fqR)), (qB, .inl (cI, 24, .inl fqB)), (qP, .inl (cI, 20, .inl fqP)), (aR, .inl (cI, 3, .inl m18_A_aR)), (aB, .inl (cI, 24, .inl m43_A_aB)), (aP, .inl (cI, 20, .inl m69_A_aP)), (aN, .inl (cI, 97, .inl v187_f))]) hP9 hD9 rfl
                                      have hS := hS9
                                      clear hP9 hD9 hS9
                                      refine lv_aload_n hx hb dX11_takeCourt_198 rfl (lv_at hl 1 rfl) ?_
                                      refine va_get (D := (dC, dI)) (ci := 11) (v := .int qnb) (C := RX11) (T := TX11) (N := 41) hx hb hts iX11 hown hK hP 0 rfl rfl 25 (by decide) (hts _ qw1152) (fun _ h9 => h9) rfl dX11_takeCourt_199 ?_
                                      rw [hQ]
                                      exact W.iret (v := qnb) hx hb hr (fun t ht hW => ⟨⟨qnb, (m18_A_aR, m43_A_aB, m69_A_aP, v187_f), rfl, ⟨by (try dsimp only); omega, by (try dsimp only); omega, zBr_eq hqb jv43_0 (by omega), zBr_eq hqp jv69_0 (by omega), (zNw_low jv146_0 e187 (by decide) (by decide)).1, rfl, by (try dsimp only); exact ⟨zEq_t (N := 3) jv18_0 (by omega), zEq_t (N := 24) jv43_0 (by omega), zEq_t (N := 20) jv69_0 (by omega)⟩, by (try dsimp only); exact fun c hc => zSr_bg jv146_1 (by omega) e187 (zIxN (n := 0) e186 (by decide)) (zCn_eq hc (zEq_t (N := 3) jv18_0 (by omega)) (fun j hj => zEq_t (N := 24) jv43_0 (by omega) j (by omega)) (fun j hj => zEq_t (N := 20) jv69_0 (by omega) j (by omega))) (by omega) (by omega)⟩, ⟨by rw [ht]; exact hP, hD⟩⟩, hS.F ht⟩) hS.2.2 dX11_takeCourt_202
                                    · have c151 : m146_L_1.toInt < qnp.toInt := z4 rfl rfl c151
                                      refine lv_aload_n hx hb dX11_takeCourt_154 rfl (lv_at hl 1 rfl) ?_
                                      refine va_get (D := (dC, dI)) (ci := 11) (v := .ref aN) (C := RX11) (T := TX11) (N := 41) hx hb hts iX11 hown hK hP 0 rfl rfl 27 (by decide) (hts _ qw1154) (fun _ h9 => h9) rfl dX11_takeCourt_155 ?_
                                      refine lv_bipush (v := 6) hx hb dX11_takeCourt_158 (by decide) ?_
                                      refine lv_iload_n hx hb dX11_takeCourt_160 rfl (lv_at hl 0 rfl) ?_
                                      refine lv_iadd hx hb dX11_takeCourt_161 ?_
                                      refine lv_topi (fun v161 e161 => ?_)
                                      have i161 : v161.toInt = 6 + m146_L_1.toInt := zadd e161 (by decide) rfl (by omega) (by omega)
                                      refine lv_aload_n hx hb dX11_takeCourt_162 rfl (lv_at hl 1 rfl) ?_
                                      refine lv_iload_n hx hb dX11_takeCourt_163 rfl (lv_at hl 0 rfl) ?_
                                      refine lv_iconst (v := 2) hx hb dX11_takeCourt_164 (by decide) ?_
                                      obtain ⟨hPc, hDc⟩ := zc2 (wc := [(h0, .inr (11, [.int th, .ref tB, .int tsz, .int tat, .int wr, .int dp, .ref rC, .ref rV, .ref rD, .ref rK, .ref rT, .ref rS, .ref rU, .int lw, .int tx, .ref rL, .ref rX, .ref qR, .ref qB, .ref qP, .int qnb, .int qnp, .ref aR, .ref aB, .ref aP, .int qnb, .int qnp, .ref aN, .ref rf, .int ho, .int br, .ref aK, .int ac, .long dw, .ref aE, .int sr, .int sf, .ref aA, .ref aH, .ref aI, .int hi])), (aP, .inl (cI, 20, .inl m69_A_aP))]) hP hD [0, 6] (by decide +kernel) rfl
                                      have hFc := zfr hS hA
                                      refine va_calli (va_runV (As := [.int m146_L_1, .int 2]) (rest := [.int v161, .ref aN]) ⟨hx, hb, hml, hown, hts⟩ (g_X11_by l dC dI cI cJ h0 m146_L_1 2 th tB tsz tat wr dp rC rV rD rK rT rS rU lw tx rL rX qR qB qP qnb qnp aR aB aP qnb qnp aN rf ho br aK ac dw aE sr sf aA aH aI hi m69_A_aP H.size y_ac y_hi y_ho y_lw n_qnb n_qnp (by omega) (by decide) n_qnb n_qnp y_tat y_tsz y_wr) (cwV 2 hts (zgV qw1390 qw1392 qw55 qw108 qw1393) rfl rfl rfl hd_X11_by ⟨by rw [hR]; exact Nat.le_of_ble_eq_true rfl, by rw [hR]; exact Nat.le_of_ble_eq_true rfl⟩) (zPV hPc hK hDc (va_recv (q := (RX11, TX11, 41)) hK hP (ci := 11) (q0 := 0) rfl rfl)) rfl rfl hl.1 rfl (lv_room (Nat.le_of_ble_eq_true rfl)) dX11_takeCourt_165 ⟨Nat.zero_le _, Nat.zero_le _⟩) hS (fun q _ h => hFc q h) hFc (fun v165 u165 t H locs ht hvm hw hB hz1 hk1 hS9 => ?_)
                                      replace hP := zkeep hP hk1
                                      replace hS := hS9
                                      clear hPc hDc hFc hk1 hz1 hvm hS9
                                      have zn165_2 : (2 : Int32).toInt = 2 := by decide
                                      have f165_0 : (v165 = m69_A_aP (4 * m146_L_1.toInt.toNat + (2 : Int32).toInt.toNat)) := hw
                                      have F165 := f165_0
                                      refine va_iast hx hb hK hP hD hS 7 0 rfl rfl (vp_in_iff.mpr ⟨by omega, by omega⟩) dX11_takeCourt_168 (fun H locs hP9 hD9 hS9 => ?_)
                                      clear hP hD hS
                                      obtain ⟨v168_f, e168⟩ : ∃ g : Nat → Int32, g = upd m146_A_aN (v161).toNatClampNeg v165 := ⟨_, rfl⟩
                                      rw [← e168] at hP9 hD9
                                      obtain ⟨hP, hD⟩ := zst (wX := [(h0, .inr (11, [.int th, .ref tB, .int tsz, .int tat, .int wr, .int dp, .ref rC, .ref rV, .ref rD, .ref rK, .ref rT, .ref rS, .ref rU, .int lw, .int tx, .ref rL, .ref rX, .ref qR, .ref qB, .ref qP, .int qnb, .int qnp, .ref aR, .ref aB, .ref aP, .int qnb, .int qnp, .ref aN, .ref rf, .int ho, .int br, .ref aK, .int ac, .long dw, .ref aE, .int sr, .int sf, .ref aA, .ref aH, .ref aI, .int hi])), (qR, .inl (cI, 3, .inl fqR)), (qB, .inl (cI, 24, .inl fqB)), (qP, .inl (cI, 20, .inl fqP)), (aR, .inl (cI, 3, .inl m18_A_aR)), (aB, .inl (cI, 24, .inl m43_A_aB)), (aP, .inl (cI, 20, .inl m69_A_aP)), (aN, .inl (cI, 97, .inl v168_f))]) hP9 hD9 rfl
                                      have hS := hS9
                                      clear hP9 hD9 hS9
                                      obtain ⟨v169, e169⟩ : ∃ y : Int32, y = m146_L_1 + Int32.ofInt (1) := ⟨_, rfl⟩
                                      refine lv_iinc (v := v169) (lv' := [(1, .int v169), (0, .ref h0)]) hx hb dX11_takeCourt_169 hl (k := 0) rfl e169.symm (by decide) rfl (fun ls hl => ?_)
                                      have i169 : v169.toInt = m146_L_1.toInt + 1 := zaddI e169 (by decide) (by omega) (by omega)
                                      refine lv_goto (tgt := 146) hx hb dX11_takeCourt_172 (by decide) ?_
                                      exact ih146 _ (by omega) v168_f v169 (by omega) ((zNw_low jv146_0 e168 (by omega) (by omega)).1) (zBg2_s jv146_1 e168 (F165.trans (congrArg m69_A_aP (show 4 * m146_L_1.toInt.toNat + (2 : Int32).toInt.toNat = 4 * m146_L_1.toInt.toNat + 2 by rw [show (2 : Int32).toInt.toNat = 2 by decide]))) (by omega) (by omega) (by omega) i169 (by omega)) rfl H locs ls hP hD hS (lv_sub hl [0, 1] rfl)
                                refine lv_istore_n (lv' := [(1, .int 0), (0, .ref h0)]) hx hb dX11_takeCourt_145 rfl hl (by decide) rfl (fun ls hl => ?_)
                                have zj146_m146_L_1 : (0 : Int32).toInt = 0 := by decide
                                exact J146 _ m116_A_aN 0 (by decide) (by assumption) (zBg2_0 jv116_1 (by omega)) rfl H locs ls hP hD hS (lv_sub hl [0, 1] rfl)
                              · have c121 : m116_L_1.toInt < qnb.toInt := z4 rfl rfl c121
                                refine lv_aload_n hx hb dX11_takeCourt_124 rfl (lv_at hl 1 rfl) ?_
                                refine va_get (D := (dC, dI)) (ci := 11) (v := .ref aN) (C := RX11) (T := TX11) (N := 41) hx hb hts iX11 hown hK hP 0 rfl rfl 27 (by decide) (hts _ qw1154) (fun _ h9 => h9) rfl dX11_takeCourt_125 ?_
                                refine lv_iconst (v := 0) hx hb dX11_takeCourt_128 (by decide) ?_
                                refine lv_iload_n hx hb dX11_takeCourt_129 rfl (lv_at hl 0 rfl) ?_
                                refine lv_iadd hx hb dX11_takeCourt_130 ?_
                                refine lv_topi (fun v130 e130 => ?_)
                                have i130 : v130.toInt = 0 + m116_L_1.toInt := zadd e130 (by decide) rfl (by omega) (by omega)
                                refine lv_aload_n hx hb dX11_takeCourt_131 rfl (lv_at hl 1 rfl) ?_
                                refine lv_iload_n hx hb dX11_takeCourt_132 rfl (lv_at hl 0 rfl) ?_
                                refine lv_iconst (v := 3) hx hb dX11_takeCourt_133 (by decide) ?_
                                obtain ⟨hPc, hDc⟩ := zc2 (wc := [(h0, .inr (11, [.int th, .ref tB, .int tsz, .int tat, .int wr, .int dp, .ref rC, .ref rV, .ref rD, .ref rK, .ref rT, .ref rS, .ref rU, .int lw, .int tx, .ref rL, .ref rX, .ref qR, .ref qB, .ref qP, .int qnb, .int qnp, .ref aR, .ref aB, .ref aP, .int qnb, .int qnp, .ref aN, .ref rf, .int ho, .int br, .ref aK, .int ac, .long dw, .ref aE, .int sr, .int sf, .ref aA, .ref aH, .ref aI, .int hi])), (aB, .inl (cI, 24, .inl m43_A_aB))]) hP hD [0, 5] (by decide +kernel) rfl
                                have hFc := zfr hS hA
                                refine va_calli (va_runV (As := [.int m116_L_1, .int 3]) (rest := [.int v130, .ref aN]) ⟨hx, hb, hml, hown, hts⟩ (g_X11_of l dC dI cI cJ h0 m116_L_1 3 th tB tsz tat wr dp rC rV rD rK rT rS rU lw tx rL rX qR qB qP qnb qnp aR aB aP qnb qnp aN rf ho br aK ac dw aE sr sf aA aH aI hi m43_A_aB H.size y_ac y_hi y_ho y_lw n_qnb n_qnp (by omega) (by decide) n_qnb n_qnp y_tat y_tsz y_wr) (cwV 2 hts (zgV qw1386 qw1388 qw54 qw108 qw1389) rfl rfl rfl hd_X11_of ⟨by rw [hR]; exact Nat.le_of_ble_eq_true rfl, by rw [hR]; exact Nat.le_of_ble_eq_true rfl⟩) (zPV hPc hK hDc (va_recv (q := (RX11, TX11, 41)) hK hP (ci := 11) (q0 := 0) rfl rfl)) rfl rfl hl.1 rfl (lv_room (Nat.le_of_ble_eq_true rfl)) dX11_takeCourt_134 ⟨Nat.zero_le _, Nat.zero_le _⟩) hS (fun q _ h => hFc q h) hFc (fun v134 u134 t H locs ht hvm hw hB hz1 hk1 hS9 => ?_)
                                replace hP := zkeep hP hk1
                                replace hS := hS9
                                clear hPc hDc hFc hk1 hz1 hvm hS9
                                have zn134_3 : (3 : Int32).toInt = 3 := by decide
                                have f134_0 : (v134 = m43_A_aB (4 * m116_L_1.toInt.toNat + (3 : Int32).toInt.toNat)) := hw
                                have F134 := f134_0
                                refine va_iast hx hb hK hP hD hS 7 0 rfl rfl (vp_in_iff.mpr ⟨by omega, by omega⟩) dX11_takeCourt_137 (fun H locs hP9 hD9 hS9 => ?_)
                                clear hP hD hS
                                obtain ⟨v137_f, e137⟩ : ∃ g : Nat → Int32, g = upd m116_A_aN (v130).toNatClampNeg v134 := ⟨_, rfl⟩
                                rw [← e137] at hP9 hD9
                                obtain ⟨hP, hD⟩ := zst (wX := [(h0, .inr (11, [.int th, .ref tB, .int tsz, .int tat, .int wr, .int dp, .ref rC, .ref rV, .ref rD, .ref rK, .ref rT, .ref rS, .ref rU, .int lw, .int tx, .ref rL, .ref rX, .ref qR, .ref qB, .ref qP, .int qnb, .int qnp, .ref aR, .ref aB, .ref aP, .int qnb, .int qnp, .ref aN, .ref rf, .int ho, .int br, .ref aK, .int ac, .long dw, .ref aE, .int sr, .int sf, .ref aA, .ref aH, .ref aI, .int hi])), (qR, .inl (cI, 3, .inl fqR)), (qB, .inl (cI, 24, .inl fqB)), (qP, .inl (cI, 20, .inl fqP)), (aR, .inl (cI, 3, .inl m18_A_aR)), (aB, .inl (cI, 24, .inl m43_A_aB)), (aP, .inl (cI, 20, .inl m69_A_aP)), (aN, .inl (cI, 97, .inl v137_f))]) hP9 hD9 rfl
                                have hS := hS9
                                clear hP9 hD9 hS9
                                obtain ⟨v138, e138⟩ : ∃ y : Int32, y = m116_L_1 + Int32.ofInt (1) := ⟨_, rfl⟩
                                refine lv_iinc (v := v138) (lv' := [(1, .int v138), (0, .ref h0)]) hx hb dX11_takeCourt_138 hl (k := 0) rfl e138.symm (by decide) rfl (fun ls hl => ?_)
                                have i138 : v138.toInt = m116_L_1.toInt + 1 := zaddI e138 (by decide) (by omega) (by omega)
                                refine lv_goto (tgt := 116) hx hb dX11_takeCourt_141 (by decide) ?_
                                exact ih116 _ (by omega) v137_f v138 (by omega) ((zNw_low jv116_0 e137 (by omega) (by omega)).1) (zBg1_s jv116_1 e137 (F134.trans (congrArg m43_A_aB (show 4 * m116_L_1.toInt.toNat + (3 : Int32).toInt.toNat = 4 * m116_L_1.toInt.toNat + 3 by rw [show (3 : Int32).toInt.toNat = 3 by decide]))) (by omega) (by omega) (by omega) i138) rfl H locs ls hP hD hS (lv_sub hl [0, 1] rfl)
                          refine lv_istore_n (lv' := [(1, .int 0), (0, .ref h0)]) hx hb dX11_takeCourt_115 rfl hl (by decide) rfl (fun ls hl => ?_)
                          have zj116_m116_L_1 : (0 : Int32).toInt = 0 := by decide
                          exact J116 _ m95_A_aN 0 (by decide) (zNw_zr jv95_0 (by omega)) (zBg1_0 jv95_0 (by omega)) rfl H locs ls hP hD hS (lv_sub hl [0, 1] rfl)
                        · have c98 : m95_L_1.toInt < 97 := z4 (by decide) rfl c98
                          refine lv_aload_n hx hb dX11_takeCourt_101 rfl (lv_at hl 1 rfl) ?_
                          refine va_get (D := (dC, dI)) (ci := 11) (v := .ref aN) (C := RX11) (T := TX11) (N := 41) hx hb hts iX11 hown hK hP 0 rfl rfl 27 (by decide) (hts _ qw1154) (fun _ h9 => h9) rfl dX11_takeCourt_102 ?_
                          refine lv_iload_n hx hb dX11_takeCourt_105 rfl (lv_at hl 0 rfl) ?_
                          refine lv_iconst (v := 0) hx hb dX11_takeCourt_106 (by decide) ?_
                          refine va_iast hx hb hK hP hD hS 7 0 rfl rfl (vp_in_iff.mpr ⟨by omega, by omega⟩) dX11_takeCourt_107 (fun H locs hP9 hD9 hS9 => ?_)
                          clear hP hD hS
                          obtain ⟨v107_f, e107⟩ : ∃ g : Nat → Int32, g = upd m95_A_aN (m95_L_1).toNatClampNeg 0 := ⟨_, rfl⟩
                          rw [← e107] at hP9 hD9
                          obtain ⟨hP, hD⟩ := zst (wX := [(h0, .inr (11, [.int th, .ref tB, .int tsz, .int tat, .int wr, .int dp, .ref rC, .ref rV, .ref rD, .ref rK, .ref rT, .ref rS, .ref rU, .int lw, .int tx, .ref rL, .ref rX, .ref qR, .ref qB, .ref qP, .int qnb, .int qnp, .ref aR, .ref aB, .ref aP, .int qnb, .int qnp, .ref aN, .ref rf, .int ho, .int br, .ref aK, .int ac, .long dw, .ref aE, .int sr, .int sf, .ref aA, .ref aH, .ref aI, .int hi])), (qR, .inl (cI, 3, .inl fqR)), (qB, .inl (cI, 24, .inl fqB)), (qP, .inl (cI, 20, .inl fqP)), (aR, .inl (cI, 3, .inl m18_A_aR)), (aB, .inl (cI, 24, .inl m43_A_aB)), (aP, .inl (cI, 20, .inl m69_A_aP)), (aN, .inl (cI, 97, .inl v107_f))]) hP9 hD9 rfl
                          have hS := hS9
                          clear hP9 hD9 hS9
                          obtain ⟨v108, e108⟩ : ∃ y : Int32, y = m95_L_1 + Int32.ofInt (1) := ⟨_, rfl⟩
                          refine lv_iinc (v := v108) (lv' := [(1, .int v108), (0, .ref h0)]) hx hb dX11_takeCourt_108 hl (k := 0) rfl e108.symm (by decide) rfl (fun ls hl => ?_)
                          have i108 : v108.toInt = m95_L_1.toInt + 1 := zaddI e108 (by decide) (by omega) (by omega)
                          refine lv_goto (tgt := 95) hx hb dX11_takeCourt_111 (by decide) ?_
                          exact ih95 _ (by omega) v107_f v108 (by omega) (zZr_s jv95_0 e107 (by omega) (by omega) (by omega)) rfl H locs ls hP hD hS (lv_sub hl [0, 1] rfl)
                    refine lv_istore_n (lv' := [(1, .int 0), (0, .ref h0)]) hx hb dX11_takeCourt_94 rfl hl (by decide) rfl (fun ls hl => ?_)
                    have zj95_m95_L_1 : (0 : Int32).toInt = 0 := by decide
                    exact J95 _ fN 0 (by decide) (zZr_0) rfl H locs ls hP hD hS (lv_sub hl [0, 1] rfl)
                  · have c72 : m69_L_1.toInt < 20 := z4 (by decide) rfl c72
                    refine lv_aload_n hx hb dX11_takeCourt_75 rfl (lv_at hl 1 rfl) ?_
                    refine va_get (D := (dC, dI)) (ci := 11) (v := .ref aP) (C := RX11) (T := TX11) (N := 41) hx hb hts iX11 hown hK hP 0 rfl rfl 24 (by decide) (hts _ qw1151) (fun _ h9 => h9) rfl dX11_takeCourt_76 ?_
                    refine lv_iload_n hx hb dX11_takeCourt_79 rfl (lv_at hl 0 rfl) ?_
                    refine lv_aload_n hx hb dX11_takeCourt_80 rfl (lv_at hl 1 rfl) ?_
                    refine va_get (D := (dC, dI)) (ci := 11) (v := .ref qP) (C := RX11) (T := TX11) (N := 41) hx hb hts iX11 hown hK hP 0 rfl rfl 19 (by decide) (hts _ qw1146) (fun _ h9 => h9) rfl dX11_takeCourt_81 ?_
                    refine lv_iload_n hx hb dX11_takeCourt_84 rfl (lv_at hl 0 rfl) ?_
                    refine va_iald hx hb hK hP 3 0 rfl rfl (vp_in_iff.mpr ⟨by omega, by omega⟩) dX11_takeCourt_85 ?_
                    refine lv_topi (fun v85 e85 => ?_)
                    refine va_iast hx hb hK hP hD hS 6 0 rfl rfl (vp_in_iff.mpr ⟨by omega, by omega⟩) dX11_takeCourt_86 (fun H locs hP9 hD9 hS9 => ?_)
                    clear hP hD hS
                    obtain ⟨v86_f, e86⟩ : ∃ g : Nat → Int32, g = upd m69_A_aP (m69_L_1).toNatClampNeg v85 := ⟨_, rfl⟩
                    rw [← e86] at hP9 hD9
                    obtain ⟨hP, hD⟩ := zst (wX := [(h0, .inr (11, [.int th, .ref tB, .int tsz, .int tat, .int wr, .int dp, .ref rC, .ref rV, .ref rD, .ref rK, .ref rT, .ref rS, .ref rU, .int lw, .int tx, .ref rL, .ref rX, .ref qR, .ref qB, .ref qP, .int qnb, .int qnp, .ref aR, .ref aB, .ref aP, .int qnb, .int qnp, .ref aN, .ref rf, .int ho, .int br, .ref aK, .int ac, .long dw, .ref aE, .int sr, .int sf, .ref aA, .ref aH, .ref aI, .int hi])), (qR, .inl (cI, 3, .inl fqR)), (qB, .inl (cI, 24, .inl fqB)), (qP, .inl (cI, 20, .inl fqP)), (aR, .inl (cI, 3, .inl m18_A_aR)), (aB, .inl (cI, 24, .inl m43_A_aB)), (aP, .inl (cI, 20, .inl v86_f)), (aN, .inl (cI, 97, .inl fN))]) hP9 hD9 rfl
                    have hS := hS9
                    clear hP9 hD9 hS9
                    obtain ⟨v87, e87⟩ : ∃ y : Int32, y = m69_L_1 + Int32.ofInt (1) := ⟨_, rfl⟩
                    refine lv_iinc (v := v87) (lv' := [(1, .int v87), (0, .ref h0)]) hx hb dX11_takeCourt_87 hl (k := 0) rfl e87.symm (by decide) rfl (fun ls hl => ?_)
                    have i87 : v87.toInt = m69_L_1.toInt + 1 := zaddI e87 (by decide) (by omega) (by omega)
                    refine lv_goto (tgt := 69) hx hb dX11_takeCourt_90 (by decide) ?_
                    exact ih69 _ (by omega) v86_f v87 (by omega) (zEq_s jv69_0 e85 e86 (by omega) (by omega) (by omega) (by omega)) rfl H locs ls hP hD hS (lv_sub hl [0, 1] rfl)
              refine lv_istore_n (lv' := [(1, .int 0), (0, .ref h0)]) hx hb dX11_takeCourt_68 rfl hl (by decide) rfl (fun ls hl => ?_)
              have zj69_m69_L_1 : (0 : Int32).toInt = 0 := by decide
              exact J69 _ fPa 0 (by decide) (zEq_0) rfl H locs ls hP hD hS (lv_sub hl [0, 1] rfl)
            · have c46 : m43_L_1.toInt < 24 := z4 (by decide) rfl c46
              refine lv_aload_n hx hb dX11_takeCourt_49 rfl (lv_at hl 1 rfl) ?_
              refine va_get (D := (dC, dI)) (ci := 11) (v := .ref aB) (C := RX11) (T := TX11) (N := 41) hx hb hts iX11 hown hK hP 0 rfl rfl 23 (by decide) (hts _ qw1150) (fun _ h9 => h9) rfl dX11_takeCourt_50 ?_
              refine lv_iload_n hx hb dX11_takeCourt_53 rfl (lv_at hl 0 rfl) ?_
              refine lv_aload_n hx hb dX11_takeCourt_54 rfl (lv_at hl 1 rfl) ?_
              refine va_get (D := (dC, dI)) (ci := 11) (v := .ref qB) (C := RX11) (T := TX11) (N := 41) hx hb hts iX11 hown hK hP 0 rfl rfl 18 (by decide) (hts _ qw1145) (fun _ h9 => h9) rfl dX11_takeCourt_55 ?_
              refine lv_iload_n hx hb dX11_takeCourt_58 rfl (lv_at hl 0 rfl) ?_
              refine va_iald hx hb hK hP 2 0 rfl rfl (vp_in_iff.mpr ⟨by omega, by omega⟩) dX11_takeCourt_59 ?_
              refine lv_topi (fun v59 e59 => ?_)
              refine va_iast hx hb hK hP hD hS 5 0 rfl rfl (vp_in_iff.mpr ⟨by omega, by omega⟩) dX11_takeCourt_60 (fun H locs hP9 hD9 hS9 => ?_)
              clear hP hD hS
              obtain ⟨v60_f, e60⟩ : ∃ g : Nat → Int32, g = upd m43_A_aB (m43_L_1).toNatClampNeg v59 := ⟨_, rfl⟩
              rw [← e60] at hP9 hD9
              obtain ⟨hP, hD⟩ := zst (wX := [(h0, .inr (11, [.int th, .ref tB, .int tsz, .int tat, .int wr, .int dp, .ref rC, .ref rV, .ref rD, .ref rK, .ref rT, .ref rS, .ref rU, .int lw, .int tx, .ref rL, .ref rX, .ref qR, .ref qB, .ref qP, .int qnb, .int qnp, .ref aR, .ref aB, .ref aP, .int qnb, .int qnp, .ref aN, .ref rf, .int ho, .int br, .ref aK, .int ac, .long dw, .ref aE, .int sr, .int sf, .ref aA, .ref aH, .ref aI, .int hi])), (qR, .inl (cI, 3, .inl fqR)), (qB, .inl (cI, 24, .inl fqB)), (qP, .inl (cI, 20, .inl fqP)), (aR, .inl (cI, 3, .inl m18_A_aR)), (aB, .inl (cI, 24, .inl v60_f)), (aP, .inl (cI, 20, .inl fPa)), (aN, .inl (cI, 97, .inl fN))]) hP9 hD9 rfl
              have hS := hS9
              clear hP9 hD9 hS9
              obtain ⟨v61, e61⟩ : ∃ y : Int32, y = m43_L_1 + Int32.ofInt (1) := ⟨_, rfl⟩
              refine lv_iinc (v := v61) (lv' := [(1, .int v61), (0, .ref h0)]) hx hb dX11_takeCourt_61 hl (k := 0) rfl e61.symm (by decide) rfl (fun ls hl => ?_)
              have i61 : v61.toInt = m43_L_1.toInt + 1 := zaddI e61 (by decide) (by omega) (by omega)
              refine lv_goto (tgt := 43) hx hb dX11_takeCourt_64 (by decide) ?_
              exact ih43 _ (by omega) v60_f v61 (by omega) (zEq_s jv43_0 e59 e60 (by omega) (by omega) (by omega) (by omega)) rfl H locs ls hP hD hS (lv_sub hl [0, 1] rfl)
        refine lv_istore_n (lv' := [(1, .int 0), (0, .ref h0)]) hx hb dX11_takeCourt_42 rfl hl (by decide) rfl (fun ls hl => ?_)
        have zj43_m43_L_1 : (0 : Int32).toInt = 0 := by decide
        exact J43 _ fBr 0 (by decide) (zEq_0) rfl H locs ls hP hD hS (lv_sub hl [0, 1] rfl)
      · have c20 : m18_L_1.toInt < 3 := z4 (by decide) rfl c20
        refine lv_aload_n hx hb dX11_takeCourt_23 rfl (lv_at hl 1 rfl) ?_
        refine va_get (D := (dC, dI)) (ci := 11) (v := .ref aR) (C := RX11) (T := TX11) (N := 41) hx hb hts iX11 hown hK hP 0 rfl rfl 22 (by decide) (hts _ qw1149) (fun _ h9 => h9) rfl dX11_takeCourt_24 ?_
        refine lv_iload_n hx hb dX11_takeCourt_27 rfl (lv_at hl 0 rfl) ?_
        refine lv_aload_n hx hb dX11_takeCourt_28 rfl (lv_at hl 1 rfl) ?_
        refine va_get (D := (dC, dI)) (ci := 11) (v := .ref qR) (C := RX11) (T := TX11) (N := 41) hx hb hts iX11 hown hK hP 0 rfl rfl 17 (by decide) (hts _ qw1144) (fun _ h9 => h9) rfl dX11_takeCourt_29 ?_
        refine lv_iload_n hx hb dX11_takeCourt_32 rfl (lv_at hl 0 rfl) ?_
        refine va_iald hx hb hK hP 1 0 rfl rfl (vp_in_iff.mpr ⟨by omega, by omega⟩) dX11_takeCourt_33 ?_
        refine lv_topi (fun v33 e33 => ?_)
        refine va_iast hx hb hK hP hD hS 4 0 rfl rfl (vp_in_iff.mpr ⟨by omega, by omega⟩) dX11_takeCourt_34 (fun H locs hP9 hD9 hS9 => ?_)
        clear hP hD hS
        obtain ⟨v34_f, e34⟩ : ∃ g : Nat → Int32, g = upd m18_A_aR (m18_L_1).toNatClampNeg v33 := ⟨_, rfl⟩
        rw [← e34] at hP9 hD9
        obtain ⟨hP, hD⟩ := zst (wX := [(h0, .inr (11, [.int th, .ref tB, .int tsz, .int tat, .int wr, .int dp, .ref rC, .ref rV, .ref rD, .ref rK, .ref rT, .ref rS, .ref rU, .int lw, .int tx, .ref rL, .ref rX, .ref qR, .ref qB, .ref qP, .int qnb, .int qnp, .ref aR, .ref aB, .ref aP, .int qnb, .int qnp, .ref aN, .ref rf, .int ho, .int br, .ref aK, .int ac, .long dw, .ref aE, .int sr, .int sf, .ref aA, .ref aH, .ref aI, .int hi])), (qR, .inl (cI, 3, .inl fqR)), (qB, .inl (cI, 24, .inl fqB)), (qP, .inl (cI, 20, .inl fqP)), (aR, .inl (cI, 3, .inl v34_f)), (aB, .inl (cI, 24, .inl fBr)), (aP, .inl (cI, 20, .inl fPa)), (aN, .inl (cI, 97, .inl fN))]) hP9 hD9 rfl
        have hS := hS9
        clear hP9 hD9 hS9
        obtain ⟨v35, e35⟩ : ∃ y : Int32, y = m18_L_1 + Int32.ofInt (1) := ⟨_, rfl⟩
        refine lv_iinc (v := v35) (lv' := [(1, .int v35), (0, .ref h0)]) hx hb dX11_takeCourt_35 hl (k := 0) rfl e35.symm (by decide) rfl (fun ls hl => ?_)
        have i35 : v35.toInt = m18_L_1.toInt + 1 := zaddI e35 (by decide) (by omega) (by omega)
        refine lv_goto (tgt := 18) hx hb dX11_takeCourt_38 (by decide) ?_
        exact ih18 _ (by omega) v34_f v35 (by omega) (zEq_s jv18_0 e33 e34 (by omega) (by omega) (by omega) (by omega)) rfl H locs ls hP hD hS (lv_sub hl [0, 1] rfl)
  refine lv_istore_n (lv' := [(1, .int 0), (0, .ref h0)]) hx hb dX11_takeCourt_17 rfl hl (by decide) rfl (fun ls hl => ?_)
  have zj18_m18_L_1 : (0 : Int32).toInt = 0 := by decide
  exact J18 _ fR 0 (by decide) (zEq_0) rfl H locs ls hP hD hS (lv_sub hl [0, 1] rfl)
