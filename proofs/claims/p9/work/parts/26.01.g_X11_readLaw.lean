set_option maxHeartbeats 40000000 in
set_option maxRecDepth 100000 in
theorem g_X11_clause (l : Launch) (dC : Nat → ClassId) (dI : Nat → Nat → Nat) (cI cJ : ClassId) (h0 : Nat) (th : Int32) (tB : Nat) (tsz : Int32) (tat : Int32) (rC : Nat) (rV : Nat) (rD : Nat) (rK : Nat) (rT : Nat) (rS : Nat) (rU : Nat) (lw : Int32) (tx : Int32) (rL : Nat) (rX : Nat) (qR : Nat) (qB : Nat) (qP : Nat) (qnb : Int32) (qnp : Int32) (aR : Nat) (aB : Nat) (aP : Nat) (nb : Int32) (np : Int32) (aN : Nat) (rf : Nat) (ho : Int32) (br : Int32) (aK : Nat) (ac : Int32) (dw : Int64) (aE : Nat) (sr : Int32) (sf : Int32) (aA : Nat) (aH : Nat) (aI : Nat) (hi : Int32) (fB : Nat → Int32) (fC : Nat → Int32) (fV : Nat → Int32) (fD : Nat → Int32) (fK : Nat → Int32) (fT : Nat → Int32) (fS : Nat → Int32) (fU : Nat → Int32) (gC : Nat → Int32) (gV : Nat → Int32) (gK : Nat → Int32) (gT : Nat → Int32) (gS : Nat → Int32) (gU : Nat → Int32) (n0 : Nat) (sz : Nat) (n_ac : 0 ≤ ac.toInt ∧ ac.toInt ≤ 40) (n_hi : 0 ≤ hi.toInt ∧ hi.toInt ≤ 1) (n_ho : (-1) ≤ ho.toInt ∧ ho.toInt ≤ 3) (n_lw : 0 ≤ lw.toInt ∧ lw.toInt ≤ 4) (n_nb : 0 ≤ nb.toInt ∧ nb.toInt ≤ 6) (n_np : 0 ≤ np.toInt ∧ np.toInt ≤ 5) (n_qnb : 0 ≤ qnb.toInt ∧ qnb.toInt ≤ 6) (n_qnp : 0 ≤ qnp.toInt ∧ qnp.toInt ≤ 5) (n_tat : 0 ≤ tat.toInt ∧ tat.toInt ≤ 240) (n_tsz : 0 ≤ tsz.toInt ∧ tsz.toInt ≤ 240) (n_tx : 0 ≤ tx.toInt ∧ tx.toInt ≤ 4) (hrd : zRd (-1) tat fC fV fD fK fT fS fU tx gC gV gK gT gS gU n0) (hat : tat.toInt ≤ tsz.toInt)   : Met l yX11_clause (.code yX11_clause cX11_clause 3 none :: wA) ({ frames := 53, cells := 0, slots := 0, locals := 1361 }) (zP (dC, dI) [(cI, .int), (cJ, .long)] [.ref h0] sz [(h0, .inr (11, [.int th, .ref tB, .int tsz, .int tat, .int (-1), .int 0, .ref rC, .ref rV, .ref rD, .ref rK, .ref rT, .ref rS, .ref rU, .int lw, .int tx, .ref rL, .ref rX, .ref qR, .ref qB, .ref qP, .int qnb, .int qnp, .ref aR, .ref aB, .ref aP, .int nb, .int np, .ref aN, .ref rf, .int ho, .int br, .ref aK, .int ac, .long dw, .ref aE, .int sr, .int sf, .ref aA, .ref aH, .ref aI, .int hi])), (tB, .inl (cI, 240, .inl fB)), (rC, .inl (cI, 2600, .inl fC)), (rV, .inl (cI, 2600, .inl fV)), (rD, .inl (cI, 5, .inl fD)), (rK, .inl (cI, 5, .inl fK)), (rT, .inl (cI, 700, .inl fT)), (rS, .inl (cI, 700, .inl fS)), (rU, .inl (cI, 700, .inl fU))]) (va_Qv (fun (u : Int32 × Int32 × Int32 × (Nat → Int32) × (Nat → Int32) × (Nat → Int32) × (Nat → Int32) × (Nat → Int32) × (Nat → Int32) × (Nat → Int32)) => (0 ≤ u.1.toInt) ∧ (u.1.toInt ≤ 246) ∧ ((-1) ≤ u.2.1.toInt) ∧ (u.2.1.toInt ≤ 260) ∧ (0 ≤ u.2.2.1.toInt) ∧ (u.2.2.1.toInt ≤ 1) ∧ (u.2.1.toInt = -1 → (u.1.toInt ≤ tsz.toInt ∧ u.2.2.1.toInt = 0)) ∧ (tat.toInt ≤ u.1.toInt) ∧ (tat.toInt + 2 ≤ u.1.toInt) ∧ (zRd u.2.1 u.1 u.2.2.2.1 u.2.2.2.2.1 u.2.2.2.2.2.1 u.2.2.2.2.2.2.1 u.2.2.2.2.2.2.2.1 u.2.2.2.2.2.2.2.2.1 u.2.2.2.2.2.2.2.2.2 tx gC gV gK gT gS gU n0) ∧ (zW (sCl (sB fB tsz.toInt) tsz.toInt tat.toInt) u.2.1 u.1) ∧ (u.2.1.toInt = -1 → zQc fB tsz tx tat fC fV fD fK fT fS fU u.2.2.2.1 u.2.2.2.2.1 u.2.2.2.2.2.1 u.2.2.2.2.2.2.1 u.2.2.2.2.2.2.2.1 u.2.2.2.2.2.2.2.2.1 u.2.2.2.2.2.2.2.2.2)) (fun (u : Int32 × Int32 × Int32 × (Nat → Int32) × (Nat → Int32) × (Nat → Int32) × (Nat → Int32) × (Nat → Int32) × (Nat → Int32) × (Nat → Int32)) (t : State) => va_P (dC, dI) vwCl [(h0, .inr (11, [.int th, .ref tB, .int tsz, .int u.1, .int u.2.1, .int u.2.2.1, .ref rC, .ref rV, .ref rD, .ref rK, .ref rT, .ref rS, .ref rU, .int lw, .int tx, .ref rL, .ref rX, .ref qR, .ref qB, .ref qP, .int qnb, .int qnp, .ref aR, .ref aB, .ref aP, .int nb, .int np, .ref aN, .ref rf, .int ho, .int br, .ref aK, .int ac, .long dw, .ref aE, .int sr, .int sf, .ref aA, .ref aH, .ref aI, .int hi])), (tB, .inl (cI, 240, .inl fB)), (rC, .inl (cI, 2600, .inl u.2.2.2.1)), (rV, .inl (cI, 2600, .inl u.2.2.2.2.1)), (rD, .inl (cI, 5, .inl u.2.2.2.2.2.1)), (rK, .inl (cI, 5, .inl u.2.2.2.2.2.2.1)), (rT, .inl (cI, 700, .inl u.2.2.2.2.2.2.2.1)), (rS, .inl (cI, 700, .inl u.2.2.2.2.2.2.2.2.1)), (rU, .inl (cI, 700, .inl u.2.2.2.2.2.2.2.2.2))] t.heap ∧ va_D (va_A [(h0, .inr (11, [.int th, .ref tB, .int tsz, .int tat, .int (-1), .int 0, .ref rC, .ref rV, .ref rD, .ref rK, .ref rT, .ref rS, .ref rU, .int lw, .int tx, .ref rL, .ref rX, .ref qR, .ref qB, .ref qP, .int qnb, .int qnp, .ref aR, .ref aB, .ref aP, .int nb, .int np, .ref aN, .ref rf, .int ho, .int br, .ref aK, .int ac, .long dw, .ref aE, .int sr, .int sf, .ref aA, .ref aH, .ref aI, .int hi])), (tB, .inl (cI, 240, .inl fB)), (rC, .inl (cI, 2600, .inl fC)), (rV, .inl (cI, 2600, .inl fV)), (rD, .inl (cI, 5, .inl fD)), (rK, .inl (cI, 5, .inl fK)), (rT, .inl (cI, 700, .inl fT)), (rS, .inl (cI, 700, .inl fS)), (rU, .inl (cI, 700, .inl fU))] sz) [(h0, .inr (11, [.int th, .ref tB, .int tsz, .int u.1, .int u.2.1, .int u.2.2.1, .ref rC, .ref rV, .ref rD, .ref rK, .ref rT, .ref rS, .ref rU, .int lw, .int tx, .ref rL, .ref rX, .ref qR, .ref qB, .ref qP, .int qnb, .int qnp, .ref aR, .ref aB, .ref aP, .int nb, .int np, .ref aN, .ref rf, .int ho, .int br, .ref aK, .int ac, .long dw, .ref aE, .int sr, .int sf, .ref aA, .ref aH, .ref aI, .int hi])), (tB, .inl (cI, 240, .inl fB)), (rC, .inl (cI, 2600, .inl u.2.2.2.1)), (rV, .inl (cI, 2600, .inl u.2.2.2.2.1)), (rD, .inl (cI, 5, .inl u.2.2.2.2.2.1)), (rK, .inl (cI, 5, .inl u.2.2.2.2.2.2.1)), (rT, .inl (cI, 700, .inl u.2.2.2.2.2.2.2.1)), (rS, .inl (cI, 700, .inl u.2.2.2.2.2.2.2.2.1)), (rU, .inl (cI, 700, .inl u.2.2.2.2.2.2.2.2.2))]) (va_A [(h0, .inr (11, [.int th, .ref tB, .int tsz, .int tat, .int (-1), .int 0, .ref rC, .ref rV, .ref rD, .ref rK, .ref rT, .ref rS, .ref rU, .int lw, .int tx, .ref rL, .ref rX, .ref qR, .ref qB, .ref qP, .int qnb, .int qnp, .ref aR, .ref aB, .ref aP, .int nb, .int np, .ref aN, .ref rf, .int ho, .int br, .ref aK, .int ac, .long dw, .ref aE, .int sr, .int sf, .ref aA, .ref aH, .ref aI, .int hi])), (tB, .inl (cI, 240, .inl fB)), (rC, .inl (cI, 2600, .inl fC)), (rV, .inl (cI, 2600, .inl fV)), (rD, .inl (cI, 5, .inl fD)), (rK, .inl (cI, 5, .inl fK)), (rT, .inl (cI, 700, .inl fT)), (rS, .inl (cI, 700, .inl fS)), (rU, .inl (cI, 700, .inl fU))] sz)) 0 0 (va_A [(h0, .inr (11, [.int th, .ref tB, .int tsz, .int tat, .int (-1), .int 0, .ref rC, .ref rV, .ref rD, .ref rK, .ref rT, .ref rS, .ref rU, .int lw, .int tx, .ref rL, .ref rX, .ref qR, .ref qB, .ref qP, .int qnb, .int qnp, .ref aR, .ref aB, .ref aP, .int nb, .int np, .ref aN, .ref rf, .int ho, .int br, .ref aK, .int ac, .long dw, .ref aE, .int sr, .int sf, .ref aA, .ref aH, .ref aI, .int hi])), (tB, .inl (cI, 240, .inl fB)), (rC, .inl (cI, 2600, .inl fC)), (rV, .inl (cI, 2600, .inl fV)), (rD, .inl (cI, 5, .inl fD)), (rK, .inl (cI, 5, .inl fK)), (rT, .inl (cI, 700, .inl fT)), (rS, .inl (cI, 700, .inl fS)), (rU, .inl (cI, 700, .inl fU))] sz) := by
  refine Met.ofW (cc := cX11_clause) (maxL := 3) (ret := none) (by decide) rfl ?_
  intro p e s m args below meth c s₁ B hml hv
  have y_ac : zHid (0 ≤ ac.toInt ∧ ac.toInt ≤ 40) := n_ac
  have y_hi : zHid (0 ≤ hi.toInt ∧ hi.toInt ≤ 1) := n_hi
  have y_ho : zHid ((-1) ≤ ho.toInt ∧ ho.toInt ≤ 3) := n_ho
  have y_lw : zHid (0 ≤ lw.toInt ∧ lw.toInt ≤ 4) := n_lw
  have y_nb : zHid (0 ≤ nb.toInt ∧ nb.toInt ≤ 6) := n_nb
  have y_np : zHid (0 ≤ np.toInt ∧ np.toInt ≤ 5) := n_np
  have y_qnb : zHid (0 ≤ qnb.toInt ∧ qnb.toInt ≤ 6) := n_qnb
  have y_qnp : zHid (0 ≤ qnp.toInt ∧ qnp.toInt ≤ 5) := n_qnp
  clear n_ac n_hi n_ho n_lw n_nb n_np n_qnb n_qnp
  obtain ⟨hargs, hsz, hP, hK, hT⟩ := hv
  have hx := B.exec
  have hb := B.bytes
  have hr := B.returns
  have hts : ∀ w ∈ wA, w.before args s = true := fun w h => atoms_spec (ws := .code yX11_clause cX11_clause 3 none :: wA) B.pre w (List.mem_cons_of_mem _ h)
  have hown : s.vm.findClass RX11 = some m.cls := findClass_of_methodNamed B.named
  have hlocks := B.notSynchronized
  subst hsz
  have hD := hT.self (sz := s.heap.size)
  generalize hAe : va_A [(h0, .inr (11, [.int th, .ref tB, .int tsz, .int tat, .int (-1), .int 0, .ref rC, .ref rV, .ref rD, .ref rK, .ref rT, .ref rS, .ref rU, .int lw, .int tx, .ref rL, .ref rX, .ref qR, .ref qB, .ref qP, .int qnb, .int qnp, .ref aR, .ref aB, .ref aP, .int nb, .int np, .ref aN, .ref rf, .int ho, .int br, .ref aK, .int ac, .long dw, .ref aE, .int sr, .int sf, .ref aA, .ref aH, .ref aI, .int hi])), (tB, .inl (cI, 240, .inl fB)), (rC, .inl (cI, 2600, .inl fC)), (rV, .inl (cI, 2600, .inl fV)), (rD, .inl (cI, 5, .inl fD)), (rK, .inl (cI, 5, .inl fK)), (rT, .inl (cI, 700, .inl fT)), (rS, .inl (cI, 700, .inl fS)), (rU, .inl (cI, 700, .inl fU))] s.heap.size = A at hD ⊢
  have hA : ∀ q : Nat, s.heap.size ≤ q → A q := fun q h => by rw [← hAe]; exact Or.inr h
  have hl := lv_entry ([.ref h0]) (n := 3) (Nat.le_of_ble_eq_true rfl)
  rw [show entryFrame m args 3 = entryFrame m ([.ref h0] : List Value).toArray 3 by rw [hargs], lg_entry_eq]
  generalize (lg_sl ([.ref h0]) ++ List.replicate (3 - (lg_sl ([.ref h0])).length) Slot.unset).toArray = ls at hl ⊢
  have hl : lv_has ls 3 [(0, .ref h0)] := hl
  refine zstart (fun H hH => ?_)
  rw [← hH] at hP
  have hS : va_S A s.heap H [] := by rw [hH]; exact va_S.rf
  generalize ([] : List Loc) = locs at hS ⊢
  refine zgen (fun R Q hR hQ => ?_)
  have zm1 : (-1 : Int32).toInt = -1 := by decide
  refine lv_sipush (v := 140) hx hb dX11_clause_0 (by decide) ?_
  refine lv_aload_n hx hb dX11_clause_3 rfl (lv_at hl 0 rfl) ?_
  refine va_get (D := (dC, dI)) (ci := 11) (v := .int tx) (C := RX11) (T := TX11) (N := 41) hx hb hts iX11 hown hK hP 0 rfl rfl 14 (by decide) (hts _ qw1141) (fun _ h9 => h9) rfl dX11_clause_4 ?_
  refine lv_imul hx hb dX11_clause_7 ?_
  refine lv_topi (fun v7 e7 => ?_)
  have i7 : v7.toInt = 140 * tx.toInt := zmul e7 (by decide) rfl (by omega) (by omega)
  refine lv_aload_n hx hb dX11_clause_8 rfl (lv_at hl 0 rfl) ?_
  refine va_get (D := (dC, dI)) (ci := 11) (v := .ref rK) (C := RX11) (T := TX11) (N := 41) hx hb hts iX11 hown hK hP 0 rfl rfl 9 (by decide) (hts _ qw1136) (fun _ h9 => h9) rfl dX11_clause_9 ?_
  refine lv_aload_n hx hb dX11_clause_12 rfl (lv_at hl 0 rfl) ?_
  refine va_get (D := (dC, dI)) (ci := 11) (v := .int tx) (C := RX11) (T := TX11) (N := 41) hx hb hts iX11 hown hK hP 0 rfl rfl 14 (by decide) (hts _ qw1141) (fun _ h9 => h9) rfl dX11_clause_13 ?_
  refine va_iald hx hb hK hP 5 0 rfl rfl (vp_in_iff.mpr ⟨by omega, by omega⟩) dX11_clause_16 ?_
  refine lv_topi (fun v16 e16 => ?_)
  have i16 : v16.toInt = (fK tx.toInt.toNat).toInt ∧ 0 ≤ v16.toInt ∧ v16.toInt ≤ 123 := by have := hrd.2.2.1; have := zIx (n := tx.toInt.toNat) e16 (by omega); omega
  refine lv_iadd hx hb dX11_clause_17 ?_
  refine lv_topi (fun v17 e17 => ?_)
  have i17 : v17.toInt = v7.toInt + v16.toInt := zadd e17 rfl rfl (by omega) (by omega)
  refine lv_istore_n (lv' := [(1, .int v17), (0, .ref h0)]) hx hb dX11_clause_18 rfl hl (by decide) rfl (fun ls hl => ?_)
  refine lv_aload_n hx hb dX11_clause_19 rfl (lv_at hl 1 rfl) ?_
  refine va_get (D := (dC, dI)) (ci := 11) (v := .int (-1)) (C := RX11) (T := TX11) (N := 41) hx hb hts iX11 hown hK hP 0 rfl rfl 4 (by decide) (hts _ qw1131) (fun _ h9 => h9) rfl dX11_clause_20 ?_
  refine lv_iconst (v := (-1)) hx hb dX11_clause_23 (by decide) ?_
  refine lv_icmp_ne (tgt := 40) hx hb dX11_clause_24 (by decide) (fun c => absurd (by decide) c) (fun _ => ?_)
  refine lv_aload_n hx hb dX11_clause_27 rfl (lv_at hl 1 rfl) ?_
  obtain ⟨hPc, hDc, hFc⟩ := zc3 (wc := [(h0, .inr (11, [.int th, .ref tB, .int tsz, .int tat, .int (-1), .int 0, .ref rC, .ref rV, .ref rD, .ref rK, .ref rT, .ref rS, .ref rU, .int lw, .int tx, .ref rL, .ref rX, .ref qR, .ref qB, .ref qP, .int qnb, .int qnp, .ref aR, .ref aB, .ref aP, .int nb, .int np, .ref aN, .ref rf, .int ho, .int br, .ref aK, .int ac, .long dw, .ref aE, .int sr, .int sf, .ref aA, .ref aH, .ref aI, .int hi])), (tB, .inl (cI, 240, .inl fB))]) hP hD hS hA [0, 1] (by decide +kernel) rfl
  refine va_calli (va_runV (As := []) (rest := []) ⟨hx, hb, hml, hown, hts⟩ (g_X11_look_t l dC dI cI cJ h0 th tB tsz tat ((-1)) 0 rC rV rD rK rT rS rU lw tx rL rX qR qB qP qnb qnp aR aB aP nb np aN rf ho br aK ac dw aE sr sf aA aH aI hi fB H.size y_ac y_hi y_ho y_lw y_nb y_np y_qnb y_qnp n_tat n_tsz (by decide)) (cwV 0 hts (zgV qw1273 qw1275 qw32 qw108 qw1276) rfl rfl rfl hd_X11_look ⟨by rw [hR]; exact Nat.le_of_ble_eq_true rfl, by rw [hR]; exact Nat.le_of_ble_eq_true rfl⟩) (zPV hPc hK hDc (va_recv (q := (RX11, TX11, 41)) hK hP (ci := 11) (q0 := 0) rfl rfl)) rfl rfl hl.1 rfl (lv_room (Nat.le_of_ble_eq_true rfl)) dX11_clause_28 ⟨Nat.zero_le _, Nat.zero_le _⟩) hS (fun q _ h => hFc q h) hFc (fun v28 u28 t H locs ht hvm hw hB hz1 hk1 hS9 => ?_)
  obtain ⟨u28_0, rfl⟩ : ∃ z, z = u28 := ⟨_, rfl⟩
  obtain ⟨hP9, hD9⟩ := zj2 (wX := [(h0, .inr (11, [.int th, .ref tB, .int tsz, .int u28_0, .int (-1), .int 0, .ref rC, .ref rV, .ref rD, .ref rK, .ref rT, .ref rS, .ref rU, .int lw, .int tx, .ref rL, .ref rX, .ref qR, .ref qB, .ref qP, .int qnb, .int qnp, .ref aR, .ref aB, .ref aP, .int nb, .int np, .ref aN, .ref rf, .int ho, .int br, .ref aK, .int ac, .long dw, .ref aE, .int sr, .int sf, .ref aA, .ref aH, .ref aI, .int hi])), (tB, .inl (cI, 240, .inl fB)), (rC, .inl (cI, 2600, .inl fC)), (rV, .inl (cI, 2600, .inl fV)), (rD, .inl (cI, 5, .inl fD)), (rK, .inl (cI, 5, .inl fK)), (rT, .inl (cI, 700, .inl fT)), (rS, .inl (cI, 700, .inl fS)), (rU, .inl (cI, 700, .inl fU))]) hP hD hk1 hFc ht hB [0, 1] [(true, 0), (true, 1), (false, 2), (false, 3), (false, 4), (false, 5), (false, 6), (false, 7), (false, 8)] rfl (by decide +kernel) (by decide +kernel) rfl
  clear hP hD hS hPc hDc hFc hB hk1 hz1 hvm
  have hP := hP9
  have hD := hD9
  have hS := hS9
  clear hP9 hD9 hS9
  obtain ⟨f28_0, f28_1, f28_2, f28_3, f28_4, f28_5⟩ : (0 ≤ u28_0.toInt) ∧ (u28_0.toInt ≤ 240) ∧ (¬ v28.toInt = -1 → u28_0.toInt < tsz.toInt) ∧ (tat.toInt ≤ u28_0.toInt) ∧ (u28_0.toInt ≤ tsz.toInt ∨ u28_0.toInt = tat.toInt) ∧ (zLk fB tsz tat v28 u28_0) := hw
  have F28 := f28_5
  refine lv_bipush (v := 121) hx hb dX11_clause_31 (by decide) ?_
  refine lv_icmp_eq (tgt := 40) hx hb dX11_clause_33 (by decide) (fun c33 => ?_) (fun c33 => ?_)
  · have c33 : v28.toInt = 121 := z5 rfl (by decide) c33
    refine lv_aload_n hx hb dX11_clause_40 rfl (lv_at hl 1 rfl) ?_
    refine lv_dup hx hb dX11_clause_41 rfl ?_
    refine va_get (D := (dC, dI)) (ci := 11) (v := .int u28_0) (C := RX11) (T := TX11) (N := 41) hx hb hts iX11 hown hK hP 0 rfl rfl 3 (by decide) (hts _ qw1130) (fun _ h9 => h9) rfl dX11_clause_42 ?_
    refine lv_iconst (v := 1) hx hb dX11_clause_45 (by decide) ?_
    refine lv_iadd hx hb dX11_clause_46 ?_
    refine lv_topi (fun v46 e46 => ?_)
    have i46 : v46.toInt = u28_0.toInt + 1 := zadd e46 rfl (by decide) (by omega) (by omega)
    refine va_put (D := (dC, dI)) (ci := 11) (v := .int v46) (ty := .int) (C := RX11) (T := TX11) (N := 41) hx hb hts iX11 tyX11 tyX11_ok nmX11 hown hK hP hD hS 0 rfl rfl 3 (by decide) (hts _ qw1130) (fun _ h9 => h9) rfl (by decide +kernel) rfl rfl (Nat.le_of_ble_eq_true rfl) dX11_clause_47 (fun H locs hP9 hD9 hS9 => ?_)
    clear hP hD hS
    obtain ⟨hP, hD⟩ := zst (wX := [(h0, .inr (11, [.int th, .ref tB, .int tsz, .int v46, .int (-1), .int 0, .ref rC, .ref rV, .ref rD, .ref rK, .ref rT, .ref rS, .ref rU, .int lw, .int tx, .ref rL, .ref rX, .ref qR, .ref qB, .ref qP, .int qnb, .int qnp, .ref aR, .ref aB, .ref aP, .int nb, .int np, .ref aN, .ref rf, .int ho, .int br, .ref aK, .int ac, .long dw, .ref aE, .int sr, .int sf, .ref aA, .ref aH, .ref aI, .int hi])), (tB, .inl (cI, 240, .inl fB)), (rC, .inl (cI, 2600, .inl fC)), (rV, .inl (cI, 2600, .inl fV)), (rD, .inl (cI, 5, .inl fD)), (rK, .inl (cI, 5, .inl fK)), (rT, .inl (cI, 700, .inl fT)), (rS, .inl (cI, 700, .inl fS)), (rU, .inl (cI, 700, .inl fU))]) hP9 hD9 rfl
    have hS := hS9
    clear hP9 hD9 hS9
    refine lv_aload_n hx hb dX11_clause_50 rfl (lv_at hl 1 rfl) ?_
    refine va_get (D := (dC, dI)) (ci := 11) (v := .int (-1)) (C := RX11) (T := TX11) (N := 41) hx hb hts iX11 hown hK hP 0 rfl rfl 4 (by decide) (hts _ qw1131) (fun _ h9 => h9) rfl dX11_clause_51 ?_
    refine lv_iconst (v := (-1)) hx hb dX11_clause_54 (by decide) ?_
    refine lv_icmp_ne (tgt := 71) hx hb dX11_clause_55 (by decide) (fun c => absurd (by decide) c) (fun _ => ?_)
    refine lv_aload_n hx hb dX11_clause_58 rfl (lv_at hl 1 rfl) ?_
    obtain ⟨hPc, hDc, hFc⟩ := zc3 (wc := [(h0, .inr (11, [.int th, .ref tB, .int tsz, .int v46, .int (-1), .int 0, .ref rC, .ref rV, .ref rD, .ref rK, .ref rT, .ref rS, .ref rU, .int lw, .int tx, .ref rL, .ref rX, .ref qR, .ref qB, .ref qP, .int qnb, .int qnp, .ref aR, .ref aB, .ref aP, .int nb, .int np, .ref aN, .ref rf, .int ho, .int br, .ref aK, .int ac, .long dw, .ref aE, .int sr, .int sf, .ref aA, .ref aH, .ref aI, .int hi])), (tB, .inl (cI, 240, .inl fB))]) hP hD hS hA [0, 1] (by decide +kernel) rfl
    refine va_calli (va_runV (As := []) (rest := []) ⟨hx, hb, hml, hown, hts⟩ (g_X11_look_t l dC dI cI cJ h0 th tB tsz v46 ((-1)) 0 rC rV rD rK rT rS rU lw tx rL rX qR qB qP qnb qnp aR aB aP nb np aN rf ho br aK ac dw aE sr sf aA aH aI hi fB H.size y_ac y_hi y_ho y_lw y_nb y_np y_qnb y_qnp (by omega) n_tsz (by decide)) (cwV 0 hts (zgV qw1273 qw1275 qw32 qw108 qw1276) rfl rfl rfl hd_X11_look ⟨by rw [hR]; exact Nat.le_of_ble_eq_true rfl, by rw [hR]; exact Nat.le_of_ble_eq_true rfl⟩) (zPV hPc hK hDc (va_recv (q := (RX11, TX11, 41)) hK hP (ci := 11) (q0 := 0) rfl rfl)) rfl rfl hl.1 rfl (lv_room (Nat.le_of_ble_eq_true rfl)) dX11_clause_59 ⟨Nat.zero_le _, Nat.zero_le _⟩) hS (fun q _ h => hFc q h) hFc (fun v59 u59 t H locs ht hvm hw hB hz1 hk1 hS9 => ?_)
    obtain ⟨u59_0, rfl⟩ : ∃ z, z = u59 := ⟨_, rfl⟩
    obtain ⟨hP9, hD9⟩ := zj2 (wX := [(h0, .inr (11, [.int th, .ref tB, .int tsz, .int u59_0, .int (-1), .int 0, .ref rC, .ref rV, .ref rD, .ref rK, .ref rT, .ref rS, .ref rU, .int lw, .int tx, .ref rL, .ref rX, .ref qR, .ref qB, .ref qP, .int qnb, .int qnp, .ref aR, .ref aB, .ref aP, .int nb, .int np, .ref aN, .ref rf, .int ho, .int br, .ref aK, .int ac, .long dw, .ref aE, .int sr, .int sf, .ref aA, .ref aH, .ref aI, .int hi])), (tB, .inl (cI, 240, .inl fB)), (rC, .inl (cI, 2600, .inl fC)), (rV, .inl (cI, 2600, .inl fV)), (rD, .inl (cI, 5, .inl fD)), (rK, .inl (cI, 5, .inl fK)), (rT, .inl (cI, 700, .inl fT)), (rS, .inl (cI, 700, .inl fS)), (rU, .inl (cI, 700, .inl fU))]) hP hD hk1 hFc ht hB [0, 1] [(true, 0), (true, 1), (false, 2), (false, 3), (false, 4), (false, 5), (false, 6), (false, 7), (false, 8)] rfl (by decide +kernel) (by decide +kernel) rfl
    clear hP hD hS hPc hDc hFc hB hk1 hz1 hvm
    have hP := hP9
    have hD := hD9
    have hS := hS9
    clear hP9 hD9 hS9
    obtain ⟨f59_0, f59_1, f59_2, f59_3, f59_4, f59_5⟩ : (0 ≤ u59_0.toInt) ∧ (u59_0.toInt ≤ 240) ∧ (¬ v59.toInt = -1 → u59_0.toInt < tsz.toInt) ∧ (v46.toInt ≤ u59_0.toInt) ∧ (u59_0.toInt ≤ tsz.toInt ∨ u59_0.toInt = v46.toInt) ∧ (zLk fB tsz v46 v59 u59_0) := hw
    have F59 := f59_5
    refine lv_bipush (v := 58) hx hb dX11_clause_62 (by decide) ?_
    refine lv_icmp_eq (tgt := 71) hx hb dX11_clause_64 (by decide) (fun c64 => ?_) (fun c64 => ?_)
    · have c64 : v59.toInt = 58 := z5 rfl (by decide) c64
      refine lv_aload_n hx hb dX11_clause_71 rfl (lv_at hl 1 rfl) ?_
      refine lv_dup hx hb dX11_clause_72 rfl ?_
      refine va_get (D := (dC, dI)) (ci := 11) (v := .int u59_0) (C := RX11) (T := TX11) (N := 41) hx hb hts iX11 hown hK hP 0 rfl rfl 3 (by decide) (hts _ qw1130) (fun _ h9 => h9) rfl dX11_clause_73 ?_
      refine lv_iconst (v := 1) hx hb dX11_clause_76 (by decide) ?_
      refine lv_iadd hx hb dX11_clause_77 ?_
      refine lv_topi (fun v77 e77 => ?_)
      have i77 : v77.toInt = u59_0.toInt + 1 := zadd e77 rfl (by decide) (by omega) (by omega)
      refine va_put (D := (dC, dI)) (ci := 11) (v := .int v77) (ty := .int) (C := RX11) (T := TX11) (N := 41) hx hb hts iX11 tyX11 tyX11_ok nmX11 hown hK hP hD hS 0 rfl rfl 3 (by decide) (hts _ qw1130) (fun _ h9 => h9) rfl (by decide +kernel) rfl rfl (Nat.le_of_ble_eq_true rfl) dX11_clause_78 (fun H locs hP9 hD9 hS9 => ?_)
      clear hP hD hS
      obtain ⟨hP, hD⟩ := zst (wX := [(h0, .inr (11, [.int th, .ref tB, .int tsz, .int v77, .int (-1), .int 0, .ref rC, .ref rV, .ref rD, .ref rK, .ref rT, .ref rS, .ref rU, .int lw, .int tx, .ref rL, .ref rX, .ref qR, .ref qB, .ref qP, .int qnb, .int qnp, .ref aR, .ref aB, .ref aP, .int nb, .int np, .ref aN, .ref rf, .int ho, .int br, .ref aK, .int ac, .long dw, .ref aE, .int sr, .int sf, .ref aA, .ref aH, .ref aI, .int hi])), (tB, .inl (cI, 240, .inl fB)), (rC, .inl (cI, 2600, .inl fC)), (rV, .inl (cI, 2600, .inl fV)), (rD, .inl (cI, 5, .inl fD)), (rK, .inl (cI, 5, .inl fK)), (rT, .inl (cI, 700, .inl fT)), (rS, .inl (cI, 700, .inl fS)), (rU, .inl (cI, 700, .inl fU))]) hP9 hD9 rfl
      have hS := hS9
      clear hP9 hD9 hS9
      refine lv_aload_n hx hb dX11_clause_81 rfl (lv_at hl 1 rfl) ?_
      refine va_get (D := (dC, dI)) (ci := 11) (v := .int (-1)) (C := RX11) (T := TX11) (N := 41) hx hb hts iX11 hown hK hP 0 rfl rfl 4 (by decide) (hts _ qw1131) (fun _ h9 => h9) rfl dX11_clause_82 ?_
      refine lv_iconst (v := (-1)) hx hb dX11_clause_85 (by decide) ?_
      refine lv_icmp_eq (tgt := 90) hx hb dX11_clause_86 (by decide) (fun _ => ?_) (fun c => absurd (by decide) c)
      refine lv_aload_n hx hb dX11_clause_90 rfl (lv_at hl 1 rfl) ?_
      refine va_get (D := (dC, dI)) (ci := 11) (v := .ref rT) (C := RX11) (T := TX11) (N := 41) hx hb hts iX11 hown hK hP 0 rfl rfl 10 (by decide) (hts _ qw1137) (fun _ h9 => h9) rfl dX11_clause_91 ?_
      refine lv_iload_n hx hb dX11_clause_94 rfl (lv_at hl 0 rfl) ?_
      refine lv_aload_n hx hb dX11_clause_95 rfl (lv_at hl 1 rfl) ?_
      refine va_get (D := (dC, dI)) (ci := 11) (v := .ref rD) (C := RX11) (T := TX11) (N := 41) hx hb hts iX11 hown hK hP 0 rfl rfl 8 (by decide) (hts _ qw1135) (fun _ h9 => h9) rfl dX11_clause_96 ?_
      refine lv_aload_n hx hb dX11_clause_99 rfl (lv_at hl 1 rfl) ?_
      refine va_get (D := (dC, dI)) (ci := 11) (v := .int tx) (C := RX11) (T := TX11) (N := 41) hx hb hts iX11 hown hK hP 0 rfl rfl 14 (by decide) (hts _ qw1141) (fun _ h9 => h9) rfl dX11_clause_100 ?_
      refine va_iald hx hb hK hP 4 0 rfl rfl (vp_in_iff.mpr ⟨by omega, by omega⟩) dX11_clause_103 ?_
      refine lv_topi (fun v103 e103 => ?_)
      have i103 : v103.toInt = (fD tx.toInt.toNat).toInt ∧ 0 ≤ v103.toInt ∧ v103.toInt ≤ 518 := by have := hrd.2.2.1; have := zIx (n := tx.toInt.toNat) e103 (by omega); omega
      refine va_iast hx hb hK hP hD hS 6 0 rfl rfl (vp_in_iff.mpr ⟨by omega, by omega⟩) dX11_clause_104 (fun H locs hP9 hD9 hS9 => ?_)
      clear hP hD hS
      obtain ⟨v104_f, e104⟩ : ∃ g : Nat → Int32, g = upd fT (v17).toNatClampNeg v103 := ⟨_, rfl⟩
      rw [← e104] at hP9 hD9
      obtain ⟨hP, hD⟩ := zst (wX := [(h0, .inr (11, [.int th, .ref tB, .int tsz, .int v77, .int (-1), .int 0, .ref rC, .ref rV, .ref rD, .ref rK, .ref rT, .ref rS, .ref rU, .int lw, .int tx, .ref rL, .ref rX, .ref qR, .ref qB, .ref qP, .int qnb, .int qnp, .ref aR, .ref aB, .ref aP, .int nb, .int np, .ref aN, .ref rf, .int ho, .int br, .ref aK, .int ac, .long dw, .ref aE, .int sr, .int sf, .ref aA, .ref aH, .ref aI, .int hi])), (tB, .inl (cI, 240, .inl fB)), (rC, .inl (cI, 2600, .inl fC)), (rV, .inl (cI, 2600, .inl fV)), (rD, .inl (cI, 5, .inl fD)), (rK, .inl (cI, 5, .inl fK)), (rT, .inl (cI, 700, .inl v104_f)), (rS, .inl (cI, 700, .inl fS)), (rU, .inl (cI, 700, .inl fU))]) hP9 hD9 rfl
      have hS := hS9
      clear hP9 hD9 hS9
      have hp105 : zPar (-1) v77 fC fV fD tx fC fV (520 * tx.toInt.toNat + (fD tx.toInt.toNat).toInt.toNat) (4) (fD tx.toInt.toNat).toInt.toNat (0) := zRd_par hrd (by omega) (by omega)
      refine lv_aload_n hx hb dX11_clause_105 rfl (lv_at hl 1 rfl) ?_
      obtain ⟨hPc, hDc, hFc⟩ := zc3 (wc := [(h0, .inr (11, [.int th, .ref tB, .int tsz, .int v77, .int (-1), .int 0, .ref rC, .ref rV, .ref rD, .ref rK, .ref rT, .ref rS, .ref rU, .int lw, .int tx, .ref rL, .ref rX, .ref qR, .ref qB, .ref qP, .int qnb, .int qnp, .ref aR, .ref aB, .ref aP, .int nb, .int np, .ref aN, .ref rf, .int ho, .int br, .ref aK, .int ac, .long dw, .ref aE, .int sr, .int sf, .ref aA, .ref aH, .ref aI, .int hi])), (tB, .inl (cI, 240, .inl fB))]) hP hD hS hA [0, 1] (by decide +kernel) rfl
      refine va_calli (va_runV (As := []) (rest := []) ⟨hx, hb, hml, hown, hts⟩ (g_X11_look_t l dC dI cI cJ h0 th tB tsz v77 ((-1)) 0 rC rV rD rK rT rS rU lw tx rL rX qR qB qP qnb qnp aR aB aP nb np aN rf ho br aK ac dw aE sr sf aA aH aI hi fB H.size y_ac y_hi y_ho y_lw y_nb y_np y_qnb y_qnp (by omega) n_tsz (by decide)) (cwV 0 hts (zgV qw1273 qw1275 qw32 qw108 qw1276) rfl rfl rfl hd_X11_look ⟨by rw [hR]; exact Nat.le_of_ble_eq_true rfl, by rw [hR]; exact Nat.le_of_ble_eq_true rfl⟩) (zPV hPc hK hDc (va_recv (q := (RX11, TX11, 41)) hK hP (ci := 11) (q0 := 0) rfl rfl)) rfl rfl hl.1 rfl (lv_room (Nat.le_of_ble_eq_true rfl)) dX11_clause_106 ⟨Nat.zero_le _, Nat.zero_le _⟩) hS (fun q _ h => hFc q h) hFc (fun v106 u106 t H locs ht hvm hw hB hz1 hk1 hS9 => ?_)
      obtain ⟨u106_0, rfl⟩ : ∃ z, z = u106 := ⟨_, rfl⟩
      obtain ⟨hP9, hD9⟩ := zj2 (wX := [(h0, .inr (11, [.int th, .ref tB, .int tsz, .int u106_0, .int (-1), .int 0, .ref rC, .ref rV, .ref rD, .ref rK, .ref rT, .ref rS, .ref rU, .int lw, .int tx, .ref rL, .ref rX, .ref qR, .ref qB, .ref qP, .int qnb, .int qnp, .ref aR, .ref aB, .ref aP, .int nb, .int np, .ref aN, .ref rf, .int ho, .int br, .ref aK, .int ac, .long dw, .ref aE, .int sr, .int sf, .ref aA, .ref aH, .ref aI, .int hi])), (tB, .inl (cI, 240, .inl fB)), (rC, .inl (cI, 2600, .inl fC)), (rV, .inl (cI, 2600, .inl fV)), (rD, .inl (cI, 5, .inl fD)), (rK, .inl (cI, 5, .inl fK)), (rT, .inl (cI, 700, .inl v104_f)), (rS, .inl (cI, 700, .inl fS)), (rU, .inl (cI, 700, .inl fU))]) hP hD hk1 hFc ht hB [0, 1] [(true, 0), (true, 1), (false, 2), (false, 3), (false, 4), (false, 5), (false, 6), (false, 7), (false, 8)] rfl (by decide +kernel) (by decide +kernel) rfl
      clear hP hD hS hPc hDc hFc hB hk1 hz1 hvm
      have hP := hP9
      have hD := hD9
      have hS := hS9
      clear hP9 hD9 hS9
      obtain ⟨f106_0, f106_1, f106_2, f106_3, f106_4, f106_5⟩ : (0 ≤ u106_0.toInt) ∧ (u106_0.toInt ≤ 240) ∧ (¬ v106.toInt = -1 → u106_0.toInt < tsz.toInt) ∧ (v77.toInt ≤ u106_0.toInt) ∧ (u106_0.toInt ≤ tsz.toInt ∨ u106_0.toInt = v77.toInt) ∧ (zLk fB tsz v77 v106 u106_0) := hw
      have F106 := f106_5
      refine lv_bipush (v := 33) hx hb dX11_clause_109 (by decide) ?_
      refine lv_icmp_eq (tgt := 123) hx hb dX11_clause_111 (by decide) (fun c111 => ?_) (fun c111 => ?_)
      · have c111 : v106.toInt = 33 := z5 rfl (by decide) c111
        refine lv_iconst (v := 1) hx hb dX11_clause_123 (by decide) ?_
        refine lv_goto (tgt := 128) hx hb dX11_clause_124 (by decide) ?_
        refine lv_istore_n (lv' := [(2, .int 1), (1, .int v17), (0, .ref h0)]) hx hb dX11_clause_128 rfl hl (by decide) rfl (fun ls hl => ?_)
        refine lv_iload_n hx hb dX11_clause_129 rfl (lv_at hl 0 rfl) ?_
        refine lv_if_eq (tgt := 140) hx hb dX11_clause_130 (by decide) (fun c => absurd c (by decide)) (fun _ => ?_)
        refine lv_aload_n hx hb dX11_clause_133 rfl (lv_at hl 2 rfl) ?_
        obtain ⟨hPc, hDc, hFc⟩ := zc3 (wc := [(h0, .inr (11, [.int th, .ref tB, .int tsz, .int u106_0, .int (-1), .int 0, .ref rC, .ref rV, .ref rD, .ref rK, .ref rT, .ref rS, .ref rU, .int lw, .int tx, .ref rL, .ref rX, .ref qR, .ref qB, .ref qP, .int qnb, .int qnp, .ref aR, .ref aB, .ref aP, .int nb, .int np, .ref aN, .ref rf, .int ho, .int br, .ref aK, .int ac, .long dw, .ref aE, .int sr, .int sf, .ref aA, .ref aH, .ref aI, .int hi])), (tB, .inl (cI, 240, .inl fB)), (rC, .inl (cI, 2600, .inl fC)), (rV, .inl (cI, 2600, .inl fV)), (rD, .inl (cI, 5, .inl fD))]) hP hD hS hA [0, 1, 2, 3, 4] (by decide +kernel) rfl
        refine va_callv (va_runV (As := []) (rest := []) ⟨hx, hb, hml, hown, hts⟩ (zE_C6 l dC dI cI cJ h0 th tB tsz u106_0 0 rC rV rD rK rT rS rU lw tx rL rX qR qB qP qnb qnp aR aB aP nb np aN rf ho br aK ac dw aE sr sf aA aH aI hi fB fC fV fD fC fV ((520 * tx.toInt.toNat + (fD tx.toInt.toNat).toInt.toNat)) 2 ((fD tx.toInt.toNat).toInt.toNat) 0 H.size y_ac (by decide) y_hi y_ho y_lw y_nb y_np y_qnb y_qnp ⟨f106_0, f106_1⟩ n_tsz n_tx (by first | exact zPar_mono hp105 (by omega) (by omega) (by omega) (by omega)) (by first | decide | omega) (by first | decide | omega) (by first | decide | omega) (by first | decide | omega)) (cwV 0 hts (zgV qw1320 qw1322 qw40 qw108 qw1323) rfl rfl rfl hd_X11_condition ⟨by rw [hR]; exact Nat.le_of_ble_eq_true rfl, by rw [hR]; exact Nat.le_of_ble_eq_true rfl⟩) (zPV hPc hK hDc (va_recv (q := (RX11, TX11, 41)) hK hP (ci := 11) (q0 := 0) rfl rfl)) rfl rfl hl.1 rfl (lv_room (Nat.le_of_ble_eq_true rfl)) dX11_clause_134 ⟨Nat.zero_le _, Nat.zero_le _⟩) hS (fun q _ h => hFc q h) hFc (fun u134 t H locs ht hvm hw hB hz1 hk1 hS9 => ?_)
        obtain ⟨u134_0, u134_1, u134_2, u134_3, u134_4, u134_5⟩ := u134
        obtain ⟨hP9, hD9⟩ := zj2 (wX := [(h0, .inr (11, [.int th, .ref tB, .int tsz, .int u134_0, .int u134_1, .int u134_2, .ref rC, .ref rV, .ref rD, .ref rK, .ref rT, .ref rS, .ref rU, .int lw, .int tx, .ref rL, .ref rX, .ref qR, .ref qB, .ref qP, .int qnb, .int qnp, .ref aR, .ref aB, .ref aP, .int nb, .int np, .ref aN, .ref rf, .int ho, .int br, .ref aK, .int ac, .long dw, .ref aE, .int sr, .int sf, .ref aA, .ref aH, .ref aI, .int hi])), (tB, .inl (cI, 240, .inl fB)), (rC, .inl (cI, 2600, .inl u134_3)), (rV, .inl (cI, 2600, .inl u134_4)), (rD, .inl (cI, 5, .inl u134_5)), (rK, .inl (cI, 5, .inl fK)), (rT, .inl (cI, 700, .inl v104_f)), (rS, .inl (cI, 700, .inl fS)), (rU, .inl (cI, 700, .inl fU))]) hP hD hk1 hFc ht hB [0, 1, 2, 3, 4] [(true, 0), (true, 1), (true, 2), (true, 3), (true, 4), (false, 5), (false, 6), (false, 7), (false, 8)] rfl (by decide +kernel) (by decide +kernel) rfl
        clear hP hD hS hPc hDc hFc hB hk1 hz1 hvm
        have hP := hP9
        have hD := hD9
        have hS := hS9
        clear hP9 hD9 hS9
        obtain ⟨f134_0, f134_1, f134_2, f134_3, f134_4, f134_5, f134_6, f134_7, f134_8, f134_9, f134_10, f134_11⟩ : (0 ≤ u134_0.toInt) ∧ (u134_0.toInt ≤ 246) ∧ ((-1) ≤ u134_1.toInt) ∧ (u134_1.toInt ≤ 260) ∧ (0 ≤ u134_2.toInt) ∧ (u134_2.toInt ≤ 7) ∧ (u134_1.toInt = -1 → (u134_0.toInt ≤ tsz.toInt ∧ u134_2.toInt = 6 - ((6 : Nat) : Int))) ∧ (u106_0.toInt ≤ u134_0.toInt) ∧ (u134_0.toInt ≤ 240 + ((6 : Nat) : Int) ∧ 6 - ((6 : Nat) : Int) ≤ u134_2.toInt ∧ u134_2.toInt ≤ 7 - ((6 : Nat) : Int)) ∧ (zW (sCon (sB fB tsz.toInt) tsz.toInt 6 u106_0.toInt) u134_1 u134_0) ∧ (u134_1.toInt = -1 → zEr fC fV (520 * tx.toInt.toNat) (fD tx.toInt.toNat).toInt (eCon (sB fB tsz.toInt) tsz.toInt 6 u106_0.toInt) u134_3 u134_4 (u134_5 tx.toInt.toNat).toInt) ∧ (zPar u134_1 u134_0 u134_3 u134_4 u134_5 tx fC fV ((520 * tx.toInt.toNat + (fD tx.toInt.toNat).toInt.toNat)) (2) ((fD tx.toInt.toNat).toInt.toNat) (0 + 1)) := hw
        have F134 := f134_9
        have F134_1 : zHid (u134_1.toInt = -1 → zEr fC fV (520 * tx.toInt.toNat) (fD tx.toInt.toNat).toInt (eCon (sB fB tsz.toInt) tsz.toInt 6 u106_0.toInt) u134_3 u134_4 (u134_5 tx.toInt.toNat).toInt) := f134_10
        clear f134_10
        refine lv_goto (tgt := 184) hx hb dX11_clause_137 (by decide) ?_
        refine lv_aload_n hx hb dX11_clause_184 rfl (lv_at hl 2 rfl) ?_
        refine va_get (D := (dC, dI)) (ci := 11) (v := .ref rS) (C := RX11) (T := TX11) (N := 41) hx hb hts iX11 hown hK hP 0 rfl rfl 11 (by decide) (hts _ qw1138) (fun _ h9 => h9) rfl dX11_clause_185 ?_
        refine lv_iload_n hx hb dX11_clause_188 rfl (lv_at hl 1 rfl) ?_
        refine lv_aload_n hx hb dX11_clause_189 rfl (lv_at hl 2 rfl) ?_
        refine va_get (D := (dC, dI)) (ci := 11) (v := .ref rT) (C := RX11) (T := TX11) (N := 41) hx hb hts iX11 hown hK hP 0 rfl rfl 10 (by decide) (hts _ qw1137) (fun _ h9 => h9) rfl dX11_clause_190 ?_
        refine lv_iload_n hx hb dX11_clause_193 rfl (lv_at hl 1 rfl) ?_
        refine va_iald hx hb hK hP 6 0 rfl rfl (vp_in_iff.mpr ⟨by omega, by omega⟩) dX11_clause_194 ?_
        refine lv_topi (fun v194 e194 => ?_)
        have i194 : v194.toInt = v103.toInt := by rw [e194, e104, pk_us]
        refine va_iast hx hb hK hP hD hS 7 0 rfl rfl (vp_in_iff.mpr ⟨by omega, by omega⟩) dX11_clause_195 (fun H locs hP9 hD9 hS9 => ?_)
        clear hP hD hS
        obtain ⟨v195_f, e195⟩ : ∃ g : Nat → Int32, g = upd fS (v17).toNatClampNeg v194 := ⟨_, rfl⟩
        rw [← e195] at hP9 hD9
        obtain ⟨hP, hD⟩ := zst (wX := [(h0, .inr (11, [.int th, .ref tB, .int tsz, .int u134_0, .int u134_1, .int u134_2, .ref rC, .ref rV, .ref rD, .ref rK, .ref rT, .ref rS, .ref rU, .int lw, .int tx, .ref rL, .ref rX, .ref qR, .ref qB, .ref qP, .int qnb, .int qnp, .ref aR, .ref aB, .ref aP, .int nb, .int np, .ref aN, .ref rf, .int ho, .int br, .ref aK, .int ac, .long dw, .ref aE, .int sr, .int sf, .ref aA, .ref aH, .ref aI, .int hi])), (tB, .inl (cI, 240, .inl fB)), (rC, .inl (cI, 2600, .inl u134_3)), (rV, .inl (cI, 2600, .inl u134_4)), (rD, .inl (cI, 5, .inl u134_5)), (rK, .inl (cI, 5, .inl fK)), (rT, .inl (cI, 700, .inl v104_f)), (rS, .inl (cI, 700, .inl v195_f)), (rU, .inl (cI, 700, .inl fU))]) hP9 hD9 rfl
        have hS := hS9
        clear hP9 hD9 hS9
        refine lv_iload_n hx hb dX11_clause_196 rfl (lv_at hl 0 rfl) ?_
        refine lv_if_eq (tgt := 251) hx hb dX11_clause_197 (by decide) (fun c => absurd c (by decide)) (fun _ => ?_)
        refine lv_aload_n hx hb dX11_clause_200 rfl (lv_at hl 2 rfl) ?_
        refine va_get (D := (dC, dI)) (ci := 11) (v := .int u134_1) (C := RX11) (T := TX11) (N := 41) hx hb hts iX11 hown hK hP 0 rfl rfl 4 (by decide) (hts _ qw1131) (fun _ h9 => h9) rfl dX11_clause_201 ?_
        refine lv_iconst (v := (-1)) hx hb dX11_clause_204 (by decide) ?_
        refine lv_icmp_ne (tgt := 251) hx hb dX11_clause_205 (by decide) (fun c205 => ?_) (fun c205 => ?_)
        · have c205 : ¬ u134_1.toInt = (-1) := z6 rfl (by decide) c205
          refine lv_aload_n hx hb dX11_clause_251 rfl (lv_at hl 2 rfl) ?_
          refine va_get (D := (dC, dI)) (ci := 11) (v := .ref rU) (C := RX11) (T := TX11) (N := 41) hx hb hts iX11 hown hK hP 0 rfl rfl 12 (by decide) (hts _ qw1139) (fun _ h9 => h9) rfl dX11_clause_252 ?_
          refine lv_iload_n hx hb dX11_clause_255 rfl (lv_at hl 1 rfl) ?_
          refine lv_aload_n hx hb dX11_clause_256 rfl (lv_at hl 2 rfl) ?_
          refine va_get (D := (dC, dI)) (ci := 11) (v := .ref rD) (C := RX11) (T := TX11) (N := 41) hx hb hts iX11 hown hK hP 0 rfl rfl 8 (by decide) (hts _ qw1135) (fun _ h9 => h9) rfl dX11_clause_257 ?_
          refine lv_aload_n hx hb dX11_clause_260 rfl (lv_at hl 2 rfl) ?_
          refine va_get (D := (dC, dI)) (ci := 11) (v := .int tx) (C := RX11) (T := TX11) (N := 41) hx hb hts iX11 hown hK hP 0 rfl rfl 14 (by decide) (hts _ qw1141) (fun _ h9 => h9) rfl dX11_clause_261 ?_
          refine va_iald hx hb hK hP 4 0 rfl rfl (vp_in_iff.mpr ⟨by omega, by omega⟩) dX11_clause_264 ?_
          refine lv_topi (fun v264 e264 => ?_)
          have i264 : v264.toInt = (u134_5 tx.toInt.toNat).toInt ∧ 0 ≤ v264.toInt ∧ v264.toInt ≤ 518 := by have hq := ((show zPar u134_1 u134_0 u134_3 u134_4 u134_5 tx fC fV (520 * tx.toInt.toNat + (fD tx.toInt.toNat).toInt.toNat) (0) (fD tx.toInt.toNat).toInt.toNat (1) from by first | exact zPar_bad f134_11 (by omega) (by omega) (by omega))).2.2.1; have := zIx (n := tx.toInt.toNat) e264 (by omega); omega
          refine va_iast hx hb hK hP hD hS 8 0 rfl rfl (vp_in_iff.mpr ⟨by omega, by omega⟩) dX11_clause_265 (fun H locs hP9 hD9 hS9 => ?_)
          clear hP hD hS
          obtain ⟨v265_f, e265⟩ : ∃ g : Nat → Int32, g = upd fU (v17).toNatClampNeg v264 := ⟨_, rfl⟩
          rw [← e265] at hP9 hD9
          obtain ⟨hP, hD⟩ := zst (wX := [(h0, .inr (11, [.int th, .ref tB, .int tsz, .int u134_0, .int u134_1, .int u134_2, .ref rC, .ref rV, .ref rD, .ref rK, .ref rT, .ref rS, .ref rU, .int lw, .int tx, .ref rL, .ref rX, .ref qR, .ref qB, .ref qP, .int qnb, .int qnp, .ref aR, .ref aB, .ref aP, .int nb, .int np, .ref aN, .ref rf, .int ho, .int br, .ref aK, .int ac, .long dw, .ref aE, .int sr, .int sf, .ref aA, .ref aH, .ref aI, .int hi])), (tB, .inl (cI, 240, .inl fB)), (rC, .inl (cI, 2600, .inl u134_3)), (rV, .inl (cI, 2600, .inl u134_4)), (rD, .inl (cI, 5, .inl u134_5)), (rK, .inl (cI, 5, .inl fK)), (rT, .inl (cI, 700, .inl v104_f)), (rS, .inl (cI, 700, .inl v195_f)), (rU, .inl (cI, 700, .inl v265_f))]) hP9 hD9 rfl
          have hS := hS9
          clear hP9 hD9 hS9
          refine lv_aload_n hx hb dX11_clause_266 rfl (lv_at hl 2 rfl) ?_
          refine va_get (D := (dC, dI)) (ci := 11) (v := .ref rK) (C := RX11) (T := TX11) (N := 41) hx hb hts iX11 hown hK hP 0 rfl rfl 9 (by decide) (hts _ qw1136) (fun _ h9 => h9) rfl dX11_clause_267 ?_
          refine lv_aload_n hx hb dX11_clause_270 rfl (lv_at hl 2 rfl) ?_
          refine va_get (D := (dC, dI)) (ci := 11) (v := .int tx) (C := RX11) (T := TX11) (N := 41) hx hb hts iX11 hown hK hP 0 rfl rfl 14 (by decide) (hts _ qw1141) (fun _ h9 => h9) rfl dX11_clause_271 ?_
          refine lv_dup2_11 hx hb dX11_clause_274 rfl rfl ?_
          refine va_iald hx hb hK hP 5 0 rfl rfl (vp_in_iff.mpr ⟨by omega, by omega⟩) dX11_clause_275 ?_
          refine lv_topi (fun v275 e275 => ?_)
          have i275 : v275.toInt = (fK tx.toInt.toNat).toInt ∧ 0 ≤ v275.toInt ∧ v275.toInt ≤ 123 := by have := hrd.2.2.1; have := zIx (n := tx.toInt.toNat) e275 (by omega); omega
          refine lv_iconst (v := 1) hx hb dX11_clause_276 (by decide) ?_
          refine lv_iadd hx hb dX11_clause_277 ?_
          refine lv_topi (fun v277 e277 => ?_)
          have i277 : v277.toInt = v275.toInt + 1 := zadd e277 rfl (by decide) (by omega) (by omega)
          refine va_iast hx hb hK hP hD hS 5 0 rfl rfl (vp_in_iff.mpr ⟨by omega, by omega⟩) dX11_clause_278 (fun H locs hP9 hD9 hS9 => ?_)
          clear hP hD hS
          obtain ⟨v278_f, e278⟩ : ∃ g : Nat → Int32, g = upd fK (tx).toNatClampNeg v277 := ⟨_, rfl⟩
          rw [← e278] at hP9 hD9
          obtain ⟨hP, hD⟩ := zst (wX := [(h0, .inr (11, [.int th, .ref tB, .int tsz, .int u134_0, .int u134_1, .int u134_2, .ref rC, .ref rV, .ref rD, .ref rK, .ref rT, .ref rS, .ref rU, .int lw, .int tx, .ref rL, .ref rX, .ref qR, .ref qB, .ref qP, .int qnb, .int qnp, .ref aR, .ref aB, .ref aP, .int nb, .int np, .ref aN, .ref rf, .int ho, .int br, .ref aK, .int ac, .long dw, .ref aE, .int sr, .int sf, .ref aA, .ref aH, .ref aI, .int hi])), (tB, .inl (cI, 240, .inl fB)), (rC, .inl (cI, 2600, .inl u134_3)), (rV, .inl (cI, 2600, .inl u134_4)), (rD, .inl (cI, 5, .inl u134_5)), (rK, .inl (cI, 5, .inl v278_f)), (rT, .inl (cI, 700, .inl v104_f)), (rS, .inl (cI, 700, .inl v195_f)), (rU, .inl (cI, 700, .inl v265_f))]) hP9 hD9 rfl
          have hS := hS9
          clear hP9 hD9 hS9
          rw [hQ]
          exact W.vret hx hb hr (fun t ht hW => ⟨⟨(u134_0, u134_1, u134_2, u134_3, u134_4, u134_5, v278_f, v104_f, v195_f, v265_f), rfl, ⟨by (try dsimp only); omega, by (try dsimp only); omega, by (try dsimp only); omega, by (try dsimp only); omega, by (try dsimp only); omega, by (try dsimp only); omega, by (try dsimp only); omega, by (try dsimp only); omega, by (try dsimp only); omega, by (try dsimp only); first | exact zRd_A hrd (show zPar u134_1 u134_0 u134_3 u134_4 u134_5 tx fC fV (520 * tx.toInt.toNat + (fD tx.toInt.toNat).toInt.toNat) (0) (fD tx.toInt.toNat).toInt.toNat (1) from by first | exact zPar_bad f134_11 (by omega) (by omega) (by omega)) (by omega) (by omega) (by omega) e104 e195 e265 e278 (by omega) (by omega) (by omega) (by omega) (by omega) (by omega), by (try dsimp only); exact zclX F28 (by omega) i46 F59 (by omega) i77 (zc2T F106 (Or.inl (by omega)) (zqm0 F134 (by omega))), by (try dsimp only); exact fun hw => absurd hw (by omega)⟩, ⟨by rw [ht]; exact hP, hD⟩⟩, hS.F ht⟩) hS.2.2 dX11_clause_279
        · have c205 : u134_1.toInt = (-1) := z5 rfl (by decide) c205
          refine lv_aload_n hx hb dX11_clause_208 rfl (lv_at hl 2 rfl) ?_
          obtain ⟨hPc, hDc, hFc⟩ := zc3 (wc := [(h0, .inr (11, [.int th, .ref tB, .int tsz, .int u134_0, .int u134_1, .int u134_2, .ref rC, .ref rV, .ref rD, .ref rK, .ref rT, .ref rS, .ref rU, .int lw, .int tx, .ref rL, .ref rX, .ref qR, .ref qB, .ref qP, .int qnb, .int qnp, .ref aR, .ref aB, .ref aP, .int nb, .int np, .ref aN, .ref rf, .int ho, .int br, .ref aK, .int ac, .long dw, .ref aE, .int sr, .int sf, .ref aA, .ref aH, .ref aI, .int hi])), (tB, .inl (cI, 240, .inl fB))]) hP hD hS hA [0, 1] (by decide +kernel) rfl
          refine va_calli (va_runV (As := []) (rest := []) ⟨hx, hb, hml, hown, hts⟩ (g_X11_look_t l dC dI cI cJ h0 th tB tsz u134_0 u134_1 u134_2 rC rV rD rK rT rS rU lw tx rL rX qR qB qP qnb qnp aR aB aP nb np aN rf ho br aK ac dw aE sr sf aA aH aI hi fB H.size y_ac y_hi y_ho y_lw y_nb y_np y_qnb y_qnp (by omega) n_tsz ⟨f134_2, f134_3⟩) (cwV 0 hts (zgV qw1273 qw1275 qw32 qw108 qw1276) rfl rfl rfl hd_X11_look ⟨by rw [hR]; exact Nat.le_of_ble_eq_true rfl, by rw [hR]; exact Nat.le_of_ble_eq_true rfl⟩) (zPV hPc hK hDc (va_recv (q := (RX11, TX11, 41)) hK hP (ci := 11) (q0 := 0) rfl rfl)) rfl rfl hl.1 rfl (lv_room (Nat.le_of_ble_eq_true rfl)) dX11_clause_209 ⟨Nat.zero_le _, Nat.zero_le _⟩) hS (fun q _ h => hFc q h) hFc (fun v209 u209 t H locs ht hvm hw hB hz1 hk1 hS9 => ?_)
          obtain ⟨u209_0, rfl⟩ : ∃ z, z = u209 := ⟨_, rfl⟩
          obtain ⟨hP9, hD9⟩ := zj2 (wX := [(h0, .inr (11, [.int th, .ref tB, .int tsz, .int u209_0, .int u134_1, .int u134_2, .ref rC, .ref rV, .ref rD, .ref rK, .ref rT, .ref rS, .ref rU, .int lw, .int tx, .ref rL, .ref rX, .ref qR, .ref qB, .ref qP, .int qnb, .int qnp, .ref aR, .ref aB, .ref aP, .int nb, .int np, .ref aN, .ref rf, .int ho, .int br, .ref aK, .int ac, .long dw, .ref aE, .int sr, .int sf, .ref aA, .ref aH, .ref aI, .int hi])), (tB, .inl (cI, 240, .inl fB)), (rC, .inl (cI, 2600, .inl u134_3)), (rV, .inl (cI, 2600, .inl u134_4)), (rD, .inl (cI, 5, .inl u134_5)), (rK, .inl (cI, 5, .inl fK)), (rT, .inl (cI, 700, .inl v104_f)), (rS, .inl (cI, 700, .inl v195_f)), (rU, .inl (cI, 700, .inl fU))]) hP hD hk1 hFc ht hB [0, 1] [(true, 0), (true, 1), (false, 2), (false, 3), (false, 4), (false, 5), (false, 6), (false, 7), (false, 8)] rfl (by decide +kernel) (by decide +kernel) rfl
          clear hP hD hS hPc hDc hFc hB hk1 hz1 hvm
          have hP := hP9
          have hD := hD9
          have hS := hS9
          clear hP9 hD9 hS9
          obtain ⟨f209_0, f209_1, f209_2, f209_3, f209_4, f209_5⟩ : (0 ≤ u209_0.toInt) ∧ (u209_0.toInt ≤ 240) ∧ (¬ v209.toInt = -1 → u209_0.toInt < tsz.toInt) ∧ (u134_0.toInt ≤ u209_0.toInt) ∧ (u209_0.toInt ≤ tsz.toInt ∨ u209_0.toInt = u134_0.toInt) ∧ (zLk fB tsz u134_0 v209 u209_0) := hw
          have F209 := f209_5
          refine lv_bipush (v := 63) hx hb dX11_clause_212 (by decide) ?_
          refine lv_icmp_eq (tgt := 222) hx hb dX11_clause_214 (by decide) (fun c214 => ?_) (fun c214 => ?_)
          · have c214 : v209.toInt = 63 := z5 rfl (by decide) c214
            refine lv_aload_n hx hb dX11_clause_222 rfl (lv_at hl 2 rfl) ?_
            refine lv_dup hx hb dX11_clause_223 rfl ?_
            refine va_get (D := (dC, dI)) (ci := 11) (v := .int u209_0) (C := RX11) (T := TX11) (N := 41) hx hb hts iX11 hown hK hP 0 rfl rfl 3 (by decide) (hts _ qw1130) (fun _ h9 => h9) rfl dX11_clause_224 ?_
            refine lv_iconst (v := 1) hx hb dX11_clause_227 (by decide) ?_
            refine lv_iadd hx hb dX11_clause_228 ?_
            refine lv_topi (fun v228 e228 => ?_)
            have i228 : v228.toInt = u209_0.toInt + 1 := zadd e228 rfl (by decide) (by omega) (by omega)
            refine va_put (D := (dC, dI)) (ci := 11) (v := .int v228) (ty := .int) (C := RX11) (T := TX11) (N := 41) hx hb hts iX11 tyX11 tyX11_ok nmX11 hown hK hP hD hS 0 rfl rfl 3 (by decide) (hts _ qw1130) (fun _ h9 => h9) rfl (by decide +kernel) rfl rfl (Nat.le_of_ble_eq_true rfl) dX11_clause_229 (fun H locs hP9 hD9 hS9 => ?_)
            clear hP hD hS
            obtain ⟨hP, hD⟩ := zst (wX := [(h0, .inr (11, [.int th, .ref tB, .int tsz, .int v228, .int u134_1, .int u134_2, .ref rC, .ref rV, .ref rD, .ref rK, .ref rT, .ref rS, .ref rU, .int lw, .int tx, .ref rL, .ref rX, .ref qR, .ref qB, .ref qP, .int qnb, .int qnp, .ref aR, .ref aB, .ref aP, .int nb, .int np, .ref aN, .ref rf, .int ho, .int br, .ref aK, .int ac, .long dw, .ref aE, .int sr, .int sf, .ref aA, .ref aH, .ref aI, .int hi])), (tB, .inl (cI, 240, .inl fB)), (rC, .inl (cI, 2600, .inl u134_3)), (rV, .inl (cI, 2600, .inl u134_4)), (rD, .inl (cI, 5, .inl u134_5)), (rK, .inl (cI, 5, .inl fK)), (rT, .inl (cI, 700, .inl v104_f)), (rS, .inl (cI, 700, .inl v195_f)), (rU, .inl (cI, 700, .inl fU))]) hP9 hD9 rfl
            have hS := hS9
            clear hP9 hD9 hS9
            refine lv_aload_n hx hb dX11_clause_232 rfl (lv_at hl 2 rfl) ?_
            refine va_get (D := (dC, dI)) (ci := 11) (v := .ref rS) (C := RX11) (T := TX11) (N := 41) hx hb hts iX11 hown hK hP 0 rfl rfl 11 (by decide) (hts _ qw1138) (fun _ h9 => h9) rfl dX11_clause_233 ?_
            refine lv_iload_n hx hb dX11_clause_236 rfl (lv_at hl 1 rfl) ?_
            refine lv_aload_n hx hb dX11_clause_237 rfl (lv_at hl 2 rfl) ?_
            refine va_get (D := (dC, dI)) (ci := 11) (v := .ref rD) (C := RX11) (T := TX11) (N := 41) hx hb hts iX11 hown hK hP 0 rfl rfl 8 (by decide) (hts _ qw1135) (fun _ h9 => h9) rfl dX11_clause_238 ?_
            refine lv_aload_n hx hb dX11_clause_241 rfl (lv_at hl 2 rfl) ?_
            refine va_get (D := (dC, dI)) (ci := 11) (v := .int tx) (C := RX11) (T := TX11) (N := 41) hx hb hts iX11 hown hK hP 0 rfl rfl 14 (by decide) (hts _ qw1141) (fun _ h9 => h9) rfl dX11_clause_242 ?_
            refine va_iald hx hb hK hP 4 0 rfl rfl (vp_in_iff.mpr ⟨by omega, by omega⟩) dX11_clause_245 ?_
            refine lv_topi (fun v245 e245 => ?_)
            have i245 : v245.toInt = (u134_5 tx.toInt.toNat).toInt ∧ 0 ≤ v245.toInt ∧ v245.toInt ≤ 518 := by have hq := ((show zPar u134_1 v228 u134_3 u134_4 u134_5 tx fC fV (520 * tx.toInt.toNat + (fD tx.toInt.toNat).toInt.toNat) (0) (fD tx.toInt.toNat).toInt.toNat (1) from by first | exact zPar_mono f134_11 (by omega) (by omega) (by omega) (by omega))).2.2.1; have := zIx (n := tx.toInt.toNat) e245 (by omega); omega
            refine va_iast hx hb hK hP hD hS 7 0 rfl rfl (vp_in_iff.mpr ⟨by omega, by omega⟩) dX11_clause_246 (fun H locs hP9 hD9 hS9 => ?_)
            clear hP hD hS
            obtain ⟨v246_f, e246⟩ : ∃ g : Nat → Int32, g = upd v195_f (v17).toNatClampNeg v245 := ⟨_, rfl⟩
            rw [← e246] at hP9 hD9
            obtain ⟨hP, hD⟩ := zst (wX := [(h0, .inr (11, [.int th, .ref tB, .int tsz, .int v228, .int u134_1, .int u134_2, .ref rC, .ref rV, .ref rD, .ref rK, .ref rT, .ref rS, .ref rU, .int lw, .int tx, .ref rL, .ref rX, .ref qR, .ref qB, .ref qP, .int qnb, .int qnp, .ref aR, .ref aB, .ref aP, .int nb, .int np, .ref aN, .ref rf, .int ho, .int br, .ref aK, .int ac, .long dw, .ref aE, .int sr, .int sf, .ref aA, .ref aH, .ref aI, .int hi])), (tB, .inl (cI, 240, .inl fB)), (rC, .inl (cI, 2600, .inl u134_3)), (rV, .inl (cI, 2600, .inl u134_4)), (rD, .inl (cI, 5, .inl u134_5)), (rK, .inl (cI, 5, .inl fK)), (rT, .inl (cI, 700, .inl v104_f)), (rS, .inl (cI, 700, .inl v246_f)), (rU, .inl (cI, 700, .inl fU))]) hP9 hD9 rfl
            have hS := hS9
            clear hP9 hD9 hS9
            have hp247 : zPar u134_1 v228 u134_3 u134_4 u134_5 tx u134_3 u134_4 (520 * tx.toInt.toNat + (u134_5 tx.toInt.toNat).toInt.toNat) (2) (u134_5 tx.toInt.toNat).toInt.toNat (0) := zPar_new (show zPar u134_1 v228 u134_3 u134_4 u134_5 tx fC fV (520 * tx.toInt.toNat + (fD tx.toInt.toNat).toInt.toNat) (2) (fD tx.toInt.toNat).toInt.toNat (1) from by first | exact zPar_mono f134_11 (by omega) (by omega) (by omega) (by omega))
            refine lv_aload_n hx hb dX11_clause_247 rfl (lv_at hl 2 rfl) ?_
            have zx_u134_1 : ((-1) : Int32).toInt = (-1) := by decide
            have zy_u134_1 : u134_1 = (-1) := z7 (a := (-1)) (by decide) (by omega)
            rw [zy_u134_1] at hP hD
            obtain ⟨hPc, hDc, hFc⟩ := zc3 (wc := [(h0, .inr (11, [.int th, .ref tB, .int tsz, .int v228, .int (-1), .int u134_2, .ref rC, .ref rV, .ref rD, .ref rK, .ref rT, .ref rS, .ref rU, .int lw, .int tx, .ref rL, .ref rX, .ref qR, .ref qB, .ref qP, .int qnb, .int qnp, .ref aR, .ref aB, .ref aP, .int nb, .int np, .ref aN, .ref rf, .int ho, .int br, .ref aK, .int ac, .long dw, .ref aE, .int sr, .int sf, .ref aA, .ref aH, .ref aI, .int hi])), (tB, .inl (cI, 240, .inl fB)), (rC, .inl (cI, 2600, .inl u134_3)), (rV, .inl (cI, 2600, .inl u134_4)), (rD, .inl (cI, 5, .inl u134_5))]) hP hD hS hA [0, 1, 2, 3, 4] (by decide +kernel) rfl
            refine va_callv (va_runV (As := []) (rest := []) ⟨hx, hb, hml, hown, hts⟩ (zE_S6 l dC dI cI cJ h0 th tB tsz v228 u134_2 rC rV rD rK rT rS rU lw tx rL rX qR qB qP qnb qnp aR aB aP nb np aN rf ho br aK ac dw aE sr sf aA aH aI hi fB u134_3 u134_4 u134_5 u134_3 u134_4 ((520 * tx.toInt.toNat + (u134_5 tx.toInt.toNat).toInt.toNat)) 1 ((u134_5 tx.toInt.toNat).toInt.toNat) 0 H.size y_ac (by omega) y_hi y_ho y_lw y_nb y_np y_qnb y_qnp (by omega) n_tsz n_tx (by first | exact zPar_mono hp247 (by omega) (by omega) (by omega) (by omega)) (by first | decide | omega) (by first | decide | omega) (by first | decide | omega) (by first | decide | omega)) (cwV 0 hts (zgV qw1340 qw1342 qw45 qw108 qw1343) rfl rfl rfl hd_X11_sum ⟨by rw [hR]; exact Nat.le_of_ble_eq_true rfl, by rw [hR]; exact Nat.le_of_ble_eq_true rfl⟩) (zPV hPc hK hDc (va_recv (q := (RX11, TX11, 41)) hK hP (ci := 11) (q0 := 0) rfl rfl)) rfl rfl hl.1 rfl (lv_room (Nat.le_of_ble_eq_true rfl)) dX11_clause_248 ⟨Nat.zero_le _, Nat.zero_le _⟩) hS (fun q _ h => hFc q h) hFc (fun u248 t H locs ht hvm hw hB hz1 hk1 hS9 => ?_)
            obtain ⟨u248_0, u248_1, u248_2, u248_3, u248_4, u248_5⟩ := u248
            obtain ⟨hP9, hD9⟩ := zj2 (wX := [(h0, .inr (11, [.int th, .ref tB, .int tsz, .int u248_0, .int u248_1, .int u248_2, .ref rC, .ref rV, .ref rD, .ref rK, .ref rT, .ref rS, .ref rU, .int lw, .int tx, .ref rL, .ref rX, .ref qR, .ref qB, .ref qP, .int qnb, .int qnp, .ref aR, .ref aB, .ref aP, .int nb, .int np, .ref aN, .ref rf, .int ho, .int br, .ref aK, .int ac, .long dw, .ref aE, .int sr, .int sf, .ref aA, .ref aH, .ref aI, .int hi])), (tB, .inl (cI, 240, .inl fB)), (rC, .inl (cI, 2600, .inl u248_3)), (rV, .inl (cI, 2600, .inl u248_4)), (rD, .inl (cI, 5, .inl u248_5)), (rK, .inl (cI, 5, .inl fK)), (rT, .inl (cI, 700, .inl v104_f)), (rS, .inl (cI, 700, .inl v246_f)), (rU, .inl (cI, 700, .inl fU))]) hP hD hk1 hFc ht hB [0, 1, 2, 3, 4] [(true, 0), (true, 1), (true, 2), (true, 3), (true, 4), (false, 5), (false, 6), (false, 7), (false, 8)] rfl (by decide +kernel) (by decide +kernel) rfl
            clear hP hD hS hPc hDc hFc hB hk1 hz1 hvm
            have hP := hP9
            have hD := hD9
            have hS := hS9
            clear hP9 hD9 hS9
            obtain ⟨f248_0, f248_1, f248_2, f248_3, f248_4, f248_5, f248_6, f248_7, f248_8, f248_9, f248_10, f248_11⟩ : (0 ≤ u248_0.toInt) ∧ (u248_0.toInt ≤ 246) ∧ ((-1) ≤ u248_1.toInt) ∧ (u248_1.toInt ≤ 260) ∧ (0 ≤ u248_2.toInt) ∧ (u248_2.toInt ≤ 7) ∧ (u248_1.toInt = -1 → (u248_0.toInt ≤ tsz.toInt ∧ u248_2.toInt = 6 - ((6 : Nat) : Int))) ∧ (v228.toInt ≤ u248_0.toInt) ∧ (u248_0.toInt ≤ 240 + ((6 : Nat) : Int) ∧ 6 - ((6 : Nat) : Int) ≤ u248_2.toInt ∧ u248_2.toInt ≤ 7 - ((6 : Nat) : Int)) ∧ (zW (sSum (sB fB tsz.toInt) tsz.toInt 6 v228.toInt) u248_1 u248_0) ∧ (u248_1.toInt = -1 → zEr u134_3 u134_4 (520 * tx.toInt.toNat) (u134_5 tx.toInt.toNat).toInt ((eSum (sB fB tsz.toInt) tsz.toInt 6) v228.toInt) u248_3 u248_4 (u248_5 tx.toInt.toNat).toInt) ∧ (zPar u248_1 u248_0 u248_3 u248_4 u248_5 tx u134_3 u134_4 ((520 * tx.toInt.toNat + (u134_5 tx.toInt.toNat).toInt.toNat)) (1) ((u134_5 tx.toInt.toNat).toInt.toNat) (0 + 1)) := hw
            have F248 := f248_9
            have F248_1 : zHid (u248_1.toInt = -1 → zEr u134_3 u134_4 (520 * tx.toInt.toNat) (u134_5 tx.toInt.toNat).toInt ((eSum (sB fB tsz.toInt) tsz.toInt 6) v228.toInt) u248_3 u248_4 (u248_5 tx.toInt.toNat).toInt) := f248_10
            clear f248_10
            refine lv_aload_n hx hb dX11_clause_251 rfl (lv_at hl 2 rfl) ?_
            refine va_get (D := (dC, dI)) (ci := 11) (v := .ref rU) (C := RX11) (T := TX11) (N := 41) hx hb hts iX11 hown hK hP 0 rfl rfl 12 (by decide) (hts _ qw1139) (fun _ h9 => h9) rfl dX11_clause_252 ?_
            refine lv_iload_n hx hb dX11_clause_255 rfl (lv_at hl 1 rfl) ?_
            refine lv_aload_n hx hb dX11_clause_256 rfl (lv_at hl 2 rfl) ?_
            refine va_get (D := (dC, dI)) (ci := 11) (v := .ref rD) (C := RX11) (T := TX11) (N := 41) hx hb hts iX11 hown hK hP 0 rfl rfl 8 (by decide) (hts _ qw1135) (fun _ h9 => h9) rfl dX11_clause_257 ?_
            refine lv_aload_n hx hb dX11_clause_260 rfl (lv_at hl 2 rfl) ?_
            refine va_get (D := (dC, dI)) (ci := 11) (v := .int tx) (C := RX11) (T := TX11) (N := 41) hx hb hts iX11 hown hK hP 0 rfl rfl 14 (by decide) (hts _ qw1141) (fun _ h9 => h9) rfl dX11_clause_261 ?_
            refine va_iald hx hb hK hP 4 0 rfl rfl (vp_in_iff.mpr ⟨by omega, by omega⟩) dX11_clause_264 ?_
            refine lv_topi (fun v264 e264 => ?_)
            have i264 : v264.toInt = (u248_5 tx.toInt.toNat).toInt ∧ 0 ≤ v264.toInt ∧ v264.toInt ≤ 518 := by have hq := ((show zPar u248_1 u248_0 u248_3 u248_4 u248_5 tx u134_3 u134_4 (520 * tx.toInt.toNat + (u134_5 tx.toInt.toNat).toInt.toNat) (0) (u134_5 tx.toInt.toNat).toInt.toNat (1) from by first | exact zPar_mono f248_11 (by omega) (by omega) (by omega) (by omega))).2.2.1; have := zIx (n := tx.toInt.toNat) e264 (by omega); omega
            refine va_iast hx hb hK hP hD hS 8 0 rfl rfl (vp_in_iff.mpr ⟨by omega, by omega⟩) dX11_clause_265 (fun H locs hP9 hD9 hS9 => ?_)
            clear hP hD hS
            obtain ⟨v265_f, e265⟩ : ∃ g : Nat → Int32, g = upd fU (v17).toNatClampNeg v264 := ⟨_, rfl⟩
            rw [← e265] at hP9 hD9
            obtain ⟨hP, hD⟩ := zst (wX := [(h0, .inr (11, [.int th, .ref tB, .int tsz, .int u248_0, .int u248_1, .int u248_2, .ref rC, .ref rV, .ref rD, .ref rK, .ref rT, .ref rS, .ref rU, .int lw, .int tx, .ref rL, .ref rX, .ref qR, .ref qB, .ref qP, .int qnb, .int qnp, .ref aR, .ref aB, .ref aP, .int nb, .int np, .ref aN, .ref rf, .int ho, .int br, .ref aK, .int ac, .long dw, .ref aE, .int sr, .int sf, .ref aA, .ref aH, .ref aI, .int hi])), (tB, .inl (cI, 240, .inl fB)), (rC, .inl (cI, 2600, .inl u248_3)), (rV, .inl (cI, 2600, .inl u248_4)), (rD, .inl (cI, 5, .inl u248_5)), (rK, .inl (cI, 5, .inl fK)), (rT, .inl (cI, 700, .inl v104_f)), (rS, .inl (cI, 700, .inl v246_f)), (rU, .inl (cI, 700, .inl v265_f))]) hP9 hD9 rfl
            have hS := hS9
            clear hP9 hD9 hS9
            refine lv_aload_n hx hb dX11_clause_266 rfl (lv_at hl 2 rfl) ?_
            refine va_get (D := (dC, dI)) (ci := 11) (v := .ref rK) (C := RX11) (T := TX11) (N := 41) hx hb hts iX11 hown hK hP 0 rfl rfl 9 (by decide) (hts _ qw1136) (fun _ h9 => h9) rfl dX11_clause_267 ?_
            refine lv_aload_n hx hb dX11_clause_270 rfl (lv_at hl 2 rfl) ?_
            refine va_get (D := (dC, dI)) (ci := 11) (v := .int tx) (C := RX11) (T := TX11) (N := 41) hx hb hts iX11 hown hK hP 0 rfl rfl 14 (by decide) (hts _ qw1141) (fun _ h9 => h9) rfl dX11_clause_271 ?_
            refine lv_dup2_11 hx hb dX11_clause_274 rfl rfl ?_
            refine va_iald hx hb hK hP 5 0 rfl rfl (vp_in_iff.mpr ⟨by omega, by omega⟩) dX11_clause_275 ?_
            refine lv_topi (fun v275 e275 => ?_)
            have i275 : v275.toInt = (fK tx.toInt.toNat).toInt ∧ 0 ≤ v275.toInt ∧ v275.toInt ≤ 123 := by have := hrd.2.2.1; have := zIx (n := tx.toInt.toNat) e275 (by omega); omega
            refine lv_iconst (v := 1) hx hb dX11_clause_276 (by decide) ?_
            refine lv_iadd hx hb dX11_clause_277 ?_
            refine lv_topi (fun v277 e277 => ?_)
            have i277 : v277.toInt = v275.toInt + 1 := zadd e277 rfl (by decide) (by omega) (by omega)
            refine va_iast hx hb hK hP hD hS 5 0 rfl rfl (vp_in_iff.mpr ⟨by omega, by omega⟩) dX11_clause_278 (fun H locs hP9 hD9 hS9 => ?_)
            clear hP hD hS
            obtain ⟨v278_f, e278⟩ : ∃ g : Nat → Int32, g = upd fK (tx).toNatClampNeg v277 := ⟨_, rfl⟩
            rw [← e278] at hP9 hD9
            obtain ⟨hP, hD⟩ := zst (wX := [(h0, .inr (11, [.int th, .ref tB, .int tsz, .int u248_0, .int u248_1, .int u248_2, .ref rC, .ref rV, .ref rD, .ref rK, .ref rT, .ref rS, .ref rU, .int lw, .int tx, .ref rL, .ref rX, .ref qR, .ref qB, .ref qP, .int qnb, .int qnp, .ref aR, .ref aB, .ref aP, .int nb, .int np, .ref aN, .ref rf, .int ho, .int br, .ref aK, .int ac, .long dw, .ref aE, .int sr, .int sf, .ref aA, .ref aH, .ref aI, .int hi])), (tB, .inl (cI, 240, .inl fB)), (rC, .inl (cI, 2600, .inl u248_3)), (rV, .inl (cI, 2600, .inl u248_4)), (rD, .inl (cI, 5, .inl u248_5)), (rK, .inl (cI, 5, .inl v278_f)), (rT, .inl (cI, 700, .inl v104_f)), (rS, .inl (cI, 700, .inl v246_f)), (rU, .inl (cI, 700, .inl v265_f))]) hP9 hD9 rfl
            have hS := hS9
            clear hP9 hD9 hS9
            rw [hQ]
            exact W.vret hx hb hr (fun t ht hW => ⟨⟨(u248_0, u248_1, u248_2, u248_3, u248_4, u248_5, v278_f, v104_f, v246_f, v265_f), rfl, ⟨by (try dsimp only); omega, by (try dsimp only); omega, by (try dsimp only); omega, by (try dsimp only); omega, by (try dsimp only); omega, by (try dsimp only); omega, by (try dsimp only); omega, by (try dsimp only); omega, by (try dsimp only); omega, by (try dsimp only); first | exact zRd_C hrd f134_11 (show zPar u248_1 u248_0 u248_3 u248_4 u248_5 tx u134_3 u134_4 (520 * tx.toInt.toNat + (u134_5 tx.toInt.toNat).toInt.toNat) (0) (u134_5 tx.toInt.toNat).toInt.toNat (1) from by first | exact zPar_mono f248_11 (by omega) (by omega) (by omega) (by omega)) (by omega) (by omega) (by omega) (by omega) (by omega) e104 e195 e246 e265 e278 (by omega) (by omega) (by omega) (by omega) (by omega) (by omega), by (try dsimp only); exact zclX F28 (by omega) i46 F59 (by omega) i77 (zc2T F106 (Or.inl (by omega)) (zqmY F134 (by omega) F209 (by omega) i228 F248)), by (try dsimp only); exact fun hw => zQc_mk (eAf_R F28 i46 F59 i77) (erT F106 (Or.inl (by omega)) F134 (by omega) (F134_1 (by omega)) F209 i228 (F248_1 (by omega)) (by omega)) (by omega) (by omega) e104 (by omega) (zup2 e195 e246).1 (by rw [(zup2 e195 e246).2]; omega) e265 (by omega) e278 (by omega)⟩, ⟨by rw [ht]; exact hP, hD⟩⟩, hS.F ht⟩) hS.2.2 dX11_clause_279
          · have c214 : ¬ v209.toInt = 63 := z6 rfl (by decide) c214
            refine lv_aload_n hx hb dX11_clause_217 rfl (lv_at hl 2 rfl) ?_
            have zx_u134_1 : ((-1) : Int32).toInt = (-1) := by decide
            have zy_u134_1 : u134_1 = (-1) := z7 (a := (-1)) (by decide) (by omega)
            rw [zy_u134_1] at hP hD
            obtain ⟨hPc, hDc, hFc⟩ := zc3 (wc := [(h0, .inr (11, [.int th, .ref tB, .int tsz, .int u209_0, .int (-1), .int u134_2, .ref rC, .ref rV, .ref rD, .ref rK, .ref rT, .ref rS, .ref rU, .int lw, .int tx, .ref rL, .ref rX, .ref qR, .ref qB, .ref qP, .int qnb, .int qnp, .ref aR, .ref aB, .ref aP, .int nb, .int np, .ref aN, .ref rf, .int ho, .int br, .ref aK, .int ac, .long dw, .ref aE, .int sr, .int sf, .ref aA, .ref aH, .ref aI, .int hi]))]) hP hD hS hA [0] (by decide +kernel) rfl
            refine va_callv (va_runV (As := []) (rest := []) ⟨hx, hb, hml, hown, hts⟩ (g_X11_bad_m l dC dI cI cJ h0 th tB tsz u209_0 u134_2 rC rV rD rK rT rS rU lw tx rL rX qR qB qP qnb qnp aR aB aP nb np aN rf ho br aK ac dw aE sr sf aA aH aI hi H.size y_ac y_hi y_ho y_lw y_nb y_np y_qnb y_qnp (by omega) n_tsz) (cwV 0 hts (zgV qw1301 qw1303 qw36 qw108 qw1304) rfl rfl rfl hd_X11_bad ⟨by rw [hR]; exact Nat.le_of_ble_eq_true rfl, by rw [hR]; exact Nat.le_of_ble_eq_true rfl⟩) (zPV hPc hK hDc (va_recv (q := (RX11, TX11, 41)) hK hP (ci := 11) (q0 := 0) rfl rfl)) rfl rfl hl.1 rfl (lv_room (Nat.le_of_ble_eq_true rfl)) dX11_clause_218 ⟨Nat.zero_le _, Nat.zero_le _⟩) hS (fun q _ h => hFc q h) hFc (fun u218 t H locs ht hvm hw hB hz1 hk1 hS9 => ?_)
            obtain ⟨hP9, hD9⟩ := zj2 (wX := [(h0, .inr (11, [.int th, .ref tB, .int tsz, .int u209_0, .int u209_0, .int u134_2, .ref rC, .ref rV, .ref rD, .ref rK, .ref rT, .ref rS, .ref rU, .int lw, .int tx, .ref rL, .ref rX, .ref qR, .ref qB, .ref qP, .int qnb, .int qnp, .ref aR, .ref aB, .ref aP, .int nb, .int np, .ref aN, .ref rf, .int ho, .int br, .ref aK, .int ac, .long dw, .ref aE, .int sr, .int sf, .ref aA, .ref aH, .ref aI, .int hi])), (tB, .inl (cI, 240, .inl fB)), (rC, .inl (cI, 2600, .inl u134_3)), (rV, .inl (cI, 2600, .inl u134_4)), (rD, .inl (cI, 5, .inl u134_5)), (rK, .inl (cI, 5, .inl fK)), (rT, .inl (cI, 700, .inl v104_f)), (rS, .inl (cI, 700, .inl v195_f)), (rU, .inl (cI, 700, .inl fU))]) hP hD hk1 hFc ht hB [0] [(true, 0), (false, 1), (false, 2), (false, 3), (false, 4), (false, 5), (false, 6), (false, 7), (false, 8)] rfl (by decide +kernel) (by decide +kernel) rfl
            clear hP hD hS hPc hDc hFc hB hk1 hz1 hvm
            have hP := hP9
            have hD := hD9
            have hS := hS9
            clear hP9 hD9 hS9
            rw [hQ]
            exact W.vret hx hb hr (fun t ht hW => ⟨⟨(u209_0, u209_0, u134_2, u134_3, u134_4, u134_5, fK, v104_f, v195_f, fU), rfl, ⟨by (try dsimp only); omega, by (try dsimp only); omega, by (try dsimp only); omega, by (try dsimp only); omega, by (try dsimp only); omega, by (try dsimp only); omega, by (try dsimp only); omega, by (try dsimp only); omega, by (try dsimp only); omega, by (try dsimp only); first | exact zRd_B hrd (show zPar u209_0 u209_0 u134_3 u134_4 u134_5 tx fC fV (520 * tx.toInt.toNat + (fD tx.toInt.toNat).toInt.toNat) (0) (fD tx.toInt.toNat).toInt.toNat (1) from by first | exact zPar_bad f134_11 (by omega) (by omega) (by omega)) (by omega) (by omega) e104 e195 (by omega), by (try dsimp only); exact zclX F28 (by omega) i46 F59 (by omega) i77 (zc2T F106 (Or.inl (by omega)) (zqmN F134 (by omega) F209 (by omega) (by omega) (by omega))), by (try dsimp only); exact fun hw => absurd hw (by omega)⟩, ⟨by rw [ht]; exact hP, hD⟩⟩, hS.F ht⟩) hS.2.2 dX11_clause_221
      · have c111 : ¬ v106.toInt = 33 := z6 rfl (by decide) c111
        refine lv_aload_n hx hb dX11_clause_114 rfl (lv_at hl 1 rfl) ?_
        obtain ⟨hPc, hDc, hFc⟩ := zc3 (wc := [(h0, .inr (11, [.int th, .ref tB, .int tsz, .int u106_0, .int (-1), .int 0, .ref rC, .ref rV, .ref rD, .ref rK, .ref rT, .ref rS, .ref rU, .int lw, .int tx, .ref rL, .ref rX, .ref qR, .ref qB, .ref qP, .int qnb, .int qnp, .ref aR, .ref aB, .ref aP, .int nb, .int np, .ref aN, .ref rf, .int ho, .int br, .ref aK, .int ac, .long dw, .ref aE, .int sr, .int sf, .ref aA, .ref aH, .ref aI, .int hi])), (tB, .inl (cI, 240, .inl fB))]) hP hD hS hA [0, 1] (by decide +kernel) rfl
        refine va_calli (va_runV (As := []) (rest := []) ⟨hx, hb, hml, hown, hts⟩ (g_X11_look_t l dC dI cI cJ h0 th tB tsz u106_0 ((-1)) 0 rC rV rD rK rT rS rU lw tx rL rX qR qB qP qnb qnp aR aB aP nb np aN rf ho br aK ac dw aE sr sf aA aH aI hi fB H.size y_ac y_hi y_ho y_lw y_nb y_np y_qnb y_qnp ⟨f106_0, f106_1⟩ n_tsz (by decide)) (cwV 0 hts (zgV qw1273 qw1275 qw32 qw108 qw1276) rfl rfl rfl hd_X11_look ⟨by rw [hR]; exact Nat.le_of_ble_eq_true rfl, by rw [hR]; exact Nat.le_of_ble_eq_true rfl⟩) (zPV hPc hK hDc (va_recv (q := (RX11, TX11, 41)) hK hP (ci := 11) (q0 := 0) rfl rfl)) rfl rfl hl.1 rfl (lv_room (Nat.le_of_ble_eq_true rfl)) dX11_clause_115 ⟨Nat.zero_le _, Nat.zero_le _⟩) hS (fun q _ h => hFc q h) hFc (fun v115 u115 t H locs ht hvm hw hB hz1 hk1 hS9 => ?_)
        obtain ⟨u115_0, rfl⟩ : ∃ z, z = u115 := ⟨_, rfl⟩
        obtain ⟨hP9, hD9⟩ := zj2 (wX := [(h0, .inr (11, [.int th, .ref tB, .int tsz, .int u115_0, .int (-1), .int 0, .ref rC, .ref rV, .ref rD, .ref rK, .ref rT, .ref rS, .ref rU, .int lw, .int tx, .ref rL, .ref rX, .ref qR, .ref qB, .ref qP, .int qnb, .int qnp, .ref aR, .ref aB, .ref aP, .int nb, .int np, .ref aN, .ref rf, .int ho, .int br, .ref aK, .int ac, .long dw, .ref aE, .int sr, .int sf, .ref aA, .ref aH, .ref aI, .int hi])), (tB, .inl (cI, 240, .inl fB)), (rC, .inl (cI, 2600, .inl fC)), (rV, .inl (cI, 2600, .inl fV)), (rD, .inl (cI, 5, .inl fD)), (rK, .inl (cI, 5, .inl fK)), (rT, .inl (cI, 700, .inl v104_f)), (rS, .inl (cI, 700, .inl fS)), (rU, .inl (cI, 700, .inl fU))]) hP hD hk1 hFc ht hB [0, 1] [(true, 0), (true, 1), (false, 2), (false, 3), (false, 4), (false, 5), (false, 6), (false, 7), (false, 8)] rfl (by decide +kernel) (by decide +kernel) rfl
        clear hP hD hS hPc hDc hFc hB hk1 hz1 hvm
        have hP := hP9
        have hD := hD9
        have hS := hS9
        clear hP9 hD9 hS9
        obtain ⟨f115_0, f115_1, f115_2, f115_3, f115_4, f115_5⟩ : (0 ≤ u115_0.toInt) ∧ (u115_0.toInt ≤ 240) ∧ (¬ v115.toInt = -1 → u115_0.toInt < tsz.toInt) ∧ (u106_0.toInt ≤ u115_0.toInt) ∧ (u115_0.toInt ≤ tsz.toInt ∨ u115_0.toInt = u106_0.toInt) ∧ (zLk fB tsz u106_0 v115 u115_0) := hw
        have F115 := f115_5
        refine lv_bipush (v := 40) hx hb dX11_clause_118 (by decide) ?_
        refine lv_icmp_ne (tgt := 127) hx hb dX11_clause_120 (by decide) (fun c120 => ?_) (fun c120 => ?_)
        · have c120 : ¬ v115.toInt = 40 := z6 rfl (by decide) c120
          refine lv_iconst (v := 0) hx hb dX11_clause_127 (by decide) ?_
          refine lv_istore_n (lv' := [(2, .int 0), (1, .int v17), (0, .ref h0)]) hx hb dX11_clause_128 rfl hl (by decide) rfl (fun ls hl => ?_)
          refine lv_iload_n hx hb dX11_clause_129 rfl (lv_at hl 0 rfl) ?_
          refine lv_if_eq (tgt := 140) hx hb dX11_clause_130 (by decide) (fun _ => ?_) (fun c => absurd (by decide) c)
          refine lv_aload_n hx hb dX11_clause_140 rfl (lv_at hl 2 rfl) ?_
          obtain ⟨hPc, hDc, hFc⟩ := zc3 (wc := [(h0, .inr (11, [.int th, .ref tB, .int tsz, .int u115_0, .int (-1), .int 0, .ref rC, .ref rV, .ref rD, .ref rK, .ref rT, .ref rS, .ref rU, .int lw, .int tx, .ref rL, .ref rX, .ref qR, .ref qB, .ref qP, .int qnb, .int qnp, .ref aR, .ref aB, .ref aP, .int nb, .int np, .ref aN, .ref rf, .int ho, .int br, .ref aK, .int ac, .long dw, .ref aE, .int sr, .int sf, .ref aA, .ref aH, .ref aI, .int hi])), (tB, .inl (cI, 240, .inl fB)), (rC, .inl (cI, 2600, .inl fC)), (rV, .inl (cI, 2600, .inl fV)), (rD, .inl (cI, 5, .inl fD))]) hP hD hS hA [0, 1, 2, 3, 4] (by decide +kernel) rfl
          refine va_callv (va_runV (As := []) (rest := []) ⟨hx, hb, hml, hown, hts⟩ (zE_S6 l dC dI cI cJ h0 th tB tsz u115_0 0 rC rV rD rK rT rS rU lw tx rL rX qR qB qP qnb qnp aR aB aP nb np aN rf ho br aK ac dw aE sr sf aA aH aI hi fB fC fV fD fC fV ((520 * tx.toInt.toNat + (fD tx.toInt.toNat).toInt.toNat)) 2 ((fD tx.toInt.toNat).toInt.toNat) 0 H.size y_ac (by decide) y_hi y_ho y_lw y_nb y_np y_qnb y_qnp ⟨f115_0, f115_1⟩ n_tsz n_tx (by first | exact zPar_mono hp105 (by omega) (by omega) (by omega) (by omega)) (by first | decide | omega) (by first | decide | omega) (by first | decide | omega) (by first | decide | omega)) (cwV 0 hts (zgV qw1340 qw1342 qw45 qw108 qw1343) rfl rfl rfl hd_X11_sum ⟨by rw [hR]; exact Nat.le_of_ble_eq_true rfl, by rw [hR]; exact Nat.le_of_ble_eq_true rfl⟩) (zPV hPc hK hDc (va_recv (q := (RX11, TX11, 41)) hK hP (ci := 11) (q0 := 0) rfl rfl)) rfl rfl hl.1 rfl (lv_room (Nat.le_of_ble_eq_true rfl)) dX11_clause_141 ⟨Nat.zero_le _, Nat.zero_le _⟩) hS (fun q _ h => hFc q h) hFc (fun u141 t H locs ht hvm hw hB hz1 hk1 hS9 => ?_)
          obtain ⟨u141_0, u141_1, u141_2, u141_3, u141_4, u141_5⟩ := u141
          obtain ⟨hP9, hD9⟩ := zj2 (wX := [(h0, .inr (11, [.int th, .ref tB, .int tsz, .int u141_0, .int u141_1, .int u141_2, .ref rC, .ref rV, .ref rD, .ref rK, .ref rT, .ref rS, .ref rU, .int lw, .int tx, .ref rL, .ref rX, .ref qR, .ref qB, .ref qP, .int qnb, .int qnp, .ref aR, .ref aB, .ref aP, .int nb, .int np, .ref aN, .ref rf, .int ho, .int br, .ref aK, .int ac, .long dw, .ref aE, .int sr, .int sf, .ref aA, .ref aH, .ref aI, .int hi])), (tB, .inl (cI, 240, .inl fB)), (rC, .inl (cI, 2600, .inl u141_3)), (rV, .inl (cI, 2600, .inl u141_4)), (rD, .inl (cI, 5, .inl u141_5)), (rK, .inl (cI, 5, .inl fK)), (rT, .inl (cI, 700, .inl v104_f)), (rS, .inl (cI, 700, .inl fS)), (rU, .inl (cI, 700, .inl fU))]) hP hD hk1 hFc ht hB [0, 1, 2, 3, 4] [(true, 0), (true, 1), (true, 2), (true, 3), (true, 4), (false, 5), (false, 6), (false, 7), (false, 8)] rfl (by decide +kernel) (by decide +kernel) rfl
          clear hP hD hS hPc hDc hFc hB hk1 hz1 hvm
          have hP := hP9
          have hD := hD9
          have hS := hS9
          clear hP9 hD9 hS9
          obtain ⟨f141_0, f141_1, f141_2, f141_3, f141_4, f141_5, f141_6, f141_7, f141_8, f141_9, f141_10, f141_11⟩ : (0 ≤ u141_0.toInt) ∧ (u141_0.toInt ≤ 246) ∧ ((-1) ≤ u141_1.toInt) ∧ (u141_1.toInt ≤ 260) ∧ (0 ≤ u141_2.toInt) ∧ (u141_2.toInt ≤ 7) ∧ (u141_1.toInt = -1 → (u141_0.toInt ≤ tsz.toInt ∧ u141_2.toInt = 6 - ((6 : Nat) : Int))) ∧ (u115_0.toInt ≤ u141_0.toInt) ∧ (u141_0.toInt ≤ 240 + ((6 : Nat) : Int) ∧ 6 - ((6 : Nat) : Int) ≤ u141_2.toInt ∧ u141_2.toInt ≤ 7 - ((6 : Nat) : Int)) ∧ (zW (sSum (sB fB tsz.toInt) tsz.toInt 6 u115_0.toInt) u141_1 u141_0) ∧ (u141_1.toInt = -1 → zEr fC fV (520 * tx.toInt.toNat) (fD tx.toInt.toNat).toInt ((eSum (sB fB tsz.toInt) tsz.toInt 6) u115_0.toInt) u141_3 u141_4 (u141_5 tx.toInt.toNat).toInt) ∧ (zPar u141_1 u141_0 u141_3 u141_4 u141_5 tx fC fV ((520 * tx.toInt.toNat + (fD tx.toInt.toNat).toInt.toNat)) (2) ((fD tx.toInt.toNat).toInt.toNat) (0 + 1)) := hw
          have F141 := f141_9
          have F141_1 : zHid (u141_1.toInt = -1 → zEr fC fV (520 * tx.toInt.toNat) (fD tx.toInt.toNat).toInt ((eSum (sB fB tsz.toInt) tsz.toInt 6) u115_0.toInt) u141_3 u141_4 (u141_5 tx.toInt.toNat).toInt) := f141_10
          clear f141_10
          refine lv_aload_n hx hb dX11_clause_144 rfl (lv_at hl 2 rfl) ?_
          refine va_get (D := (dC, dI)) (ci := 11) (v := .int u141_1) (C := RX11) (T := TX11) (N := 41) hx hb hts iX11 hown hK hP 0 rfl rfl 4 (by decide) (hts _ qw1131) (fun _ h9 => h9) rfl dX11_clause_145 ?_
          refine lv_iconst (v := (-1)) hx hb dX11_clause_148 (by decide) ?_
          refine lv_icmp_ne (tgt := 166) hx hb dX11_clause_149 (by decide) (fun c149 => ?_) (fun c149 => ?_)
          · have c149 : ¬ u141_1.toInt = (-1) := z6 rfl (by decide) c149
            refine lv_iconst (v := 0) hx hb dX11_clause_166 (by decide) ?_
            refine lv_istore_n (lv' := [(2, .int 0), (1, .int v17), (0, .ref h0)]) hx hb dX11_clause_167 rfl hl (by decide) rfl (fun ls hl => ?_)
            refine lv_iload_n hx hb dX11_clause_168 rfl (lv_at hl 0 rfl) ?_
            refine lv_if_eq (tgt := 184) hx hb dX11_clause_169 (by decide) (fun _ => ?_) (fun c => absurd (by decide) c)
            refine lv_aload_n hx hb dX11_clause_184 rfl (lv_at hl 2 rfl) ?_
            refine va_get (D := (dC, dI)) (ci := 11) (v := .ref rS) (C := RX11) (T := TX11) (N := 41) hx hb hts iX11 hown hK hP 0 rfl rfl 11 (by decide) (hts _ qw1138) (fun _ h9 => h9) rfl dX11_clause_185 ?_
            refine lv_iload_n hx hb dX11_clause_188 rfl (lv_at hl 1 rfl) ?_
            refine lv_aload_n hx hb dX11_clause_189 rfl (lv_at hl 2 rfl) ?_
            refine va_get (D := (dC, dI)) (ci := 11) (v := .ref rT) (C := RX11) (T := TX11) (N := 41) hx hb hts iX11 hown hK hP 0 rfl rfl 10 (by decide) (hts _ qw1137) (fun _ h9 => h9) rfl dX11_clause_190 ?_
            refine lv_iload_n hx hb dX11_clause_193 rfl (lv_at hl 1 rfl) ?_
            refine va_iald hx hb hK hP 6 0 rfl rfl (vp_in_iff.mpr ⟨by omega, by omega⟩) dX11_clause_194 ?_
            refine lv_topi (fun v194 e194 => ?_)
            have i194 : v194.toInt = v103.toInt := by rw [e194, e104, pk_us]
            refine va_iast hx hb hK hP hD hS 7 0 rfl rfl (vp_in_iff.mpr ⟨by omega, by omega⟩) dX11_clause_195 (fun H locs hP9 hD9 hS9 => ?_)
            clear hP hD hS
            obtain ⟨v195_f, e195⟩ : ∃ g : Nat → Int32, g = upd fS (v17).toNatClampNeg v194 := ⟨_, rfl⟩
            rw [← e195] at hP9 hD9
            obtain ⟨hP, hD⟩ := zst (wX := [(h0, .inr (11, [.int th, .ref tB, .int tsz, .int u141_0, .int u141_1, .int u141_2, .ref rC, .ref rV, .ref rD, .ref rK, .ref rT, .ref rS, .ref rU, .int lw, .int tx, .ref rL, .ref rX, .ref qR, .ref qB, .ref qP, .int qnb, .int qnp, .ref aR, .ref aB, .ref aP, .int nb, .int np, .ref aN, .ref rf, .int ho, .int br, .ref aK, .int ac, .long dw, .ref aE, .int sr, .int sf, .ref aA, .ref aH, .ref aI, .int hi])), (tB, .inl (cI, 240, .inl fB)), (rC, .inl (cI, 2600, .inl u141_3)), (rV, .inl (cI, 2600, .inl u141_4)), (rD, .inl (cI, 5, .inl u141_5)), (rK, .inl (cI, 5, .inl fK)), (rT, .inl (cI, 700, .inl v104_f)), (rS, .inl (cI, 700, .inl v195_f)), (rU, .inl (cI, 700, .inl fU))]) hP9 hD9 rfl
            have hS := hS9
            clear hP9 hD9 hS9
            refine lv_iload_n hx hb dX11_clause_196 rfl (lv_at hl 0 rfl) ?_
            refine lv_if_eq (tgt := 251) hx hb dX11_clause_197 (by decide) (fun _ => ?_) (fun c => absurd (by decide) c)
            refine lv_aload_n hx hb dX11_clause_251 rfl (lv_at hl 2 rfl) ?_
            refine va_get (D := (dC, dI)) (ci := 11) (v := .ref rU) (C := RX11) (T := TX11) (N := 41) hx hb hts iX11 hown hK hP 0 rfl rfl 12 (by decide) (hts _ qw1139) (fun _ h9 => h9) rfl dX11_clause_252 ?_
            refine lv_iload_n hx hb dX11_clause_255 rfl (lv_at hl 1 rfl) ?_
            refine lv_aload_n hx hb dX11_clause_256 rfl (lv_at hl 2 rfl) ?_
            refine va_get (D := (dC, dI)) (ci := 11) (v := .ref rD) (C := RX11) (T := TX11) (N := 41) hx hb hts iX11 hown hK hP 0 rfl rfl 8 (by decide) (hts _ qw1135) (fun _ h9 => h9) rfl dX11_clause_257 ?_
            refine lv_aload_n hx hb dX11_clause_260 rfl (lv_at hl 2 rfl) ?_
            refine va_get (D := (dC, dI)) (ci := 11) (v := .int tx) (C := RX11) (T := TX11) (N := 41) hx hb hts iX11 hown hK hP 0 rfl rfl 14 (by decide) (hts _ qw1141) (fun _ h9 => h9) rfl dX11_clause_261 ?_
            refine va_iald hx hb hK hP 4 0 rfl rfl (vp_in_iff.mpr ⟨by omega, by omega⟩) dX11_clause_264 ?_
            refine lv_topi (fun v264 e264 => ?_)
            have i264 : v264.toInt = (u141_5 tx.toInt.toNat).toInt ∧ 0 ≤ v264.toInt ∧ v264.toInt ≤ 518 := by have hq := ((show zPar u141_1 u141_0 u141_3 u141_4 u141_5 tx fC fV (520 * tx.toInt.toNat + (fD tx.toInt.toNat).toInt.toNat) (0) (fD tx.toInt.toNat).toInt.toNat (1) from by first | exact zPar_bad f141_11 (by omega) (by omega) (by omega))).2.2.1; have := zIx (n := tx.toInt.toNat) e264 (by omega); omega
            refine va_iast hx hb hK hP hD hS 8 0 rfl rfl (vp_in_iff.mpr ⟨by omega, by omega⟩) dX11_clause_265 (fun H locs hP9 hD9 hS9 => ?_)
            clear hP hD hS
            obtain ⟨v265_f, e265⟩ : ∃ g : Nat → Int32, g = upd fU (v17).toNatClampNeg v264 := ⟨_, rfl⟩
            rw [← e265] at hP9 hD9
            obtain ⟨hP, hD⟩ := zst (wX := [(h0, .inr (11, [.int th, .ref tB, .int tsz, .int u141_0, .int u141_1, .int u141_2, .ref rC, .ref rV, .ref rD, .ref rK, .ref rT, .ref rS, .ref rU, .int lw, .int tx, .ref rL, .ref rX, .ref qR, .ref qB, .ref qP, .int qnb, .int qnp, .ref aR, .ref aB, .ref aP, .int nb, .int np, .ref aN, .ref rf, .int ho, .int br, .ref aK, .int ac, .long dw, .ref aE, .int sr, .int sf, .ref aA, .ref aH, .ref aI, .int hi])), (tB, .inl (cI, 240, .inl fB)), (rC, .inl (cI, 2600, .inl u141_3)), (rV, .inl (cI, 2600, .inl u141_4)), (rD, .inl (cI, 5, .inl u141_5)), (rK, .inl (cI, 5, .inl fK)), (rT, .inl (cI, 700, .inl v104_f)), (rS, .inl (cI, 700, .inl v195_f)), (rU, .inl (cI, 700, .inl v265_f))]) hP9 hD9 rfl
            have hS := hS9
            clear hP9 hD9 hS9
            refine lv_aload_n hx hb dX11_clause_266 rfl (lv_at hl 2 rfl) ?_
            refine va_get (D := (dC, dI)) (ci := 11) (v := .ref rK) (C := RX11) (T := TX11) (N := 41) hx hb hts iX11 hown hK hP 0 rfl rfl 9 (by decide) (hts _ qw1136) (fun _ h9 => h9) rfl dX11_clause_267 ?_
            refine lv_aload_n hx hb dX11_clause_270 rfl (lv_at hl 2 rfl) ?_
            refine va_get (D := (dC, dI)) (ci := 11) (v := .int tx) (C := RX11) (T := TX11) (N := 41) hx hb hts iX11 hown hK hP 0 rfl rfl 14 (by decide) (hts _ qw1141) (fun _ h9 => h9) rfl dX11_clause_271 ?_
            refine lv_dup2_11 hx hb dX11_clause_274 rfl rfl ?_
            refine va_iald hx hb hK hP 5 0 rfl rfl (vp_in_iff.mpr ⟨by omega, by omega⟩) dX11_clause_275 ?_
            refine lv_topi (fun v275 e275 => ?_)
            have i275 : v275.toInt = (fK tx.toInt.toNat).toInt ∧ 0 ≤ v275.toInt ∧ v275.toInt ≤ 123 := by have := hrd.2.2.1; have := zIx (n := tx.toInt.toNat) e275 (by omega); omega
            refine lv_iconst (v := 1) hx hb dX11_clause_276 (by decide) ?_
            refine lv_iadd hx hb dX11_clause_277 ?_
            refine lv_topi (fun v277 e277 => ?_)
            have i277 : v277.toInt = v275.toInt + 1 := zadd e277 rfl (by decide) (by omega) (by omega)
            refine va_iast hx hb hK hP hD hS 5 0 rfl rfl (vp_in_iff.mpr ⟨by omega, by omega⟩) dX11_clause_278 (fun H locs hP9 hD9 hS9 => ?_)
            clear hP hD hS
            obtain ⟨v278_f, e278⟩ : ∃ g : Nat → Int32, g = upd fK (tx).toNatClampNeg v277 := ⟨_, rfl⟩
            rw [← e278] at hP9 hD9
            obtain ⟨hP, hD⟩ := zst (wX := [(h0, .inr (11, [.int th, .ref tB, .int tsz, .int u141_0, .int u141_1, .int u141_2, .ref rC, .ref rV, .ref rD, .ref rK, .ref rT, .ref rS, .ref rU, .int lw, .int tx, .ref rL, .ref rX, .ref qR, .ref qB, .ref qP, .int qnb, .int qnp, .ref aR, .ref aB, .ref aP, .int nb, .int np, .ref aN, .ref rf, .int ho, .int br, .ref aK, .int ac, .long dw, .ref aE, .int sr, .int sf, .ref aA, .ref aH, .ref aI, .int hi])), (tB, .inl (cI, 240, .inl fB)), (rC, .inl (cI, 2600, .inl u141_3)), (rV, .inl (cI, 2600, .inl u141_4)), (rD, .inl (cI, 5, .inl u141_5)), (rK, .inl (cI, 5, .inl v278_f)), (rT, .inl (cI, 700, .inl v104_f)), (rS, .inl (cI, 700, .inl v195_f)), (rU, .inl (cI, 700, .inl v265_f))]) hP9 hD9 rfl
            have hS := hS9
            clear hP9 hD9 hS9
            rw [hQ]
            exact W.vret hx hb hr (fun t ht hW => ⟨⟨(u141_0, u141_1, u141_2, u141_3, u141_4, u141_5, v278_f, v104_f, v195_f, v265_f), rfl, ⟨by (try dsimp only); omega, by (try dsimp only); omega, by (try dsimp only); omega, by (try dsimp only); omega, by (try dsimp only); omega, by (try dsimp only); omega, by (try dsimp only); omega, by (try dsimp only); omega, by (try dsimp only); omega, by (try dsimp only); first | exact zRd_A hrd (show zPar u141_1 u141_0 u141_3 u141_4 u141_5 tx fC fV (520 * tx.toInt.toNat + (fD tx.toInt.toNat).toInt.toNat) (0) (fD tx.toInt.toNat).toInt.toNat (1) from by first | exact zPar_bad f141_11 (by omega) (by omega) (by omega)) (by omega) (by omega) (by omega) e104 e195 e265 e278 (by omega) (by omega) (by omega) (by omega) (by omega) (by omega), by (try dsimp only); exact zclX F28 (by omega) i46 F59 (by omega) i77 (zc2S0 (zLk_tr F106 F115) (by have := zLk_v F106 F115; omega) (by omega) F141 (by omega)), by (try dsimp only); exact fun hw => absurd hw (by omega)⟩, ⟨by rw [ht]; exact hP, hD⟩⟩, hS.F ht⟩) hS.2.2 dX11_clause_279
          · have c149 : u141_1.toInt = (-1) := z5 rfl (by decide) c149
            refine lv_aload_n hx hb dX11_clause_152 rfl (lv_at hl 2 rfl) ?_
            obtain ⟨hPc, hDc, hFc⟩ := zc3 (wc := [(h0, .inr (11, [.int th, .ref tB, .int tsz, .int u141_0, .int u141_1, .int u141_2, .ref rC, .ref rV, .ref rD, .ref rK, .ref rT, .ref rS, .ref rU, .int lw, .int tx, .ref rL, .ref rX, .ref qR, .ref qB, .ref qP, .int qnb, .int qnp, .ref aR, .ref aB, .ref aP, .int nb, .int np, .ref aN, .ref rf, .int ho, .int br, .ref aK, .int ac, .long dw, .ref aE, .int sr, .int sf, .ref aA, .ref aH, .ref aI, .int hi])), (tB, .inl (cI, 240, .inl fB))]) hP hD hS hA [0, 1] (by decide +kernel) rfl
            refine va_calli (va_runV (As := []) (rest := []) ⟨hx, hb, hml, hown, hts⟩ (g_X11_look_t l dC dI cI cJ h0 th tB tsz u141_0 u141_1 u141_2 rC rV rD rK rT rS rU lw tx rL rX qR qB qP qnb qnp aR aB aP nb np aN rf ho br aK ac dw aE sr sf aA aH aI hi fB H.size y_ac y_hi y_ho y_lw y_nb y_np y_qnb y_qnp (by omega) n_tsz ⟨f141_2, f141_3⟩) (cwV 0 hts (zgV qw1273 qw1275 qw32 qw108 qw1276) rfl rfl rfl hd_X11_look ⟨by rw [hR]; exact Nat.le_of_ble_eq_true rfl, by rw [hR]; exact Nat.le_of_ble_eq_true rfl⟩) (zPV hPc hK hDc (va_recv (q := (RX11, TX11, 41)) hK hP (ci := 11) (q0 := 0) rfl rfl)) rfl rfl hl.1 rfl (lv_room (Nat.le_of_ble_eq_true rfl)) dX11_clause_153 ⟨Nat.zero_le _, Nat.zero_le _⟩) hS (fun q _ h => hFc q h) hFc (fun v153 u153 t H locs ht hvm hw hB hz1 hk1 hS9 => ?_)
            obtain ⟨u153_0, rfl⟩ : ∃ z, z = u153 := ⟨_, rfl⟩
            obtain ⟨hP9, hD9⟩ := zj2 (wX := [(h0, .inr (11, [.int th, .ref tB, .int tsz, .int u153_0, .int u141_1, .int u141_2, .ref rC, .ref rV, .ref rD, .ref rK, .ref rT, .ref rS, .ref rU, .int lw, .int tx, .ref rL, .ref rX, .ref qR, .ref qB, .ref qP, .int qnb, .int qnp, .ref aR, .ref aB, .ref aP, .int nb, .int np, .ref aN, .ref rf, .int ho, .int br, .ref aK, .int ac, .long dw, .ref aE, .int sr, .int sf, .ref aA, .ref aH, .ref aI, .int hi])), (tB, .inl (cI, 240, .inl fB)), (rC, .inl (cI, 2600, .inl u141_3)), (rV, .inl (cI, 2600, .inl u141_4)), (rD, .inl (cI, 5, .inl u141_5)), (rK, .inl (cI, 5, .inl fK)), (rT, .inl (cI, 700, .inl v104_f)), (rS, .inl (cI, 700, .inl fS)), (rU, .inl (cI, 700, .inl fU))]) hP hD hk1 hFc ht hB [0, 1] [(true, 0), (true, 1), (false, 2), (false, 3), (false, 4), (false, 5), (false, 6), (false, 7), (false, 8)] rfl (by decide +kernel) (by decide +kernel) rfl
            clear hP hD hS hPc hDc hFc hB hk1 hz1 hvm
            have hP := hP9
            have hD := hD9
            have hS := hS9
            clear hP9 hD9 hS9
            obtain ⟨f153_0, f153_1, f153_2, f153_3, f153_4, f153_5⟩ : (0 ≤ u153_0.toInt) ∧ (u153_0.toInt ≤ 240) ∧ (¬ v153.toInt = -1 → u153_0.toInt < tsz.toInt) ∧ (u141_0.toInt ≤ u153_0.toInt) ∧ (u153_0.toInt ≤ tsz.toInt ∨ u153_0.toInt = u141_0.toInt) ∧ (zLk fB tsz u141_0 v153 u153_0) := hw
            have F153 := f153_5
            have hPc : va_P (dC, dI) vwCl [] H := zP0
            have hDc : va_D (fun _ => True) [] := zD0
            have hFc := zfr hS hA
            refine va_calli (va_runS (As := [.int v153]) (rest := []) ⟨hx, hb, hml, hown, hts⟩ (g_X11_isSign l dC dI cI cJ v153 H.size) (cwS 1 hts (zgS qw1363 qw1364 qw108 qw1365) rfl rfl rfl hd_X11_isSign ⟨by rw [hR]; exact Nat.le_of_ble_eq_true rfl, by rw [hR]; exact Nat.le_of_ble_eq_true rfl⟩) (zPS hPc hK hDc) rfl rfl hl.1 rfl (lv_room (Nat.le_of_ble_eq_true rfl)) dX11_clause_156 ⟨Nat.zero_le _, Nat.zero_le _⟩) hS (fun q _ h => hFc q h) hFc (fun v156 u156 t H locs ht hvm hw hB hz1 hk1 hS9 => ?_)
            replace hP := zkeep hP hk1
            replace hS := hS9
            clear hPc hDc hFc hk1 hz1 hvm hS9
            obtain ⟨f156_0, f156_1, f156_2, f156_3⟩ : (0 ≤ v156.toInt) ∧ (v156.toInt ≤ 1) ∧ (¬ v156.toInt = 0 → (60 ≤ v153.toInt ∧ v153.toInt ≤ 62)) ∧ (zIs (oQ v153.toInt) v156) := hw
            have F156 := f156_3
            refine lv_if_eq (tgt := 166) hx hb dX11_clause_159 (by decide) (fun c159 => ?_) (fun c159 => ?_)
            · have c159 : v156.toInt = 0 := z5 rfl (by decide) c159
              refine lv_iconst (v := 0) hx hb dX11_clause_166 (by decide) ?_
              refine lv_istore_n (lv' := [(2, .int 0), (1, .int v17), (0, .ref h0)]) hx hb dX11_clause_167 rfl hl (by decide) rfl (fun ls hl => ?_)
              refine lv_iload_n hx hb dX11_clause_168 rfl (lv_at hl 0 rfl) ?_
              refine lv_if_eq (tgt := 184) hx hb dX11_clause_169 (by decide) (fun _ => ?_) (fun c => absurd (by decide) c)
              refine lv_aload_n hx hb dX11_clause_184 rfl (lv_at hl 2 rfl) ?_
              refine va_get (D := (dC, dI)) (ci := 11) (v := .ref rS) (C := RX11) (T := TX11) (N := 41) hx hb hts iX11 hown hK hP 0 rfl rfl 11 (by decide) (hts _ qw1138) (fun _ h9 => h9) rfl dX11_clause_185 ?_
              refine lv_iload_n hx hb dX11_clause_188 rfl (lv_at hl 1 rfl) ?_
              refine lv_aload_n hx hb dX11_clause_189 rfl (lv_at hl 2 rfl) ?_
              refine va_get (D := (dC, dI)) (ci := 11) (v := .ref rT) (C := RX11) (T := TX11) (N := 41) hx hb hts iX11 hown hK hP 0 rfl rfl 10 (by decide) (hts _ qw1137) (fun _ h9 => h9) rfl dX11_clause_190 ?_
              refine lv_iload_n hx hb dX11_clause_193 rfl (lv_at hl 1 rfl) ?_
              refine va_iald hx hb hK hP 6 0 rfl rfl (vp_in_iff.mpr ⟨by omega, by omega⟩) dX11_clause_194 ?_
              refine lv_topi (fun v194 e194 => ?_)
              have i194 : v194.toInt = v103.toInt := by rw [e194, e104, pk_us]
              refine va_iast hx hb hK hP hD hS 7 0 rfl rfl (vp_in_iff.mpr ⟨by omega, by omega⟩) dX11_clause_195 (fun H locs hP9 hD9 hS9 => ?_)
              clear hP hD hS
              obtain ⟨v195_f, e195⟩ : ∃ g : Nat → Int32, g = upd fS (v17).toNatClampNeg v194 := ⟨_, rfl⟩
              rw [← e195] at hP9 hD9
              obtain ⟨hP, hD⟩ := zst (wX := [(h0, .inr (11, [.int th, .ref tB, .int tsz, .int u153_0, .int u141_1, .int u141_2, .ref rC, .ref rV, .ref rD, .ref rK, .ref rT, .ref rS, .ref rU, .int lw, .int tx, .ref rL, .ref rX, .ref qR, .ref qB, .ref qP, .int qnb, .int qnp, .ref aR, .ref aB, .ref aP, .int nb, .int np, .ref aN, .ref rf, .int ho, .int br, .ref aK, .int ac, .long dw, .ref aE, .int sr, .int sf, .ref aA, .ref aH, .ref aI, .int hi])), (tB, .inl (cI, 240, .inl fB)), (rC, .inl (cI, 2600, .inl u141_3)), (rV, .inl (cI, 2600, .inl u141_4)), (rD, .inl (cI, 5, .inl u141_5)), (rK, .inl (cI, 5, .inl fK)), (rT, .inl (cI, 700, .inl v104_f)), (rS, .inl (cI, 700, .inl v195_f)), (rU, .inl (cI, 700, .inl fU))]) hP9 hD9 rfl
              have hS := hS9
              clear hP9 hD9 hS9
              refine lv_iload_n hx hb dX11_clause_196 rfl (lv_at hl 0 rfl) ?_
              refine lv_if_eq (tgt := 251) hx hb dX11_clause_197 (by decide) (fun _ => ?_) (fun c => absurd (by decide) c)
              refine lv_aload_n hx hb dX11_clause_251 rfl (lv_at hl 2 rfl) ?_
              refine va_get (D := (dC, dI)) (ci := 11) (v := .ref rU) (C := RX11) (T := TX11) (N := 41) hx hb hts iX11 hown hK hP 0 rfl rfl 12 (by decide) (hts _ qw1139) (fun _ h9 => h9) rfl dX11_clause_252 ?_
              refine lv_iload_n hx hb dX11_clause_255 rfl (lv_at hl 1 rfl) ?_
              refine lv_aload_n hx hb dX11_clause_256 rfl (lv_at hl 2 rfl) ?_
              refine va_get (D := (dC, dI)) (ci := 11) (v := .ref rD) (C := RX11) (T := TX11) (N := 41) hx hb hts iX11 hown hK hP 0 rfl rfl 8 (by decide) (hts _ qw1135) (fun _ h9 => h9) rfl dX11_clause_257 ?_
              refine lv_aload_n hx hb dX11_clause_260 rfl (lv_at hl 2 rfl) ?_
              refine va_get (D := (dC, dI)) (ci := 11) (v := .int tx) (C := RX11) (T := TX11) (N := 41) hx hb hts iX11 hown hK hP 0 rfl rfl 14 (by decide) (hts _ qw1141) (fun _ h9 => h9) rfl dX11_clause_261 ?_
              refine va_iald hx hb hK hP 4 0 rfl rfl (vp_in_iff.mpr ⟨by omega, by omega⟩) dX11_clause_264 ?_
              refine lv_topi (fun v264 e264 => ?_)
              have i264 : v264.toInt = (u141_5 tx.toInt.toNat).toInt ∧ 0 ≤ v264.toInt ∧ v264.toInt ≤ 518 := by have hq := ((show zPar u141_1 u153_0 u141_3 u141_4 u141_5 tx fC fV (520 * tx.toInt.toNat + (fD tx.toInt.toNat).toInt.toNat) (0) (fD tx.toInt.toNat).toInt.toNat (1) from by first | exact zPar_mono f141_11 (by omega) (by omega) (by omega) (by omega))).2.2.1; have := zIx (n := tx.toInt.toNat) e264 (by omega); omega
              refine va_iast hx hb hK hP hD hS 8 0 rfl rfl (vp_in_iff.mpr ⟨by omega, by omega⟩) dX11_clause_265 (fun H locs hP9 hD9 hS9 => ?_)
              clear hP hD hS
              obtain ⟨v265_f, e265⟩ : ∃ g : Nat → Int32, g = upd fU (v17).toNatClampNeg v264 := ⟨_, rfl⟩
              rw [← e265] at hP9 hD9
              obtain ⟨hP, hD⟩ := zst (wX := [(h0, .inr (11, [.int th, .ref tB, .int tsz, .int u153_0, .int u141_1, .int u141_2, .ref rC, .ref rV, .ref rD, .ref rK, .ref rT, .ref rS, .ref rU, .int lw, .int tx, .ref rL, .ref rX, .ref qR, .ref qB, .ref qP, .int qnb, .int qnp, .ref aR, .ref aB, .ref aP, .int nb, .int np, .ref aN, .ref rf, .int ho, .int br, .ref aK, .int ac, .long dw, .ref aE, .int sr, .int sf, .ref aA, .ref aH, .ref aI, .int hi])), (tB, .inl (cI, 240, .inl fB)), (rC, .inl (cI, 2600, .inl u141_3)), (rV, .inl (cI, 2600, .inl u141_4)), (rD, .inl (cI, 5, .inl u141_5)), (rK, .inl (cI, 5, .inl fK)), (rT, .inl (cI, 700, .inl v104_f)), (rS, .inl (cI, 700, .inl v195_f)), (rU, .inl (cI, 700, .inl v265_f))]) hP9 hD9 rfl
              have hS := hS9
              clear hP9 hD9 hS9
              refine lv_aload_n hx hb dX11_clause_266 rfl (lv_at hl 2 rfl) ?_
              refine va_get (D := (dC, dI)) (ci := 11) (v := .ref rK) (C := RX11) (T := TX11) (N := 41) hx hb hts iX11 hown hK hP 0 rfl rfl 9 (by decide) (hts _ qw1136) (fun _ h9 => h9) rfl dX11_clause_267 ?_
              refine lv_aload_n hx hb dX11_clause_270 rfl (lv_at hl 2 rfl) ?_
              refine va_get (D := (dC, dI)) (ci := 11) (v := .int tx) (C := RX11) (T := TX11) (N := 41) hx hb hts iX11 hown hK hP 0 rfl rfl 14 (by decide) (hts _ qw1141) (fun _ h9 => h9) rfl dX11_clause_271 ?_
              refine lv_dup2_11 hx hb dX11_clause_274 rfl rfl ?_
              refine va_iald hx hb hK hP 5 0 rfl rfl (vp_in_iff.mpr ⟨by omega, by omega⟩) dX11_clause_275 ?_
              refine lv_topi (fun v275 e275 => ?_)
              have i275 : v275.toInt = (fK tx.toInt.toNat).toInt ∧ 0 ≤ v275.toInt ∧ v275.toInt ≤ 123 := by have := hrd.2.2.1; have := zIx (n := tx.toInt.toNat) e275 (by omega); omega
              refine lv_iconst (v := 1) hx hb dX11_clause_276 (by decide) ?_
              refine lv_iadd hx hb dX11_clause_277 ?_
              refine lv_topi (fun v277 e277 => ?_)
              have i277 : v277.toInt = v275.toInt + 1 := zadd e277 rfl (by decide) (by omega) (by omega)
              refine va_iast hx hb hK hP hD hS 5 0 rfl rfl (vp_in_iff.mpr ⟨by omega, by omega⟩) dX11_clause_278 (fun H locs hP9 hD9 hS9 => ?_)
              clear hP hD hS
              obtain ⟨v278_f, e278⟩ : ∃ g : Nat → Int32, g = upd fK (tx).toNatClampNeg v277 := ⟨_, rfl⟩
              rw [← e278] at hP9 hD9
              obtain ⟨hP, hD⟩ := zst (wX := [(h0, .inr (11, [.int th, .ref tB, .int tsz, .int u153_0, .int u141_1, .int u141_2, .ref rC, .ref rV, .ref rD, .ref rK, .ref rT, .ref rS, .ref rU, .int lw, .int tx, .ref rL, .ref rX, .ref qR, .ref qB, .ref qP, .int qnb, .int qnp, .ref aR, .ref aB, .ref aP, .int nb, .int np, .ref aN, .ref rf, .int ho, .int br, .ref aK, .int ac, .long dw, .ref aE, .int sr, .int sf, .ref aA, .ref aH, .ref aI, .int hi])), (tB, .inl (cI, 240, .inl fB)), (rC, .inl (cI, 2600, .inl u141_3)), (rV, .inl (cI, 2600, .inl u141_4)), (rD, .inl (cI, 5, .inl u141_5)), (rK, .inl (cI, 5, .inl v278_f)), (rT, .inl (cI, 700, .inl v104_f)), (rS, .inl (cI, 700, .inl v195_f)), (rU, .inl (cI, 700, .inl v265_f))]) hP9 hD9 rfl
              have hS := hS9
              clear hP9 hD9 hS9
              rw [hQ]
              exact W.vret hx hb hr (fun t ht hW => ⟨⟨(u153_0, u141_1, u141_2, u141_3, u141_4, u141_5, v278_f, v104_f, v195_f, v265_f), rfl, ⟨by (try dsimp only); omega, by (try dsimp only); omega, by (try dsimp only); omega, by (try dsimp only); omega, by (try dsimp only); omega, by (try dsimp only); omega, by (try dsimp only); omega, by (try dsimp only); omega, by (try dsimp only); omega, by (try dsimp only); first | exact zRd_A hrd (show zPar u141_1 u153_0 u141_3 u141_4 u141_5 tx fC fV (520 * tx.toInt.toNat + (fD tx.toInt.toNat).toInt.toNat) (0) (fD tx.toInt.toNat).toInt.toNat (1) from by first | exact zPar_mono f141_11 (by omega) (by omega) (by omega) (by omega)) (by omega) (by omega) (by omega) e104 e195 e265 e278 (by omega) (by omega) (by omega) (by omega) (by omega) (by omega), by (try dsimp only); exact zclX F28 (by omega) i46 F59 (by omega) i77 (zc2S1 (zLk_tr F106 F115) (by have := zLk_v F106 F115; omega) (by omega) F141 (by omega) F153 F156 (by omega)), by (try dsimp only); exact fun hw => zQc_mk (eAf_R F28 i46 F59 i77) (erS (zLk_tr F106 F115) (by have := zLk_v F106 F115; omega) (by omega) F141 (by omega) F153 (fun z => absurd (oQ_iff.mpr z) (zIs_f F156 (by omega))) (F141_1 (by omega))) (by omega) (by omega) e104 (by omega) (zup1 e195).1 (by rw [(zup1 e195).2]; omega) e265 (by omega) e278 (by omega)⟩, ⟨by rw [ht]; exact hP, hD⟩⟩, hS.F ht⟩) hS.2.2 dX11_clause_279
            · have c159 : ¬ v156.toInt = 0 := z6 rfl (by decide) c159
              refine lv_iconst (v := 1) hx hb dX11_clause_162 (by decide) ?_
              refine lv_goto (tgt := 167) hx hb dX11_clause_163 (by decide) ?_
              refine lv_istore_n (lv' := [(2, .int 1), (1, .int v17), (0, .ref h0)]) hx hb dX11_clause_167 rfl hl (by decide) rfl (fun ls hl => ?_)
              refine lv_iload_n hx hb dX11_clause_168 rfl (lv_at hl 0 rfl) ?_
              refine lv_if_eq (tgt := 184) hx hb dX11_clause_169 (by decide) (fun c => absurd c (by decide)) (fun _ => ?_)
              refine lv_aload_n hx hb dX11_clause_172 rfl (lv_at hl 2 rfl) ?_
              have zx_u141_1 : ((-1) : Int32).toInt = (-1) := by decide
              have zy_u141_1 : u141_1 = (-1) := z7 (a := (-1)) (by decide) (by omega)
              rw [zy_u141_1] at hP hD
              obtain ⟨hPc, hDc, hFc⟩ := zc3 (wc := [(h0, .inr (11, [.int th, .ref tB, .int tsz, .int u153_0, .int (-1), .int u141_2, .ref rC, .ref rV, .ref rD, .ref rK, .ref rT, .ref rS, .ref rU, .int lw, .int tx, .ref rL, .ref rX, .ref qR, .ref qB, .ref qP, .int qnb, .int qnp, .ref aR, .ref aB, .ref aP, .int nb, .int np, .ref aN, .ref rf, .int ho, .int br, .ref aK, .int ac, .long dw, .ref aE, .int sr, .int sf, .ref aA, .ref aH, .ref aI, .int hi])), (tB, .inl (cI, 240, .inl fB)), (rC, .inl (cI, 2600, .inl u141_3)), (rV, .inl (cI, 2600, .inl u141_4)), (rD, .inl (cI, 5, .inl u141_5))]) hP hD hS hA [0, 1, 2, 3, 4] (by decide +kernel) rfl
              refine va_callv (va_runV (As := []) (rest := []) ⟨hx, hb, hml, hown, hts⟩ (zE_P6 l dC dI cI cJ h0 th tB tsz u153_0 u141_2 rC rV rD rK rT rS rU lw tx rL rX qR qB qP qnb qnp aR aB aP nb np aN rf ho br aK ac dw aE sr sf aA aH aI hi fB u141_3 u141_4 u141_5 fC fV ((520 * tx.toInt.toNat + (fD tx.toInt.toNat).toInt.toNat)) 2 ((fD tx.toInt.toNat).toInt.toNat) 0 H.size y_ac (by omega) y_hi y_ho y_lw y_nb y_np y_qnb y_qnp ⟨f153_0, f153_1⟩ n_tsz n_tx (by first | exact zPar_mono f141_11 (by omega) (by omega) (by omega) (by omega)) (by first | decide | omega) (by first | decide | omega) (by first | decide | omega) (by first | decide | omega)) (cwV 0 hts (zgV qw1359 qw1361 qw49 qw108 qw1362) rfl rfl rfl hd_X11_compare ⟨by rw [hR]; exact Nat.le_of_ble_eq_true rfl, by rw [hR]; exact Nat.le_of_ble_eq_true rfl⟩) (zPV hPc hK hDc (va_recv (q := (RX11, TX11, 41)) hK hP (ci := 11) (q0 := 0) rfl rfl)) rfl rfl hl.1 rfl (lv_room (Nat.le_of_ble_eq_true rfl)) dX11_clause_173 ⟨Nat.zero_le _, Nat.zero_le _⟩) hS (fun q _ h => hFc q h) hFc (fun u173 t H locs ht hvm hw hB hz1 hk1 hS9 => ?_)
              obtain ⟨u173_0, u173_1, u173_2, u173_3, u173_4, u173_5⟩ := u173
              obtain ⟨hP9, hD9⟩ := zj2 (wX := [(h0, .inr (11, [.int th, .ref tB, .int tsz, .int u173_0, .int u173_1, .int u173_2, .ref rC, .ref rV, .ref rD, .ref rK, .ref rT, .ref rS, .ref rU, .int lw, .int tx, .ref rL, .ref rX, .ref qR, .ref qB, .ref qP, .int qnb, .int qnp, .ref aR, .ref aB, .ref aP, .int nb, .int np, .ref aN, .ref rf, .int ho, .int br, .ref aK, .int ac, .long dw, .ref aE, .int sr, .int sf, .ref aA, .ref aH, .ref aI, .int hi])), (tB, .inl (cI, 240, .inl fB)), (rC, .inl (cI, 2600, .inl u173_3)), (rV, .inl (cI, 2600, .inl u173_4)), (rD, .inl (cI, 5, .inl u173_5)), (rK, .inl (cI, 5, .inl fK)), (rT, .inl (cI, 700, .inl v104_f)), (rS, .inl (cI, 700, .inl fS)), (rU, .inl (cI, 700, .inl fU))]) hP hD hk1 hFc ht hB [0, 1, 2, 3, 4] [(true, 0), (true, 1), (true, 2), (true, 3), (true, 4), (false, 5), (false, 6), (false, 7), (false, 8)] rfl (by decide +kernel) (by decide +kernel) rfl
              clear hP hD hS hPc hDc hFc hB hk1 hz1 hvm
              have hP := hP9
              have hD := hD9
              have hS := hS9
              clear hP9 hD9 hS9
              obtain ⟨f173_0, f173_1, f173_2, f173_3, f173_4, f173_5, f173_6, f173_7, f173_8, f173_9, f173_10, f173_11⟩ : (0 ≤ u173_0.toInt) ∧ (u173_0.toInt ≤ 246) ∧ ((-1) ≤ u173_1.toInt) ∧ (u173_1.toInt ≤ 260) ∧ (0 ≤ u173_2.toInt) ∧ (u173_2.toInt ≤ 7) ∧ (u173_1.toInt = -1 → (u173_0.toInt ≤ tsz.toInt ∧ u173_2.toInt = 6 - ((6 : Nat) : Int))) ∧ (u153_0.toInt ≤ u173_0.toInt) ∧ (u173_0.toInt ≤ 240 + ((6 : Nat) : Int) ∧ 6 - ((6 : Nat) : Int) ≤ u173_2.toInt ∧ u173_2.toInt ≤ 7 - ((6 : Nat) : Int)) ∧ (zW (sCmp (sB fB tsz.toInt) tsz.toInt (sSum (sB fB tsz.toInt) tsz.toInt 6) u153_0.toInt) u173_1 u173_0) ∧ (u173_1.toInt = -1 → zEr u141_3 u141_4 (520 * tx.toInt.toNat) (u141_5 tx.toInt.toNat).toInt (eCmp (sB fB tsz.toInt) tsz.toInt (eSum (sB fB tsz.toInt) tsz.toInt 6) u153_0.toInt) u173_3 u173_4 (u173_5 tx.toInt.toNat).toInt) ∧ (zPar u173_1 u173_0 u173_3 u173_4 u173_5 tx fC fV ((520 * tx.toInt.toNat + (fD tx.toInt.toNat).toInt.toNat)) (2) ((fD tx.toInt.toNat).toInt.toNat) (0 + 1)) := hw
              have F173 := f173_9
              have F173_1 : zHid (u173_1.toInt = -1 → zEr u141_3 u141_4 (520 * tx.toInt.toNat) (u141_5 tx.toInt.toNat).toInt (eCmp (sB fB tsz.toInt) tsz.toInt (eSum (sB fB tsz.toInt) tsz.toInt 6) u153_0.toInt) u173_3 u173_4 (u173_5 tx.toInt.toNat).toInt) := f173_10
              clear f173_10
              refine lv_aload_n hx hb dX11_clause_176 rfl (lv_at hl 2 rfl) ?_
              obtain ⟨hPc, hDc, hFc⟩ := zc3 (wc := [(h0, .inr (11, [.int th, .ref tB, .int tsz, .int u173_0, .int u173_1, .int u173_2, .ref rC, .ref rV, .ref rD, .ref rK, .ref rT, .ref rS, .ref rU, .int lw, .int tx, .ref rL, .ref rX, .ref qR, .ref qB, .ref qP, .int qnb, .int qnp, .ref aR, .ref aB, .ref aP, .int nb, .int np, .ref aN, .ref rf, .int ho, .int br, .ref aK, .int ac, .long dw, .ref aE, .int sr, .int sf, .ref aA, .ref aH, .ref aI, .int hi])), (tB, .inl (cI, 240, .inl fB)), (rC, .inl (cI, 2600, .inl u173_3)), (rV, .inl (cI, 2600, .inl u173_4)), (rD, .inl (cI, 5, .inl u173_5))]) hP hD hS hA [0, 1, 2, 3, 4] (by decide +kernel) rfl
              refine va_callv (va_runV (As := []) (rest := []) ⟨hx, hb, hml, hown, hts⟩ (zE_G6 l dC dI cI cJ h0 th tB tsz u173_0 u173_1 u173_2 rC rV rD rK rT rS rU lw tx rL rX qR qB qP qnb qnp aR aB aP nb np aN rf ho br aK ac dw aE sr sf aA aH aI hi fB u173_3 u173_4 u173_5 fC fV ((520 * tx.toInt.toNat + (fD tx.toInt.toNat).toInt.toNat)) 2 ((fD tx.toInt.toNat).toInt.toNat) 0 H.size y_ac (by omega) y_hi y_ho y_lw y_nb y_np y_qnb y_qnp ⟨f173_0, f173_1⟩ n_tsz n_tx ⟨f173_2, f173_3⟩ (by first | exact zPar_mono f173_11 (by omega) (by omega) (by omega) (by omega)) (by first | decide | omega) (by first | decide | omega) (by first | decide | omega) (by first | decide | omega)) (cwV 0 hts (zgV qw1366 qw1368 qw50 qw108 qw1369) rfl rfl rfl hd_X11_goOnAnd ⟨by rw [hR]; exact Nat.le_of_ble_eq_true rfl, by rw [hR]; exact Nat.le_of_ble_eq_true rfl⟩) (zPV hPc hK hDc (va_recv (q := (RX11, TX11, 41)) hK hP (ci := 11) (q0 := 0) rfl rfl)) rfl rfl hl.1 rfl (lv_room (Nat.le_of_ble_eq_true rfl)) dX11_clause_177 ⟨Nat.zero_le _, Nat.zero_le _⟩) hS (fun q _ h => hFc q h) hFc (fun u177 t H locs ht hvm hw hB hz1 hk1 hS9 => ?_)
              obtain ⟨u177_0, u177_1, u177_2, u177_3, u177_4, u177_5⟩ := u177
              obtain ⟨hP9, hD9⟩ := zj2 (wX := [(h0, .inr (11, [.int th, .ref tB, .int tsz, .int u177_0, .int u177_1, .int u177_2, .ref rC, .ref rV, .ref rD, .ref rK, .ref rT, .ref rS, .ref rU, .int lw, .int tx, .ref rL, .ref rX, .ref qR, .ref qB, .ref qP, .int qnb, .int qnp, .ref aR, .ref aB, .ref aP, .int nb, .int np, .ref aN, .ref rf, .int ho, .int br, .ref aK, .int ac, .long dw, .ref aE, .int sr, .int sf, .ref aA, .ref aH, .ref aI, .int hi])), (tB, .inl (cI, 240, .inl fB)), (rC, .inl (cI, 2600, .inl u177_3)), (rV, .inl (cI, 2600, .inl u177_4)), (rD, .inl (cI, 5, .inl u177_5)), (rK, .inl (cI, 5, .inl fK)), (rT, .inl (cI, 700, .inl v104_f)), (rS, .inl (cI, 700, .inl fS)), (rU, .inl (cI, 700, .inl fU))]) hP hD hk1 hFc ht hB [0, 1, 2, 3, 4] [(true, 0), (true, 1), (true, 2), (true, 3), (true, 4), (false, 5), (false, 6), (false, 7), (false, 8)] rfl (by decide +kernel) (by decide +kernel) rfl
              clear hP hD hS hPc hDc hFc hB hk1 hz1 hvm
              have hP := hP9
              have hD := hD9
              have hS := hS9
              clear hP9 hD9 hS9
              obtain ⟨f177_0, f177_1, f177_2, f177_3, f177_4, f177_5, f177_6, f177_7, f177_8, f177_9, f177_10, f177_11⟩ : (0 ≤ u177_0.toInt) ∧ (u177_0.toInt ≤ 246) ∧ ((-1) ≤ u177_1.toInt) ∧ (u177_1.toInt ≤ 260) ∧ (0 ≤ u177_2.toInt) ∧ (u177_2.toInt ≤ 7) ∧ (u177_1.toInt = -1 → (u177_0.toInt ≤ tsz.toInt ∧ u177_2.toInt = 6 - ((6 : Nat) : Int))) ∧ (u173_0.toInt ≤ u177_0.toInt) ∧ (u177_0.toInt ≤ 240 + ((6 : Nat) : Int) ∧ 6 - ((6 : Nat) : Int) ≤ u177_2.toInt ∧ u177_2.toInt ≤ 7 - ((6 : Nat) : Int)) ∧ (∀ x : Int × Int, zW x u173_1 u173_0 → zW (sGl (sB fB tsz.toInt) tsz.toInt oD (sUn (sB fB tsz.toInt) tsz.toInt 6) x) u177_1 u177_0) ∧ (u177_1.toInt = -1 → zEr u173_3 u173_4 (520 * tx.toInt.toNat) (u173_5 tx.toInt.toNat).toInt (eL (sB fB tsz.toInt) tsz.toInt oD (sUn (sB fB tsz.toInt) tsz.toInt 6) (eUn (sB fB tsz.toInt) tsz.toInt 6) (sk (sB fB tsz.toInt) tsz.toInt u173_0.toInt)) u177_3 u177_4 (u177_5 tx.toInt.toNat).toInt) ∧ (zPar u177_1 u177_0 u177_3 u177_4 u177_5 tx fC fV ((520 * tx.toInt.toNat + (fD tx.toInt.toNat).toInt.toNat)) (2) ((fD tx.toInt.toNat).toInt.toNat) (0 + 1)) := hw
              have F177 := f177_9
              have F177_1 : zHid (u177_1.toInt = -1 → zEr u173_3 u173_4 (520 * tx.toInt.toNat) (u173_5 tx.toInt.toNat).toInt (eL (sB fB tsz.toInt) tsz.toInt oD (sUn (sB fB tsz.toInt) tsz.toInt 6) (eUn (sB fB tsz.toInt) tsz.toInt 6) (sk (sB fB tsz.toInt) tsz.toInt u173_0.toInt)) u177_3 u177_4 (u177_5 tx.toInt.toNat).toInt) := f177_10
              clear f177_10
              refine lv_aload_n hx hb dX11_clause_180 rfl (lv_at hl 2 rfl) ?_
              obtain ⟨hPc, hDc, hFc⟩ := zc3 (wc := [(h0, .inr (11, [.int th, .ref tB, .int tsz, .int u177_0, .int u177_1, .int u177_2, .ref rC, .ref rV, .ref rD, .ref rK, .ref rT, .ref rS, .ref rU, .int lw, .int tx, .ref rL, .ref rX, .ref qR, .ref qB, .ref qP, .int qnb, .int qnp, .ref aR, .ref aB, .ref aP, .int nb, .int np, .ref aN, .ref rf, .int ho, .int br, .ref aK, .int ac, .long dw, .ref aE, .int sr, .int sf, .ref aA, .ref aH, .ref aI, .int hi])), (tB, .inl (cI, 240, .inl fB)), (rC, .inl (cI, 2600, .inl u177_3)), (rV, .inl (cI, 2600, .inl u177_4)), (rD, .inl (cI, 5, .inl u177_5))]) hP hD hS hA [0, 1, 2, 3, 4] (by decide +kernel) rfl
              refine va_callv (va_runV (As := []) (rest := []) ⟨hx, hb, hml, hown, hts⟩ (zE_O6 l dC dI cI cJ h0 th tB tsz u177_0 u177_1 u177_2 rC rV rD rK rT rS rU lw tx rL rX qR qB qP qnb qnp aR aB aP nb np aN rf ho br aK ac dw aE sr sf aA aH aI hi fB u177_3 u177_4 u177_5 fC fV ((520 * tx.toInt.toNat + (fD tx.toInt.toNat).toInt.toNat)) 2 ((fD tx.toInt.toNat).toInt.toNat) 0 H.size y_ac (by omega) y_hi y_ho y_lw y_nb y_np y_qnb y_qnp ⟨f177_0, f177_1⟩ n_tsz n_tx ⟨f177_2, f177_3⟩ (by first | exact zPar_mono f177_11 (by omega) (by omega) (by omega) (by omega)) (by first | decide | omega) (by first | decide | omega) (by first | decide | omega) (by first | decide | omega)) (cwV 0 hts (zgV qw1370 qw1372 qw51 qw108 qw1373) rfl rfl rfl hd_X11_goOnOr ⟨by rw [hR]; exact Nat.le_of_ble_eq_true rfl, by rw [hR]; exact Nat.le_of_ble_eq_true rfl⟩) (zPV hPc hK hDc (va_recv (q := (RX11, TX11, 41)) hK hP (ci := 11) (q0 := 0) rfl rfl)) rfl rfl hl.1 rfl (lv_room (Nat.le_of_ble_eq_true rfl)) dX11_clause_181 ⟨Nat.zero_le _, Nat.zero_le _⟩) hS (fun q _ h => hFc q h) hFc (fun u181 t H locs ht hvm hw hB hz1 hk1 hS9 => ?_)
              obtain ⟨u181_0, u181_1, u181_2, u181_3, u181_4, u181_5⟩ := u181
              obtain ⟨hP9, hD9⟩ := zj2 (wX := [(h0, .inr (11, [.int th, .ref tB, .int tsz, .int u181_0, .int u181_1, .int u181_2, .ref rC, .ref rV, .ref rD, .ref rK, .ref rT, .ref rS, .ref rU, .int lw, .int tx, .ref rL, .ref rX, .ref qR, .ref qB, .ref qP, .int qnb, .int qnp, .ref aR, .ref aB, .ref aP, .int nb, .int np, .ref aN, .ref rf, .int ho, .int br, .ref aK, .int ac, .long dw, .ref aE, .int sr, .int sf, .ref aA, .ref aH, .ref aI, .int hi])), (tB, .inl (cI, 240, .inl fB)), (rC, .inl (cI, 2600, .inl u181_3)), (rV, .inl (cI, 2600, .inl u181_4)), (rD, .inl (cI, 5, .inl u181_5)), (rK, .inl (cI, 5, .inl fK)), (rT, .inl (cI, 700, .inl v104_f)), (rS, .inl (cI, 700, .inl fS)), (rU, .inl (cI, 700, .inl fU))]) hP hD hk1 hFc ht hB [0, 1, 2, 3, 4] [(true, 0), (true, 1), (true, 2), (true, 3), (true, 4), (false, 5), (false, 6), (false, 7), (false, 8)] rfl (by decide +kernel) (by decide +kernel) rfl
              clear hP hD hS hPc hDc hFc hB hk1 hz1 hvm
              have hP := hP9
              have hD := hD9
              have hS := hS9
              clear hP9 hD9 hS9
              obtain ⟨f181_0, f181_1, f181_2, f181_3, f181_4, f181_5, f181_6, f181_7, f181_8, f181_9, f181_10, f181_11⟩ : (0 ≤ u181_0.toInt) ∧ (u181_0.toInt ≤ 246) ∧ ((-1) ≤ u181_1.toInt) ∧ (u181_1.toInt ≤ 260) ∧ (0 ≤ u181_2.toInt) ∧ (u181_2.toInt ≤ 7) ∧ (u181_1.toInt = -1 → (u181_0.toInt ≤ tsz.toInt ∧ u181_2.toInt = 6 - ((6 : Nat) : Int))) ∧ (u177_0.toInt ≤ u181_0.toInt) ∧ (u181_0.toInt ≤ 240 + ((6 : Nat) : Int) ∧ 6 - ((6 : Nat) : Int) ≤ u181_2.toInt ∧ u181_2.toInt ≤ 7 - ((6 : Nat) : Int)) ∧ (∀ x : Int × Int, zW x u177_1 u177_0 → zW (sGl (sB fB tsz.toInt) tsz.toInt oO (sTm (sB fB tsz.toInt) tsz.toInt oD (sUn (sB fB tsz.toInt) tsz.toInt 6)) x) u181_1 u181_0) ∧ (u181_1.toInt = -1 → zEr u177_3 u177_4 (520 * tx.toInt.toNat) (u177_5 tx.toInt.toNat).toInt (eL (sB fB tsz.toInt) tsz.toInt oO (sTm (sB fB tsz.toInt) tsz.toInt oD (sUn (sB fB tsz.toInt) tsz.toInt 6)) (eTm (sB fB tsz.toInt) tsz.toInt oD (sUn (sB fB tsz.toInt) tsz.toInt 6) (eUn (sB fB tsz.toInt) tsz.toInt 6)) (sk (sB fB tsz.toInt) tsz.toInt u177_0.toInt)) u181_3 u181_4 (u181_5 tx.toInt.toNat).toInt) ∧ (zPar u181_1 u181_0 u181_3 u181_4 u181_5 tx fC fV ((520 * tx.toInt.toNat + (fD tx.toInt.toNat).toInt.toNat)) (2) ((fD tx.toInt.toNat).toInt.toNat) (0 + 1)) := hw
              have F181 := f181_9
              have F181_1 : zHid (u181_1.toInt = -1 → zEr u177_3 u177_4 (520 * tx.toInt.toNat) (u177_5 tx.toInt.toNat).toInt (eL (sB fB tsz.toInt) tsz.toInt oO (sTm (sB fB tsz.toInt) tsz.toInt oD (sUn (sB fB tsz.toInt) tsz.toInt 6)) (eTm (sB fB tsz.toInt) tsz.toInt oD (sUn (sB fB tsz.toInt) tsz.toInt 6) (eUn (sB fB tsz.toInt) tsz.toInt 6)) (sk (sB fB tsz.toInt) tsz.toInt u177_0.toInt)) u181_3 u181_4 (u181_5 tx.toInt.toNat).toInt) := f181_10
              clear f181_10
              refine lv_aload_n hx hb dX11_clause_184 rfl (lv_at hl 2 rfl) ?_
              refine va_get (D := (dC, dI)) (ci := 11) (v := .ref rS) (C := RX11) (T := TX11) (N := 41) hx hb hts iX11 hown hK hP 0 rfl rfl 11 (by decide) (hts _ qw1138) (fun _ h9 => h9) rfl dX11_clause_185 ?_
              refine lv_iload_n hx hb dX11_clause_188 rfl (lv_at hl 1 rfl) ?_
              refine lv_aload_n hx hb dX11_clause_189 rfl (lv_at hl 2 rfl) ?_
              refine va_get (D := (dC, dI)) (ci := 11) (v := .ref rT) (C := RX11) (T := TX11) (N := 41) hx hb hts iX11 hown hK hP 0 rfl rfl 10 (by decide) (hts _ qw1137) (fun _ h9 => h9) rfl dX11_clause_190 ?_
              refine lv_iload_n hx hb dX11_clause_193 rfl (lv_at hl 1 rfl) ?_
              refine va_iald hx hb hK hP 6 0 rfl rfl (vp_in_iff.mpr ⟨by omega, by omega⟩) dX11_clause_194 ?_
              refine lv_topi (fun v194 e194 => ?_)
              have i194 : v194.toInt = v103.toInt := by rw [e194, e104, pk_us]
              refine va_iast hx hb hK hP hD hS 7 0 rfl rfl (vp_in_iff.mpr ⟨by omega, by omega⟩) dX11_clause_195 (fun H locs hP9 hD9 hS9 => ?_)
              clear hP hD hS
              obtain ⟨v195_f, e195⟩ : ∃ g : Nat → Int32, g = upd fS (v17).toNatClampNeg v194 := ⟨_, rfl⟩
              rw [← e195] at hP9 hD9
              obtain ⟨hP, hD⟩ := zst (wX := [(h0, .inr (11, [.int th, .ref tB, .int tsz, .int u181_0, .int u181_1, .int u181_2, .ref rC, .ref rV, .ref rD, .ref rK, .ref rT, .ref rS, .ref rU, .int lw, .int tx, .ref rL, .ref rX, .ref qR, .ref qB, .ref qP, .int qnb, .int qnp, .ref aR, .ref aB, .ref aP, .int nb, .int np, .ref aN, .ref rf, .int ho, .int br, .ref aK, .int ac, .long dw, .ref aE, .int sr, .int sf, .ref aA, .ref aH, .ref aI, .int hi])), (tB, .inl (cI, 240, .inl fB)), (rC, .inl (cI, 2600, .inl u181_3)), (rV, .inl (cI, 2600, .inl u181_4)), (rD, .inl (cI, 5, .inl u181_5)), (rK, .inl (cI, 5, .inl fK)), (rT, .inl (cI, 700, .inl v104_f)), (rS, .inl (cI, 700, .inl v195_f)), (rU, .inl (cI, 700, .inl fU))]) hP9 hD9 rfl
              have hS := hS9
              clear hP9 hD9 hS9
              refine lv_iload_n hx hb dX11_clause_196 rfl (lv_at hl 0 rfl) ?_
              refine lv_if_eq (tgt := 251) hx hb dX11_clause_197 (by decide) (fun c => absurd c (by decide)) (fun _ => ?_)
              refine lv_aload_n hx hb dX11_clause_200 rfl (lv_at hl 2 rfl) ?_
              refine va_get (D := (dC, dI)) (ci := 11) (v := .int u181_1) (C := RX11) (T := TX11) (N := 41) hx hb hts iX11 hown hK hP 0 rfl rfl 4 (by decide) (hts _ qw1131) (fun _ h9 => h9) rfl dX11_clause_201 ?_
              refine lv_iconst (v := (-1)) hx hb dX11_clause_204 (by decide) ?_
              refine lv_icmp_ne (tgt := 251) hx hb dX11_clause_205 (by decide) (fun c205 => ?_) (fun c205 => ?_)
              · have c205 : ¬ u181_1.toInt = (-1) := z6 rfl (by decide) c205
                refine lv_aload_n hx hb dX11_clause_251 rfl (lv_at hl 2 rfl) ?_
                refine va_get (D := (dC, dI)) (ci := 11) (v := .ref rU) (C := RX11) (T := TX11) (N := 41) hx hb hts iX11 hown hK hP 0 rfl rfl 12 (by decide) (hts _ qw1139) (fun _ h9 => h9) rfl dX11_clause_252 ?_
                refine lv_iload_n hx hb dX11_clause_255 rfl (lv_at hl 1 rfl) ?_
                refine lv_aload_n hx hb dX11_clause_256 rfl (lv_at hl 2 rfl) ?_
                refine va_get (D := (dC, dI)) (ci := 11) (v := .ref rD) (C := RX11) (T := TX11) (N := 41) hx hb hts iX11 hown hK hP 0 rfl rfl 8 (by decide) (hts _ qw1135) (fun _ h9 => h9) rfl dX11_clause_257 ?_
                refine lv_aload_n hx hb dX11_clause_260 rfl (lv_at hl 2 rfl) ?_
                refine va_get (D := (dC, dI)) (ci := 11) (v := .int tx) (C := RX11) (T := TX11) (N := 41) hx hb hts iX11 hown hK hP 0 rfl rfl 14 (by decide) (hts _ qw1141) (fun _ h9 => h9) rfl dX11_clause_261 ?_
                refine va_iald hx hb hK hP 4 0 rfl rfl (vp_in_iff.mpr ⟨by omega, by omega⟩) dX11_clause_264 ?_
                refine lv_topi (fun v264 e264 => ?_)
                have i264 : v264.toInt = (u181_5 tx.toInt.toNat).toInt ∧ 0 ≤ v264.toInt ∧ v264.toInt ≤ 518 := by have hq := ((show zPar u181_1 u181_0 u181_3 u181_4 u181_5 tx fC fV (520 * tx.toInt.toNat + (fD tx.toInt.toNat).toInt.toNat) (0) (fD tx.toInt.toNat).toInt.toNat (1) from by first | exact zPar_bad f181_11 (by omega) (by omega) (by omega))).2.2.1; have := zIx (n := tx.toInt.toNat) e264 (by omega); omega
                refine va_iast hx hb hK hP hD hS 8 0 rfl rfl (vp_in_iff.mpr ⟨by omega, by omega⟩) dX11_clause_265 (fun H locs hP9 hD9 hS9 => ?_)
                clear hP hD hS
                obtain ⟨v265_f, e265⟩ : ∃ g : Nat → Int32, g = upd fU (v17).toNatClampNeg v264 := ⟨_, rfl⟩
                rw [← e265] at hP9 hD9
                obtain ⟨hP, hD⟩ := zst (wX := [(h0, .inr (11, [.int th, .ref tB, .int tsz, .int u181_0, .int u181_1, .int u181_2, .ref rC, .ref rV, .ref rD, .ref rK, .ref rT, .ref rS, .ref rU, .int lw, .int tx, .ref rL, .ref rX, .ref qR, .ref qB, .ref qP, .int qnb, .int qnp, .ref aR, .ref aB, .ref aP, .int nb, .int np, .ref aN, .ref rf, .int ho, .int br, .ref aK, .int ac, .long dw, .ref aE, .int sr, .int sf, .ref aA, .ref aH, .ref aI, .int hi])), (tB, .inl (cI, 240, .inl fB)), (rC, .inl (cI, 2600, .inl u181_3)), (rV, .inl (cI, 2600, .inl u181_4)), (rD, .inl (cI, 5, .inl u181_5)), (rK, .inl (cI, 5, .inl fK)), (rT, .inl (cI, 700, .inl v104_f)), (rS, .inl (cI, 700, .inl v195_f)), (rU, .inl (cI, 700, .inl v265_f))]) hP9 hD9 rfl
                have hS := hS9
                clear hP9 hD9 hS9
                refine lv_aload_n hx hb dX11_clause_266 rfl (lv_at hl 2 rfl) ?_
                refine va_get (D := (dC, dI)) (ci := 11) (v := .ref rK) (C := RX11) (T := TX11) (N := 41) hx hb hts iX11 hown hK hP 0 rfl rfl 9 (by decide) (hts _ qw1136) (fun _ h9 => h9) rfl dX11_clause_267 ?_
                refine lv_aload_n hx hb dX11_clause_270 rfl (lv_at hl 2 rfl) ?_
                refine va_get (D := (dC, dI)) (ci := 11) (v := .int tx) (C := RX11) (T := TX11) (N := 41) hx hb hts iX11 hown hK hP 0 rfl rfl 14 (by decide) (hts _ qw1141) (fun _ h9 => h9) rfl dX11_clause_271 ?_
                refine lv_dup2_11 hx hb dX11_clause_274 rfl rfl ?_
                refine va_iald hx hb hK hP 5 0 rfl rfl (vp_in_iff.mpr ⟨by omega, by omega⟩) dX11_clause_275 ?_
                refine lv_topi (fun v275 e275 => ?_)
                have i275 : v275.toInt = (fK tx.toInt.toNat).toInt ∧ 0 ≤ v275.toInt ∧ v275.toInt ≤ 123 := by have := hrd.2.2.1; have := zIx (n := tx.toInt.toNat) e275 (by omega); omega
                refine lv_iconst (v := 1) hx hb dX11_clause_276 (by decide) ?_
                refine lv_iadd hx hb dX11_clause_277 ?_
                refine lv_topi (fun v277 e277 => ?_)
                have i277 : v277.toInt = v275.toInt + 1 := zadd e277 rfl (by decide) (by omega) (by omega)
                refine va_iast hx hb hK hP hD hS 5 0 rfl rfl (vp_in_iff.mpr ⟨by omega, by omega⟩) dX11_clause_278 (fun H locs hP9 hD9 hS9 => ?_)
                clear hP hD hS
                obtain ⟨v278_f, e278⟩ : ∃ g : Nat → Int32, g = upd fK (tx).toNatClampNeg v277 := ⟨_, rfl⟩
                rw [← e278] at hP9 hD9
                obtain ⟨hP, hD⟩ := zst (wX := [(h0, .inr (11, [.int th, .ref tB, .int tsz, .int u181_0, .int u181_1, .int u181_2, .ref rC, .ref rV, .ref rD, .ref rK, .ref rT, .ref rS, .ref rU, .int lw, .int tx, .ref rL, .ref rX, .ref qR, .ref qB, .ref qP, .int qnb, .int qnp, .ref aR, .ref aB, .ref aP, .int nb, .int np, .ref aN, .ref rf, .int ho, .int br, .ref aK, .int ac, .long dw, .ref aE, .int sr, .int sf, .ref aA, .ref aH, .ref aI, .int hi])), (tB, .inl (cI, 240, .inl fB)), (rC, .inl (cI, 2600, .inl u181_3)), (rV, .inl (cI, 2600, .inl u181_4)), (rD, .inl (cI, 5, .inl u181_5)), (rK, .inl (cI, 5, .inl v278_f)), (rT, .inl (cI, 700, .inl v104_f)), (rS, .inl (cI, 700, .inl v195_f)), (rU, .inl (cI, 700, .inl v265_f))]) hP9 hD9 rfl
                have hS := hS9
                clear hP9 hD9 hS9
                rw [hQ]
                exact W.vret hx hb hr (fun t ht hW => ⟨⟨(u181_0, u181_1, u181_2, u181_3, u181_4, u181_5, v278_f, v104_f, v195_f, v265_f), rfl, ⟨by (try dsimp only); omega, by (try dsimp only); omega, by (try dsimp only); omega, by (try dsimp only); omega, by (try dsimp only); omega, by (try dsimp only); omega, by (try dsimp only); omega, by (try dsimp only); omega, by (try dsimp only); omega, by (try dsimp only); first | exact zRd_A hrd (show zPar u181_1 u181_0 u181_3 u181_4 u181_5 tx fC fV (520 * tx.toInt.toNat + (fD tx.toInt.toNat).toInt.toNat) (0) (fD tx.toInt.toNat).toInt.toNat (1) from by first | exact zPar_bad f181_11 (by omega) (by omega) (by omega)) (by omega) (by omega) (by omega) e104 e195 e265 e278 (by omega) (by omega) (by omega) (by omega) (by omega) (by omega), by (try dsimp only); exact zclX F28 (by omega) i46 F59 (by omega) i77 (zc2S2 (zLk_tr F106 F115) (by have := zLk_v F106 F115; omega) (by omega) F141 (by omega) F153 F156 (by omega) (zqm0 (zgo (F181 _ (F177 _ F173))) (by omega))), by (try dsimp only); exact fun hw => absurd hw (by omega)⟩, ⟨by rw [ht]; exact hP, hD⟩⟩, hS.F ht⟩) hS.2.2 dX11_clause_279
              · have c205 : u181_1.toInt = (-1) := z5 rfl (by decide) c205
                refine lv_aload_n hx hb dX11_clause_208 rfl (lv_at hl 2 rfl) ?_
                obtain ⟨hPc, hDc, hFc⟩ := zc3 (wc := [(h0, .inr (11, [.int th, .ref tB, .int tsz, .int u181_0, .int u181_1, .int u181_2, .ref rC, .ref rV, .ref rD, .ref rK, .ref rT, .ref rS, .ref rU, .int lw, .int tx, .ref rL, .ref rX, .ref qR, .ref qB, .ref qP, .int qnb, .int qnp, .ref aR, .ref aB, .ref aP, .int nb, .int np, .ref aN, .ref rf, .int ho, .int br, .ref aK, .int ac, .long dw, .ref aE, .int sr, .int sf, .ref aA, .ref aH, .ref aI, .int hi])), (tB, .inl (cI, 240, .inl fB))]) hP hD hS hA [0, 1] (by decide +kernel) rfl
                refine va_calli (va_runV (As := []) (rest := []) ⟨hx, hb, hml, hown, hts⟩ (g_X11_look_t l dC dI cI cJ h0 th tB tsz u181_0 u181_1 u181_2 rC rV rD rK rT rS rU lw tx rL rX qR qB qP qnb qnp aR aB aP nb np aN rf ho br aK ac dw aE sr sf aA aH aI hi fB H.size y_ac y_hi y_ho y_lw y_nb y_np y_qnb y_qnp (by omega) n_tsz ⟨f181_2, f181_3⟩) (cwV 0 hts (zgV qw1273 qw1275 qw32 qw108 qw1276) rfl rfl rfl hd_X11_look ⟨by rw [hR]; exact Nat.le_of_ble_eq_true rfl, by rw [hR]; exact Nat.le_of_ble_eq_true rfl⟩) (zPV hPc hK hDc (va_recv (q := (RX11, TX11, 41)) hK hP (ci := 11) (q0 := 0) rfl rfl)) rfl rfl hl.1 rfl (lv_room (Nat.le_of_ble_eq_true rfl)) dX11_clause_209 ⟨Nat.zero_le _, Nat.zero_le _⟩) hS (fun q _ h => hFc q h) hFc (fun v209 u209 t H locs ht hvm hw hB hz1 hk1 hS9 => ?_)
                obtain ⟨u209_0, rfl⟩ : ∃ z, z = u209 := ⟨_, rfl⟩
                obtain ⟨hP9, hD9⟩ := zj2 (wX := [(h0, .inr (11, [.int th, .ref tB, .int tsz, .int u209_0, .int u181_1, .int u181_2, .ref rC, .ref rV, .ref rD, .ref rK, .ref rT, .ref rS, .ref rU, .int lw, .int tx, .ref rL, .ref rX, .ref qR, .ref qB, .ref qP, .int qnb, .int qnp, .ref aR, .ref aB, .ref aP, .int nb, .int np, .ref aN, .ref rf, .int ho, .int br, .ref aK, .int ac, .long dw, .ref aE, .int sr, .int sf, .ref aA, .ref aH, .ref aI, .int hi])), (tB, .inl (cI, 240, .inl fB)), (rC, .inl (cI, 2600, .inl u181_3)), (rV, .inl (cI, 2600, .inl u181_4)), (rD, .inl (cI, 5, .inl u181_5)), (rK, .inl (cI, 5, .inl fK)), (rT, .inl (cI, 700, .inl v104_f)), (rS, .inl (cI, 700, .inl v195_f)), (rU, .inl (cI, 700, .inl fU))]) hP hD hk1 hFc ht hB [0, 1] [(true, 0), (true, 1), (false, 2), (false, 3), (false, 4), (false, 5), (false, 6), (false, 7), (false, 8)] rfl (by decide +kernel) (by decide +kernel) rfl
                clear hP hD hS hPc hDc hFc hB hk1 hz1 hvm
                have hP := hP9
                have hD := hD9
                have hS := hS9
                clear hP9 hD9 hS9
                obtain ⟨f209_0, f209_1, f209_2, f209_3, f209_4, f209_5⟩ : (0 ≤ u209_0.toInt) ∧ (u209_0.toInt ≤ 240) ∧ (¬ v209.toInt = -1 → u209_0.toInt < tsz.toInt) ∧ (u181_0.toInt ≤ u209_0.toInt) ∧ (u209_0.toInt ≤ tsz.toInt ∨ u209_0.toInt = u181_0.toInt) ∧ (zLk fB tsz u181_0 v209 u209_0) := hw
                have F209 := f209_5
                refine lv_bipush (v := 63) hx hb dX11_clause_212 (by decide) ?_
                refine lv_icmp_eq (tgt := 222) hx hb dX11_clause_214 (by decide) (fun c214 => ?_) (fun c214 => ?_)
                · have c214 : v209.toInt = 63 := z5 rfl (by decide) c214
                  refine lv_aload_n hx hb dX11_clause_222 rfl (lv_at hl 2 rfl) ?_
                  refine lv_dup hx hb dX11_clause_223 rfl ?_
                  refine va_get (D := (dC, dI)) (ci := 11) (v := .int u209_0) (C := RX11) (T := TX11) (N := 41) hx hb hts iX11 hown hK hP 0 rfl rfl 3 (by decide) (hts _ qw1130) (fun _ h9 => h9) rfl dX11_clause_224 ?_
                  refine lv_iconst (v := 1) hx hb dX11_clause_227 (by decide) ?_
                  refine lv_iadd hx hb dX11_clause_228 ?_
                  refine lv_topi (fun v228 e228 => ?_)
                  have i228 : v228.toInt = u209_0.toInt + 1 := zadd e228 rfl (by decide) (by omega) (by omega)
                  refine va_put (D := (dC, dI)) (ci := 11) (v := .int v228) (ty := .int) (C := RX11) (T := TX11) (N := 41) hx hb hts iX11 tyX11 tyX11_ok nmX11 hown hK hP hD hS 0 rfl rfl 3 (by decide) (hts _ qw1130) (fun _ h9 => h9) rfl (by decide +kernel) rfl rfl (Nat.le_of_ble_eq_true rfl) dX11_clause_229 (fun H locs hP9 hD9 hS9 => ?_)
                  clear hP hD hS
                  obtain ⟨hP, hD⟩ := zst (wX := [(h0, .inr (11, [.int th, .ref tB, .int tsz, .int v228, .int u181_1, .int u181_2, .ref rC, .ref rV, .ref rD, .ref rK, .ref rT, .ref rS, .ref rU, .int lw, .int tx, .ref rL, .ref rX, .ref qR, .ref qB, .ref qP, .int qnb, .int qnp, .ref aR, .ref aB, .ref aP, .int nb, .int np, .ref aN, .ref rf, .int ho, .int br, .ref aK, .int ac, .long dw, .ref aE, .int sr, .int sf, .ref aA, .ref aH, .ref aI, .int hi])), (tB, .inl (cI, 240, .inl fB)), (rC, .inl (cI, 2600, .inl u181_3)), (rV, .inl (cI, 2600, .inl u181_4)), (rD, .inl (cI, 5, .inl u181_5)), (rK, .inl (cI, 5, .inl fK)), (rT, .inl (cI, 700, .inl v104_f)), (rS, .inl (cI, 700, .inl v195_f)), (rU, .inl (cI, 700, .inl fU))]) hP9 hD9 rfl
                  have hS := hS9
                  clear hP9 hD9 hS9
                  refine lv_aload_n hx hb dX11_clause_232 rfl (lv_at hl 2 rfl) ?_
                  refine va_get (D := (dC, dI)) (ci := 11) (v := .ref rS) (C := RX11) (T := TX11) (N := 41) hx hb hts iX11 hown hK hP 0 rfl rfl 11 (by decide) (hts _ qw1138) (fun _ h9 => h9) rfl dX11_clause_233 ?_
                  refine lv_iload_n hx hb dX11_clause_236 rfl (lv_at hl 1 rfl) ?_
                  refine lv_aload_n hx hb dX11_clause_237 rfl (lv_at hl 2 rfl) ?_
                  refine va_get (D := (dC, dI)) (ci := 11) (v := .ref rD) (C := RX11) (T := TX11) (N := 41) hx hb hts iX11 hown hK hP 0 rfl rfl 8 (by decide) (hts _ qw1135) (fun _ h9 => h9) rfl dX11_clause_238 ?_
                  refine lv_aload_n hx hb dX11_clause_241 rfl (lv_at hl 2 rfl) ?_
                  refine va_get (D := (dC, dI)) (ci := 11) (v := .int tx) (C := RX11) (T := TX11) (N := 41) hx hb hts iX11 hown hK hP 0 rfl rfl 14 (by decide) (hts _ qw1141) (fun _ h9 => h9) rfl dX11_clause_242 ?_
                  refine va_iald hx hb hK hP 4 0 rfl rfl (vp_in_iff.mpr ⟨by omega, by omega⟩) dX11_clause_245 ?_
                  refine lv_topi (fun v245 e245 => ?_)
                  have i245 : v245.toInt = (u181_5 tx.toInt.toNat).toInt ∧ 0 ≤ v245.toInt ∧ v245.toInt ≤ 518 := by have hq := ((show zPar u181_1 v228 u181_3 u181_4 u181_5 tx fC fV (520 * tx.toInt.toNat + (fD tx.toInt.toNat).toInt.toNat) (0) (fD tx.toInt.toNat).toInt.toNat (1) from by first | exact zPar_mono f181_11 (by omega) (by omega) (by omega) (by omega))).2.2.1; have := zIx (n := tx.toInt.toNat) e245 (by omega); omega
                  refine va_iast hx hb hK hP hD hS 7 0 rfl rfl (vp_in_iff.mpr ⟨by omega, by omega⟩) dX11_clause_246 (fun H locs hP9 hD9 hS9 => ?_)
                  clear hP hD hS
                  obtain ⟨v246_f, e246⟩ : ∃ g : Nat → Int32, g = upd v195_f (v17).toNatClampNeg v245 := ⟨_, rfl⟩
                  rw [← e246] at hP9 hD9
                  obtain ⟨hP, hD⟩ := zst (wX := [(h0, .inr (11, [.int th, .ref tB, .int tsz, .int v228, .int u181_1, .int u181_2, .ref rC, .ref rV, .ref rD, .ref rK, .ref rT, .ref rS, .ref rU, .int lw, .int tx, .ref rL, .ref rX, .ref qR, .ref qB, .ref qP, .int qnb, .int qnp, .ref aR, .ref aB, .ref aP, .int nb, .int np, .ref aN, .ref rf, .int ho, .int br, .ref aK, .int ac, .long dw, .ref aE, .int sr, .int sf, .ref aA, .ref aH, .ref aI, .int hi])), (tB, .inl (cI, 240, .inl fB)), (rC, .inl (cI, 2600, .inl u181_3)), (rV, .inl (cI, 2600, .inl u181_4)), (rD, .inl (cI, 5, .inl u181_5)), (rK, .inl (cI, 5, .inl fK)), (rT, .inl (cI, 700, .inl v104_f)), (rS, .inl (cI, 700, .inl v246_f)), (rU, .inl (cI, 700, .inl fU))]) hP9 hD9 rfl
                  have hS := hS9
                  clear hP9 hD9 hS9
                  have hp247 : zPar u181_1 v228 u181_3 u181_4 u181_5 tx u181_3 u181_4 (520 * tx.toInt.toNat + (u181_5 tx.toInt.toNat).toInt.toNat) (2) (u181_5 tx.toInt.toNat).toInt.toNat (0) := zPar_new (show zPar u181_1 v228 u181_3 u181_4 u181_5 tx fC fV (520 * tx.toInt.toNat + (fD tx.toInt.toNat).toInt.toNat) (2) (fD tx.toInt.toNat).toInt.toNat (1) from by first | exact zPar_mono f181_11 (by omega) (by omega) (by omega) (by omega))
                  refine lv_aload_n hx hb dX11_clause_247 rfl (lv_at hl 2 rfl) ?_
                  have zx_u181_1 : ((-1) : Int32).toInt = (-1) := by decide
                  have zy_u181_1 : u181_1 = (-1) := z7 (a := (-1)) (by decide) (by omega)
                  rw [zy_u181_1] at hP hD
                  obtain ⟨hPc, hDc, hFc⟩ := zc3 (wc := [(h0, .inr (11, [.int th, .ref tB, .int tsz, .int v228, .int (-1), .int u181_2, .ref rC, .ref rV, .ref rD, .ref rK, .ref rT, .ref rS, .ref rU, .int lw, .int tx, .ref rL, .ref rX, .ref qR, .ref qB, .ref qP, .int qnb, .int qnp, .ref aR, .ref aB, .ref aP, .int nb, .int np, .ref aN, .ref rf, .int ho, .int br, .ref aK, .int ac, .long dw, .ref aE, .int sr, .int sf, .ref aA, .ref aH, .ref aI, .int hi])), (tB, .inl (cI, 240, .inl fB)), (rC, .inl (cI, 2600, .inl u181_3)), (rV, .inl (cI, 2600, .inl u181_4)), (rD, .inl (cI, 5, .inl u181_5))]) hP hD hS hA [0, 1, 2, 3, 4] (by decide +kernel) rfl
                  refine va_callv (va_runV (As := []) (rest := []) ⟨hx, hb, hml, hown, hts⟩ (zE_S6 l dC dI cI cJ h0 th tB tsz v228 u181_2 rC rV rD rK rT rS rU lw tx rL rX qR qB qP qnb qnp aR aB aP nb np aN rf ho br aK ac dw aE sr sf aA aH aI hi fB u181_3 u181_4 u181_5 u181_3 u181_4 ((520 * tx.toInt.toNat + (u181_5 tx.toInt.toNat).toInt.toNat)) 1 ((u181_5 tx.toInt.toNat).toInt.toNat) 0 H.size y_ac (by omega) y_hi y_ho y_lw y_nb y_np y_qnb y_qnp (by omega) n_tsz n_tx (by first | exact zPar_mono hp247 (by omega) (by omega) (by omega) (by omega)) (by first | decide | omega) (by first | decide | omega) (by first | decide | omega) (by first | decide | omega)) (cwV 0 hts (zgV qw1340 qw1342 qw45 qw108 qw1343) rfl rfl rfl hd_X11_sum ⟨by rw [hR]; exact Nat.le_of_ble_eq_true rfl, by rw [hR]; exact Nat.le_of_ble_eq_true rfl⟩) (zPV hPc hK hDc (va_recv (q := (RX11, TX11, 41)) hK hP (ci := 11) (q0 := 0) rfl rfl)) rfl rfl hl.1 rfl (lv_room (Nat.le_of_ble_eq_true rfl)) dX11_clause_248 ⟨Nat.zero_le _, Nat.zero_le _⟩) hS (fun q _ h => hFc q h) hFc (fun u248 t H locs ht hvm hw hB hz1 hk1 hS9 => ?_)
                  obtain ⟨u248_0, u248_1, u248_2, u248_3, u248_4, u248_5⟩ := u248
                  obtain ⟨hP9, hD9⟩ := zj2 (wX := [(h0, .inr (11, [.int th, .ref tB, .int tsz, .int u248_0, .int u248_1, .int u248_2, .ref rC, .ref rV, .ref rD, .ref rK, .ref rT, .ref rS, .ref rU, .int lw, .int tx, .ref rL, .ref rX, .ref qR, .ref qB, .ref qP, .int qnb, .int qnp, .ref aR, .ref aB, .ref aP, .int nb, .int np, .ref aN, .ref rf, .int ho, .int br, .ref aK, .int ac, .long dw, .ref aE, .int sr, .int sf, .ref aA, .ref aH, .ref aI, .int hi])), (tB, .inl (cI, 240, .inl fB)), (rC, .inl (cI, 2600, .inl u248_3)), (rV, .inl (cI, 2600, .inl u248_4)), (rD, .inl (cI, 5, .inl u248_5)), (rK, .inl (cI, 5, .inl fK)), (rT, .inl (cI, 700, .inl v104_f)), (rS, .inl (cI, 700, .inl v246_f)), (rU, .inl (cI, 700, .inl fU))]) hP hD hk1 hFc ht hB [0, 1, 2, 3, 4] [(true, 0), (true, 1), (true, 2), (true, 3), (true, 4), (false, 5), (false, 6), (false, 7), (false, 8)] rfl (by decide +kernel) (by decide +kernel) rfl
                  clear hP hD hS hPc hDc hFc hB hk1 hz1 hvm
                  have hP := hP9
                  have hD := hD9
                  have hS := hS9
                  clear hP9 hD9 hS9
                  obtain ⟨f248_0, f248_1, f248_2, f248_3, f248_4, f248_5, f248_6, f248_7, f248_8, f248_9, f248_10, f248_11⟩ : (0 ≤ u248_0.toInt) ∧ (u248_0.toInt ≤ 246) ∧ ((-1) ≤ u248_1.toInt) ∧ (u248_1.toInt ≤ 260) ∧ (0 ≤ u248_2.toInt) ∧ (u248_2.toInt ≤ 7) ∧ (u248_1.toInt = -1 → (u248_0.toInt ≤ tsz.toInt ∧ u248_2.toInt = 6 - ((6 : Nat) : Int))) ∧ (v228.toInt ≤ u248_0.toInt) ∧ (u248_0.toInt ≤ 240 + ((6 : Nat) : Int) ∧ 6 - ((6 : Nat) : Int) ≤ u248_2.toInt ∧ u248_2.toInt ≤ 7 - ((6 : Nat) : Int)) ∧ (zW (sSum (sB fB tsz.toInt) tsz.toInt 6 v228.toInt) u248_1 u248_0) ∧ (u248_1.toInt = -1 → zEr u181_3 u181_4 (520 * tx.toInt.toNat) (u181_5 tx.toInt.toNat).toInt ((eSum (sB fB tsz.toInt) tsz.toInt 6) v228.toInt) u248_3 u248_4 (u248_5 tx.toInt.toNat).toInt) ∧ (zPar u248_1 u248_0 u248_3 u248_4 u248_5 tx u181_3 u181_4 ((520 * tx.toInt.toNat + (u181_5 tx.toInt.toNat).toInt.toNat)) (1) ((u181_5 tx.toInt.toNat).toInt.toNat) (0 + 1)) := hw
                  have F248 := f248_9
                  have F248_1 : zHid (u248_1.toInt = -1 → zEr u181_3 u181_4 (520 * tx.toInt.toNat) (u181_5 tx.toInt.toNat).toInt ((eSum (sB fB tsz.toInt) tsz.toInt 6) v228.toInt) u248_3 u248_4 (u248_5 tx.toInt.toNat).toInt) := f248_10
                  clear f248_10
                  refine lv_aload_n hx hb dX11_clause_251 rfl (lv_at hl 2 rfl) ?_
                  refine va_get (D := (dC, dI)) (ci := 11) (v := .ref rU) (C := RX11) (T := TX11) (N := 41) hx hb hts iX11 hown hK hP 0 rfl rfl 12 (by decide) (hts _ qw1139) (fun _ h9 => h9) rfl dX11_clause_252 ?_
                  refine lv_iload_n hx hb dX11_clause_255 rfl (lv_at hl 1 rfl) ?_
                  refine lv_aload_n hx hb dX11_clause_256 rfl (lv_at hl 2 rfl) ?_
                  refine va_get (D := (dC, dI)) (ci := 11) (v := .ref rD) (C := RX11) (T := TX11) (N := 41) hx hb hts iX11 hown hK hP 0 rfl rfl 8 (by decide) (hts _ qw1135) (fun _ h9 => h9) rfl dX11_clause_257 ?_
                  refine lv_aload_n hx hb dX11_clause_260 rfl (lv_at hl 2 rfl) ?_
                  refine va_get (D := (dC, dI)) (ci := 11) (v := .int tx) (C := RX11) (T := TX11) (N := 41) hx hb hts iX11 hown hK hP 0 rfl rfl 14 (by decide) (hts _ qw1141) (fun _ h9 => h9) rfl dX11_clause_261 ?_
                  refine va_iald hx hb hK hP 4 0 rfl rfl (vp_in_iff.mpr ⟨by omega, by omega⟩) dX11_clause_264 ?_
                  refine lv_topi (fun v264 e264 => ?_)
                  have i264 : v264.toInt = (u248_5 tx.toInt.toNat).toInt ∧ 0 ≤ v264.toInt ∧ v264.toInt ≤ 518 := by have hq := ((show zPar u248_1 u248_0 u248_3 u248_4 u248_5 tx u181_3 u181_4 (520 * tx.toInt.toNat + (u181_5 tx.toInt.toNat).toInt.toNat) (0) (u181_5 tx.toInt.toNat).toInt.toNat (1) from by first | exact zPar_mono f248_11 (by omega) (by omega) (by omega) (by omega))).2.2.1; have := zIx (n := tx.toInt.toNat) e264 (by omega); omega
                  refine va_iast hx hb hK hP hD hS 8 0 rfl rfl (vp_in_iff.mpr ⟨by omega, by omega⟩) dX11_clause_265 (fun H locs hP9 hD9 hS9 => ?_)
                  clear hP hD hS
                  obtain ⟨v265_f, e265⟩ : ∃ g : Nat → Int32, g = upd fU (v17).toNatClampNeg v264 := ⟨_, rfl⟩
                  rw [← e265] at hP9 hD9
                  obtain ⟨hP, hD⟩ := zst (wX := [(h0, .inr (11, [.int th, .ref tB, .int tsz, .int u248_0, .int u248_1, .int u248_2, .ref rC, .ref rV, .ref rD, .ref rK, .ref rT, .ref rS, .ref rU, .int lw, .int tx, .ref rL, .ref rX, .ref qR, .ref qB, .ref qP, .int qnb, .int qnp, .ref aR, .ref aB, .ref aP, .int nb, .int np, .ref aN, .ref rf, .int ho, .int br, .ref aK, .int ac, .long dw, .ref aE, .int sr, .int sf, .ref aA, .ref aH, .ref aI, .int hi])), (tB, .inl (cI, 240, .inl fB)), (rC, .inl (cI, 2600, .inl u248_3)), (rV, .inl (cI, 2600, .inl u248_4)), (rD, .inl (cI, 5, .inl u248_5)), (rK, .inl (cI, 5, .inl fK)), (rT, .inl (cI, 700, .inl v104_f)), (rS, .inl (cI, 700, .inl v246_f)), (rU, .inl (cI, 700, .inl v265_f))]) hP9 hD9 rfl
                  have hS := hS9
                  clear hP9 hD9 hS9
                  refine lv_aload_n hx hb dX11_clause_266 rfl (lv_at hl 2 rfl) ?_
                  refine va_get (D := (dC, dI)) (ci := 11) (v := .ref rK) (C := RX11) (T := TX11) (N := 41) hx hb hts iX11 hown hK hP 0 rfl rfl 9 (by decide) (hts _ qw1136) (fun _ h9 => h9) rfl dX11_clause_267 ?_
                  refine lv_aload_n hx hb dX11_clause_270 rfl (lv_at hl 2 rfl) ?_
                  refine va_get (D := (dC, dI)) (ci := 11) (v := .int tx) (C := RX11) (T := TX11) (N := 41) hx hb hts iX11 hown hK hP 0 rfl rfl 14 (by decide) (hts _ qw1141) (fun _ h9 => h9) rfl dX11_clause_271 ?_
                  refine lv_dup2_11 hx hb dX11_clause_274 rfl rfl ?_
                  refine va_iald hx hb hK hP 5 0 rfl rfl (vp_in_iff.mpr ⟨by omega, by omega⟩) dX11_clause_275 ?_
                  refine lv_topi (fun v275 e275 => ?_)
                  have i275 : v275.toInt = (fK tx.toInt.toNat).toInt ∧ 0 ≤ v275.toInt ∧ v275.toInt ≤ 123 := by have := hrd.2.2.1; have := zIx (n := tx.toInt.toNat) e275 (by omega); omega
                  refine lv_iconst (v := 1) hx hb dX11_clause_276 (by decide) ?_
                  refine lv_iadd hx hb dX11_clause_277 ?_
                  refine lv_topi (fun v277 e277 => ?_)
                  have i277 : v277.toInt = v275.toInt + 1 := zadd e277 rfl (by decide) (by omega) (by omega)
                  refine va_iast hx hb hK hP hD hS 5 0 rfl rfl (vp_in_iff.mpr ⟨by omega, by omega⟩) dX11_clause_278 (fun H locs hP9 hD9 hS9 => ?_)
                  clear hP hD hS
                  obtain ⟨v278_f, e278⟩ : ∃ g : Nat → Int32, g = upd fK (tx).toNatClampNeg v277 := ⟨_, rfl⟩
                  rw [← e278] at hP9 hD9
                  obtain ⟨hP, hD⟩ := zst (wX := [(h0, .inr (11, [.int th, .ref tB, .int tsz, .int u248_0, .int u248_1, .int u248_2, .ref rC, .ref rV, .ref rD, .ref rK, .ref rT, .ref rS, .ref rU, .int lw, .int tx, .ref rL, .ref rX, .ref qR, .ref qB, .ref qP, .int qnb, .int qnp, .ref aR, .ref aB, .ref aP, .int nb, .int np, .ref aN, .ref rf, .int ho, .int br, .ref aK, .int ac, .long dw, .ref aE, .int sr, .int sf, .ref aA, .ref aH, .ref aI, .int hi])), (tB, .inl (cI, 240, .inl fB)), (rC, .inl (cI, 2600, .inl u248_3)), (rV, .inl (cI, 2600, .inl u248_4)), (rD, .inl (cI, 5, .inl u248_5)), (rK, .inl (cI, 5, .inl v278_f)), (rT, .inl (cI, 700, .inl v104_f)), (rS, .inl (cI, 700, .inl v246_f)), (rU, .inl (cI, 700, .inl v265_f))]) hP9 hD9 rfl
                  have hS := hS9
                  clear hP9 hD9 hS9
                  rw [hQ]
                  exact W.vret hx hb hr (fun t ht hW => ⟨⟨(u248_0, u248_1, u248_2, u248_3, u248_4, u248_5, v278_f, v104_f, v246_f, v265_f), rfl, ⟨by (try dsimp only); omega, by (try dsimp only); omega, by (try dsimp only); omega, by (try dsimp only); omega, by (try dsimp only); omega, by (try dsimp only); omega, by (try dsimp only); omega, by (try dsimp only); omega, by (try dsimp only); omega, by (try dsimp only); first | exact zRd_C hrd f181_11 (show zPar u248_1 u248_0 u248_3 u248_4 u248_5 tx u181_3 u181_4 (520 * tx.toInt.toNat + (u181_5 tx.toInt.toNat).toInt.toNat) (0) (u181_5 tx.toInt.toNat).toInt.toNat (1) from by first | exact zPar_mono f248_11 (by omega) (by omega) (by omega) (by omega)) (by omega) (by omega) (by omega) (by omega) (by omega) e104 e195 e246 e265 e278 (by omega) (by omega) (by omega) (by omega) (by omega) (by omega), by (try dsimp only); exact zclX F28 (by omega) i46 F59 (by omega) i77 (zc2S2 (zLk_tr F106 F115) (by have := zLk_v F106 F115; omega) (by omega) F141 (by omega) F153 F156 (by omega) (zqmY (zgo (F181 _ (F177 _ F173))) (by omega) F209 (by omega) i228 F248)), by (try dsimp only); exact fun hw => zQc_mk (eAf_R F28 i46 F59 i77) (erC (zLk_tr F106 F115) (by have := zLk_v F106 F115; omega) (by omega) F141 (by omega) F153 (oQ_iff.mp (zIs_t F156 (by omega))) (zgo (F181 _ (F177 _ F173))) (by omega) (F141_1 (by omega)) (erGo F173 F177 F181 (by omega) F173_1 F177_1 F181_1 (by have := f141_11.2.2.1; omega) (by have := f173_11.2.2.1; omega)) F209 i228 (F248_1 (by omega)) (by omega)) (by omega) (by omega) e104 (by omega) (zup2 e195 e246).1 (by rw [(zup2 e195 e246).2]; omega) e265 (by omega) e278 (by omega)⟩, ⟨by rw [ht]; exact hP, hD⟩⟩, hS.F ht⟩) hS.2.2 dX11_clause_279
                · have c214 : ¬ v209.toInt = 63 := z6 rfl (by decide) c214
                  refine lv_aload_n hx hb dX11_clause_217 rfl (lv_at hl 2 rfl) ?_
                  have zx_u181_1 : ((-1) : Int32).toInt = (-1) := by decide
                  have zy_u181_1 : u181_1 = (-1) := z7 (a := (-1)) (by decide) (by omega)
                  rw [zy_u181_1] at hP hD
                  obtain ⟨hPc, hDc, hFc⟩ := zc3 (wc := [(h0, .inr (11, [.int th, .ref tB, .int tsz, .int u209_0, .int (-1), .int u181_2, .ref rC, .ref rV, .ref rD, .ref rK, .ref rT, .ref rS, .ref rU, .int lw, .int tx, .ref rL, .ref rX, .ref qR, .ref qB, .ref qP, .int qnb, .int qnp, .ref aR, .ref aB, .ref aP, .int nb, .int np, .ref aN, .ref rf, .int ho, .int br, .ref aK, .int ac, .long dw, .ref aE, .int sr, .int sf, .ref aA, .ref aH, .ref aI, .int hi]))]) hP hD hS hA [0] (by decide +kernel) rfl
                  refine va_callv (va_runV (As := []) (rest := []) ⟨hx, hb, hml, hown, hts⟩ (g_X11_bad_m l dC dI cI cJ h0 th tB tsz u209_0 u181_2 rC rV rD rK rT rS rU lw tx rL rX qR qB qP qnb qnp aR aB aP nb np aN rf ho br aK ac dw aE sr sf aA aH aI hi H.size y_ac y_hi y_ho y_lw y_nb y_np y_qnb y_qnp (by omega) n_tsz) (cwV 0 hts (zgV qw1301 qw1303 qw36 qw108 qw1304) rfl rfl rfl hd_X11_bad ⟨by rw [hR]; exact Nat.le_of_ble_eq_true rfl, by rw [hR]; exact Nat.le_of_ble_eq_true rfl⟩) (zPV hPc hK hDc (va_recv (q := (RX11, TX11, 41)) hK hP (ci := 11) (q0 := 0) rfl rfl)) rfl rfl hl.1 rfl (lv_room (Nat.le_of_ble_eq_true rfl)) dX11_clause_218 ⟨Nat.zero_le _, Nat.zero_le _⟩) hS (fun q _ h => hFc q h) hFc (fun u218 t H locs ht hvm hw hB hz1 hk1 hS9 => ?_)
                  obtain ⟨hP9, hD9⟩ := zj2 (wX := [(h0, .inr (11, [.int th, .ref tB, .int tsz, .int u209_0, .int u209_0, .int u181_2, .ref rC, .ref rV, .ref rD, .ref rK, .ref rT, .ref rS, .ref rU, .int lw, .int tx, .ref rL, .ref rX, .ref qR, .ref qB, .ref qP, .int qnb, .int qnp, .ref aR, .ref aB, .ref aP, .int nb, .int np, .ref aN, .ref rf, .int ho, .int br, .ref aK, .int ac, .long dw, .ref aE, .int sr, .int sf, .ref aA, .ref aH, .ref aI, .int hi])), (tB, .inl (cI, 240, .inl fB)), (rC, .inl (cI, 2600, .inl u181_3)), (rV, .inl (cI, 2600, .inl u181_4)), (rD, .inl (cI, 5, .inl u181_5)), (rK, .inl (cI, 5, .inl fK)), (rT, .inl (cI, 700, .inl v104_f)), (rS, .inl (cI, 700, .inl v195_f)), (rU, .inl (cI, 700, .inl fU))]) hP hD hk1 hFc ht hB [0] [(true, 0), (false, 1), (false, 2), (false, 3), (false, 4), (false, 5), (false, 6), (false, 7), (false, 8)] rfl (by decide +kernel) (by decide +kernel) rfl
                  clear hP hD hS hPc hDc hFc hB hk1 hz1 hvm
                  have hP := hP9
                  have hD := hD9
                  have hS := hS9
                  clear hP9 hD9 hS9
                  rw [hQ]
                  exact W.vret hx hb hr (fun t ht hW => ⟨⟨(u209_0, u209_0, u181_2, u181_3, u181_4, u181_5, fK, v104_f, v195_f, fU), rfl, ⟨by (try dsimp only); omega, by (try dsimp only); omega, by (try dsimp only); omega, by (try dsimp only); omega, by (try dsimp only); omega, by (try dsimp only); omega, by (try dsimp only); omega, by (try dsimp only); omega, by (try dsimp only); omega, by (try dsimp only); first | exact zRd_B hrd (show zPar u209_0 u209_0 u181_3 u181_4 u181_5 tx fC fV (520 * tx.toInt.toNat + (fD tx.toInt.toNat).toInt.toNat) (0) (fD tx.toInt.toNat).toInt.toNat (1) from by first | exact zPar_bad f181_11 (by omega) (by omega) (by omega)) (by omega) (by omega) e104 e195 (by omega), by (try dsimp only); exact zclX F28 (by omega) i46 F59 (by omega) i77 (zc2S2 (zLk_tr F106 F115) (by have := zLk_v F106 F115; omega) (by omega) F141 (by omega) F153 F156 (by omega) (zqmN (zgo (F181 _ (F177 _ F173))) (by omega) F209 (by omega) (by omega) (by omega))), by (try dsimp only); exact fun hw => absurd hw (by omega)⟩, ⟨by rw [ht]; exact hP, hD⟩⟩, hS.F ht⟩) hS.2.2 dX11_clause_221
        · have c120 : v115.toInt = 40 := z5 rfl (by decide) c120
          refine lv_iconst (v := 1) hx hb dX11_clause_123 (by decide) ?_
          refine lv_goto (tgt := 128) hx hb dX11_clause_124 (by decide) ?_
          refine lv_istore_n (lv' := [(2, .int 1), (1, .int v17), (0, .ref h0)]) hx hb dX11_clause_128 rfl hl (by decide) rfl (fun ls hl => ?_)
          refine lv_iload_n hx hb dX11_clause_129 rfl (lv_at hl 0 rfl) ?_
          refine lv_if_eq (tgt := 140) hx hb dX11_clause_130 (by decide) (fun c => absurd c (by decide)) (fun _ => ?_)
          refine lv_aload_n hx hb dX11_clause_133 rfl (lv_at hl 2 rfl) ?_
          obtain ⟨hPc, hDc, hFc⟩ := zc3 (wc := [(h0, .inr (11, [.int th, .ref tB, .int tsz, .int u115_0, .int (-1), .int 0, .ref rC, .ref rV, .ref rD, .ref rK, .ref rT, .ref rS, .ref rU, .int lw, .int tx, .ref rL, .ref rX, .ref qR, .ref qB, .ref qP, .int qnb, .int qnp, .ref aR, .ref aB, .ref aP, .int nb, .int np, .ref aN, .ref rf, .int ho, .int br, .ref aK, .int ac, .long dw, .ref aE, .int sr, .int sf, .ref aA, .ref aH, .ref aI, .int hi])), (tB, .inl (cI, 240, .inl fB)), (rC, .inl (cI, 2600, .inl fC)), (rV, .inl (cI, 2600, .inl fV)), (rD, .inl (cI, 5, .inl fD))]) hP hD hS hA [0, 1, 2, 3, 4] (by decide +kernel) rfl
          refine va_callv (va_runV (As := []) (rest := []) ⟨hx, hb, hml, hown, hts⟩ (zE_C6 l dC dI cI cJ h0 th tB tsz u115_0 0 rC rV rD rK rT rS rU lw tx rL rX qR qB qP qnb qnp aR aB aP nb np aN rf ho br aK ac dw aE sr sf aA aH aI hi fB fC fV fD fC fV ((520 * tx.toInt.toNat + (fD tx.toInt.toNat).toInt.toNat)) 2 ((fD tx.toInt.toNat).toInt.toNat) 0 H.size y_ac (by decide) y_hi y_ho y_lw y_nb y_np y_qnb y_qnp ⟨f115_0, f115_1⟩ n_tsz n_tx (by first | exact zPar_mono hp105 (by omega) (by omega) (by omega) (by omega)) (by first | decide | omega) (by first | decide | omega) (by first | decide | omega) (by first | decide | omega)) (cwV 0 hts (zgV qw1320 qw1322 qw40 qw108 qw1323) rfl rfl rfl hd_X11_condition ⟨by rw [hR]; exact Nat.le_of_ble_eq_true rfl, by rw [hR]; exact Nat.le_of_ble_eq_true rfl⟩) (zPV hPc hK hDc (va_recv (q := (RX11, TX11, 41)) hK hP (ci := 11) (q0 := 0) rfl rfl)) rfl rfl hl.1 rfl (lv_room (Nat.le_of_ble_eq_true rfl)) dX11_clause_134 ⟨Nat.zero_le _, Nat.zero_le _⟩) hS (fun q _ h => hFc q h) hFc (fun u134 t H locs ht hvm hw hB hz1 hk1 hS9 => ?_)
          obtain ⟨u134_0, u134_1, u134_2, u134_3, u134_4, u134_5⟩ := u134
          obtain ⟨hP9, hD9⟩ := zj2 (wX := [(h0, .inr (11, [.int th, .ref tB, .int tsz, .int u134_0, .int u134_1, .int u134_2, .ref rC, .ref rV, .ref rD, .ref rK, .ref rT, .ref rS, .ref rU, .int lw, .int tx, .ref rL, .ref rX, .ref qR, .ref qB, .ref qP, .int qnb, .int qnp, .ref aR, .ref aB, .ref aP, .int nb, .int np, .ref aN, .ref rf, .int ho, .int br, .ref aK, .int ac, .long dw, .ref aE, .int sr, .int sf, .ref aA, .ref aH, .ref aI, .int hi])), (tB, .inl (cI, 240, .inl fB)), (rC, .inl (cI, 2600, .inl u134_3)), (rV, .inl (cI, 2600, .inl u134_4)), (rD, .inl (cI, 5, .inl u134_5)), (rK, .inl (cI, 5, .inl fK)), (rT, .inl (cI, 700, .inl v104_f)), (rS, .inl (cI, 700, .inl fS)), (rU, .inl (cI, 700, .inl fU))]) hP hD hk1 hFc ht hB [0, 1, 2, 3, 4] [(true, 0), (true, 1), (true, 2), (true, 3), (true, 4), (false, 5), (false, 6), (false, 7), (false, 8)] rfl (by decide +kernel) (by decide +kernel) rfl
          clear hP hD hS hPc hDc hFc hB hk1 hz1 hvm
          have hP := hP9
          have hD := hD9
          have hS := hS9
          clear hP9 hD9 hS9
          obtain ⟨f134_0, f134_1, f134_2, f134_3, f134_4, f134_5, f134_6, f134_7, f134_8, f134_9, f134_10, f134_11⟩ : (0 ≤ u134_0.toInt) ∧ (u134_0.toInt ≤ 246) ∧ ((-1) ≤ u134_1.toInt) ∧ (u134_1.toInt ≤ 260) ∧ (0 ≤ u134_2.toInt) ∧ (u134_2.toInt ≤ 7) ∧ (u134_1.toInt = -1 → (u134_0.toInt ≤ tsz.toInt ∧ u134_2.toInt = 6 - ((6 : Nat) : Int))) ∧ (u115_0.toInt ≤ u134_0.toInt) ∧ (u134_0.toInt ≤ 240 + ((6 : Nat) : Int) ∧ 6 - ((6 : Nat) : Int) ≤ u134_2.toInt ∧ u134_2.toInt ≤ 7 - ((6 : Nat) : Int)) ∧ (zW (sCon (sB fB tsz.toInt) tsz.toInt 6 u115_0.toInt) u134_1 u134_0) ∧ (u134_1.toInt = -1 → zEr fC fV (520 * tx.toInt.toNat) (fD tx.toInt.toNat).toInt (eCon (sB fB tsz.toInt) tsz.toInt 6 u115_0.toInt) u134_3 u134_4 (u134_5 tx.toInt.toNat).toInt) ∧ (zPar u134_1 u134_0 u134_3 u134_4 u134_5 tx fC fV ((520 * tx.toInt.toNat + (fD tx.toInt.toNat).toInt.toNat)) (2) ((fD tx.toInt.toNat).toInt.toNat) (0 + 1)) := hw
          have F134 := f134_9
          have F134_1 : zHid (u134_1.toInt = -1 → zEr fC fV (520 * tx.toInt.toNat) (fD tx.toInt.toNat).toInt (eCon (sB fB tsz.toInt) tsz.toInt 6 u115_0.toInt) u134_3 u134_4 (u134_5 tx.toInt.toNat).toInt) := f134_10
          clear f134_10
          refine lv_goto (tgt := 184) hx hb dX11_clause_137 (by decide) ?_
          refine lv_aload_n hx hb dX11_clause_184 rfl (lv_at hl 2 rfl) ?_
          refine va_get (D := (dC, dI)) (ci := 11) (v := .ref rS) (C := RX11) (T := TX11) (N := 41) hx hb hts iX11 hown hK hP 0 rfl rfl 11 (by decide) (hts _ qw1138) (fun _ h9 => h9) rfl dX11_clause_185 ?_
          refine lv_iload_n hx hb dX11_clause_188 rfl (lv_at hl 1 rfl) ?_
          refine lv_aload_n hx hb dX11_clause_189 rfl (lv_at hl 2 rfl) ?_
          refine va_get (D := (dC, dI)) (ci := 11) (v := .ref rT) (C := RX11) (T := TX11) (N := 41) hx hb hts iX11 hown hK hP 0 rfl rfl 10 (by decide) (hts _ qw1137) (fun _ h9 => h9) rfl dX11_clause_190 ?_
          refine lv_iload_n hx hb dX11_clause_193 rfl (lv_at hl 1 rfl) ?_
          refine va_iald hx hb hK hP 6 0 rfl rfl (vp_in_iff.mpr ⟨by omega, by omega⟩) dX11_clause_194 ?_
          refine lv_topi (fun v194 e194 => ?_)
          have i194 : v194.toInt = v103.toInt := by rw [e194, e104, pk_us]
          refine va_iast hx hb hK hP hD hS 7 0 rfl rfl (vp_in_iff.mpr ⟨by omega, by omega⟩) dX11_clause_195 (fun H locs hP9 hD9 hS9 => ?_)
          clear hP hD hS
          obtain ⟨v195_f, e195⟩ : ∃ g : Nat → Int32, g = upd fS (v17).toNatClampNeg v194 := ⟨_, rfl⟩
          rw [← e195] at hP9 hD9
          obtain ⟨hP, hD⟩ := zst (wX := [(h0, .inr (11, [.int th, .ref tB, .int tsz, .int u134_0, .int u134_1, .int u134_2, .ref rC, .ref rV, .ref rD, .ref rK, .ref rT, .ref rS, .ref rU, .int lw, .int tx, .ref rL, .ref rX, .ref qR, .ref qB, .ref qP, .int qnb, .int qnp, .ref aR, .ref aB, .ref aP, .int nb, .int np, .ref aN, .ref rf, .int ho, .int br, .ref aK, .int ac, .long dw, .ref aE, .int sr, .int sf, .ref aA, .ref aH, .ref aI, .int hi])), (tB, .inl (cI, 240, .inl fB)), (rC, .inl (cI, 2600, .inl u134_3)), (rV, .inl (cI, 2600, .inl u134_4)), (rD, .inl (cI, 5, .inl u134_5)), (rK, .inl (cI, 5, .inl fK)), (rT, .inl (cI, 700, .inl v104_f)), (rS, .inl (cI, 700, .inl v195_f)), (rU, .inl (cI, 700, .inl fU))]) hP9 hD9 rfl
          have hS := hS9
          clear hP9 hD9 hS9
          refine lv_iload_n hx hb dX11_clause_196 rfl (lv_at hl 0 rfl) ?_
          refine lv_if_eq (tgt := 251) hx hb dX11_clause_197 (by decide) (fun c => absurd c (by decide)) (fun _ => ?_)
          refine lv_aload_n hx hb dX11_clause_200 rfl (lv_at hl 2 rfl) ?_
          refine va_get (D := (dC, dI)) (ci := 11) (v := .int u134_1) (C := RX11) (T := TX11) (N := 41) hx hb hts iX11 hown hK hP 0 rfl rfl 4 (by decide) (hts _ qw1131) (fun _ h9 => h9) rfl dX11_clause_201 ?_
          refine lv_iconst (v := (-1)) hx hb dX11_clause_204 (by decide) ?_
          refine lv_icmp_ne (tgt := 251) hx hb dX11_clause_205 (by decide) (fun c205 => ?_) (fun c205 => ?_)
          · have c205 : ¬ u134_1.toInt = (-1) := z6 rfl (by decide) c205
            refine lv_aload_n hx hb dX11_clause_251 rfl (lv_at hl 2 rfl) ?_
            refine va_get (D := (dC, dI)) (ci := 11) (v := .ref rU) (C := RX11) (T := TX11) (N := 41) hx hb hts iX11 hown hK hP 0 rfl rfl 12 (by decide) (hts _ qw1139) (fun _ h9 => h9) rfl dX11_clause_252 ?_
            refine lv_iload_n hx hb dX11_clause_255 rfl (lv_at hl 1 rfl) ?_
            refine lv_aload_n hx hb dX11_clause_256 rfl (lv_at hl 2 rfl) ?_
            refine va_get (D := (dC, dI)) (ci := 11) (v := .ref rD) (C := RX11) (T := TX11) (N := 41) hx hb hts iX11 hown hK hP 0 rfl rfl 8 (by decide) (hts _ qw1135) (fun _ h9 => h9) rfl dX11_clause_257 ?_
            refine lv_aload_n hx hb dX11_clause_260 rfl (lv_at hl 2 rfl) ?_
            refine va_get (D := (dC, dI)) (ci := 11) (v := .int tx) (C := RX11) (T := TX11) (N := 41) hx hb hts iX11 hown hK hP 0 rfl rfl 14 (by decide) (hts _ qw1141) (fun _ h9 => h9) rfl dX11_clause_261 ?_
            refine va_iald hx hb hK hP 4 0 rfl rfl (vp_in_iff.mpr ⟨by omega, by omega⟩) dX11_clause_264 ?_
            refine lv_topi (fun v264 e264 => ?_)
            have i264 : v264.toInt = (u134_5 tx.toInt.toNat).toInt ∧ 0 ≤ v264.toInt ∧ v264.toInt ≤ 518 := by have hq := ((show zPar u134_1 u134_0 u134_3 u134_4 u134_5 tx fC fV (520 * tx.toInt.toNat + (fD tx.toInt.toNat).toInt.toNat) (0) (fD tx.toInt.toNat).toInt.toNat (1) from by first | exact zPar_bad f134_11 (by omega) (by omega) (by omega))).2.2.1; have := zIx (n := tx.toInt.toNat) e264 (by omega); omega
            refine va_iast hx hb hK hP hD hS 8 0 rfl rfl (vp_in_iff.mpr ⟨by omega, by omega⟩) dX11_clause_265 (fun H locs hP9 hD9 hS9 => ?_)
            clear hP hD hS
            obtain ⟨v265_f, e265⟩ : ∃ g : Nat → Int32, g = upd fU (v17).toNatClampNeg v264 := ⟨_, rfl⟩
            rw [← e265] at hP9 hD9
            obtain ⟨hP, hD⟩ := zst (wX := [(h0, .inr (11, [.int th, .ref tB, .int tsz, .int u134_0, .int u134_1, .int u134_2, .ref rC, .ref rV, .ref rD, .ref rK, .ref rT, .ref rS, .ref rU, .int lw, .int tx, .ref rL, .ref rX, .ref qR, .ref qB, .ref qP, .int qnb, .int qnp, .ref aR, .ref aB, .ref aP, .int nb, .int np, .ref aN, .ref rf, .int ho, .int br, .ref aK, .int ac, .long dw, .ref aE, .int sr, .int sf, .ref aA, .ref aH, .ref aI, .int hi])), (tB, .inl (cI, 240, .inl fB)), (rC, .inl (cI, 2600, .inl u134_3)), (rV, .inl (cI, 2600, .inl u134_4)), (rD, .inl (cI, 5, .inl u134_5)), (rK, .inl (cI, 5, .inl fK)), (rT, .inl (cI, 700, .inl v104_f)), (rS, .inl (cI, 700, .inl v195_f)), (rU, .inl (cI, 700, .inl v265_f))]) hP9 hD9 rfl
            have hS := hS9
            clear hP9 hD9 hS9
            refine lv_aload_n hx hb dX11_clause_266 rfl (lv_at hl 2 rfl) ?_
            refine va_get (D := (dC, dI)) (ci := 11) (v := .ref rK) (C := RX11) (T := TX11) (N := 41) hx hb hts iX11 hown hK hP 0 rfl rfl 9 (by decide) (hts _ qw1136) (fun _ h9 => h9) rfl dX11_clause_267 ?_
            refine lv_aload_n hx hb dX11_clause_270 rfl (lv_at hl 2 rfl) ?_
            refine va_get (D := (dC, dI)) (ci := 11) (v := .int tx) (C := RX11) (T := TX11) (N := 41) hx hb hts iX11 hown hK hP 0 rfl rfl 14 (by decide) (hts _ qw1141) (fun _ h9 => h9) rfl dX11_clause_271 ?_
            refine lv_dup2_11 hx hb dX11_clause_274 rfl rfl ?_
            refine va_iald hx hb hK hP 5 0 rfl rfl (vp_in_iff.mpr ⟨by omega, by omega⟩) dX11_clause_275 ?_
            refine lv_topi (fun v275 e275 => ?_)
            have i275 : v275.toInt = (fK tx.toInt.toNat).toInt ∧ 0 ≤ v275.toInt ∧ v275.toInt ≤ 123 := by have := hrd.2.2.1; have := zIx (n := tx.toInt.toNat) e275 (by omega); omega
            refine lv_iconst (v := 1) hx hb dX11_clause_276 (by decide) ?_
            refine lv_iadd hx hb dX11_clause_277 ?_
            refine lv_topi (fun v277 e277 => ?_)
            have i277 : v277.toInt = v275.toInt + 1 := zadd e277 rfl (by decide) (by omega) (by omega)
            refine va_iast hx hb hK hP hD hS 5 0 rfl rfl (vp_in_iff.mpr ⟨by omega, by omega⟩) dX11_clause_278 (fun H locs hP9 hD9 hS9 => ?_)
            clear hP hD hS
            obtain ⟨v278_f, e278⟩ : ∃ g : Nat → Int32, g = upd fK (tx).toNatClampNeg v277 := ⟨_, rfl⟩
            rw [← e278] at hP9 hD9
            obtain ⟨hP, hD⟩ := zst (wX := [(h0, .inr (11, [.int th, .ref tB, .int tsz, .int u134_0, .int u134_1, .int u134_2, .ref rC, .ref rV, .ref rD, .ref rK, .ref rT, .ref rS, .ref rU, .int lw, .int tx, .ref rL, .ref rX, .ref qR, .ref qB, .ref qP, .int qnb, .int qnp, .ref aR, .ref aB, .ref aP, .int nb, .int np, .ref aN, .ref rf, .int ho, .int br, .ref aK, .int ac, .long dw, .ref aE, .int sr, .int sf, .ref aA, .ref aH, .ref aI, .int hi])), (tB, .inl (cI, 240, .inl fB)), (rC, .inl (cI, 2600, .inl u134_3)), (rV, .inl (cI, 2600, .inl u134_4)), (rD, .inl (cI, 5, .inl u134_5)), (rK, .inl (cI, 5, .inl v278_f)), (rT, .inl (cI, 700, .inl v104_f)), (rS, .inl (cI, 700, .inl v195_f)), (rU, .inl (cI, 700, .inl v265_f))]) hP9 hD9 rfl
            have hS := hS9
            clear hP9 hD9 hS9
            rw [hQ]
            exact W.vret hx hb hr (fun t ht hW => ⟨⟨(u134_0, u134_1, u134_2, u134_3, u134_4, u134_5, v278_f, v104_f, v195_f, v265_f), rfl, ⟨by (try dsimp only); omega, by (try dsimp only); omega, by (try dsimp only); omega, by (try dsimp only); omega, by (try dsimp only); omega, by (try dsimp only); omega, by (try dsimp only); omega, by (try dsimp only); omega, by (try dsimp only); omega, by (try dsimp only); first | exact zRd_A hrd (show zPar u134_1 u134_0 u134_3 u134_4 u134_5 tx fC fV (520 * tx.toInt.toNat + (fD tx.toInt.toNat).toInt.toNat) (0) (fD tx.toInt.toNat).toInt.toNat (1) from by first | exact zPar_bad f134_11 (by omega) (by omega) (by omega)) (by omega) (by omega) (by omega) e104 e195 e265 e278 (by omega) (by omega) (by omega) (by omega) (by omega) (by omega), by (try dsimp only); exact zclX F28 (by omega) i46 F59 (by omega) i77 (zc2T (zLk_tr F106 F115) (Or.inr (by omega)) (zqm0 F134 (by omega))), by (try dsimp only); exact fun hw => absurd hw (by omega)⟩, ⟨by rw [ht]; exact hP, hD⟩⟩, hS.F ht⟩) hS.2.2 dX11_clause_279
          · have c205 : u134_1.toInt = (-1) := z5 rfl (by decide) c205
            refine lv_aload_n hx hb dX11_clause_208 rfl (lv_at hl 2 rfl) ?_
            obtain ⟨hPc, hDc, hFc⟩ := zc3 (wc := [(h0, .inr (11, [.int th, .ref tB, .int tsz, .int u134_0, .int u134_1, .int u134_2, .ref rC, .ref rV, .ref rD, .ref rK, .ref rT, .ref rS, .ref rU, .int lw, .int tx, .ref rL, .ref rX, .ref qR, .ref qB, .ref qP, .int qnb, .int qnp, .ref aR, .ref aB, .ref aP, .int nb, .int np, .ref aN, .ref rf, .int ho, .int br, .ref aK, .int ac, .long dw, .ref aE, .int sr, .int sf, .ref aA, .ref aH, .ref aI, .int hi])), (tB, .inl (cI, 240, .inl fB))]) hP hD hS hA [0, 1] (by decide +kernel) rfl
            refine va_calli (va_runV (As := []) (rest := []) ⟨hx, hb, hml, hown, hts⟩ (g_X11_look_t l dC dI cI cJ h0 th tB tsz u134_0 u134_1 u134_2 rC rV rD rK rT rS rU lw tx rL rX qR qB qP qnb qnp aR aB aP nb np aN rf ho br aK ac dw aE sr sf aA aH aI hi fB H.size y_ac y_hi y_ho y_lw y_nb y_np y_qnb y_qnp (by omega) n_tsz ⟨f134_2, f134_3⟩) (cwV 0 hts (zgV qw1273 qw1275 qw32 qw108 qw1276) rfl rfl rfl hd_X11_look ⟨by rw [hR]; exact Nat.le_of_ble_eq_true rfl, by rw [hR]; exact Nat.le_of_ble_eq_true rfl⟩) (zPV hPc hK hDc (va_recv (q := (RX11, TX11, 41)) hK hP (ci := 11) (q0 := 0) rfl rfl)) rfl rfl hl.1 rfl (lv_room (Nat.le_of_ble_eq_true rfl)) dX11_clause_209 ⟨Nat.zero_le _, Nat.zero_le _⟩) hS (fun q _ h => hFc q h) hFc (fun v209 u209 t H locs ht hvm hw hB hz1 hk1 hS9 => ?_)
            obtain ⟨u209_0, rfl⟩ : ∃ z, z = u209 := ⟨_, rfl⟩
            obtain ⟨hP9, hD9⟩ := zj2 (wX := [(h0, .inr (11, [.int th, .ref tB, .int tsz, .int u209_0, .int u134_1, .int u134_2, .ref rC, .ref rV, .ref rD, .ref rK, .ref rT, .ref rS, .ref rU, .int lw, .int tx, .ref rL, .ref rX, .ref qR, .ref qB, .ref qP, .int qnb, .int qnp, .ref aR, .ref aB, .ref aP, .int nb, .int np, .ref aN, .ref rf, .int ho, .int br, .ref aK, .int ac, .long dw, .ref aE, .int sr, .int sf, .ref aA, .ref aH, .ref aI, .int hi])), (tB, .inl (cI, 240, .inl fB)), (rC, .inl (cI, 2600, .inl u134_3)), (rV, .inl (cI, 2600, .inl u134_4)), (rD, .inl (cI, 5, .inl u134_5)), (rK, .inl (cI, 5, .inl fK)), (rT, .inl (cI, 700, .inl v104_f)), (rS, .inl (cI, 700, .inl v195_f)), (rU, .inl (cI, 700, .inl fU))]) hP hD hk1 hFc ht hB [0, 1] [(true, 0), (true, 1), (false, 2), (false, 3), (false, 4), (false, 5), (false, 6), (false, 7), (false, 8)] rfl (by decide +kernel) (by decide +kernel) rfl
            clear hP hD hS hPc hDc hFc hB hk1 hz1 hvm
            have hP := hP9
            have hD := hD9
            have hS := hS9
            clear hP9 hD9 hS9
            obtain ⟨f209_0, f209_1, f209_2, f209_3, f209_4, f209_5⟩ : (0 ≤ u209_0.toInt) ∧ (u209_0.toInt ≤ 240) ∧ (¬ v209.toInt = -1 → u209_0.toInt < tsz.toInt) ∧ (u134_0.toInt ≤ u209_0.toInt) ∧ (u209_0.toInt ≤ tsz.toInt ∨ u209_0.toInt = u134_0.toInt) ∧ (zLk fB tsz u134_0 v209 u209_0) := hw
            have F209 := f209_5
            refine lv_bipush (v := 63) hx hb dX11_clause_212 (by decide) ?_
            refine lv_icmp_eq (tgt := 222) hx hb dX11_clause_214 (by decide) (fun c214 => ?_) (fun c214 => ?_)
            · have c214 : v209.toInt = 63 := z5 rfl (by decide) c214
              refine lv_aload_n hx hb dX11_clause_222 rfl (lv_at hl 2 rfl) ?_
              refine lv_dup hx hb dX11_clause_223 rfl ?_
              refine va_get (D := (dC, dI)) (ci := 11) (v := .int u209_0) (C := RX11) (T := TX11) (N := 41) hx hb hts iX11 hown hK hP 0 rfl rfl 3 (by decide) (hts _ qw1130) (fun _ h9 => h9) rfl dX11_clause_224 ?_
              refine lv_iconst (v := 1) hx hb dX11_clause_227 (by decide) ?_
              refine lv_iadd hx hb dX11_clause_228 ?_
              refine lv_topi (fun v228 e228 => ?_)
              have i228 : v228.toInt = u209_0.toInt + 1 := zadd e228 rfl (by decide) (by omega) (by omega)
              refine va_put (D := (dC, dI)) (ci := 11) (v := .int v228) (ty := .int) (C := RX11) (T := TX11) (N := 41) hx hb hts iX11 tyX11 tyX11_ok nmX11 hown hK hP hD hS 0 rfl rfl 3 (by decide) (hts _ qw1130) (fun _ h9 => h9) rfl (by decide +kernel) rfl rfl (Nat.le_of_ble_eq_true rfl) dX11_clause_229 (fun H locs hP9 hD9 hS9 => ?_)
              clear hP hD hS
              obtain ⟨hP, hD⟩ := zst (wX := [(h0, .inr (11, [.int th, .ref tB, .int tsz, .int v228, .int u134_1, .int u134_2, .ref rC, .ref rV, .ref rD, .ref rK, .ref rT, .ref rS, .ref rU, .int lw, .int tx, .ref rL, .ref rX, .ref qR, .ref qB, .ref qP, .int qnb, .int qnp, .ref aR, .ref aB, .ref aP, .int nb, .int np, .ref aN, .ref rf, .int ho, .int br, .ref aK, .int ac, .long dw, .ref aE, .int sr, .int sf, .ref aA, .ref aH, .ref aI, .int hi])), (tB, .inl (cI, 240, .inl fB)), (rC, .inl (cI, 2600, .inl u134_3)), (rV, .inl (cI, 2600, .inl u134_4)), (rD, .inl (cI, 5, .inl u134_5)), (rK, .inl (cI, 5, .inl fK)), (rT, .inl (cI, 700, .inl v104_f)), (rS, .inl (cI, 700, .inl v195_f)), (rU, .inl (cI, 700, .inl fU))]) hP9 hD9 rfl
              have hS := hS9
              clear hP9 hD9 hS9
              refine lv_aload_n hx hb dX11_clause_232 rfl (lv_at hl 2 rfl) ?_
              refine va_get (D := (dC, dI)) (ci := 11) (v := .ref rS) (C := RX11) (T := TX11) (N := 41) hx hb hts iX11 hown hK hP 0 rfl rfl 11 (by decide) (hts _ qw1138) (fun _ h9 => h9) rfl dX11_clause_233 ?_
              refine lv_iload_n hx hb dX11_clause_236 rfl (lv_at hl 1 rfl) ?_
              refine lv_aload_n hx hb dX11_clause_237 rfl (lv_at hl 2 rfl) ?_
              refine va_get (D := (dC, dI)) (ci := 11) (v := .ref rD) (C := RX11) (T := TX11) (N := 41) hx hb hts iX11 hown hK hP 0 rfl rfl 8 (by decide) (hts _ qw1135) (fun _ h9 => h9) rfl dX11_clause_238 ?_
              refine lv_aload_n hx hb dX11_clause_241 rfl (lv_at hl 2 rfl) ?_
              refine va_get (D := (dC, dI)) (ci := 11) (v := .int tx) (C := RX11) (T := TX11) (N := 41) hx hb hts iX11 hown hK hP 0 rfl rfl 14 (by decide) (hts _ qw1141) (fun _ h9 => h9) rfl dX11_clause_242 ?_
              refine va_iald hx hb hK hP 4 0 rfl rfl (vp_in_iff.mpr ⟨by omega, by omega⟩) dX11_clause_245 ?_
              refine lv_topi (fun v245 e245 => ?_)
              have i245 : v245.toInt = (u134_5 tx.toInt.toNat).toInt ∧ 0 ≤ v245.toInt ∧ v245.toInt ≤ 518 := by have hq := ((show zPar u134_1 v228 u134_3 u134_4 u134_5 tx fC fV (520 * tx.toInt.toNat + (fD tx.toInt.toNat).toInt.toNat) (0) (fD tx.toInt.toNat).toInt.toNat (1) from by first | exact zPar_mono f134_11 (by omega) (by omega) (by omega) (by omega))).2.2.1; have := zIx (n := tx.toInt.toNat) e245 (by omega); omega
              refine va_iast hx hb hK hP hD hS 7 0 rfl rfl (vp_in_iff.mpr ⟨by omega, by omega⟩) dX11_clause_246 (fun H locs hP9 hD9 hS9 => ?_)
              clear hP hD hS
              obtain ⟨v246_f, e246⟩ : ∃ g : Nat → Int32, g = upd v195_f (v17).toNatClampNeg v245 := ⟨_, rfl⟩
              rw [← e246] at hP9 hD9
              obtain ⟨hP, hD⟩ := zst (wX := [(h0, .inr (11, [.int th, .ref tB, .int tsz, .int v228, .int u134_1, .int u134_2, .ref rC, .ref rV, .ref rD, .ref rK, .ref rT, .ref rS, .ref rU, .int lw, .int tx, .ref rL, .ref rX, .ref qR, .ref qB, .ref qP, .int qnb, .int qnp, .ref aR, .ref aB, .ref aP, .int nb, .int np, .ref aN, .ref rf, .int ho, .int br, .ref aK, .int ac, .long dw, .ref aE, .int sr, .int sf, .ref aA, .ref aH, .ref aI, .int hi])), (tB, .inl (cI, 240, .inl fB)), (rC, .inl (cI, 2600, .inl u134_3)), (rV, .inl (cI, 2600, .inl u134_4)), (rD, .inl (cI, 5, .inl u134_5)), (rK, .inl (cI, 5, .inl fK)), (rT, .inl (cI, 700, .inl v104_f)), (rS, .inl (cI, 700, .inl v246_f)), (rU, .inl (cI, 700, .inl fU))]) hP9 hD9 rfl
              have hS := hS9
              clear hP9 hD9 hS9
              have hp247 : zPar u134_1 v228 u134_3 u134_4 u134_5 tx u134_3 u134_4 (520 * tx.toInt.toNat + (u134_5 tx.toInt.toNat).toInt.toNat) (2) (u134_5 tx.toInt.toNat).toInt.toNat (0) := zPar_new (show zPar u134_1 v228 u134_3 u134_4 u134_5 tx fC fV (520 * tx.toInt.toNat + (fD tx.toInt.toNat).toInt.toNat) (2) (fD tx.toInt.toNat).toInt.toNat (1) from by first | exact zPar_mono f134_11 (by omega) (by omega) (by omega) (by omega))
              refine lv_aload_n hx hb dX11_clause_247 rfl (lv_at hl 2 rfl) ?_
              have zx_u134_1 : ((-1) : Int32).toInt = (-1) := by decide
              have zy_u134_1 : u134_1 = (-1) := z7 (a := (-1)) (by decide) (by omega)
              rw [zy_u134_1] at hP hD
              obtain ⟨hPc, hDc, hFc⟩ := zc3 (wc := [(h0, .inr (11, [.int th, .ref tB, .int tsz, .int v228, .int (-1), .int u134_2, .ref rC, .ref rV, .ref rD, .ref rK, .ref rT, .ref rS, .ref rU, .int lw, .int tx, .ref rL, .ref rX, .ref qR, .ref qB, .ref qP, .int qnb, .int qnp, .ref aR, .ref aB, .ref aP, .int nb, .int np, .ref aN, .ref rf, .int ho, .int br, .ref aK, .int ac, .long dw, .ref aE, .int sr, .int sf, .ref aA, .ref aH, .ref aI, .int hi])), (tB, .inl (cI, 240, .inl fB)), (rC, .inl (cI, 2600, .inl u134_3)), (rV, .inl (cI, 2600, .inl u134_4)), (rD, .inl (cI, 5, .inl u134_5))]) hP hD hS hA [0, 1, 2, 3, 4] (by decide +kernel) rfl
              refine va_callv (va_runV (As := []) (rest := []) ⟨hx, hb, hml, hown, hts⟩ (zE_S6 l dC dI cI cJ h0 th tB tsz v228 u134_2 rC rV rD rK rT rS rU lw tx rL rX qR qB qP qnb qnp aR aB aP nb np aN rf ho br aK ac dw aE sr sf aA aH aI hi fB u134_3 u134_4 u134_5 u134_3 u134_4 ((520 * tx.toInt.toNat + (u134_5 tx.toInt.toNat).toInt.toNat)) 1 ((u134_5 tx.toInt.toNat).toInt.toNat) 0 H.size y_ac (by omega) y_hi y_ho y_lw y_nb y_np y_qnb y_qnp (by omega) n_tsz n_tx (by first | exact zPar_mono hp247 (by omega) (by omega) (by omega) (by omega)) (by first | decide | omega) (by first | decide | omega) (by first | decide | omega) (by first | decide | omega)) (cwV 0 hts (zgV qw1340 qw1342 qw45 qw108 qw1343) rfl rfl rfl hd_X11_sum ⟨by rw [hR]; exact Nat.le_of_ble_eq_true rfl, by rw [hR]; exact Nat.le_of_ble_eq_true rfl⟩) (zPV hPc hK hDc (va_recv (q := (RX11, TX11, 41)) hK hP (ci := 11) (q0 := 0) rfl rfl)) rfl rfl hl.1 rfl (lv_room (Nat.le_of_ble_eq_true rfl)) dX11_clause_248 ⟨Nat.zero_le _, Nat.zero_le _⟩) hS (fun q _ h => hFc q h) hFc (fun u248 t H locs ht hvm hw hB hz1 hk1 hS9 => ?_)
              obtain ⟨u248_0, u248_1, u248_2, u248_3, u248_4, u248_5⟩ := u248
              obtain ⟨hP9, hD9⟩ := zj2 (wX := [(h0, .inr (11, [.int th, .ref tB, .int tsz, .int u248_0, .int u248_1, .int u248_2, .ref rC, .ref rV, .ref rD, .ref rK, .ref rT, .ref rS, .ref rU, .int lw, .int tx, .ref rL, .ref rX, .ref qR, .ref qB, .ref qP, .int qnb, .int qnp, .ref aR, .ref aB, .ref aP, .int nb, .int np, .ref aN, .ref rf, .int ho, .int br, .ref aK, .int ac, .long dw, .ref aE, .int sr, .int sf, .ref aA, .ref aH, .ref aI, .int hi])), (tB, .inl (cI, 240, .inl fB)), (rC, .inl (cI, 2600, .inl u248_3)), (rV, .inl (cI, 2600, .inl u248_4)), (rD, .inl (cI, 5, .inl u248_5)), (rK, .inl (cI, 5, .inl fK)), (rT, .inl (cI, 700, .inl v104_f)), (rS, .inl (cI, 700, .inl v246_f)), (rU, .inl (cI, 700, .inl fU))]) hP hD hk1 hFc ht hB [0, 1, 2, 3, 4] [(true, 0), (true, 1), (true, 2), (true, 3), (true, 4), (false, 5), (false, 6), (false, 7), (false, 8)] rfl (by decide +kernel) (by decide +kernel) rfl
              clear hP hD hS hPc hDc hFc hB hk1 hz1 hvm
              have hP := hP9
              have hD := hD9
              have hS := hS9
              clear hP9 hD9 hS9
              obtain ⟨f248_0, f248_1, f248_2, f248_3, f248_4, f248_5, f248_6, f248_7, f248_8, f248_9, f248_10, f248_11⟩ : (0 ≤ u248_0.toInt) ∧ (u248_0.toInt ≤ 246) ∧ ((-1) ≤ u248_1.toInt) ∧ (u248_1.toInt ≤ 260) ∧ (0 ≤ u248_2.toInt) ∧ (u248_2.toInt ≤ 7) ∧ (u248_1.toInt = -1 → (u248_0.toInt ≤ tsz.toInt ∧ u248_2.toInt = 6 - ((6 : Nat) : Int))) ∧ (v228.toInt ≤ u248_0.toInt) ∧ (u248_0.toInt ≤ 240 + ((6 : Nat) : Int) ∧ 6 - ((6 : Nat) : Int) ≤ u248_2.toInt ∧ u248_2.toInt ≤ 7 - ((6 : Nat) : Int)) ∧ (zW (sSum (sB fB tsz.toInt) tsz.toInt 6 v228.toInt) u248_1 u248_0) ∧ (u248_1.toInt = -1 → zEr u134_3 u134_4 (520 * tx.toInt.toNat) (u134_5 tx.toInt.toNat).toInt ((eSum (sB fB tsz.toInt) tsz.toInt 6) v228.toInt) u248_3 u248_4 (u248_5 tx.toInt.toNat).toInt) ∧ (zPar u248_1 u248_0 u248_3 u248_4 u248_5 tx u134_3 u134_4 ((520 * tx.toInt.toNat + (u134_5 tx.toInt.toNat).toInt.toNat)) (1) ((u134_5 tx.toInt.toNat).toInt.toNat) (0 + 1)) := hw
              have F248 := f248_9
              have F248_1 : zHid (u248_1.toInt = -1 → zEr u134_3 u134_4 (520 * tx.toInt.toNat) (u134_5 tx.toInt.toNat).toInt ((eSum (sB fB tsz.toInt) tsz.toInt 6) v228.toInt) u248_3 u248_4 (u248_5 tx.toInt.toNat).toInt) := f248_10
              clear f248_10
              refine lv_aload_n hx hb dX11_clause_251 rfl (lv_at hl 2 rfl) ?_
              refine va_get (D := (dC, dI)) (ci := 11) (v := .ref rU) (C := RX11) (T := TX11) (N := 41) hx hb hts iX11 hown hK hP 0 rfl rfl 12 (by decide) (hts _ qw1139) (fun _ h9 => h9) rfl dX11_clause_252 ?_
              refine lv_iload_n hx hb dX11_clause_255 rfl (lv_at hl 1 rfl) ?_
              refine lv_aload_n hx hb dX11_clause_256 rfl (lv_at hl 2 rfl) ?_
              refine va_get (D := (dC, dI)) (ci := 11) (v := .ref rD) (C := RX11) (T := TX11) (N := 41) hx hb hts iX11 hown hK hP 0 rfl rfl 8 (by decide) (hts _ qw1135) (fun _ h9 => h9) rfl dX11_clause_257 ?_
              refine lv_aload_n hx hb dX11_clause_260 rfl (lv_at hl 2 rfl) ?_
              refine va_get (D := (dC, dI)) (ci := 11) (v := .int tx) (C := RX11) (T := TX11) (N := 41) hx hb hts iX11 hown hK hP 0 rfl rfl 14 (by decide) (hts _ qw1141) (fun _ h9 => h9) rfl dX11_clause_261 ?_
              refine va_iald hx hb hK hP 4 0 rfl rfl (vp_in_iff.mpr ⟨by omega, by omega⟩) dX11_clause_264 ?_
              refine lv_topi (fun v264 e264 => ?_)
              have i264 : v264.toInt = (u248_5 tx.toInt.toNat).toInt ∧ 0 ≤ v264.toInt ∧ v264.toInt ≤ 518 := by have hq := ((show zPar u248_1 u248_0 u248_3 u248_4 u248_5 tx u134_3 u134_4 (520 * tx.toInt.toNat + (u134_5 tx.toInt.toNat).toInt.toNat) (0) (u134_5 tx.toInt.toNat).toInt.toNat (1) from by first | exact zPar_mono f248_11 (by omega) (by omega) (by omega) (by omega))).2.2.1; have := zIx (n := tx.toInt.toNat) e264 (by omega); omega
              refine va_iast hx hb hK hP hD hS 8 0 rfl rfl (vp_in_iff.mpr ⟨by omega, by omega⟩) dX11_clause_265 (fun H locs hP9 hD9 hS9 => ?_)
              clear hP hD hS
              obtain ⟨v265_f, e265⟩ : ∃ g : Nat → Int32, g = upd fU (v17).toNatClampNeg v264 := ⟨_, rfl⟩
              rw [← e265] at hP9 hD9
              obtain ⟨hP, hD⟩ := zst (wX := [(h0, .inr (11, [.int th, .ref tB, .int tsz, .int u248_0, .int u248_1, .int u248_2, .ref rC, .ref rV, .ref rD, .ref rK, .ref rT, .ref rS, .ref rU, .int lw, .int tx, .ref rL, .ref rX, .ref qR, .ref qB, .ref qP, .int qnb, .int qnp, .ref aR, .ref aB, .ref aP, .int nb, .int np, .ref aN, .ref rf, .int ho, .int br, .ref aK, .int ac, .long dw, .ref aE, .int sr, .int sf, .ref aA, .ref aH, .ref aI, .int hi])), (tB, .inl (cI, 240, .inl fB)), (rC, .inl (cI, 2600, .inl u248_3)), (rV, .inl (cI, 2600, .inl u248_4)), (rD, .inl (cI, 5, .inl u248_5)), (rK, .inl (cI, 5, .inl fK)), (rT, .inl (cI, 700, .inl v104_f)), (rS, .inl (cI, 700, .inl v246_f)), (rU, .inl (cI, 700, .inl v265_f))]) hP9 hD9 rfl
              have hS := hS9
              clear hP9 hD9 hS9
              refine lv_aload_n hx hb dX11_clause_266 rfl (lv_at hl 2 rfl) ?_
              refine va_get (D := (dC, dI)) (ci := 11) (v := .ref rK) (C := RX11) (T := TX11) (N := 41) hx hb hts iX11 hown hK hP 0 rfl rfl 9 (by decide) (hts _ qw1136) (fun _ h9 => h9) rfl dX11_clause_267 ?_
              refine lv_aload_n hx hb dX11_clause_270 rfl (lv_at hl 2 rfl) ?_
              refine va_get (D := (dC, dI)) (ci := 11) (v := .int tx) (C := RX11) (T := TX11) (N := 41) hx hb hts iX11 hown hK hP 0 rfl rfl 14 (by decide) (hts _ qw1141) (fun _ h9 => h9) rfl dX11_clause_271 ?_
              refine lv_dup2_11 hx hb dX11_clause_274 rfl rfl ?_
              refine va_iald hx hb hK hP 5 0 rfl rfl (vp_in_iff.mpr ⟨by omega, by omega⟩) dX11_clause_275 ?_
              refine lv_topi (fun v275 e275 => ?_)
              have i275 : v275.toInt = (fK tx.toInt.toNat).toInt ∧ 0 ≤ v275.toInt ∧ v275.toInt ≤ 123 := by have := hrd.2.2.1; have := zIx (n := tx.toInt.toNat) e275 (by omega); omega
              refine lv_iconst (v := 1) hx hb dX11_clause_276 (by decide) ?_
              refine lv_iadd hx hb dX11_clause_277 ?_
              refine lv_topi (fun v277 e277 => ?_)
              have i277 : v277.toInt = v275.toInt + 1 := zadd e277 rfl (by decide) (by omega) (by omega)
              refine va_iast hx hb hK hP hD hS 5 0 rfl rfl (vp_in_iff.mpr ⟨by omega, by omega⟩) dX11_clause_278 (fun H locs hP9 hD9 hS9 => ?_)
              clear hP hD hS
              obtain ⟨v278_f, e278⟩ : ∃ g : Nat → Int32, g = upd fK (tx).toNatClampNeg v277 := ⟨_, rfl⟩
              rw [← e278] at hP9 hD9
              obtain ⟨hP, hD⟩ := zst (wX := [(h0, .inr (11, [.int th, .ref tB, .int tsz, .int u248_0, .int u248_1, .int u248_2, .ref rC, .ref rV, .ref rD, .ref rK, .ref rT, .ref rS, .ref rU, .int lw, .int tx, .ref rL, .ref rX, .ref qR, .ref qB, .ref qP, .int qnb, .int qnp, .ref aR, .ref aB, .ref aP, .int nb, .int np, .ref aN, .ref rf, .int ho, .int br, .ref aK, .int ac, .long dw, .ref aE, .int sr, .int sf, .ref aA, .ref aH, .ref aI, .int hi])), (tB, .inl (cI, 240, .inl fB)), (rC, .inl (cI, 2600, .inl u248_3)), (rV, .inl (cI, 2600, .inl u248_4)), (rD, .inl (cI, 5, .inl u248_5)), (rK, .inl (cI, 5, .inl v278_f)), (rT, .inl (cI, 700, .inl v104_f)), (rS, .inl (cI, 700, .inl v246_f)), (rU, .inl (cI, 700, .inl v265_f))]) hP9 hD9 rfl
              have hS := hS9
              clear hP9 hD9 hS9
              rw [hQ]
              exact W.vret hx hb hr (fun t ht hW => ⟨⟨(u248_0, u248_1, u248_2, u248_3, u248_4, u248_5, v278_f, v104_f, v246_f, v265_f), rfl, ⟨by (try dsimp only); omega, by (try dsimp only); omega, by (try dsimp only); omega, by (try dsimp only); omega, by (try dsimp only); omega, by (try dsimp only); omega, by (try dsimp only); omega, by (try dsimp only); omega, by (try dsimp only); omega, by (try dsimp only); first | exact zRd_C hrd f134_11 (show zPar u248_1 u248_0 u248_3 u248_4 u248_5 tx u134_3 u134_4 (520 * tx.toInt.toNat + (u134_5 tx.toInt.toNat).toInt.toNat) (0) (u134_5 tx.toInt.toNat).toInt.toNat (1) from by first | exact zPar_mono f248_11 (by omega) (by omega) (by omega) (by omega)) (by omega) (by omega) (by omega) (by omega) (by omega) e104 e195 e246 e265 e278 (by omega) (by omega) (by omega) (by omega) (by omega) (by omega), by (try dsimp only); exact zclX F28 (by omega) i46 F59 (by omega) i77 (zc2T (zLk_tr F106 F115) (Or.inr (by omega)) (zqmY F134 (by omega) F209 (by omega) i228 F248)), by (try dsimp only); exact fun hw => zQc_mk (eAf_R F28 i46 F59 i77) (erT (zLk_tr F106 F115) (Or.inr (by omega)) F134 (by omega) (F134_1 (by omega)) F209 i228 (F248_1 (by omega)) (by omega)) (by omega) (by omega) e104 (by omega) (zup2 e195 e246).1 (by rw [(zup2 e195 e246).2]; omega) e265 (by omega) e278 (by omega)⟩, ⟨by rw [ht]; exact hP, hD⟩⟩, hS.F ht⟩) hS.2.2 dX11_clause_279
            · have c214 : ¬ v209.toInt = 63 := z6 rfl (by decide) c214
              refine lv_aload_n hx hb dX11_clause_217 rfl (lv_at hl 2 rfl) ?_
              have zx_u134_1 : ((-1) : Int32).toInt = (-1) := by decide
              have zy_u134_1 : u134_1 = (-1) := z7 (a := (-1)) (by decide) (by omega)
              rw [zy_u134_1] at hP hD
              obtain ⟨hPc, hDc, hFc⟩ := zc3 (wc := [(h0, .inr (11, [.int th, .ref tB, .int tsz, .int u209_0, .int (-1), .int u134_2, .ref rC, .ref rV, .ref rD, .ref rK, .ref rT, .ref rS, .ref rU, .int lw, .int tx, .ref rL, .ref rX, .ref qR, .ref qB, .ref qP, .int qnb, .int qnp, .ref aR, .ref aB, .ref aP, .int nb, .int np, .ref aN, .ref rf, .int ho, .int br, .ref aK, .int ac, .long dw, .ref aE, .int sr, .int sf, .ref aA, .ref aH, .ref aI, .int hi]))]) hP hD hS hA [0] (by decide +kernel) rfl
              refine va_callv (va_runV (As := []) (rest := []) ⟨hx, hb, hml, hown, hts⟩ (g_X11_bad_m l dC dI cI cJ h0 th tB tsz u209_0 u134_2 rC rV rD rK rT rS rU lw tx rL rX qR qB qP qnb qnp aR aB aP nb np aN rf ho br aK ac dw aE sr sf aA aH aI hi H.size y_ac y_hi y_ho y_lw y_nb y_np y_qnb y_qnp (by omega) n_tsz) (cwV 0 hts (zgV qw1301 qw1303 qw36 qw108 qw1304) rfl rfl rfl hd_X11_bad ⟨by rw [hR]; exact Nat.le_of_ble_eq_true rfl, by rw [hR]; exact Nat.le_of_ble_eq_true rfl⟩) (zPV hPc hK hDc (va_recv (q := (RX11, TX11, 41)) hK hP (ci := 11) (q0 := 0) rfl rfl)) rfl rfl hl.1 rfl (lv_room (Nat.le_of_ble_eq_true rfl)) dX11_clause_218 ⟨Nat.zero_le _, Nat.zero_le _⟩) hS (fun q _ h => hFc q h) hFc (fun u218 t H locs ht hvm hw hB hz1 hk1 hS9 => ?_)
              obtain ⟨hP9, hD9⟩ := zj2 (wX := [(h0, .inr (11, [.int th, .ref tB, .int tsz, .int u209_0, .int u209_0, .int u134_2, .ref rC, .ref rV, .ref rD, .ref rK, .ref rT, .ref rS, .ref rU, .int lw, .int tx, .ref rL, .ref rX, .ref qR, .ref qB, .ref qP, .int qnb, .int qnp, .ref aR, .ref aB, .ref aP, .int nb, .int np, .ref aN, .ref rf, .int ho, .int br, .ref aK, .int ac, .long dw, .ref aE, .int sr, .int sf, .ref aA, .ref aH, .ref aI, .int hi])), (tB, .inl (cI, 240, .inl fB)), (rC, .inl (cI, 2600, .inl u134_3)), (rV, .inl (cI, 2600, .inl u134_4)), (rD, .inl (cI, 5, .inl u134_5)), (rK, .inl (cI, 5, .inl fK)), (rT, .inl (cI, 700, .inl v104_f)), (rS, .inl (cI, 700, .inl v195_f)), (rU, .inl (cI, 700, .inl fU))]) hP hD hk1 hFc ht hB [0] [(true, 0), (false, 1), (false, 2), (false, 3), (false, 4), (false, 5), (false, 6), (false, 7), (false, 8)] rfl (by decide +kernel) (by decide +kernel) rfl
              clear hP hD hS hPc hDc hFc hB hk1 hz1 hvm
              have hP := hP9
              have hD := hD9
              have hS := hS9
              clear hP9 hD9 hS9
              rw [hQ]
              exact W.vret hx hb hr (fun t ht hW => ⟨⟨(u209_0, u209_0, u134_2, u134_3, u134_4, u134_5, fK, v104_f, v195_f, fU), rfl, ⟨by (try dsimp only); omega, by (try dsimp only); omega, by (try dsimp only); omega, by (try dsimp only); omega, by (try dsimp only); omega, by (try dsimp only); omega, by (try dsimp only); omega, by (try dsimp only); omega, by (try dsimp only); omega, by (try dsimp only); first | exact zRd_B hrd (show zPar u209_0 u209_0 u134_3 u134_4 u134_5 tx fC fV (520 * tx.toInt.toNat + (fD tx.toInt.toNat).toInt.toNat) (0) (fD tx.toInt.toNat).toInt.toNat (1) from by first | exact zPar_bad f134_11 (by omega) (by omega) (by omega)) (by omega) (by omega) e104 e195 (by omega), by (try dsimp only); exact zclX F28 (by omega) i46 F59 (by omega) i77 (zc2T (zLk_tr F106 F115) (Or.inr (by omega)) (zqmN F134 (by omega) F209 (by omega) (by omega) (by omega))), by (try dsimp only); exact fun hw => absurd hw (by omega)⟩, ⟨by rw [ht]; exact hP, hD⟩⟩, hS.F ht⟩) hS.2.2 dX11_clause_221
    · have c64 : ¬ v59.toInt = 58 := z6 rfl (by decide) c64
      refine lv_aload_n hx hb dX11_clause_67 rfl (lv_at hl 1 rfl) ?_
      obtain ⟨hPc, hDc, hFc⟩ := zc3 (wc := [(h0, .inr (11, [.int th, .ref tB, .int tsz, .int u59_0, .int (-1), .int 0, .ref rC, .ref rV, .ref rD, .ref rK, .ref rT, .ref rS, .ref rU, .int lw, .int tx, .ref rL, .ref rX, .ref qR, .ref qB, .ref qP, .int qnb, .int qnp, .ref aR, .ref aB, .ref aP, .int nb, .int np, .ref aN, .ref rf, .int ho, .int br, .ref aK, .int ac, .long dw, .ref aE, .int sr, .int sf, .ref aA, .ref aH, .ref aI, .int hi]))]) hP hD hS hA [0] (by decide +kernel) rfl
      refine va_callv (va_runV (As := []) (rest := []) ⟨hx, hb, hml, hown, hts⟩ (g_X11_bad_m l dC dI cI cJ h0 th tB tsz u59_0 0 rC rV rD rK rT rS rU lw tx rL rX qR qB qP qnb qnp aR aB aP nb np aN rf ho br aK ac dw aE sr sf aA aH aI hi H.size y_ac y_hi y_ho y_lw y_nb y_np y_qnb y_qnp (by omega) n_tsz) (cwV 0 hts (zgV qw1301 qw1303 qw36 qw108 qw1304) rfl rfl rfl hd_X11_bad ⟨by rw [hR]; exact Nat.le_of_ble_eq_true rfl, by rw [hR]; exact Nat.le_of_ble_eq_true rfl⟩) (zPV hPc hK hDc (va_recv (q := (RX11, TX11, 41)) hK hP (ci := 11) (q0 := 0) rfl rfl)) rfl rfl hl.1 rfl (lv_room (Nat.le_of_ble_eq_true rfl)) dX11_clause_68 ⟨Nat.zero_le _, Nat.zero_le _⟩) hS (fun q _ h => hFc q h) hFc (fun u68 t H locs ht hvm hw hB hz1 hk1 hS9 => ?_)
      obtain ⟨hP9, hD9⟩ := zj2 (wX := [(h0, .inr (11, [.int th, .ref tB, .int tsz, .int u59_0, .int u59_0, .int 0, .ref rC, .ref rV, .ref rD, .ref rK, .ref rT, .ref rS, .ref rU, .int lw, .int tx, .ref rL, .ref rX, .ref qR, .ref qB, .ref qP, .int qnb, .int qnp, .ref aR, .ref aB, .ref aP, .int nb, .int np, .ref aN, .ref rf, .int ho, .int br, .ref aK, .int ac, .long dw, .ref aE, .int sr, .int sf, .ref aA, .ref aH, .ref aI, .int hi])), (tB, .inl (cI, 240, .inl fB)), (rC, .inl (cI, 2600, .inl fC)), (rV, .inl (cI, 2600, .inl fV)), (rD, .inl (cI, 5, .inl fD)), (rK, .inl (cI, 5, .inl fK)), (rT, .inl (cI, 700, .inl fT)), (rS, .inl (cI, 700, .inl fS)), (rU, .inl (cI, 700, .inl fU))]) hP hD hk1 hFc ht hB [0] [(true, 0), (false, 1), (false, 2), (false, 3), (false, 4), (false, 5), (false, 6), (false, 7), (false, 8)] rfl (by decide +kernel) (by decide +kernel) rfl
      clear hP hD hS hPc hDc hFc hB hk1 hz1 hvm
      have hP := hP9
      have hD := hD9
      have hS := hS9
      clear hP9 hD9 hS9
      refine lv_aload_n hx hb dX11_clause_71 rfl (lv_at hl 1 rfl) ?_
      refine lv_dup hx hb dX11_clause_72 rfl ?_
      refine va_get (D := (dC, dI)) (ci := 11) (v := .int u59_0) (C := RX11) (T := TX11) (N := 41) hx hb hts iX11 hown hK hP 0 rfl rfl 3 (by decide) (hts _ qw1130) (fun _ h9 => h9) rfl dX11_clause_73 ?_
      refine lv_iconst (v := 1) hx hb dX11_clause_76 (by decide) ?_
      refine lv_iadd hx hb dX11_clause_77 ?_
      refine lv_topi (fun v77 e77 => ?_)
      have i77 : v77.toInt = u59_0.toInt + 1 := zadd e77 rfl (by decide) (by omega) (by omega)
      refine va_put (D := (dC, dI)) (ci := 11) (v := .int v77) (ty := .int) (C := RX11) (T := TX11) (N := 41) hx hb hts iX11 tyX11 tyX11_ok nmX11 hown hK hP hD hS 0 rfl rfl 3 (by decide) (hts _ qw1130) (fun _ h9 => h9) rfl (by decide +kernel) rfl rfl (Nat.le_of_ble_eq_true rfl) dX11_clause_78 (fun H locs hP9 hD9 hS9 => ?_)
      clear hP hD hS
      obtain ⟨hP, hD⟩ := zst (wX := [(h0, .inr (11, [.int th, .ref tB, .int tsz, .int v77, .int u59_0, .int 0, .ref rC, .ref rV, .ref rD, .ref rK, .ref rT, .ref rS, .ref rU, .int lw, .int tx, .ref rL, .ref rX, .ref qR, .ref qB, .ref qP, .int qnb, .int qnp, .ref aR, .ref aB, .ref aP, .int nb, .int np, .ref aN, .ref rf, .int ho, .int br, .ref aK, .int ac, .long dw, .ref aE, .int sr, .int sf, .ref aA, .ref aH, .ref aI, .int hi])), (tB, .inl (cI, 240, .inl fB)), (rC, .inl (cI, 2600, .inl fC)), (rV, .inl (cI, 2600, .inl fV)), (rD, .inl (cI, 5, .inl fD)), (rK, .inl (cI, 5, .inl fK)), (rT, .inl (cI, 700, .inl fT)), (rS, .inl (cI, 700, .inl fS)), (rU, .inl (cI, 700, .inl fU))]) hP9 hD9 rfl
      have hS := hS9
      clear hP9 hD9 hS9
      refine lv_aload_n hx hb dX11_clause_81 rfl (lv_at hl 1 rfl) ?_
      refine va_get (D := (dC, dI)) (ci := 11) (v := .int u59_0) (C := RX11) (T := TX11) (N := 41) hx hb hts iX11 hown hK hP 0 rfl rfl 4 (by decide) (hts _ qw1131) (fun _ h9 => h9) rfl dX11_clause_82 ?_
      refine lv_iconst (v := (-1)) hx hb dX11_clause_85 (by decide) ?_
      refine lv_icmp_eq (tgt := 90) hx hb dX11_clause_86 (by decide) (fun c86 => by exfalso; have c86 : u59_0.toInt = (-1) := z5 rfl (by decide) c86; omega) (fun c86 => ?_)
      have c86 : ¬ u59_0.toInt = (-1) := z6 rfl (by decide) c86
      have zr3 : (0 : Int32).toInt = 0 := by decide
      rw [hQ]
      exact W.vret hx hb hr (fun t ht hW => ⟨⟨(v77, u59_0, 0, fC, fV, fD, fK, fT, fS, fU), rfl, ⟨by (try dsimp only); omega, by (try dsimp only); omega, by (try dsimp only); omega, by (try dsimp only); omega, by (try dsimp only); omega, by (try dsimp only); omega, by (try dsimp only); omega, by (try dsimp only); omega, by (try dsimp only); omega, by (try dsimp only); first | exact zRd_mono hrd (by omega) (by omega), by (try dsimp only); exact zclN F28 (by omega) i46 F59 (by omega) (by omega) (by omega), by (try dsimp only); exact fun hw => absurd hw (by omega)⟩, ⟨by rw [ht]; exact hP, hD⟩⟩, hS.F ht⟩) hS.2.2 dX11_clause_89
  · have c33 : ¬ v28.toInt = 121 := z6 rfl (by decide) c33
    refine lv_aload_n hx hb dX11_clause_36 rfl (lv_at hl 1 rfl) ?_
    obtain ⟨hPc, hDc, hFc⟩ := zc3 (wc := [(h0, .inr (11, [.int th, .ref tB, .int tsz, .int u28_0, .int (-1), .int 0, .ref rC, .ref rV, .ref rD, .ref rK, .ref rT, .ref rS, .ref rU, .int lw, .int tx, .ref rL, .ref rX, .ref qR, .ref qB, .ref qP, .int qnb, .int qnp, .ref aR, .ref aB, .ref aP, .int nb, .int np, .ref aN, .ref rf, .int ho, .int br, .ref aK, .int ac, .long dw, .ref aE, .int sr, .int sf, .ref aA, .ref aH, .ref aI, .int hi]))]) hP hD hS hA [0] (by decide +kernel) rfl
    refine va_callv (va_runV (As := []) (rest := []) ⟨hx, hb, hml, hown, hts⟩ (g_X11_bad_m l dC dI cI cJ h0 th tB tsz u28_0 0 rC rV rD rK rT rS rU lw tx rL rX qR qB qP qnb qnp aR aB aP nb np aN rf ho br aK ac dw aE sr sf aA aH aI hi H.size y_ac y_hi y_ho y_lw y_nb y_np y_qnb y_qnp (by omega) n_tsz) (cwV 0 hts (zgV qw1301 qw1303 qw36 qw108 qw1304) rfl rfl rfl hd_X11_bad ⟨by rw [hR]; exact Nat.le_of_ble_eq_true rfl, by rw [hR]; exact Nat.le_of_ble_eq_true rfl⟩) (zPV hPc hK hDc (va_recv (q := (RX11, TX11, 41)) hK hP (ci := 11) (q0 := 0) rfl rfl)) rfl rfl hl.1 rfl (lv_room (Nat.le_of_ble_eq_true rfl)) dX11_clause_37 ⟨Nat.zero_le _, Nat.zero_le _⟩) hS (fun q _ h => hFc q h) hFc (fun u37 t H locs ht hvm hw hB hz1 hk1 hS9 => ?_)
    obtain ⟨hP9, hD9⟩ := zj2 (wX := [(h0, .inr (11, [.int th, .ref tB, .int tsz, .int u28_0, .int u28_0, .int 0, .ref rC, .ref rV, .ref rD, .ref rK, .ref rT, .ref rS, .ref rU, .int lw, .int tx, .ref rL, .ref rX, .ref qR, .ref qB, .ref qP, .int qnb, .int qnp, .ref aR, .ref aB, .ref aP, .int nb, .int np, .ref aN, .ref rf, .int ho, .int br, .ref aK, .int ac, .long dw, .ref aE, .int sr, .int sf, .ref aA, .ref aH, .ref aI, .int hi])), (tB, .inl (cI, 240, .inl fB)), (rC, .inl (cI, 2600, .inl fC)), (rV, .inl (cI, 2600, .inl fV)), (rD, .inl (cI, 5, .inl fD)), (rK, .inl (cI, 5, .inl fK)), (rT, .inl (cI, 700, .inl fT)), (rS, .inl (cI, 700, .inl fS)), (rU, .inl (cI, 700, .inl fU))]) hP hD hk1 hFc ht hB [0] [(true, 0), (false, 1), (false, 2), (false, 3), (false, 4), (false, 5), (false, 6), (false, 7), (false, 8)] rfl (by decide +kernel) (by decide +kernel) rfl
    clear hP hD hS hPc hDc hFc hB hk1 hz1 hvm
    have hP := hP9
    have hD := hD9
    have hS := hS9
    clear hP9 hD9 hS9
    refine lv_aload_n hx hb dX11_clause_40 rfl (lv_at hl 1 rfl) ?_
    refine lv_dup hx hb dX11_clause_41 rfl ?_
    refine va_get (D := (dC, dI)) (ci := 11) (v := .int u28_0) (C := RX11) (T := TX11) (N := 41) hx hb hts iX11 hown hK hP 0 rfl rfl 3 (by decide) (hts _ qw1130) (fun _ h9 => h9) rfl dX11_clause_42 ?_
    refine lv_iconst (v := 1) hx hb dX11_clause_45 (by decide) ?_
    refine lv_iadd hx hb dX11_clause_46 ?_
    refine lv_topi (fun v46 e46 => ?_)
    have i46 : v46.toInt = u28_0.toInt + 1 := zadd e46 rfl (by decide) (by omega) (by omega)
    refine va_put (D := (dC, dI)) (ci := 11) (v := .int v46) (ty := .int) (C := RX11) (T := TX11) (N := 41) hx hb hts iX11 tyX11 tyX11_ok nmX11 hown hK hP hD hS 0 rfl rfl 3 (by decide) (hts _ qw1130) (fun _ h9 => h9) rfl (by decide +kernel) rfl rfl (Nat.le_of_ble_eq_true rfl) dX11_clause_47 (fun H locs hP9 hD9 hS9 => ?_)
    clear hP hD hS
    obtain ⟨hP, hD⟩ := zst (wX := [(h0, .inr (11, [.int th, .ref tB, .int tsz, .int v46, .int u28_0, .int 0, .ref rC, .ref rV, .ref rD, .ref rK, .ref rT, .ref rS, .ref rU, .int lw, .int tx, .ref rL, .ref rX, .ref qR, .ref qB, .ref qP, .int qnb, .int qnp, .ref aR, .ref aB, .ref aP, .int nb, .int np, .ref aN, .ref rf, .int ho, .int br, .ref aK, .int ac, .long dw, .ref aE, .int sr, .int sf, .ref aA, .ref aH, .ref aI, .int hi])), (tB, .inl (cI, 240, .inl fB)), (rC, .inl (cI, 2600, .inl fC)), (rV, .inl (cI, 2600, .inl fV)), (rD, .inl (cI, 5, .inl fD)), (rK, .inl (cI, 5, .inl fK)), (rT, .inl (cI, 700, .inl fT)), (rS, .inl (cI, 700, .inl fS)), (rU, .inl (cI, 700, .inl fU))]) hP9 hD9 rfl
    have hS := hS9
    clear hP9 hD9 hS9
    refine lv_aload_n hx hb dX11_clause_50 rfl (lv_at hl 1 rfl) ?_
    refine va_get (D := (dC, dI)) (ci := 11) (v := .int u28_0) (C := RX11) (T := TX11) (N := 41) hx hb hts iX11 hown hK hP 0 rfl rfl 4 (by decide) (hts _ qw1131) (fun _ h9 => h9) rfl dX11_clause_51 ?_
    refine lv_iconst (v := (-1)) hx hb dX11_clause_54 (by decide) ?_
    refine lv_icmp_ne (tgt := 71) hx hb dX11_clause_55 (by decide) (fun c55 => ?_) (fun c55 => by exfalso; have c55 : u28_0.toInt = (-1) := z5 rfl (by decide) c55; omega)
    have c55 : ¬ u28_0.toInt = (-1) := z6 rfl (by decide) c55
    refine lv_aload_n hx hb dX11_clause_71 rfl (lv_at hl 1 rfl) ?_
    refine lv_dup hx hb dX11_clause_72 rfl ?_
    refine va_get (D := (dC, dI)) (ci := 11) (v := .int v46) (C := RX11) (T := TX11) (N := 41) hx hb hts iX11 hown hK hP 0 rfl rfl 3 (by decide) (hts _ qw1130) (fun _ h9 => h9) rfl dX11_clause_73 ?_
    refine lv_iconst (v := 1) hx hb dX11_clause_76 (by decide) ?_
    refine lv_iadd hx hb dX11_clause_77 ?_
    refine lv_topi (fun v77 e77 => ?_)
    have i77 : v77.toInt = v46.toInt + 1 := zadd e77 rfl (by decide) (by omega) (by omega)
    refine va_put (D := (dC, dI)) (ci := 11) (v := .int v77) (ty := .int) (C := RX11) (T := TX11) (N := 41) hx hb hts iX11 tyX11 tyX11_ok nmX11 hown hK hP hD hS 0 rfl rfl 3 (by decide) (hts _ qw1130) (fun _ h9 => h9) rfl (by decide +kernel) rfl rfl (Nat.le_of_ble_eq_true rfl) dX11_clause_78 (fun H locs hP9 hD9 hS9 => ?_)
    clear hP hD hS
    obtain ⟨hP, hD⟩ := zst (wX := [(h0, .inr (11, [.int th, .ref tB, .int tsz, .int v77, .int u28_0, .int 0, .ref rC, .ref rV, .ref rD, .ref rK, .ref rT, .ref rS, .ref rU, .int lw, .int tx, .ref rL, .ref rX, .ref qR, .ref qB, .ref qP, .int qnb, .int qnp, .ref aR, .ref aB, .ref aP, .int nb, .int np, .ref aN, .ref rf, .int ho, .int br, .ref aK, .int ac, .long dw, .ref aE, .int sr, .int sf, .ref aA, .ref aH, .ref aI, .int hi])), (tB, .inl (cI, 240, .inl fB)), (rC, .inl (cI, 2600, .inl fC)), (rV, .inl (cI, 2600, .inl fV)), (rD, .inl (cI, 5, .inl fD)), (rK, .inl (cI, 5, .inl fK)), (rT, .inl (cI, 700, .inl fT)), (rS, .inl (cI, 700, .inl fS)), (rU, .inl (cI, 700, .inl fU))]) hP9 hD9 rfl
    have hS := hS9
    clear hP9 hD9 hS9
    refine lv_aload_n hx hb dX11_clause_81 rfl (lv_at hl 1 rfl) ?_
    refine va_get (D := (dC, dI)) (ci := 11) (v := .int u28_0) (C := RX11) (T := TX11) (N := 41) hx hb hts iX11 hown hK hP 0 rfl rfl 4 (by decide) (hts _ qw1131) (fun _ h9 => h9) rfl dX11_clause_82 ?_
    refine lv_iconst (v := (-1)) hx hb dX11_clause_85 (by decide) ?_
    refine lv_icmp_eq (tgt := 90) hx hb dX11_clause_86 (by decide) (fun c86 => by exfalso; have c86 : u28_0.toInt = (-1) := z5 rfl (by decide) c86; omega) (fun c86 => ?_)
    have c86 : ¬ u28_0.toInt = (-1) := z6 rfl (by decide) c86
    have zr3 : (0 : Int32).toInt = 0 := by decide
    rw [hQ]
    exact W.vret hx hb hr (fun t ht hW => ⟨⟨(v77, u28_0, 0, fC, fV, fD, fK, fT, fS, fU), rfl, ⟨by (try dsimp only); omega, by (try dsimp only); omega, by (try dsimp only); omega, by (try dsimp only); omega, by (try dsimp only); omega, by (try dsimp only); omega, by (try dsimp only); omega, by (try dsimp only); omega, by (try dsimp only); omega, by (try dsimp only); first | exact zRd_mono hrd (by omega) (by omega), by (try dsimp only); exact zclY F28 (by omega) (by omega) (by omega), by (try dsimp only); exact fun hw => absurd hw (by omega)⟩, ⟨by rw [ht]; exact hP, hD⟩⟩, hS.F ht⟩) hS.2.2 dX11_clause_89
set_option maxHeartbeats 4000000 in
set_option maxRecDepth 100000 in
theorem g_X11_readLaw (l : Launch) (dC : Nat → ClassId) (dI : Nat → Nat → Nat) (cI cJ : ClassId) (h0 : Nat) (p0 : Int32) (th : Int32) (tB : Nat) (tsz : Int32) (tat : Int32) (wr : Int32) (dp : Int32) (rC : Nat) (rV : Nat) (rD : Nat) (rK : Nat) (rT : Nat) (rS : Nat) (rU : Nat) (lw : Int32) (tx : Int32) (rL : Nat) (rX : Nat) (qR : Nat) (qB : Nat) (qP : Nat) (qnb : Int32) (qnp : Int32) (aR : Nat) (aB : Nat) (aP : Nat) (nb : Int32) (np : Int32) (aN : Nat) (rf : Nat) (ho : Int32) (br : Int32) (aK : Nat) (ac : Int32) (dw : Int64) (aE : Nat) (sr : Int32) (sf : Int32) (aA : Nat) (aH : Nat) (aI : Nat) (hi : Int32) (fB : Nat → Int32) (fC : Nat → Int32) (fV : Nat → Int32) (fD : Nat → Int32) (fK : Nat → Int32) (fT : Nat → Int32) (fS : Nat → Int32) (fU : Nat → Int32) (n0 : Nat) (sz : Nat) (n_ac : 0 ≤ ac.toInt ∧ ac.toInt ≤ 40) (n_hi : 0 ≤ hi.toInt ∧ hi.toInt ≤ 1) (n_ho : (-1) ≤ ho.toInt ∧ ho.toInt ≤ 3) (n_lw : 0 ≤ lw.toInt ∧ lw.toInt ≤ 4) (n_nb : 0 ≤ nb.toInt ∧ nb.toInt ≤ 6) (n_np : 0 ≤ np.toInt ∧ np.toInt ≤ 5) (n_p0 : 0 ≤ p0.toInt ∧ p0.toInt ≤ 4) (n_qnb : 0 ≤ qnb.toInt ∧ qnb.toInt ≤ 6) (n_qnp : 0 ≤ qnp.toInt ∧ qnp.toInt ≤ 5) (n_tat : 0 ≤ tat.toInt ∧ tat.toInt ≤ 260) (n_tsz : 0 ≤ tsz.toInt ∧ tsz.toInt ≤ 240) (n_wr : (-1) ≤ wr.toInt ∧ wr.toInt ≤ 260) (hlv : ∀ j : Nat, (fC j).toInt = 1 → 0 ≤ (fV j).toInt ∧ (fV j).toInt ≤ 5) (hn0 : (n0 : Int) ≤ p0.toInt) (hty : zTy tsz fB)   : Met l yX11_readLaw (.code yX11_readLaw cX11_readLaw 2 (some .int) :: wA) ({ frames := 54, cells := 0, slots := 0, locals := 1383 }) (zP (dC, dI) [(cI, .int), (cJ, .long)] [.ref h0, .int p0] sz [(h0, .inr (11, [.int th, .ref tB, .int tsz, .int tat, .int wr, .int dp, .ref rC, .ref rV, .ref rD, .ref rK, .ref rT, .ref rS, .ref rU, .int lw, .int tx, .ref rL, .ref rX, .ref qR, .ref qB, .ref qP, .int qnb, .int qnp, .ref aR, .ref aB, .ref aP, .int nb, .int np, .ref aN, .ref rf, .int ho, .int br, .ref aK, .int ac, .long dw, .ref aE, .int sr, .int sf, .ref aA, .ref aH, .ref aI, .int hi])), (tB, .inl (cI, 240, .inl fB)), (rC, .inl (cI, 2600, .inl fC)), (rV, .inl (cI, 2600, .inl fV)), (rD, .inl (cI, 5, .inl fD)), (rK, .inl (cI, 5, .inl fK)), (rT, .inl (cI, 700, .inl fT)), (rS, .inl (cI, 700, .inl fS)), (rU, .inl (cI, 700, .inl fU))]) (va_Qi (fun (r : Int32) (u : Int32 × Int32 × Int32 × (Nat → Int32) × (Nat → Int32) × (Nat → Int32) × (Nat → Int32) × (Nat → Int32) × (Nat → Int32) × (Nat → Int32)) => ((-1) ≤ r.toInt) ∧ (r.toInt ≤ 260) ∧ (0 ≤ u.1.toInt) ∧ (u.1.toInt ≤ 248) ∧ ((-1) ≤ u.2.1.toInt) ∧ (u.2.1.toInt ≤ 260) ∧ (0 ≤ u.2.2.1.toInt) ∧ (u.2.2.1.toInt ≤ 1) ∧ (zRd r u.1 u.2.2.2.1 u.2.2.2.2.1 u.2.2.2.2.2.1 u.2.2.2.2.2.2.1 u.2.2.2.2.2.2.2.1 u.2.2.2.2.2.2.2.2.1 u.2.2.2.2.2.2.2.2.2 p0 fC fV fK fT fS fU n0) ∧ (r.toInt = sLaw (sB fB tsz.toInt) tsz.toInt) ∧ (r.toInt = -1 → zCks (sB fB tsz.toInt) tsz.toInt u.2.2.2.1 u.2.2.2.2.1 u.2.2.2.2.2.2.2.1 u.2.2.2.2.2.2.2.2.1 u.2.2.2.2.2.2.2.2.2 p0.toInt.toNat (eCs (sB fB tsz.toInt) tsz.toInt) (u.2.2.2.2.2.1 p0.toInt.toNat).toInt ∧ (u.2.2.2.2.2.2.1 p0.toInt.toNat).toInt = ((eCs (sB fB tsz.toInt) tsz.toInt).length : Int) ∧ (sCl (sB fB tsz.toInt) tsz.toInt 0).1 = 1)) (fun (u : Int32 × Int32 × Int32 × (Nat → Int32) × (Nat → Int32) × (Nat → Int32) × (Nat → Int32) × (Nat → Int32) × (Nat → Int32) × (Nat → Int32)) (t : State) => va_P (dC, dI) vwCl [(h0, .inr (11, [.int th, .ref tB, .int tsz, .int u.1, .int u.2.1, .int u.2.2.1, .ref rC, .ref rV, .ref rD, .ref rK, .ref rT, .ref rS, .ref rU, .int lw, .int p0, .ref rL, .ref rX, .ref qR, .ref qB, .ref qP, .int qnb, .int qnp, .ref aR, .ref aB, .ref aP, .int nb, .int np, .ref aN, .ref rf, .int ho, .int br, .ref aK, .int ac, .long dw, .ref aE, .int sr, .int sf, .ref aA, .ref aH, .ref aI, .int hi])), (tB, .inl (cI, 240, .inl fB)), (rC, .inl (cI, 2600, .inl u.2.2.2.1)), (rV, .inl (cI, 2600, .inl u.2.2.2.2.1)), (rD, .inl (cI, 5, .inl u.2.2.2.2.2.1)), (rK, .inl (cI, 5, .inl u.2.2.2.2.2.2.1)), (rT, .inl (cI, 700, .inl u.2.2.2.2.2.2.2.1)), (rS, .inl (cI, 700, .inl u.2.2.2.2.2.2.2.2.1)), (rU, .inl (cI, 700, .inl u.2.2.2.2.2.2.2.2.2))] t.heap ∧ va_D (va_A [(h0, .inr (11, [.int th, .ref tB, .int tsz, .int tat, .int wr, .int dp, .ref rC, .ref rV, .ref rD, .ref rK, .ref rT, .ref rS, .ref rU, .int lw, .int tx, .ref rL, .ref rX, .ref qR, .ref qB, .ref qP, .int qnb, .int qnp, .ref aR, .ref aB, .ref aP, .int nb, .int np, .ref aN, .ref rf, .int ho, .int br, .ref aK, .int ac, .long dw, .ref aE, .int sr, .int sf, .ref aA, .ref aH, .ref aI, .int hi])), (tB, .inl (cI, 240, .inl fB)), (rC, .inl (cI, 2600, .inl fC)), (rV, .inl (cI, 2600, .inl fV)), (rD, .inl (cI, 5, .inl fD)), (rK, .inl (cI, 5, .inl fK)), (rT, .inl (cI, 700, .inl fT)), (rS, .inl (cI, 700, .inl fS)), (rU, .inl (cI, 700, .inl fU))] sz) [(h0, .inr (11, [.int th, .ref tB, .int tsz, .int u.1, .int u.2.1, .int u.2.2.1, .ref rC, .ref rV, .ref rD, .ref rK, .ref rT, .ref rS, .ref rU, .int lw, .int p0, .ref rL, .ref rX, .ref qR, .ref qB, .ref qP, .int qnb, .int qnp, .ref aR, .ref aB, .ref aP, .int nb, .int np, .ref aN, .ref rf, .int ho, .int br, .ref aK, .int ac, .long dw, .ref aE, .int sr, .int sf, .ref aA, .ref aH, .ref aI, .int hi])), (tB, .inl (cI, 240, .inl fB)), (rC, .inl (cI, 2600, .inl u.2.2.2.1)), (rV, .inl (cI, 2600, .inl u.2.2.2.2.1)), (rD, .inl (cI, 5, .inl u.2.2.2.2.2.1)), (rK, .inl (cI, 5, .inl u.2.2.2.2.2.2.1)), (rT, .inl (cI, 700, .inl u.2.2.2.2.2.2.2.1)), (rS, .inl (cI, 700, .inl u.2.2.2.2.2.2.2.2.1)), (rU, .inl (cI, 700, .inl u.2.2.2.2.2.2.2.2.2))]) (va_A [(h0, .inr (11, [.int th, .ref tB, .int tsz, .int tat, .int wr, .int dp, .ref rC, .ref rV, .ref rD, .ref rK, .ref rT, .ref rS, .ref rU, .int lw, .int tx, .ref rL, .ref rX, .ref qR, .ref qB, .ref qP, .int qnb, .int qnp, .ref aR, .ref aB, .ref aP, .int nb, .int np, .ref aN, .ref rf, .int ho, .int br, .ref aK, .int ac, .long dw, .ref aE, .int sr, .int sf, .ref aA, .ref aH, .ref aI, .int hi])), (tB, .inl (cI, 240, .inl fB)), (rC, .inl (cI, 2600, .inl fC)), (rV, .inl (cI, 2600, .inl fV)), (rD, .inl (cI, 5, .inl fD)), (rK, .inl (cI, 5, .inl fK)), (rT, .inl (cI, 700, .inl fT)), (rS, .inl (cI, 700, .inl fS)), (rU, .inl (cI, 700, .inl fU))] sz)) 0 0 (va_A [(h0, .inr (11, [.int th, .ref tB, .int tsz, .int tat, .int wr, .int dp, .ref rC, .ref rV, .ref rD, .ref rK, .ref rT, .ref rS, .ref rU, .int lw, .int tx, .ref rL, .ref rX, .ref qR, .ref qB, .ref qP, .int qnb, .int qnp, .ref aR, .ref aB, .ref aP, .int nb, .int np, .ref aN, .ref rf, .int ho, .int br, .ref aK, .int ac, .long dw, .ref aE, .int sr, .int sf, .ref aA, .ref aH, .ref aI, .int hi])), (tB, .inl (cI, 240, .inl fB)), (rC, .inl (cI, 2600, .inl fC)), (rV, .inl (cI, 2600, .inl fV)), (rD, .inl (cI, 5, .inl fD)), (rK, .inl (cI, 5, .inl fK)), (rT, .inl (cI, 700, .inl fT)), (rS, .inl (cI, 700, .inl fS)), (rU, .inl (cI, 700, .inl fU))] sz) := by
  refine Met.ofW (cc := cX11_readLaw) (maxL := 2) (ret := (some .int)) (by decide) rfl ?_
  intro p e s m args below meth c s₁ B hml hv
  have y_ac : zHid (0 ≤ ac.toInt ∧ ac.toInt ≤ 40) := n_ac
  have y_hi : zHid (0 ≤ hi.toInt ∧ hi.toInt ≤ 1) := n_hi
  have y_ho : zHid ((-1) ≤ ho.toInt ∧ ho.toInt ≤ 3) := n_ho
  have y_lw : zHid (0 ≤ lw.toInt ∧ lw.toInt ≤ 4) := n_lw
  have y_nb : zHid (0 ≤ nb.toInt ∧ nb.toInt ≤ 6) := n_nb
  have y_np : zHid (0 ≤ np.toInt ∧ np.toInt ≤ 5) := n_np
  have y_qnb : zHid (0 ≤ qnb.toInt ∧ qnb.toInt ≤ 6) := n_qnb
  have y_qnp : zHid (0 ≤ qnp.toInt ∧ qnp.toInt ≤ 5) := n_qnp
  have y_tat : zHid (0 ≤ tat.toInt ∧ tat.toInt ≤ 260) := n_tat
  have y_wr : zHid ((-1) ≤ wr.toInt ∧ wr.toInt ≤ 260) := n_wr
  clear n_ac n_hi n_ho n_lw n_nb n_np n_qnb n_qnp n_tat n_wr
  obtain ⟨hargs, hsz, hP, hK, hT⟩ := hv
  have hx := B.exec
  have hb := B.bytes
  have hr := B.returns
  have hts : ∀ w ∈ wA, w.before args s = true := fun w h => atoms_spec (ws := .code yX11_readLaw cX11_readLaw 2 (some .int) :: wA) B.pre w (List.mem_cons_of_mem _ h)
  have hown : s.vm.findClass RX11 = some m.cls := findClass_of_methodNamed B.named
  have hlocks := B.notSynchronized
  subst hsz
  have hD := hT.self (sz := s.heap.size)
  generalize hAe : va_A [(h0, .inr (11, [.int th, .ref tB, .int tsz, .int tat, .int wr, .int dp, .ref rC, .ref rV, .ref rD, .ref rK, .ref rT, .ref rS, .ref rU, .int lw, .int tx, .ref rL, .ref rX, .ref qR, .ref qB, .ref qP, .int qnb, .int qnp, .ref aR, .ref aB, .ref aP, .int nb, .int np, .ref aN, .ref rf, .int ho, .int br, .ref aK, .int ac, .long dw, .ref aE, .int sr, .int sf, .ref aA, .ref aH, .ref aI, .int hi])), (tB, .inl (cI, 240, .inl fB)), (rC, .inl (cI, 2600, .inl fC)), (rV, .inl (cI, 2600, .inl fV)), (rD, .inl (cI, 5, .inl fD)), (rK, .inl (cI, 5, .inl fK)), (rT, .inl (cI, 700, .inl fT)), (rS, .inl (cI, 700, .inl fS)), (rU, .inl (cI, 700, .inl fU))] s.heap.size = A at hD ⊢
  have hA : ∀ q : Nat, s.heap.size ≤ q → A q := fun q h => by rw [← hAe]; exact Or.inr h
  have hl := lv_entry ([.ref h0, .int p0]) (n := 2) (Nat.le_of_ble_eq_true rfl)
  rw [show entryFrame m args 2 = entryFrame m ([.ref h0, .int p0] : List Value).toArray 2 by rw [hargs], lg_entry_eq]
  generalize (lg_sl ([.ref h0, .int p0]) ++ List.replicate (2 - (lg_sl ([.ref h0, .int p0])).length) Slot.unset).toArray = ls at hl ⊢
  have hl : lv_has ls 2 [(0, .ref h0), (1, .int p0)] := hl
  refine zstart (fun H hH => ?_)
  rw [← hH] at hP
  have hS : va_S A s.heap H [] := by rw [hH]; exact va_S.rf
  generalize ([] : List Loc) = locs at hS ⊢
  refine zgen (fun R Q hR hQ => ?_)
  have zm1 : (-1 : Int32).toInt = -1 := by decide
  have zz0 : (0 : Int32).toInt = 0 := by decide
  refine lv_aload_n hx hb dX11_readLaw_0 rfl (lv_at hl 0 rfl) ?_
  refine lv_iload_n hx hb dX11_readLaw_1 rfl (lv_at hl 1 rfl) ?_
  obtain ⟨hPc, hDc, hFc⟩ := zc3 (wc := [(h0, .inr (11, [.int th, .ref tB, .int tsz, .int tat, .int wr, .int dp, .ref rC, .ref rV, .ref rD, .ref rK, .ref rT, .ref rS, .ref rU, .int lw, .int tx, .ref rL, .ref rX, .ref qR, .ref qB, .ref qP, .int qnb, .int qnp, .ref aR, .ref aB, .ref aP, .int nb, .int np, .ref aN, .ref rf, .int ho, .int br, .ref aK, .int ac, .long dw, .ref aE, .int sr, .int sf, .ref aA, .ref aH, .ref aI, .int hi])), (rD, .inl (cI, 5, .inl fD)), (rK, .inl (cI, 5, .inl fK))]) hP hD hS hA [0, 4, 5] (by decide +kernel) rfl
  refine va_callv (va_runV (As := [.int p0]) (rest := []) ⟨hx, hb, hml, hown, hts⟩ (g_X11_open l dC dI cI cJ h0 p0 th tB tsz tat wr dp rC rV rD rK rT rS rU lw tx rL rX qR qB qP qnb qnp aR aB aP nb np aN rf ho br aK ac dw aE sr sf aA aH aI hi fD fK H.size y_ac y_hi y_ho y_lw y_nb y_np n_p0 y_qnb y_qnp y_tat n_tsz y_wr) (cwV 1 hts (zgV qw1312 qw1314 qw38 qw108 qw1315) rfl rfl rfl hd_X11_open ⟨by rw [hR]; exact Nat.le_of_ble_eq_true rfl, by rw [hR]; exact Nat.le_of_ble_eq_true rfl⟩) (zPV hPc hK hDc (va_recv (q := (RX11, TX11, 41)) hK hP (ci := 11) (q0 := 0) rfl rfl)) rfl rfl hl.1 rfl (lv_room (Nat.le_of_ble_eq_true rfl)) dX11_readLaw_2 ⟨Nat.zero_le _, Nat.zero_le _⟩) hS (fun q _ h => hFc q h) hFc (fun u2 t H locs ht hvm hw hB hz1 hk1 hS9 => ?_)
  obtain ⟨u2_0, u2_1⟩ := u2
  obtain ⟨hP9, hD9⟩ := zj2 (wX := [(h0, .inr (11, [.int th, .ref tB, .int tsz, .int 0, .int (-1), .int 0, .ref rC, .ref rV, .ref rD, .ref rK, .ref rT, .ref rS, .ref rU, .int lw, .int p0, .ref rL, .ref rX, .ref qR, .ref qB, .ref qP, .int qnb, .int qnp, .ref aR, .ref aB, .ref aP, .int nb, .int np, .ref aN, .ref rf, .int ho, .int br, .ref aK, .int ac, .long dw, .ref aE, .int sr, .int sf, .ref aA, .ref aH, .ref aI, .int hi])), (tB, .inl (cI, 240, .inl fB)), (rC, .inl (cI, 2600, .inl fC)), (rV, .inl (cI, 2600, .inl fV)), (rD, .inl (cI, 5, .inl u2_0)), (rK, .inl (cI, 5, .inl u2_1)), (rT, .inl (cI, 700, .inl fT)), (rS, .inl (cI, 700, .inl fS)), (rU, .inl (cI, 700, .inl fU))]) hP hD hk1 hFc ht hB [0, 4, 5] [(true, 0), (false, 1), (false, 2), (false, 3), (true, 1), (true, 2), (false, 6), (false, 7), (false, 8)] rfl (by decide +kernel) (by decide +kernel) rfl
  clear hP hD hS hPc hDc hFc hB hk1 hz1 hvm
  have hP := hP9
  have hD := hD9
  have hS := hS9
  clear hP9 hD9 hS9
  obtain ⟨f2_0, f2_1⟩ : (u2_0 = upd fD p0.toNatClampNeg 0) ∧ (u2_1 = upd fK p0.toNatClampNeg 0) := hw
  refine lv_aload_n hx hb dX11_readLaw_5 rfl (lv_at hl 0 rfl) ?_
  have J9 : ∀ (n : Nat) (m9_A_rC : Nat → Int32) (m9_A_rD : Nat → Int32) (m9_A_rK : Nat → Int32) (m9_A_rS : Nat → Int32) (m9_A_rT : Nat → Int32) (m9_A_rU : Nat → Int32) (m9_A_rV : Nat → Int32) (m9_F_h0_3 : Int32) (m9_F_h0_4 : Int32) (m9_F_h0_5 : Int32), (0 ≤ m9_F_h0_3.toInt ∧ m9_F_h0_3.toInt ≤ 246) → ((-1) ≤ m9_F_h0_4.toInt ∧ m9_F_h0_4.toInt ≤ 260) → (0 ≤ m9_F_h0_5.toInt ∧ m9_F_h0_5.toInt ≤ 1) → (zRd m9_F_h0_4 m9_F_h0_3 m9_A_rC m9_A_rV m9_A_rD m9_A_rK m9_A_rT m9_A_rS m9_A_rU p0 fC fV fK fT fS fU n0) → (m9_F_h0_4.toInt = -1 → (m9_F_h0_3.toInt ≤ tsz.toInt ∧ m9_F_h0_5.toInt = 0)) → (zGl fB tsz (sGl (sB fB tsz.toInt) tsz.toInt oS (sCl (sB fB tsz.toInt) tsz.toInt) (sCl (sB fB tsz.toInt) tsz.toInt (0 : Int32).toInt)) oS (sCl (sB fB tsz.toInt) tsz.toInt) m9_F_h0_4 m9_F_h0_3) → (zRl fB tsz p0 m9_A_rC m9_A_rV m9_A_rD m9_A_rK m9_A_rT m9_A_rS m9_A_rU m9_F_h0_4 m9_F_h0_3) → (m9_F_h0_4.toInt = -1 → (sCl (sB fB tsz.toInt) tsz.toInt (0 : Int32).toInt).1 = 1) → (300 - m9_F_h0_3.toInt).toNat = n → ∀ (H : Heap) (locs : List Loc) (ls : Array Slot), va_P (dC, dI) vwCl [(h0, .inr (11, [.int th, .ref tB, .int tsz, .int m9_F_h0_3, .int m9_F_h0_4, .int m9_F_h0_5, .ref rC, .ref rV, .ref rD, .ref rK, .ref rT, .ref rS, .ref rU, .int lw, .int p0, .ref rL, .ref rX, .ref qR, .ref qB, .ref qP, .int qnb, .int qnp, .ref aR, .ref aB, .ref aP, .int nb, .int np, .ref aN, .ref rf, .int ho, .int br, .ref aK, .int ac, .long dw, .ref aE, .int sr, .int sf, .ref aA, .ref aH, .ref aI, .int hi])), (tB, .inl (cI, 240, .inl fB)), (rC, .inl (cI, 2600, .inl m9_A_rC)), (rV, .inl (cI, 2600, .inl m9_A_rV)), (rD, .inl (cI, 5, .inl m9_A_rD)), (rK, .inl (cI, 5, .inl m9_A_rK)), (rT, .inl (cI, 700, .inl m9_A_rT)), (rS, .inl (cI, 700, .inl m9_A_rS)), (rU, .inl (cI, 700, .inl m9_A_rU))] H → va_D A [(h0, .inr (11, [.int th, .ref tB, .int tsz, .int m9_F_h0_3, .int m9_F_h0_4, .int m9_F_h0_5, .ref rC, .ref rV, .ref rD, .ref rK, .ref rT, .ref rS, .ref rU, .int lw, .int p0, .ref rL, .ref rX, .ref qR, .ref qB, .ref qP, .int qnb, .int qnp, .ref aR, .ref aB, .ref aP, .int nb, .int np, .ref aN, .ref rf, .int ho, .int br, .ref aK, .int ac, .long dw, .ref aE, .int sr, .int sf, .ref aA, .ref aH, .ref aI, .int hi])), (tB, .inl (cI, 240, .inl fB)), (rC, .inl (cI, 2600, .inl m9_A_rC)), (rV, .inl (cI, 2600, .inl m9_A_rV)), (rD, .inl (cI, 5, .inl m9_A_rD)), (rK, .inl (cI, 5, .inl m9_A_rK)), (rT, .inl (cI, 700, .inl m9_A_rT)), (rS, .inl (cI, 700, .inl m9_A_rS)), (rU, .inl (cI, 700, .inl m9_A_rU))] → va_S A s.heap H locs → lv_has ls 2 [(0, .ref h0), (1, .int p0)] → W p l e R s m args below meth c H locs 0 0 Q (F0 m 9 ls []) := by
    intro n9
    induction n9 using Nat.strongRecOn with
    | _ n9 ih9 =>
      intro m9_A_rC m9_A_rD m9_A_rK m9_A_rS m9_A_rT m9_A_rU m9_A_rV m9_F_h0_3 m9_F_h0_4 m9_F_h0_5 jf9_0 jf9_1 jf9_2 jv9_0 jf9_4 jv9_1 jv9_2 jv9_3 hmu9 H locs ls hP hD hS hl
      refine lv_aload_n hx hb dX11_readLaw_9 rfl (lv_at hl 0 rfl) ?_
      refine va_get (D := (dC, dI)) (ci := 11) (v := .int m9_F_h0_4) (C := RX11) (T := TX11) (N := 41) hx hb hts iX11 hown hK hP 0 rfl rfl 4 (by decide) (hts _ qw1131) (fun _ h9 => h9) rfl dX11_readLaw_10 ?_
      refine lv_iconst (v := (-1)) hx hb dX11_readLaw_13 (by decide) ?_
      refine lv_icmp_ne (tgt := 43) hx hb dX11_readLaw_14 (by decide) (fun c14 => ?_) (fun c14 => ?_)
      · have c14 : ¬ m9_F_h0_4.toInt = (-1) := z6 rfl (by decide) c14
        refine lv_aload_n hx hb dX11_readLaw_43 rfl (lv_at hl 0 rfl) ?_
        obtain ⟨hPc, hDc, hFc⟩ := zc3 (wc := [(h0, .inr (11, [.int th, .ref tB, .int tsz, .int m9_F_h0_3, .int m9_F_h0_4, .int m9_F_h0_5, .ref rC, .ref rV, .ref rD, .ref rK, .ref rT, .ref rS, .ref rU, .int lw, .int p0, .ref rL, .ref rX, .ref qR, .ref qB, .ref qP, .int qnb, .int qnp, .ref aR, .ref aB, .ref aP, .int nb, .int np, .ref aN, .ref rf, .int ho, .int br, .ref aK, .int ac, .long dw, .ref aE, .int sr, .int sf, .ref aA, .ref aH, .ref aI, .int hi])), (tB, .inl (cI, 240, .inl fB))]) hP hD hS hA [0, 1] (by decide +kernel) rfl
        refine va_calli (va_runV (As := []) (rest := []) ⟨hx, hb, hml, hown, hts⟩ (g_X11_atEnd l dC dI cI cJ h0 th tB tsz m9_F_h0_3 m9_F_h0_4 m9_F_h0_5 rC rV rD rK rT rS rU lw p0 rL rX qR qB qP qnb qnp aR aB aP nb np aN rf ho br aK ac dw aE sr sf aA aH aI hi fB H.size y_ac y_hi y_ho y_lw y_nb y_np y_qnb y_qnp (by omega) n_tsz jf9_1 (by omega) (hty)) (cwV 0 hts (zgV qw1374 qw1376 qw52 qw108 qw1377) rfl rfl rfl hd_X11_atEnd ⟨by rw [hR]; exact Nat.le_of_ble_eq_true rfl, by rw [hR]; exact Nat.le_of_ble_eq_true rfl⟩) (zPV hPc hK hDc (va_recv (q := (RX11, TX11, 41)) hK hP (ci := 11) (q0 := 0) rfl rfl)) rfl rfl hl.1 rfl (lv_room (Nat.le_of_ble_eq_true rfl)) dX11_readLaw_44 ⟨Nat.zero_le _, Nat.zero_le _⟩) hS (fun q _ h => hFc q h) hFc (fun v44 u44 t H locs ht hvm hw hB hz1 hk1 hS9 => ?_)
        obtain ⟨u44_0, u44_1⟩ := u44
        obtain ⟨hP9, hD9⟩ := zj2 (wX := [(h0, .inr (11, [.int th, .ref tB, .int tsz, .int u44_0, .int u44_1, .int m9_F_h0_5, .ref rC, .ref rV, .ref rD, .ref rK, .ref rT, .ref rS, .ref rU, .int lw, .int p0, .ref rL, .ref rX, .ref qR, .ref qB, .ref qP, .int qnb, .int qnp, .ref aR, .ref aB, .ref aP, .int nb, .int np, .ref aN, .ref rf, .int ho, .int br, .ref aK, .int ac, .long dw, .ref aE, .int sr, .int sf, .ref aA, .ref aH, .ref aI, .int hi])), (tB, .inl (cI, 240, .inl fB)), (rC, .inl (cI, 2600, .inl m9_A_rC)), (rV, .inl (cI, 2600, .inl m9_A_rV)), (rD, .inl (cI, 5, .inl m9_A_rD)), (rK, .inl (cI, 5, .inl m9_A_rK)), (rT, .inl (cI, 700, .inl m9_A_rT)), (rS, .inl (cI, 700, .inl m9_A_rS)), (rU, .inl (cI, 700, .inl m9_A_rU))]) hP hD hk1 hFc ht hB [0, 1] [(true, 0), (true, 1), (false, 2), (false, 3), (false, 4), (false, 5), (false, 6), (false, 7), (false, 8)] rfl (by decide +kernel) (by decide +kernel) rfl
        clear hP hD hS hPc hDc hFc hB hk1 hz1 hvm
        have hP := hP9
        have hD := hD9
        have hS := hS9
        clear hP9 hD9 hS9
        obtain ⟨f44_0, f44_1, f44_2, f44_3, f44_4, f44_5, f44_6, f44_7, f44_8, f44_9⟩ : ((-1) ≤ v44.toInt) ∧ (v44.toInt ≤ 260) ∧ (0 ≤ u44_0.toInt) ∧ (u44_0.toInt ≤ 248) ∧ ((-1) ≤ u44_1.toInt) ∧ (u44_1.toInt ≤ 260) ∧ (v44.toInt = u44_1.toInt) ∧ (u44_1.toInt = -1 → m9_F_h0_4.toInt = -1) ∧ (m9_F_h0_3.toInt ≤ u44_0.toInt) ∧ (∀ x : Int × Int, zW x m9_F_h0_4 m9_F_h0_3 → v44.toInt = sFin (sB fB tsz.toInt) tsz.toInt x) := hw
        have F44 := f44_9
        rw [hQ]
        exact W.iret (v := v44) hx hb hr (fun t ht hW => ⟨⟨v44, (u44_0, u44_1, m9_F_h0_5, m9_A_rC, m9_A_rV, m9_A_rD, m9_A_rK, m9_A_rT, m9_A_rS, m9_A_rU), rfl, ⟨by (try dsimp only); omega, by (try dsimp only); omega, by (try dsimp only); omega, by (try dsimp only); omega, by (try dsimp only); omega, by (try dsimp only); omega, by (try dsimp only); omega, by (try dsimp only); omega, by (try dsimp only); first | exact zRd_mono jv9_0 (by omega) (by omega), by (try dsimp only); exact F44 _ (zglW jv9_1 (by omega)), by (try dsimp only); exact fun z => absurd z (by omega)⟩, ⟨by rw [ht]; exact hP, hD⟩⟩, hS.F ht⟩) hS.2.2 dX11_readLaw_47
      · have c14 : m9_F_h0_4.toInt = (-1) := z5 rfl (by decide) c14
        refine lv_aload_n hx hb dX11_readLaw_17 rfl (lv_at hl 0 rfl) ?_
        obtain ⟨hPc, hDc, hFc⟩ := zc3 (wc := [(h0, .inr (11, [.int th, .ref tB, .int tsz, .int m9_F_h0_3, .int m9_F_h0_4, .int m9_F_h0_5, .ref rC, .ref rV, .ref rD, .ref rK, .ref rT, .ref rS, .ref rU, .int lw, .int p0, .ref rL, .ref rX, .ref qR, .ref qB, .ref qP, .int qnb, .int qnp, .ref aR, .ref aB, .ref aP, .int nb, .int np, .ref aN, .ref rf, .int ho, .int br, .ref aK, .int ac, .long dw, .ref aE, .int sr, .int sf, .ref aA, .ref aH, .ref aI, .int hi])), (tB, .inl (cI, 240, .inl fB))]) hP hD hS hA [0, 1] (by decide +kernel) rfl
        refine va_calli (va_runV (As := []) (rest := []) ⟨hx, hb, hml, hown, hts⟩ (g_X11_look_t l dC dI cI cJ h0 th tB tsz m9_F_h0_3 m9_F_h0_4 m9_F_h0_5 rC rV rD rK rT rS rU lw p0 rL rX qR qB qP qnb qnp aR aB aP nb np aN rf ho br aK ac dw aE sr sf aA aH aI hi fB H.size y_ac y_hi y_ho y_lw y_nb y_np y_qnb y_qnp (by omega) n_tsz jf9_1) (cwV 0 hts (zgV qw1273 qw1275 qw32 qw108 qw1276) rfl rfl rfl hd_X11_look ⟨by rw [hR]; exact Nat.le_of_ble_eq_true rfl, by rw [hR]; exact Nat.le_of_ble_eq_true rfl⟩) (zPV hPc hK hDc (va_recv (q := (RX11, TX11, 41)) hK hP (ci := 11) (q0 := 0) rfl rfl)) rfl rfl hl.1 rfl (lv_room (Nat.le_of_ble_eq_true rfl)) dX11_readLaw_18 ⟨Nat.zero_le _, Nat.zero_le _⟩) hS (fun q _ h => hFc q h) hFc (fun v18 u18 t H locs ht hvm hw hB hz1 hk1 hS9 => ?_)
        obtain ⟨u18_0, rfl⟩ : ∃ z, z = u18 := ⟨_, rfl⟩
        obtain ⟨hP9, hD9⟩ := zj2 (wX := [(h0, .inr (11, [.int th, .ref tB, .int tsz, .int u18_0, .int m9_F_h0_4, .int m9_F_h0_5, .ref rC, .ref rV, .ref rD, .ref rK, .ref rT, .ref rS, .ref rU, .int lw, .int p0, .ref rL, .ref rX, .ref qR, .ref qB, .ref qP, .int qnb, .int qnp, .ref aR, .ref aB, .ref aP, .int nb, .int np, .ref aN, .ref rf, .int ho, .int br, .ref aK, .int ac, .long dw, .ref aE, .int sr, .int sf, .ref aA, .ref aH, .ref aI, .int hi])), (tB, .inl (cI, 240, .inl fB)), (rC, .inl (cI, 2600, .inl m9_A_rC)), (rV, .inl (cI, 2600, .inl m9_A_rV)), (rD, .inl (cI, 5, .inl m9_A_rD)), (rK, .inl (cI, 5, .inl m9_A_rK)), (rT, .inl (cI, 700, .inl m9_A_rT)), (rS, .inl (cI, 700, .inl m9_A_rS)), (rU, .inl (cI, 700, .inl m9_A_rU))]) hP hD hk1 hFc ht hB [0, 1] [(true, 0), (true, 1), (false, 2), (false, 3), (false, 4), (false, 5), (false, 6), (false, 7), (false, 8)] rfl (by decide +kernel) (by decide +kernel) rfl
        clear hP hD hS hPc hDc hFc hB hk1 hz1 hvm
        have hP := hP9
        have hD := hD9
        have hS := hS9
        clear hP9 hD9 hS9
        obtain ⟨f18_0, f18_1, f18_2, f18_3, f18_4, f18_5⟩ : (0 ≤ u18_0.toInt) ∧ (u18_0.toInt ≤ 240) ∧ (¬ v18.toInt = -1 → u18_0.toInt < tsz.toInt) ∧ (m9_F_h0_3.toInt ≤ u18_0.toInt) ∧ (u18_0.toInt ≤ tsz.toInt ∨ u18_0.toInt = m9_F_h0_3.toInt) ∧ (zLk fB tsz m9_F_h0_3 v18 u18_0) := hw
        have F18 := f18_5
        refine lv_bipush (v := 59) hx hb dX11_readLaw_21 (by decide) ?_
        refine lv_icmp_ne (tgt := 43) hx hb dX11_readLaw_23 (by decide) (fun c23 => ?_) (fun c23 => ?_)
        · have c23 : ¬ v18.toInt = 59 := z6 rfl (by decide) c23
          refine lv_aload_n hx hb dX11_readLaw_43 rfl (lv_at hl 0 rfl) ?_
          obtain ⟨hPc, hDc, hFc⟩ := zc3 (wc := [(h0, .inr (11, [.int th, .ref tB, .int tsz, .int u18_0, .int m9_F_h0_4, .int m9_F_h0_5, .ref rC, .ref rV, .ref rD, .ref rK, .ref rT, .ref rS, .ref rU, .int lw, .int p0, .ref rL, .ref rX, .ref qR, .ref qB, .ref qP, .int qnb, .int qnp, .ref aR, .ref aB, .ref aP, .int nb, .int np, .ref aN, .ref rf, .int ho, .int br, .ref aK, .int ac, .long dw, .ref aE, .int sr, .int sf, .ref aA, .ref aH, .ref aI, .int hi])), (tB, .inl (cI, 240, .inl fB))]) hP hD hS hA [0, 1] (by decide +kernel) rfl
          refine va_calli (va_runV (As := []) (rest := []) ⟨hx, hb, hml, hown, hts⟩ (g_X11_atEnd l dC dI cI cJ h0 th tB tsz u18_0 m9_F_h0_4 m9_F_h0_5 rC rV rD rK rT rS rU lw p0 rL rX qR qB qP qnb qnp aR aB aP nb np aN rf ho br aK ac dw aE sr sf aA aH aI hi fB H.size y_ac y_hi y_ho y_lw y_nb y_np y_qnb y_qnp (by omega) n_tsz jf9_1 (by omega) (hty)) (cwV 0 hts (zgV qw1374 qw1376 qw52 qw108 qw1377) rfl rfl rfl hd_X11_atEnd ⟨by rw [hR]; exact Nat.le_of_ble_eq_true rfl, by rw [hR]; exact Nat.le_of_ble_eq_true rfl⟩) (zPV hPc hK hDc (va_recv (q := (RX11, TX11, 41)) hK hP (ci := 11) (q0 := 0) rfl rfl)) rfl rfl hl.1 rfl (lv_room (Nat.le_of_ble_eq_true rfl)) dX11_readLaw_44 ⟨Nat.zero_le _, Nat.zero_le _⟩) hS (fun q _ h => hFc q h) hFc (fun v44 u44 t H locs ht hvm hw hB hz1 hk1 hS9 => ?_)
          obtain ⟨u44_0, u44_1⟩ := u44
          obtain ⟨hP9, hD9⟩ := zj2 (wX := [(h0, .inr (11, [.int th, .ref tB, .int tsz, .int u44_0, .int u44_1, .int m9_F_h0_5, .ref rC, .ref rV, .ref rD, .ref rK, .ref rT, .ref rS, .ref rU, .int lw, .int p0, .ref rL, .ref rX, .ref qR, .ref qB, .ref qP, .int qnb, .int qnp, .ref aR, .ref aB, .ref aP, .int nb, .int np, .ref aN, .ref rf, .int ho, .int br, .ref aK, .int ac, .long dw, .ref aE, .int sr, .int sf, .ref aA, .ref aH, .ref aI, .int hi])), (tB, .inl (cI, 240, .inl fB)), (rC, .inl (cI, 2600, .inl m9_A_rC)), (rV, .inl (cI, 2600, .inl m9_A_rV)), (rD, .inl (cI, 5, .inl m9_A_rD)), (rK, .inl (cI, 5, .inl m9_A_rK)), (rT, .inl (cI, 700, .inl m9_A_rT)), (rS, .inl (cI, 700, .inl m9_A_rS)), (rU, .inl (cI, 700, .inl m9_A_rU))]) hP hD hk1 hFc ht hB [0, 1] [(true, 0), (true, 1), (false, 2), (false, 3), (false, 4), (false, 5), (false, 6), (false, 7), (false, 8)] rfl (by decide +kernel) (by decide +kernel) rfl
          clear hP hD hS hPc hDc hFc hB hk1 hz1 hvm
          have hP := hP9
          have hD := hD9
          have hS := hS9
          clear hP9 hD9 hS9
          obtain ⟨f44_0, f44_1, f44_2, f44_3, f44_4, f44_5, f44_6, f44_7, f44_8, f44_9⟩ : ((-1) ≤ v44.toInt) ∧ (v44.toInt ≤ 260) ∧ (0 ≤ u44_0.toInt) ∧ (u44_0.toInt ≤ 248) ∧ ((-1) ≤ u44_1.toInt) ∧ (u44_1.toInt ≤ 260) ∧ (v44.toInt = u44_1.toInt) ∧ (u44_1.toInt = -1 → m9_F_h0_4.toInt = -1) ∧ (u18_0.toInt ≤ u44_0.toInt) ∧ (∀ x : Int × Int, zW x m9_F_h0_4 u18_0 → v44.toInt = sFin (sB fB tsz.toInt) tsz.toInt x) := hw
          have F44 := f44_9
          rw [hQ]
          exact W.iret (v := v44) hx hb hr (fun t ht hW => ⟨⟨v44, (u44_0, u44_1, m9_F_h0_5, m9_A_rC, m9_A_rV, m9_A_rD, m9_A_rK, m9_A_rT, m9_A_rS, m9_A_rU), rfl, ⟨by (try dsimp only); omega, by (try dsimp only); omega, by (try dsimp only); omega, by (try dsimp only); omega, by (try dsimp only); omega, by (try dsimp only); omega, by (try dsimp only); omega, by (try dsimp only); omega, by (try dsimp only); first | exact zRd_mono jv9_0 (by omega) (by omega), by (try dsimp only); exact F44 _ (zglE jv9_1 (by omega) F18 (fun z => by have := oS_iff.mp z; omega)), by (try dsimp only); exact fun z => ⟨(zRlE jv9_2 F18 (by omega) (by omega)).1, (zRlE jv9_2 F18 (by omega) (by omega)).2, by have z0 : (0 : Int32).toInt = 0 := (by decide); have z1 := jv9_3 (by omega); rw [z0] at z1; exact z1⟩⟩, ⟨by rw [ht]; exact hP, hD⟩⟩, hS.F ht⟩) hS.2.2 dX11_readLaw_47
        · have c23 : v18.toInt = 59 := z5 rfl (by decide) c23
          refine lv_aload_n hx hb dX11_readLaw_26 rfl (lv_at hl 0 rfl) ?_
          refine lv_dup hx hb dX11_readLaw_27 rfl ?_
          refine va_get (D := (dC, dI)) (ci := 11) (v := .int u18_0) (C := RX11) (T := TX11) (N := 41) hx hb hts iX11 hown hK hP 0 rfl rfl 3 (by decide) (hts _ qw1130) (fun _ h9 => h9) rfl dX11_readLaw_28 ?_
          refine lv_iconst (v := 1) hx hb dX11_readLaw_31 (by decide) ?_
          refine lv_iadd hx hb dX11_readLaw_32 ?_
          refine lv_topi (fun v32 e32 => ?_)
          have i32 : v32.toInt = u18_0.toInt + 1 := zadd e32 rfl (by decide) (by omega) (by omega)
          refine va_put (D := (dC, dI)) (ci := 11) (v := .int v32) (ty := .int) (C := RX11) (T := TX11) (N := 41) hx hb hts iX11 tyX11 tyX11_ok nmX11 hown hK hP hD hS 0 rfl rfl 3 (by decide) (hts _ qw1130) (fun _ h9 => h9) rfl (by decide +kernel) rfl rfl (Nat.le_of_ble_eq_true rfl) dX11_readLaw_33 (fun H locs hP9 hD9 hS9 => ?_)
          clear hP hD hS
          obtain ⟨hP, hD⟩ := zst (wX := [(h0, .inr (11, [.int th, .ref tB, .int tsz, .int v32, .int m9_F_h0_4, .int m9_F_h0_5, .ref rC, .ref rV, .ref rD, .ref rK, .ref rT, .ref rS, .ref rU, .int lw, .int p0, .ref rL, .ref rX, .ref qR, .ref qB, .ref qP, .int qnb, .int qnp, .ref aR, .ref aB, .ref aP, .int nb, .int np, .ref aN, .ref rf, .int ho, .int br, .ref aK, .int ac, .long dw, .ref aE, .int sr, .int sf, .ref aA, .ref aH, .ref aI, .int hi])), (tB, .inl (cI, 240, .inl fB)), (rC, .inl (cI, 2600, .inl m9_A_rC)), (rV, .inl (cI, 2600, .inl m9_A_rV)), (rD, .inl (cI, 5, .inl m9_A_rD)), (rK, .inl (cI, 5, .inl m9_A_rK)), (rT, .inl (cI, 700, .inl m9_A_rT)), (rS, .inl (cI, 700, .inl m9_A_rS)), (rU, .inl (cI, 700, .inl m9_A_rU))]) hP9 hD9 rfl
          have hS := hS9
          clear hP9 hD9 hS9
          refine lv_aload_n hx hb dX11_readLaw_36 rfl (lv_at hl 0 rfl) ?_
          have zx_m9_F_h0_4 : ((-1) : Int32).toInt = (-1) := by decide
          have zy_m9_F_h0_4 : m9_F_h0_4 = (-1) := z7 (a := (-1)) (by decide) (by omega)
          rw [zy_m9_F_h0_4] at hP hD
          have zx_m9_F_h0_5 : (0 : Int32).toInt = 0 := by decide
          have zy_m9_F_h0_5 : m9_F_h0_5 = 0 := z7 (a := 0) (by decide) (by omega)
          rw [zy_m9_F_h0_5] at hP hD
          obtain ⟨hPc, hDc, hFc⟩ := zc3 (wc := [(h0, .inr (11, [.int th, .ref tB, .int tsz, .int v32, .int (-1), .int 0, .ref rC, .ref rV, .ref rD, .ref rK, .ref rT, .ref rS, .ref rU, .int lw, .int p0, .ref rL, .ref rX, .ref qR, .ref qB, .ref qP, .int qnb, .int qnp, .ref aR, .ref aB, .ref aP, .int nb, .int np, .ref aN, .ref rf, .int ho, .int br, .ref aK, .int ac, .long dw, .ref aE, .int sr, .int sf, .ref aA, .ref aH, .ref aI, .int hi])), (tB, .inl (cI, 240, .inl fB)), (rC, .inl (cI, 2600, .inl m9_A_rC)), (rV, .inl (cI, 2600, .inl m9_A_rV)), (rD, .inl (cI, 5, .inl m9_A_rD)), (rK, .inl (cI, 5, .inl m9_A_rK)), (rT, .inl (cI, 700, .inl m9_A_rT)), (rS, .inl (cI, 700, .inl m9_A_rS)), (rU, .inl (cI, 700, .inl m9_A_rU))]) hP hD hS hA [0, 1, 2, 3, 4, 5, 6, 7, 8] (by decide +kernel) rfl
          refine va_callv (va_runV (As := []) (rest := []) ⟨hx, hb, hml, hown, hts⟩ (g_X11_clause l dC dI cI cJ h0 th tB tsz v32 rC rV rD rK rT rS rU lw p0 rL rX qR qB qP qnb qnp aR aB aP nb np aN rf ho br aK ac dw aE sr sf aA aH aI hi fB m9_A_rC m9_A_rV m9_A_rD m9_A_rK m9_A_rT m9_A_rS m9_A_rU fC fV fK fT fS fU n0 H.size y_ac y_hi y_ho y_lw y_nb y_np y_qnb y_qnp (by omega) n_tsz n_p0 (zRd_mono jv9_0 (by omega) (by omega)) (by omega)) (cwV 0 hts (zgV qw1316 qw1318 qw39 qw108 qw1319) rfl rfl rfl hd_X11_clause ⟨by rw [hR]; exact Nat.le_of_ble_eq_true rfl, by rw [hR]; exact Nat.le_of_ble_eq_true rfl⟩) (zPV hPc hK hDc (va_recv (q := (RX11, TX11, 41)) hK hP (ci := 11) (q0 := 0) rfl rfl)) rfl rfl hl.1 rfl (lv_room (Nat.le_of_ble_eq_true rfl)) dX11_readLaw_37 ⟨Nat.zero_le _, Nat.zero_le _⟩) hS (fun q _ h => hFc q h) hFc (fun u37 t H locs ht hvm hw hB hz1 hk1 hS9 => ?_)
          obtain ⟨u37_0, u37_1, u37_2, u37_3, u37_4, u37_5, u37_6, u37_7, u37_8, u37_9⟩ := u37
          obtain ⟨hP9, hD9⟩ := zj2 (wX := [(h0, .inr (11, [.int th, .ref tB, .int tsz, .int u37_0, .int u37_1, .int u37_2, .ref rC, .ref rV, .ref rD, .ref rK, .ref rT, .ref rS, .ref rU, .int lw, .int p0, .ref rL, .ref rX, .ref qR, .ref qB, .ref qP, .int qnb, .int qnp, .ref aR, .ref aB, .ref aP, .int nb, .int np, .ref aN, .ref rf, .int ho, .int br, .ref aK, .int ac, .long dw, .ref aE, .int sr, .int sf, .ref aA, .ref aH, .ref aI, .int hi])), (tB, .inl (cI, 240, .inl fB)), (rC, .inl (cI, 2600, .inl u37_3)), (rV, .inl (cI, 2600, .inl u37_4)), (rD, .inl (cI, 5, .inl u37_5)), (rK, .inl (cI, 5, .inl u37_6)), (rT, .inl (cI, 700, .inl u37_7)), (rS, .inl (cI, 700, .inl u37_8)), (rU, .inl (cI, 700, .inl u37_9))]) hP hD hk1 hFc ht hB [0, 1, 2, 3, 4, 5, 6, 7, 8] [(true, 0), (true, 1), (true, 2), (true, 3), (true, 4), (true, 5), (true, 6), (true, 7), (true, 8)] rfl (by decide +kernel) (by decide +kernel) rfl
          clear hP hD hS hPc hDc hFc hB hk1 hz1 hvm
          have hP := hP9
          have hD := hD9
          have hS := hS9
          clear hP9 hD9 hS9
          obtain ⟨f37_0, f37_1, f37_2, f37_3, f37_4, f37_5, f37_6, f37_7, f37_8, f37_9, f37_10, f37_11⟩ : (0 ≤ u37_0.toInt) ∧ (u37_0.toInt ≤ 246) ∧ ((-1) ≤ u37_1.toInt) ∧ (u37_1.toInt ≤ 260) ∧ (0 ≤ u37_2.toInt) ∧ (u37_2.toInt ≤ 1) ∧ (u37_1.toInt = -1 → (u37_0.toInt ≤ tsz.toInt ∧ u37_2.toInt = 0)) ∧ (v32.toInt ≤ u37_0.toInt) ∧ (v32.toInt + 2 ≤ u37_0.toInt) ∧ (zRd u37_1 u37_0 u37_3 u37_4 u37_5 u37_6 u37_7 u37_8 u37_9 p0 fC fV fK fT fS fU n0) ∧ (zW (sCl (sB fB tsz.toInt) tsz.toInt v32.toInt) u37_1 u37_0) ∧ (u37_1.toInt = -1 → zQc fB tsz p0 v32 m9_A_rC m9_A_rV m9_A_rD m9_A_rK m9_A_rT m9_A_rS m9_A_rU u37_3 u37_4 u37_5 u37_6 u37_7 u37_8 u37_9) := hw
          have F37 := f37_10
          have F37_1 : zHid (u37_1.toInt = -1 → zQc fB tsz p0 v32 m9_A_rC m9_A_rV m9_A_rD m9_A_rK m9_A_rT m9_A_rS m9_A_rU u37_3 u37_4 u37_5 u37_6 u37_7 u37_8 u37_9) := f37_11
          clear f37_11
          refine lv_goto (tgt := 9) hx hb dX11_readLaw_40 (by decide) ?_
          exact ih9 _ (by omega) u37_3 u37_5 u37_6 u37_8 u37_7 u37_9 u37_4 u37_0 u37_1 u37_2 ⟨f37_0, f37_1⟩ ⟨f37_2, f37_3⟩ ⟨f37_4, f37_5⟩ (by assumption) (by omega) (zglS jv9_1 (by omega) F18 (oS_iff.mpr (by omega)) (by decide) i32 F37 (sCl_mono (sB fB tsz.toInt) tsz.toInt)) (zRlS jv9_2 (by omega) F18 (by omega) i32 F37 (sCl_mono (sB fB tsz.toInt) tsz.toInt) F37_1 (by omega) (by have := jv9_0.2.2.1; omega)) (fun _ => jv9_3 (by omega)) rfl H locs ls hP hD hS (lv_sub hl [0, 1] rfl)
  obtain ⟨hPc, hDc, hFc⟩ := zc3 (wc := [(h0, .inr (11, [.int th, .ref tB, .int tsz, .int 0, .int (-1), .int 0, .ref rC, .ref rV, .ref rD, .ref rK, .ref rT, .ref rS, .ref rU, .int lw, .int p0, .ref rL, .ref rX, .ref qR, .ref qB, .ref qP, .int qnb, .int qnp, .ref aR, .ref aB, .ref aP, .int nb, .int np, .ref aN, .ref rf, .int ho, .int br, .ref aK, .int ac, .long dw, .ref aE, .int sr, .int sf, .ref aA, .ref aH, .ref aI, .int hi])), (tB, .inl (cI, 240, .inl fB)), (rC, .inl (cI, 2600, .inl fC)), (rV, .inl (cI, 2600, .inl fV)), (rD, .inl (cI, 5, .inl u2_0)), (rK, .inl (cI, 5, .inl u2_1)), (rT, .inl (cI, 700, .inl fT)), (rS, .inl (cI, 700, .inl fS)), (rU, .inl (cI, 700, .inl fU))]) hP hD hS hA [0, 1, 2, 3, 4, 5, 6, 7, 8] (by decide +kernel) rfl
  refine va_callv (va_runV (As := []) (rest := []) ⟨hx, hb, hml, hown, hts⟩ (g_X11_clause l dC dI cI cJ h0 th tB tsz 0 rC rV rD rK rT rS rU lw p0 rL rX qR qB qP qnb qnp aR aB aP nb np aN rf ho br aK ac dw aE sr sf aA aH aI hi fB fC fV u2_0 u2_1 fT fS fU fC fV fK fT fS fU n0 H.size y_ac y_hi y_ho y_lw y_nb y_np y_qnb y_qnp (by decide) n_tsz n_p0 (zRd_0 hlv f2_0 f2_1 (by decide) hn0 (by omega)) (by omega)) (cwV 0 hts (zgV qw1316 qw1318 qw39 qw108 qw1319) rfl rfl rfl hd_X11_clause ⟨by rw [hR]; exact Nat.le_of_ble_eq_true rfl, by rw [hR]; exact Nat.le_of_ble_eq_true rfl⟩) (zPV hPc hK hDc (va_recv (q := (RX11, TX11, 41)) hK hP (ci := 11) (q0 := 0) rfl rfl)) rfl rfl hl.1 rfl (lv_room (Nat.le_of_ble_eq_true rfl)) dX11_readLaw_6 ⟨Nat.zero_le _, Nat.zero_le _⟩) hS (fun q _ h => hFc q h) hFc (fun u6 t H locs ht hvm hw hB hz1 hk1 hS9 => ?_)
  obtain ⟨u6_0, u6_1, u6_2, u6_3, u6_4, u6_5, u6_6, u6_7, u6_8, u6_9⟩ := u6
  obtain ⟨hP9, hD9⟩ := zj2 (wX := [(h0, .inr (11, [.int th, .ref tB, .int tsz, .int u6_0, .int u6_1, .int u6_2, .ref rC, .ref rV, .ref rD, .ref rK, .ref rT, .ref rS, .ref rU, .int lw, .int p0, .ref rL, .ref rX, .ref qR, .ref qB, .ref qP, .int qnb, .int qnp, .ref aR, .ref aB, .ref aP, .int nb, .int np, .ref aN, .ref rf, .int ho, .int br, .ref aK, .int ac, .long dw, .ref aE, .int sr, .int sf, .ref aA, .ref aH, .ref aI, .int hi])), (tB, .inl (cI, 240, .inl fB)), (rC, .inl (cI, 2600, .inl u6_3)), (rV, .inl (cI, 2600, .inl u6_4)), (rD, .inl (cI, 5, .inl u6_5)), (rK, .inl (cI, 5, .inl u6_6)), (rT, .inl (cI, 700, .inl u6_7)), (rS, .inl (cI, 700, .inl u6_8)), (rU, .inl (cI, 700, .inl u6_9))]) hP hD hk1 hFc ht hB [0, 1, 2, 3, 4, 5, 6, 7, 8] [(true, 0), (true, 1), (true, 2), (true, 3), (true, 4), (true, 5), (true, 6), (true, 7), (true, 8)] rfl (by decide +kernel) (by decide +kernel) rfl
  clear hP hD hS hPc hDc hFc hB hk1 hz1 hvm
  have hP := hP9
  have hD := hD9
  have hS := hS9
  clear hP9 hD9 hS9
  have zn6_0 : (0 : Int32).toInt = 0 := by decide
  obtain ⟨f6_0, f6_1, f6_2, f6_3, f6_4, f6_5, f6_6, f6_7, f6_8, f6_9, f6_10, f6_11⟩ : (0 ≤ u6_0.toInt) ∧ (u6_0.toInt ≤ 246) ∧ ((-1) ≤ u6_1.toInt) ∧ (u6_1.toInt ≤ 260) ∧ (0 ≤ u6_2.toInt) ∧ (u6_2.toInt ≤ 1) ∧ (u6_1.toInt = -1 → (u6_0.toInt ≤ tsz.toInt ∧ u6_2.toInt = 0)) ∧ ((0 : Int32).toInt ≤ u6_0.toInt) ∧ ((0 : Int32).toInt + 2 ≤ u6_0.toInt) ∧ (zRd u6_1 u6_0 u6_3 u6_4 u6_5 u6_6 u6_7 u6_8 u6_9 p0 fC fV fK fT fS fU n0) ∧ (zW (sCl (sB fB tsz.toInt) tsz.toInt (0 : Int32).toInt) u6_1 u6_0) ∧ (u6_1.toInt = -1 → zQc fB tsz p0 0 fC fV u2_0 u2_1 fT fS fU u6_3 u6_4 u6_5 u6_6 u6_7 u6_8 u6_9) := hw
  have F6 := f6_10
  have F6_1 : zHid (u6_1.toInt = -1 → zQc fB tsz p0 0 fC fV u2_0 u2_1 fT fS fU u6_3 u6_4 u6_5 u6_6 u6_7 u6_8 u6_9) := f6_11
  clear f6_11
  exact J9 _ u6_3 u6_5 u6_6 u6_8 u6_7 u6_9 u6_4 u6_0 u6_1 u6_2 ⟨f6_0, f6_1⟩ ⟨f6_2, f6_3⟩ ⟨f6_4, f6_5⟩ (by assumption) (by omega) (zgl0 F6) (zRl0 (by rw [f2_1]; exact congrArg Int32.toInt pk_us) (by rw [f2_0]; exact congrArg Int32.toInt pk_us) (by omega) F6 F6_1) (fun z => by rw [zW_1 F6 z]) rfl H locs ls hP hD hS (lv_sub hl [0, 1] rfl)
