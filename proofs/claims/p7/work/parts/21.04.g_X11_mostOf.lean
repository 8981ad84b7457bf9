set_option maxHeartbeats 4000000 in
set_option maxRecDepth 100000 in
theorem g_X11_lies (l : Launch) (dC : Nat → ClassId) (dI : Nat → Nat → Nat) (cI cJ : ClassId) (h0 : Nat) (th : Int32) (tB : Nat) (tsz : Int32) (tat : Int32) (wr : Int32) (dp : Int32) (rC : Nat) (rV : Nat) (rD : Nat) (rK : Nat) (rT : Nat) (rS : Nat) (rU : Nat) (lw : Int32) (tx : Int32) (rL : Nat) (rX : Nat) (qR : Nat) (qB : Nat) (qP : Nat) (qnb : Int32) (qnp : Int32) (aR : Nat) (aB : Nat) (aP : Nat) (nb : Int32) (np : Int32) (aN : Nat) (rf : Nat) (ho : Int32) (br : Int32) (aK : Nat) (ac : Int32) (dw : Int64) (aE : Nat) (sr : Int32) (sf : Int32) (aA : Nat) (aH : Nat) (aI : Nat) (hi : Int32) (fBr : Nat → Int32) (fN : Nat → Int32) (sz : Nat) (n_ac : 0 ≤ ac.toInt ∧ ac.toInt ≤ 40) (n_hi : 0 ≤ hi.toInt ∧ hi.toInt ≤ 1) (n_ho : (-1) ≤ ho.toInt ∧ ho.toInt ≤ 3) (n_lw : 0 ≤ lw.toInt ∧ lw.toInt ≤ 4) (n_nb : 0 ≤ nb.toInt ∧ nb.toInt ≤ 6) (n_np : 0 ≤ np.toInt ∧ np.toInt ≤ 5) (n_qnb : 0 ≤ qnb.toInt ∧ qnb.toInt ≤ 6) (n_qnp : 0 ≤ qnp.toInt ∧ qnp.toInt ≤ 5) (n_tat : 0 ≤ tat.toInt ∧ tat.toInt ≤ 260) (n_tsz : 0 ≤ tsz.toInt ∧ tsz.toInt ≤ 240) (n_wr : (-1) ≤ wr.toInt ∧ wr.toInt ≤ 260)  (ci_fBr_zBr_nb : zBr nb fBr) (ci_fN_zNw_np : zNw np fN)  : Met l yX11_lies (.code yX11_lies cX11_lies 3 (some .int) :: wA) ({ frames := 1, cells := 0, slots := 0, locals := 30 }) (zP (dC, dI) [(cI, .int), (cJ, .long)] [.ref h0] sz [(h0, .inr (11, [.int th, .ref tB, .int tsz, .int tat, .int wr, .int dp, .ref rC, .ref rV, .ref rD, .ref rK, .ref rT, .ref rS, .ref rU, .int lw, .int tx, .ref rL, .ref rX, .ref qR, .ref qB, .ref qP, .int qnb, .int qnp, .ref aR, .ref aB, .ref aP, .int nb, .int np, .ref aN, .ref rf, .int ho, .int br, .ref aK, .int ac, .long dw, .ref aE, .int sr, .int sf, .ref aA, .ref aH, .ref aI, .int hi])), (aB, .inl (cI, 24, .inl fBr)), (aN, .inl (cI, 97, .inl fN))]) (va_Qi (fun (r : Int32) (u : Unit) => (r = zLie fBr (fun i => fN (17 + i)) (fN 16).toInt.toNat)) (fun (_ : Unit) (_ : State) => True) (va_A [] sz)) 0 0 (va_A [] sz) := by
  refine Met.ofW (cc := cX11_lies) (maxL := 3) (ret := (some .int)) (by decide) rfl ?_
  intro p e s m args below meth c s₁ B hml hv
  obtain ⟨hargs, hsz, hP, hK, hT⟩ := hv
  have hx := B.exec
  have hb := B.bytes
  have hr := B.returns
  have hts : ∀ w ∈ wA, w.before args s = true := fun w h => atoms_spec (ws := .code yX11_lies cX11_lies 3 (some .int) :: wA) B.pre w (List.mem_cons_of_mem _ h)
  have hown : s.vm.findClass RX11 = some m.cls := findClass_of_methodNamed B.named
  have hlocks := B.notSynchronized
  subst hsz
  have hD : va_D (va_A [] s.heap.size) [] := zD0
  generalize hAe : va_A [] s.heap.size = A at hD ⊢
  have hA : ∀ q : Nat, s.heap.size ≤ q → A q := fun q h => by rw [← hAe]; exact Or.inr h
  have hl := lv_entry ([.ref h0]) (n := 3) (Nat.le_of_ble_eq_true rfl)
  rw [show entryFrame m args 3 = entryFrame m ([.ref h0] : List Value).toArray 3 by rw [hargs], lg_entry_eq]
  generalize (lg_sl ([.ref h0]) ++ List.replicate (3 - (lg_sl ([.ref h0])).length) Slot.unset).toArray = ls at hl ⊢
  have hl : lv_has ls 3 [(0, .ref h0)] := hl
  refine zstart (fun H hH => ?_)
  rw [← hH] at hP
  have hS : va_S A s.heap H [] := by rw [hH]; exact va_S.rf
  generalize ([] : List Loc) = locs at hS ⊢
  refine zgen (fun R Q hR hQ => ?_)
  have q0 := ci_fN_zNw_np.2.1
  refine lv_iconst (v := 0) hx hb dX11_lies_0 (by decide) ?_
  refine lv_istore_n (lv' := [(1, .int 0), (0, .ref h0)]) hx hb dX11_lies_1 rfl hl (by decide) rfl (fun ls hl => ?_)
  refine lv_iconst (v := 0) hx hb dX11_lies_2 (by decide) ?_
  have J4 : ∀ (n : Nat) (m4_L_1 : Int32) (m4_L_2 : Int32), (0 ≤ m4_L_2.toInt ∧ m4_L_2.toInt ≤ 20) → (m4_L_2.toInt ≤ (fN 16).toInt ∨ m4_L_2.toInt = 0) → (m4_L_1 = zLie fBr (fun i => fN (17 + i)) m4_L_2.toInt.toNat) → (21 - m4_L_2.toInt).toNat = n → ∀ (H : Heap) (locs : List Loc) (ls : Array Slot), va_P (dC, dI) vwCl [(h0, .inr (11, [.int th, .ref tB, .int tsz, .int tat, .int wr, .int dp, .ref rC, .ref rV, .ref rD, .ref rK, .ref rT, .ref rS, .ref rU, .int lw, .int tx, .ref rL, .ref rX, .ref qR, .ref qB, .ref qP, .int qnb, .int qnp, .ref aR, .ref aB, .ref aP, .int nb, .int np, .ref aN, .ref rf, .int ho, .int br, .ref aK, .int ac, .long dw, .ref aE, .int sr, .int sf, .ref aA, .ref aH, .ref aI, .int hi])), (aB, .inl (cI, 24, .inl fBr)), (aN, .inl (cI, 97, .inl fN))] H → va_S A s.heap H locs → lv_has ls 3 [(2, .int m4_L_2), (1, .int m4_L_1), (0, .ref h0)] → W p l e R s m args below meth c H locs 0 0 Q (F0 m 4 ls []) := by
    intro n4
    induction n4 using Nat.strongRecOn with
    | _ n4 ih4 =>
      intro m4_L_1 m4_L_2 jf4_0 jf4_1 jv4_0 hmu4 H locs ls hP hS hl
      refine lv_iload_n hx hb dX11_lies_4 rfl (lv_at hl 0 rfl) ?_
      refine lv_aload_n hx hb dX11_lies_5 rfl (lv_at hl 2 rfl) ?_
      refine va_get (D := (dC, dI)) (ci := 11) (v := .ref aN) (C := RX11) (T := TX11) (N := 41) hx hb hts iX11 hown hK hP 0 rfl rfl 27 (by decide) (hts _ qw1154) (fun _ h9 => h9) rfl dX11_lies_6 ?_
      refine lv_bipush (v := 16) hx hb dX11_lies_9 (by decide) ?_
      refine va_iald hx hb hK hP 2 0 rfl rfl (by unfold vp_in; decide) dX11_lies_11 ?_
      refine lv_topi (fun v11 e11 => ?_)
      have i11 : v11.toInt = (fN 16).toInt ∧ 0 ≤ v11.toInt ∧ v11.toInt ≤ 20 := zNw_16 ci_fN_zNw_np e11
      refine lv_icmp_ge (tgt := 45) hx hb dX11_lies_12 (by decide) (fun c12 => ?_) (fun c12 => ?_)
      · have c12 : v11.toInt ≤ m4_L_2.toInt := z3 rfl rfl c12
        refine lv_iload_n hx hb dX11_lies_45 rfl (lv_at hl 1 rfl) ?_
        rw [hQ]
        exact W.iret (v := m4_L_1) hx hb hr (fun t ht hW => ⟨⟨m4_L_1, (), rfl, (by (try dsimp only); exact jv4_0.trans (by rw [show m4_L_2.toInt.toNat = (fN 16).toInt.toNat by omega])), trivial⟩, hS.F ht⟩) hS.2.2 dX11_lies_46
      · have c12 : m4_L_2.toInt < v11.toInt := z4 rfl rfl c12
        refine lv_iload_n hx hb dX11_lies_15 rfl (lv_at hl 1 rfl) ?_
        refine lv_aload_n hx hb dX11_lies_16 rfl (lv_at hl 2 rfl) ?_
        refine lv_iload_n hx hb dX11_lies_17 rfl (lv_at hl 0 rfl) ?_
        refine lv_iconst (v := 2) hx hb dX11_lies_18 (by decide) ?_
        have hPc := hP.sub (ws' := [(h0, .inr (11, [.int th, .ref tB, .int tsz, .int tat, .int wr, .int dp, .ref rC, .ref rV, .ref rD, .ref rK, .ref rT, .ref rS, .ref rU, .int lw, .int tx, .ref rL, .ref rX, .ref qR, .ref qB, .ref qP, .int qnb, .int qnp, .ref aR, .ref aB, .ref aP, .int nb, .int np, .ref aN, .ref rf, .int ho, .int br, .ref aK, .int ac, .long dw, .ref aE, .int sr, .int sf, .ref aA, .ref aH, .ref aI, .int hi])), (aN, .inl (cI, 97, .inl fN))]) [0, 2] rfl
        have hDc := hT.sub (ws' := [(h0, .inr (11, [.int th, .ref tB, .int tsz, .int tat, .int wr, .int dp, .ref rC, .ref rV, .ref rD, .ref rK, .ref rT, .ref rS, .ref rU, .int lw, .int tx, .ref rL, .ref rX, .ref qR, .ref qB, .ref qP, .int qnb, .int qnp, .ref aR, .ref aB, .ref aP, .int nb, .int np, .ref aN, .ref rf, .int ho, .int br, .ref aK, .int ac, .long dw, .ref aE, .int sr, .int sf, .ref aA, .ref aH, .ref aI, .int hi])), (aN, .inl (cI, 97, .inl fN))]) [0, 2] (by decide) rfl
        have hFc := zfr hS hA
        refine va_calli (va_runV (As := [.int m4_L_2, .int 2]) (rest := [.int m4_L_1]) ⟨hx, hb, hml, hown, hts⟩ (g_X11_shot_2 l dC dI cI cJ h0 m4_L_2 th tB tsz tat wr dp rC rV rD rK rT rS rU lw tx rL rX qR qB qP qnb qnp aR aB aP nb np aN rf ho br aK ac dw aE sr sf aA aH aI hi fN H.size n_ac n_hi n_ho n_lw n_nb n_np (by omega) n_qnb n_qnp n_tat n_tsz n_wr (by omega) ci_fN_zNw_np) (cwV 2 hts (zgV qw1477 qw1479 qw65 qw108 qw1480) rfl rfl rfl hd_X11_shot ⟨by rw [hR]; exact Nat.le_of_ble_eq_true rfl, by rw [hR]; exact Nat.le_of_ble_eq_true rfl⟩) (zPV hPc hK hDc (va_recv hK hP (ci := 11) (q0 := 0) rfl rfl)) rfl rfl hl.1 rfl (lv_room (Nat.le_of_ble_eq_true rfl)) dX11_lies_19 ⟨Nat.zero_le _, Nat.zero_le _⟩) hS (fun q _ h => hFc q h) hFc (fun v19 u19 t H locs ht hvm hw hB hz1 hk1 hS => ?_)
        have hP := zkeep hP hk1
        obtain ⟨f19_0, f19_1, f19_2⟩ : ((-1) ≤ v19.toInt) ∧ (v19.toInt ≤ 9) ∧ (v19 = fN (17 + (4 * m4_L_2.toInt.toNat + 2))) := hw
        have F19 := f19_2
        refine lv_aload_n hx hb dX11_lies_22 rfl (lv_at hl 2 rfl) ?_
        refine lv_aload_n hx hb dX11_lies_23 rfl (lv_at hl 2 rfl) ?_
        refine lv_iload_n hx hb dX11_lies_24 rfl (lv_at hl 0 rfl) ?_
        refine lv_iconst (v := 0) hx hb dX11_lies_25 (by decide) ?_
        have hPc := hP.sub (ws' := [(h0, .inr (11, [.int th, .ref tB, .int tsz, .int tat, .int wr, .int dp, .ref rC, .ref rV, .ref rD, .ref rK, .ref rT, .ref rS, .ref rU, .int lw, .int tx, .ref rL, .ref rX, .ref qR, .ref qB, .ref qP, .int qnb, .int qnp, .ref aR, .ref aB, .ref aP, .int nb, .int np, .ref aN, .ref rf, .int ho, .int br, .ref aK, .int ac, .long dw, .ref aE, .int sr, .int sf, .ref aA, .ref aH, .ref aI, .int hi])), (aN, .inl (cI, 97, .inl fN))]) [0, 2] rfl
        have hDc := hT.sub (ws' := [(h0, .inr (11, [.int th, .ref tB, .int tsz, .int tat, .int wr, .int dp, .ref rC, .ref rV, .ref rD, .ref rK, .ref rT, .ref rS, .ref rU, .int lw, .int tx, .ref rL, .ref rX, .ref qR, .ref qB, .ref qP, .int qnb, .int qnp, .ref aR, .ref aB, .ref aP, .int nb, .int np, .ref aN, .ref rf, .int ho, .int br, .ref aK, .int ac, .long dw, .ref aE, .int sr, .int sf, .ref aA, .ref aH, .ref aI, .int hi])), (aN, .inl (cI, 97, .inl fN))]) [0, 2] (by decide) rfl
        have hFc := zfr hS hA
        refine va_calli (va_runV (As := [.int m4_L_2, .int 0]) (rest := [.ref h0, .int v19, .int m4_L_1]) ⟨hx, hb, hml, hown, hts⟩ (g_X11_shot_0 l dC dI cI cJ h0 m4_L_2 th tB tsz tat wr dp rC rV rD rK rT rS rU lw tx rL rX qR qB qP qnb qnp aR aB aP nb np aN rf ho br aK ac dw aE sr sf aA aH aI hi fN H.size n_ac n_hi n_ho n_lw n_nb n_np (by omega) n_qnb n_qnp n_tat n_tsz n_wr (by omega) ci_fN_zNw_np) (cwV 2 hts (zgV qw1477 qw1479 qw65 qw108 qw1480) rfl rfl rfl hd_X11_shot ⟨by rw [hR]; exact Nat.le_of_ble_eq_true rfl, by rw [hR]; exact Nat.le_of_ble_eq_true rfl⟩) (zPV hPc hK hDc (va_recv hK hP (ci := 11) (q0 := 0) rfl rfl)) rfl rfl hl.1 rfl (lv_room (Nat.le_of_ble_eq_true rfl)) dX11_lies_26 ⟨Nat.zero_le _, Nat.zero_le _⟩) hS (fun q _ h => hFc q h) hFc (fun v26 u26 t H locs ht hvm hw hB hz1 hk1 hS => ?_)
        have hP := zkeep hP hk1
        obtain ⟨f26_0, f26_1, f26_2, f26_3⟩ : (0 ≤ v26.toInt) ∧ (v26.toInt ≤ 5) ∧ (v26.toInt = (fN (17 + 4 * m4_L_2.toInt.toNat)).toInt) ∧ (v26 = fN (17 + 4 * m4_L_2.toInt.toNat)) := hw
        have F26 := f26_3
        refine lv_iconst (v := 0) hx hb dX11_lies_29 (by decide) ?_
        have hPc := hP.sub (ws' := [(h0, .inr (11, [.int th, .ref tB, .int tsz, .int tat, .int wr, .int dp, .ref rC, .ref rV, .ref rD, .ref rK, .ref rT, .ref rS, .ref rU, .int lw, .int tx, .ref rL, .ref rX, .ref qR, .ref qB, .ref qP, .int qnb, .int qnp, .ref aR, .ref aB, .ref aP, .int nb, .int np, .ref aN, .ref rf, .int ho, .int br, .ref aK, .int ac, .long dw, .ref aE, .int sr, .int sf, .ref aA, .ref aH, .ref aI, .int hi])), (aB, .inl (cI, 24, .inl fBr))]) [0, 1] rfl
        have hDc := hT.sub (ws' := [(h0, .inr (11, [.int th, .ref tB, .int tsz, .int tat, .int wr, .int dp, .ref rC, .ref rV, .ref rD, .ref rK, .ref rT, .ref rS, .ref rU, .int lw, .int tx, .ref rL, .ref rX, .ref qR, .ref qB, .ref qP, .int qnb, .int qnp, .ref aR, .ref aB, .ref aP, .int nb, .int np, .ref aN, .ref rf, .int ho, .int br, .ref aK, .int ac, .long dw, .ref aE, .int sr, .int sf, .ref aA, .ref aH, .ref aI, .int hi])), (aB, .inl (cI, 24, .inl fBr))]) [0, 1] (by decide) rfl
        have hFc := zfr hS hA
        refine va_calli (va_runV (As := [.int v26, .int 0]) (rest := [.int v19, .int m4_L_1]) ⟨hx, hb, hml, hown, hts⟩ (g_X11_of l dC dI cI cJ h0 v26 0 th tB tsz tat wr dp rC rV rD rK rT rS rU lw tx rL rX qR qB qP qnb qnp aR aB aP nb np aN rf ho br aK ac dw aE sr sf aA aH aI hi fBr H.size n_ac n_hi n_ho n_lw n_nb n_np ⟨f26_0, f26_1⟩ (by decide) n_qnb n_qnp n_tat n_tsz n_wr) (cwV 2 hts (zgV qw1390 qw1392 qw54 qw108 qw1393) rfl rfl rfl hd_X11_of ⟨by rw [hR]; exact Nat.le_of_ble_eq_true rfl, by rw [hR]; exact Nat.le_of_ble_eq_true rfl⟩) (zPV hPc hK hDc (va_recv hK hP (ci := 11) (q0 := 0) rfl rfl)) rfl rfl hl.1 rfl (lv_room (Nat.le_of_ble_eq_true rfl)) dX11_lies_30 ⟨Nat.zero_le _, Nat.zero_le _⟩) hS (fun q _ h => hFc q h) hFc (fun v30 u30 t H locs ht hvm hw hB hz1 hk1 hS => ?_)
        have hP := zkeep hP hk1
        have zn30_0 : (0 : Int32).toInt = 0 := by decide
        have f30_0 : (v30 = fBr (4 * v26.toInt.toNat + (0 : Int32).toInt.toNat)) := hw
        have F30 := f30_0
        refine lv_isub hx hb dX11_lies_33 ?_
        refine lv_topi (fun v33 e33 => ?_)
        refine va_mabs hx hb (by rw [hml]; exact hl.1.symm) hown (hts _ qw1599) (hts _ qw846) (hts _ qw112) (hts _ qw847) (by rw [hR]; exact Nat.le_of_ble_eq_true rfl) (by rw [hR]; exact Nat.le_of_ble_eq_true rfl) (Nat.zero_le _) (Nat.zero_le _) dX11_lies_34 ?_
        refine lv_topi (fun v34 e34 => ?_)
        refine lv_iadd hx hb dX11_lies_37 ?_
        refine lv_topi (fun v37 e37 => ?_)
        refine lv_istore_n (lv' := [(1, .int v37), (2, .int m4_L_2), (0, .ref h0)]) hx hb dX11_lies_38 rfl hl (by decide) rfl (fun ls hl => ?_)
        obtain ⟨v39, e39⟩ : ∃ y : Int32, y = m4_L_2 + Int32.ofInt (1) := ⟨_, rfl⟩
        refine lv_iinc (v := v39) (lv' := [(2, .int v39), (1, .int v37), (0, .ref h0)]) hx hb dX11_lies_39 hl (k := 1) rfl e39.symm (by decide) rfl (fun ls hl => ?_)
        have i39 : v39.toInt = m4_L_2.toInt + 1 := zaddI e39 (by decide) (by omega) (by omega)
        refine lv_goto (tgt := 4) hx hb dX11_lies_42 (by decide) ?_
        exact ih4 _ (by omega) v37 v39 (by omega) (by omega) (zLieS (P := fun i => fN (17 + i)) jv4_0 (by omega) i39 (show v33 = fN (17 + (4 * m4_L_2.toInt.toNat + 2)) - fBr (4 * (fN (17 + 4 * m4_L_2.toInt.toNat)).toInt.toNat) by rw [e33, F19, F30.trans (congrArg fBr (show 4 * v26.toInt.toNat + (0 : Int32).toInt.toNat = 4 * v26.toInt.toNat by have : (0 : Int32).toInt = 0 := (by decide); omega)), F26]) e34 e37) rfl H locs ls hP hS (lv_sub hl [0, 1, 2] rfl)
  refine lv_istore_n (lv' := [(2, .int 0), (1, .int 0), (0, .ref h0)]) hx hb dX11_lies_3 rfl hl (by decide) rfl (fun ls hl => ?_)
  have zj4_m4_L_1 : (0 : Int32).toInt = 0 := by decide
  have zj4_m4_L_2 : (0 : Int32).toInt = 0 := by decide
  exact J4 _ 0 0 (by decide) (by omega) (rfl) rfl H locs ls hP hS (lv_sub hl [0, 1, 2] rfl)
set_option maxHeartbeats 4000000 in
set_option maxRecDepth 100000 in
theorem g_X11_mostOf (l : Launch) (dC : Nat → ClassId) (dI : Nat → Nat → Nat) (cI cJ : ClassId) (h0 : Nat) (p0 : Int32) (th : Int32) (tB : Nat) (tsz : Int32) (tat : Int32) (wr : Int32) (dp : Int32) (rC : Nat) (rV : Nat) (rD : Nat) (rK : Nat) (rT : Nat) (rS : Nat) (rU : Nat) (lw : Int32) (tx : Int32) (rL : Nat) (rX : Nat) (qR : Nat) (qB : Nat) (qP : Nat) (qnb : Int32) (qnp : Int32) (aR : Nat) (aB : Nat) (aP : Nat) (nb : Int32) (np : Int32) (aN : Nat) (rf : Nat) (ho : Int32) (br : Int32) (aK : Nat) (ac : Int32) (dw : Int64) (aE : Nat) (sr : Int32) (sf : Int32) (aA : Nat) (aH : Nat) (aI : Nat) (hi : Int32) (fBr : Nat → Int32) (sz : Nat) (n_ac : 0 ≤ ac.toInt ∧ ac.toInt ≤ 40) (n_hi : 0 ≤ hi.toInt ∧ hi.toInt ≤ 1) (n_ho : (-1) ≤ ho.toInt ∧ ho.toInt ≤ 3) (n_lw : 0 ≤ lw.toInt ∧ lw.toInt ≤ 4) (n_nb : 0 ≤ nb.toInt ∧ nb.toInt ≤ 6) (n_np : 0 ≤ np.toInt ∧ np.toInt ≤ 5) (n_p0 : 0 ≤ p0.toInt ∧ p0.toInt ≤ 3) (n_qnb : 0 ≤ qnb.toInt ∧ qnb.toInt ≤ 6) (n_qnp : 0 ≤ qnp.toInt ∧ qnp.toInt ≤ 5) (n_tat : 0 ≤ tat.toInt ∧ tat.toInt ≤ 260) (n_tsz : 0 ≤ tsz.toInt ∧ tsz.toInt ≤ 240) (n_wr : (-1) ≤ wr.toInt ∧ wr.toInt ≤ 260)  (ci_fBr_zBr_nb : zBr nb fBr)  : Met l yX11_mostOf (.code yX11_mostOf cX11_mostOf 4 (some .int) :: wA) ({ frames := 1, cells := 0, slots := 0, locals := 22 }) (zP (dC, dI) [(cI, .int), (cJ, .long)] [.ref h0, .int p0] sz [(h0, .inr (11, [.int th, .ref tB, .int tsz, .int tat, .int wr, .int dp, .ref rC, .ref rV, .ref rD, .ref rK, .ref rT, .ref rS, .ref rU, .int lw, .int tx, .ref rL, .ref rX, .ref qR, .ref qB, .ref qP, .int qnb, .int qnp, .ref aR, .ref aB, .ref aP, .int nb, .int np, .ref aN, .ref rf, .int ho, .int br, .ref aK, .int ac, .long dw, .ref aE, .int sr, .int sf, .ref aA, .ref aH, .ref aI, .int hi])), (aB, .inl (cI, 24, .inl fBr))]) (va_Qi (fun (r : Int32) (u : Unit) => (0 ≤ r.toInt) ∧ (r.toInt ≤ 5) ∧ (r = zXm (fun j => fBr (4 * j + p0.toInt.toNat)) (nb.toInt.toNat - 1))) (fun (_ : Unit) (_ : State) => True) (va_A [] sz)) 0 0 (va_A [] sz) := by
  refine Met.ofW (cc := cX11_mostOf) (maxL := 4) (ret := (some .int)) (by decide) rfl ?_
  intro p e s m args below meth c s₁ B hml hv
  obtain ⟨hargs, hsz, hP, hK, hT⟩ := hv
  have hx := B.exec
  have hb := B.bytes
  have hr := B.returns
  have hts : ∀ w ∈ wA, w.before args s = true := fun w h => atoms_spec (ws := .code yX11_mostOf cX11_mostOf 4 (some .int) :: wA) B.pre w (List.mem_cons_of_mem _ h)
  have hown : s.vm.findClass RX11 = some m.cls := findClass_of_methodNamed B.named
  have hlocks := B.notSynchronized
  subst hsz
  have hD : va_D (va_A [] s.heap.size) [] := zD0
  generalize hAe : va_A [] s.heap.size = A at hD ⊢
  have hA : ∀ q : Nat, s.heap.size ≤ q → A q := fun q h => by rw [← hAe]; exact Or.inr h
  have hl := lv_entry ([.ref h0, .int p0]) (n := 4) (Nat.le_of_ble_eq_true rfl)
  rw [show entryFrame m args 4 = entryFrame m ([.ref h0, .int p0] : List Value).toArray 4 by rw [hargs], lg_entry_eq]
  generalize (lg_sl ([.ref h0, .int p0]) ++ List.replicate (4 - (lg_sl ([.ref h0, .int p0])).length) Slot.unset).toArray = ls at hl ⊢
  have hl : lv_has ls 4 [(0, .ref h0), (1, .int p0)] := hl
  refine zstart (fun H hH => ?_)
  rw [← hH] at hP
  have hS : va_S A s.heap H [] := by rw [hH]; exact va_S.rf
  generalize ([] : List Loc) = locs at hS ⊢
  refine zgen (fun R Q hR hQ => ?_)
  refine lv_iconst (v := 0) hx hb dX11_mostOf_0 (by decide) ?_
  refine lv_istore_n (lv' := [(2, .int 0), (0, .ref h0), (1, .int p0)]) hx hb dX11_mostOf_1 rfl hl (by decide) rfl (fun ls hl => ?_)
  refine lv_iconst (v := 1) hx hb dX11_mostOf_2 (by decide) ?_
  have J4 : ∀ (n : Nat) (m4_L_2 : Int32) (m4_L_3 : Int32), (0 ≤ m4_L_2.toInt ∧ m4_L_2.toInt ≤ 5) → (1 ≤ m4_L_3.toInt ∧ m4_L_3.toInt ≤ 6) → (m4_L_3.toInt ≤ nb.toInt ∨ m4_L_3.toInt = 1) → (m4_L_2 = zXm (fun j => fBr (4 * j + p0.toInt.toNat)) (m4_L_3.toInt.toNat - 1)) → (7 - m4_L_3.toInt).toNat = n → ∀ (H : Heap) (locs : List Loc) (ls : Array Slot), va_P (dC, dI) vwCl [(h0, .inr (11, [.int th, .ref tB, .int tsz, .int tat, .int wr, .int dp, .ref rC, .ref rV, .ref rD, .ref rK, .ref rT, .ref rS, .ref rU, .int lw, .int tx, .ref rL, .ref rX, .ref qR, .ref qB, .ref qP, .int qnb, .int qnp, .ref aR, .ref aB, .ref aP, .int nb, .int np, .ref aN, .ref rf, .int ho, .int br, .ref aK, .int ac, .long dw, .ref aE, .int sr, .int sf, .ref aA, .ref aH, .ref aI, .int hi])), (aB, .inl (cI, 24, .inl fBr))] H → va_S A s.heap H locs → lv_has ls 4 [(3, .int m4_L_3), (2, .int m4_L_2), (0, .ref h0), (1, .int p0)] → W p l e R s m args below meth c H locs 0 0 Q (F0 m 4 ls []) := by
    intro n4
    induction n4 using Nat.strongRecOn with
    | _ n4 ih4 =>
      intro m4_L_2 m4_L_3 jf4_0 jf4_1 jf4_2 jv4_0 hmu4 H locs ls hP hS hl
      refine lv_iload_n hx hb dX11_mostOf_4 rfl (lv_at hl 0 rfl) ?_
      refine lv_aload_n hx hb dX11_mostOf_5 rfl (lv_at hl 2 rfl) ?_
      refine va_get (D := (dC, dI)) (ci := 11) (v := .int nb) (C := RX11) (T := TX11) (N := 41) hx hb hts iX11 hown hK hP 0 rfl rfl 25 (by decide) (hts _ qw1152) (fun _ h9 => h9) rfl dX11_mostOf_6 ?_
      refine lv_icmp_ge (tgt := 39) hx hb dX11_mostOf_9 (by decide) (fun c9 => ?_) (fun c9 => ?_)
      · have c9 : nb.toInt ≤ m4_L_3.toInt := z3 rfl rfl c9
        refine lv_iload_n hx hb dX11_mostOf_39 rfl (lv_at hl 1 rfl) ?_
        rw [hQ]
        exact W.iret (v := m4_L_2) hx hb hr (fun t ht hW => ⟨⟨m4_L_2, (), rfl, ⟨by (try dsimp only); omega, by (try dsimp only); omega, by (try dsimp only); exact jv4_0.trans (by rw [show m4_L_3.toInt.toNat - 1 = nb.toInt.toNat - 1 by omega])⟩, trivial⟩, hS.F ht⟩) hS.2.2 dX11_mostOf_40
      · have c9 : m4_L_3.toInt < nb.toInt := z4 rfl rfl c9
        refine lv_aload_n hx hb dX11_mostOf_12 rfl (lv_at hl 2 rfl) ?_
        refine lv_iload_n hx hb dX11_mostOf_13 rfl (lv_at hl 0 rfl) ?_
        refine lv_iload_n hx hb dX11_mostOf_14 rfl (lv_at hl 3 rfl) ?_
        have hPc := hP.sub (ws' := [(h0, .inr (11, [.int th, .ref tB, .int tsz, .int tat, .int wr, .int dp, .ref rC, .ref rV, .ref rD, .ref rK, .ref rT, .ref rS, .ref rU, .int lw, .int tx, .ref rL, .ref rX, .ref qR, .ref qB, .ref qP, .int qnb, .int qnp, .ref aR, .ref aB, .ref aP, .int nb, .int np, .ref aN, .ref rf, .int ho, .int br, .ref aK, .int ac, .long dw, .ref aE, .int sr, .int sf, .ref aA, .ref aH, .ref aI, .int hi])), (aB, .inl (cI, 24, .inl fBr))]) [0, 1] rfl
        have hDc := hT.sub (ws' := [(h0, .inr (11, [.int th, .ref tB, .int tsz, .int tat, .int wr, .int dp, .ref rC, .ref rV, .ref rD, .ref rK, .ref rT, .ref rS, .ref rU, .int lw, .int tx, .ref rL, .ref rX, .ref qR, .ref qB, .ref qP, .int qnb, .int qnp, .ref aR, .ref aB, .ref aP, .int nb, .int np, .ref aN, .ref rf, .int ho, .int br, .ref aK, .int ac, .long dw, .ref aE, .int sr, .int sf, .ref aA, .ref aH, .ref aI, .int hi])), (aB, .inl (cI, 24, .inl fBr))]) [0, 1] (by decide) rfl
        have hFc := zfr hS hA
        refine va_calli (va_runV (As := [.int m4_L_3, .int p0]) (rest := []) ⟨hx, hb, hml, hown, hts⟩ (g_X11_of l dC dI cI cJ h0 m4_L_3 p0 th tB tsz tat wr dp rC rV rD rK rT rS rU lw tx rL rX qR qB qP qnb qnp aR aB aP nb np aN rf ho br aK ac dw aE sr sf aA aH aI hi fBr H.size n_ac n_hi n_ho n_lw n_nb n_np (by omega) n_p0 n_qnb n_qnp n_tat n_tsz n_wr) (cwV 2 hts (zgV qw1390 qw1392 qw54 qw108 qw1393) rfl rfl rfl hd_X11_of ⟨by rw [hR]; exact Nat.le_of_ble_eq_true rfl, by rw [hR]; exact Nat.le_of_ble_eq_true rfl⟩) (zPV hPc hK hDc (va_recv hK hP (ci := 11) (q0 := 0) rfl rfl)) rfl rfl hl.1 rfl (lv_room (Nat.le_of_ble_eq_true rfl)) dX11_mostOf_15 ⟨Nat.zero_le _, Nat.zero_le _⟩) hS (fun q _ h => hFc q h) hFc (fun v15 u15 t H locs ht hvm hw hB hz1 hk1 hS => ?_)
        have hP := zkeep hP hk1
        have f15_0 : (v15 = fBr (4 * m4_L_3.toInt.toNat + p0.toInt.toNat)) := hw
        have F15 := f15_0
        refine lv_aload_n hx hb dX11_mostOf_18 rfl (lv_at hl 2 rfl) ?_
        refine lv_iload_n hx hb dX11_mostOf_19 rfl (lv_at hl 1 rfl) ?_
        refine lv_iload_n hx hb dX11_mostOf_20 rfl (lv_at hl 3 rfl) ?_
        have hPc := hP.sub (ws' := [(h0, .inr (11, [.int th, .ref tB, .int tsz, .int tat, .int wr, .int dp, .ref rC, .ref rV, .ref rD, .ref rK, .ref rT, .ref rS, .ref rU, .int lw, .int tx, .ref rL, .ref rX, .ref qR, .ref qB, .ref qP, .int qnb, .int qnp, .ref aR, .ref aB, .ref aP, .int nb, .int np, .ref aN, .ref rf, .int ho, .int br, .ref aK, .int ac, .long dw, .ref aE, .int sr, .int sf, .ref aA, .ref aH, .ref aI, .int hi])), (aB, .inl (cI, 24, .inl fBr))]) [0, 1] rfl
        have hDc := hT.sub (ws' := [(h0, .inr (11, [.int th, .ref tB, .int tsz, .int tat, .int wr, .int dp, .ref rC, .ref rV, .ref rD, .ref rK, .ref rT, .ref rS, .ref rU, .int lw, .int tx, .ref rL, .ref rX, .ref qR, .ref qB, .ref qP, .int qnb, .int qnp, .ref aR, .ref aB, .ref aP, .int nb, .int np, .ref aN, .ref rf, .int ho, .int br, .ref aK, .int ac, .long dw, .ref aE, .int sr, .int sf, .ref aA, .ref aH, .ref aI, .int hi])), (aB, .inl (cI, 24, .inl fBr))]) [0, 1] (by decide) rfl
        have hFc := zfr hS hA
        refine va_calli (va_runV (As := [.int m4_L_2, .int p0]) (rest := [.int v15]) ⟨hx, hb, hml, hown, hts⟩ (g_X11_of l dC dI cI cJ h0 m4_L_2 p0 th tB tsz tat wr dp rC rV rD rK rT rS rU lw tx rL rX qR qB qP qnb qnp aR aB aP nb np aN rf ho br aK ac dw aE sr sf aA aH aI hi fBr H.size n_ac n_hi n_ho n_lw n_nb n_np jf4_0 n_p0 n_qnb n_qnp n_tat n_tsz n_wr) (cwV 2 hts (zgV qw1390 qw1392 qw54 qw108 qw1393) rfl rfl rfl hd_X11_of ⟨by rw [hR]; exact Nat.le_of_ble_eq_true rfl, by rw [hR]; exact Nat.le_of_ble_eq_true rfl⟩) (zPV hPc hK hDc (va_recv hK hP (ci := 11) (q0 := 0) rfl rfl)) rfl rfl hl.1 rfl (lv_room (Nat.le_of_ble_eq_true rfl)) dX11_mostOf_21 ⟨Nat.zero_le _, Nat.zero_le _⟩) hS (fun q _ h => hFc q h) hFc (fun v21 u21 t H locs ht hvm hw hB hz1 hk1 hS => ?_)
        have hP := zkeep hP hk1
        have f21_0 : (v21 = fBr (4 * m4_L_2.toInt.toNat + p0.toInt.toNat)) := hw
        have F21 := f21_0
        refine lv_icmp_le (tgt := 31) hx hb dX11_mostOf_24 (by decide) (fun c24 => ?_) (fun c24 => ?_)
        · have c24 : v15.toInt ≤ v21.toInt := z3 rfl rfl c24
          refine lv_iload_n hx hb dX11_mostOf_31 rfl (lv_at hl 1 rfl) ?_
          refine lv_istore_n (lv' := [(2, .int m4_L_2), (3, .int m4_L_3), (0, .ref h0), (1, .int p0)]) hx hb dX11_mostOf_32 rfl hl (by decide) rfl (fun ls hl => ?_)
          obtain ⟨v33, e33⟩ : ∃ y : Int32, y = m4_L_3 + Int32.ofInt (1) := ⟨_, rfl⟩
          refine lv_iinc (v := v33) (lv' := [(3, .int v33), (2, .int m4_L_2), (0, .ref h0), (1, .int p0)]) hx hb dX11_mostOf_33 hl (k := 1) rfl e33.symm (by decide) rfl (fun ls hl => ?_)
          have i33 : v33.toInt = m4_L_3.toInt + 1 := zaddI e33 (by decide) (by omega) (by omega)
          refine lv_goto (tgt := 4) hx hb dX11_mostOf_36 (by decide) ?_
          exact ih4 _ (by omega) m4_L_2 v33 jf4_0 (by omega) (by omega) (by first | exact zXmS (B := (fun j => fBr (4 * j + p0.toInt.toNat))) jv4_0 (by omega) i33 F15 F21 (Or.inl ⟨by omega, rfl⟩) | exact zXmS (B := (fun j => fBr (4 * j + p0.toInt.toNat))) jv4_0 (by omega) i33 F15 F21 (Or.inr ⟨by omega, rfl⟩)) rfl H locs ls hP hS (lv_sub hl [0, 1, 2, 3] rfl)
        · have c24 : v21.toInt < v15.toInt := z4 rfl rfl c24
          refine lv_iload_n hx hb dX11_mostOf_27 rfl (lv_at hl 0 rfl) ?_
          refine lv_goto (tgt := 32) hx hb dX11_mostOf_28 (by decide) ?_
          refine lv_istore_n (lv' := [(2, .int m4_L_3), (3, .int m4_L_3), (0, .ref h0), (1, .int p0)]) hx hb dX11_mostOf_32 rfl hl (by decide) rfl (fun ls hl => ?_)
          obtain ⟨v33, e33⟩ : ∃ y : Int32, y = m4_L_3 + Int32.ofInt (1) := ⟨_, rfl⟩
          refine lv_iinc (v := v33) (lv' := [(3, .int v33), (2, .int m4_L_3), (0, .ref h0), (1, .int p0)]) hx hb dX11_mostOf_33 hl (k := 1) rfl e33.symm (by decide) rfl (fun ls hl => ?_)
          have i33 : v33.toInt = m4_L_3.toInt + 1 := zaddI e33 (by decide) (by omega) (by omega)
          refine lv_goto (tgt := 4) hx hb dX11_mostOf_36 (by decide) ?_
          exact ih4 _ (by omega) m4_L_3 v33 (by omega) (by omega) (by omega) (by first | exact zXmS (B := (fun j => fBr (4 * j + p0.toInt.toNat))) jv4_0 (by omega) i33 F15 F21 (Or.inl ⟨by omega, rfl⟩) | exact zXmS (B := (fun j => fBr (4 * j + p0.toInt.toNat))) jv4_0 (by omega) i33 F15 F21 (Or.inr ⟨by omega, rfl⟩)) rfl H locs ls hP hS (lv_sub hl [0, 1, 2, 3] rfl)
  refine lv_istore_n (lv' := [(3, .int 1), (2, .int 0), (0, .ref h0), (1, .int p0)]) hx hb dX11_mostOf_3 rfl hl (by decide) rfl (fun ls hl => ?_)
  have zj4_m4_L_2 : (0 : Int32).toInt = 0 := by decide
  have zj4_m4_L_3 : (1 : Int32).toInt = 1 := by decide
  exact J4 _ 0 1 (by decide) (by decide) (by omega) (rfl) rfl H locs ls hP hS (lv_sub hl [0, 1, 2, 3] rfl)
