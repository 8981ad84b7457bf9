set_option maxHeartbeats 4000000 in
set_option maxRecDepth 100000 in
theorem g_X11_seenOf (l : Launch) (dC : Nat → ClassId) (dI : Nat → Nat → Nat) (cI cJ : ClassId) (h0 : Nat) (p0 : Int32) (th : Int32) (tB : Nat) (tsz : Int32) (tat : Int32) (wr : Int32) (dp : Int32) (rC : Nat) (rV : Nat) (rD : Nat) (rK : Nat) (rT : Nat) (rS : Nat) (rU : Nat) (lw : Int32) (tx : Int32) (rL : Nat) (rX : Nat) (qR : Nat) (qB : Nat) (qP : Nat) (qnb : Int32) (qnp : Int32) (aR : Nat) (aB : Nat) (aP : Nat) (nb : Int32) (np : Int32) (aN : Nat) (rf : Nat) (ho : Int32) (br : Int32) (aK : Nat) (ac : Int32) (dw : Int64) (aE : Nat) (sr : Int32) (sf : Int32) (aA : Nat) (aH : Nat) (aI : Nat) (hi : Int32) (fN : Nat → Int32) (sz : Nat) (n_ac : 0 ≤ ac.toInt ∧ ac.toInt ≤ 40) (n_hi : 0 ≤ hi.toInt ∧ hi.toInt ≤ 1) (n_ho : (-1) ≤ ho.toInt ∧ ho.toInt ≤ 3) (n_lw : 0 ≤ lw.toInt ∧ lw.toInt ≤ 4) (n_nb : 0 ≤ nb.toInt ∧ nb.toInt ≤ 6) (n_np : 0 ≤ np.toInt ∧ np.toInt ≤ 5) (n_qnb : 0 ≤ qnb.toInt ∧ qnb.toInt ≤ 6) (n_qnp : 0 ≤ qnp.toInt ∧ qnp.toInt ≤ 5) (n_tat : 0 ≤ tat.toInt ∧ tat.toInt ≤ 260) (n_tsz : 0 ≤ tsz.toInt ∧ tsz.toInt ≤ 240) (n_wr : (-1) ≤ wr.toInt ∧ wr.toInt ≤ 260)  (ci_fN_zNw_np : zNw np fN)  : Met l yX11_seenOf (.code yX11_seenOf cX11_seenOf 4 (some .int) :: wA) ({ frames := 1, cells := 0, slots := 0, locals := 22 }) (zP (dC, dI) [(cI, .int), (cJ, .long)] [.ref h0, .int p0] sz [(h0, .inr (11, [.int th, .ref tB, .int tsz, .int tat, .int wr, .int dp, .ref rC, .ref rV, .ref rD, .ref rK, .ref rT, .ref rS, .ref rU, .int lw, .int tx, .ref rL, .ref rX, .ref qR, .ref qB, .ref qP, .int qnb, .int qnp, .ref aR, .ref aB, .ref aP, .int nb, .int np, .ref aN, .ref rf, .int ho, .int br, .ref aK, .int ac, .long dw, .ref aE, .int sr, .int sf, .ref aA, .ref aH, .ref aI, .int hi])), (aN, .inl (cI, 97, .inl fN))]) (va_Qi (fun (r : Int32) (u : Unit) => (0 ≤ r.toInt) ∧ (r.toInt ≤ 20) ∧ (r.toInt = (zCt fN p0 (fN 16).toInt.toNat : Int)) ∧ (r = zCnt (fun i => fN (17 + i)) p0 (fN 16).toInt.toNat)) (fun (_ : Unit) (_ : State) => True) (va_A [] sz)) 0 0 (va_A [] sz) := by
  refine Met.ofW (cc := cX11_seenOf) (maxL := 4) (ret := (some .int)) (by decide) rfl ?_
  intro p e s m args below meth c s₁ B hml hv
  obtain ⟨hargs, hsz, hP, hK, hT⟩ := hv
  have hx := B.exec
  have hb := B.bytes
  have hr := B.returns
  have hts : ∀ w ∈ wA, w.before args s = true := fun w h => atoms_spec (ws := .code yX11_seenOf cX11_seenOf 4 (some .int) :: wA) B.pre w (List.mem_cons_of_mem _ h)
  have hown : s.vm.findClass RX11 = some m.cls := findClass_of_methodNamed B.named
  have hlocks := B.notSynchronized
  subst hsz
  have hD : va_D (va_A [] s.heap.size) [] := zD0
  generalize hAe : va_A [] s.heap.size = A at hD ⊢
  have hA : ∀ q : Nat, s.heap.size ≤ q → A q := fun q h => by rw [← hAe]; exact Or.inr h
  have hl := lv_entry ([.ref h0, .int p0]) (n := 4) (Nat.le_of_ble_eq_true rfl)
  rw [show entryFrame m args 4 = entryFrame m ([.ref h0, .int p0] : List Value).toArray 4 by rw [hargs], lg_entry_eq]
  generalize (lg_sl ([.ref h0, .int p0]) ++ List.replicate (4 - (lg_sl ([.ref h0, .int p0])).length) Slot.unset).toArray = ls at hl ⊢
  have hl : lv_has ls 4 [(0, .ref h0), (1, .int p0)] := hl
  refine zstart (fun H hH => ?_)
  rw [← hH] at hP
  have hS : va_S A s.heap H [] := by rw [hH]; exact va_S.rf
  generalize ([] : List Loc) = locs at hS ⊢
  refine zgen (fun R Q hR hQ => ?_)
  have q0 : zCt fN p0 (0 : Int32).toInt.toNat = 0 := rfl
  have q0b := ci_fN_zNw_np.2.1
  refine lv_iconst (v := 0) hx hb dX11_seenOf_0 (by decide) ?_
  refine lv_istore_n (lv' := [(2, .int 0), (0, .ref h0), (1, .int p0)]) hx hb dX11_seenOf_1 rfl hl (by decide) rfl (fun ls hl => ?_)
  refine lv_iconst (v := 0) hx hb dX11_seenOf_2 (by decide) ?_
  have J4 : ∀ (n : Nat) (m4_L_2 : Int32) (m4_L_3 : Int32), (0 ≤ m4_L_2.toInt ∧ m4_L_2.toInt ≤ 20) → (0 ≤ m4_L_3.toInt ∧ m4_L_3.toInt ≤ 20) → (m4_L_2.toInt = (zCt fN p0 m4_L_3.toInt.toNat : Int) ∧ m4_L_2.toInt ≤ m4_L_3.toInt ∧ 0 ≤ m4_L_2.toInt ∧ m4_L_3.toInt ≤ (fN 16).toInt) → (m4_L_2 = zCnt (fun i => fN (17 + i)) p0 m4_L_3.toInt.toNat) → (21 - m4_L_3.toInt).toNat = n → ∀ (H : Heap) (locs : List Loc) (ls : Array Slot), va_P (dC, dI) vwCl [(h0, .inr (11, [.int th, .ref tB, .int tsz, .int tat, .int wr, .int dp, .ref rC, .ref rV, .ref rD, .ref rK, .ref rT, .ref rS, .ref rU, .int lw, .int tx, .ref rL, .ref rX, .ref qR, .ref qB, .ref qP, .int qnb, .int qnp, .ref aR, .ref aB, .ref aP, .int nb, .int np, .ref aN, .ref rf, .int ho, .int br, .ref aK, .int ac, .long dw, .ref aE, .int sr, .int sf, .ref aA, .ref aH, .ref aI, .int hi])), (aN, .inl (cI, 97, .inl fN))] H → va_S A s.heap H locs → lv_has ls 4 [(3, .int m4_L_3), (2, .int m4_L_2), (0, .ref h0), (1, .int p0)] → W p l e R s m args below meth c H locs 0 0 Q (F0 m 4 ls []) := by
    intro n4
    induction n4 using Nat.strongRecOn with
    | _ n4 ih4 =>
      intro m4_L_2 m4_L_3 jf4_0 jf4_1 jf4_2 jv4_0 hmu4 H locs ls hP hS hl
      refine lv_iload_n hx hb dX11_seenOf_4 rfl (lv_at hl 0 rfl) ?_
      refine lv_aload_n hx hb dX11_seenOf_5 rfl (lv_at hl 2 rfl) ?_
      refine va_get (D := (dC, dI)) (ci := 11) (v := .ref aN) (C := RX11) (T := TX11) (N := 41) hx hb hts iX11 hown hK hP 0 rfl rfl 27 (by decide) (hts _ qw1154) (fun _ h9 => h9) rfl dX11_seenOf_6 ?_
      refine lv_bipush (v := 16) hx hb dX11_seenOf_9 (by decide) ?_
      refine va_iald hx hb hK hP 1 0 rfl rfl (by unfold vp_in; decide) dX11_seenOf_11 ?_
      refine lv_topi (fun v11 e11 => ?_)
      have i11 : v11.toInt = (fN 16).toInt ∧ 0 ≤ v11.toInt ∧ v11.toInt ≤ 20 := zNw_16 ci_fN_zNw_np e11
      refine lv_icmp_ge (tgt := 39) hx hb dX11_seenOf_12 (by decide) (fun c12 => ?_) (fun c12 => ?_)
      · have c12 : v11.toInt ≤ m4_L_3.toInt := z3 rfl rfl c12
        have q39b : m4_L_3.toInt.toNat = (fN 16).toInt.toNat := by omega
        have q39c : zCt fN p0 m4_L_3.toInt.toNat = zCt fN p0 (fN 16).toInt.toNat := by rw [q39b]
        have q39 : 0 ≤ m4_L_2.toInt ∧ m4_L_2.toInt ≤ 20 := by omega
        refine lv_iload_n hx hb dX11_seenOf_39 rfl (lv_at hl 1 rfl) ?_
        rw [hQ]
        exact W.iret (v := m4_L_2) hx hb hr (fun t ht hW => ⟨⟨m4_L_2, (), rfl, ⟨by (try dsimp only); omega, by (try dsimp only); omega, by (try dsimp only); omega, by (try dsimp only); rw [jv4_0, q39b]⟩, trivial⟩, hS.F ht⟩) hS.2.2 dX11_seenOf_40
      · have c12 : m4_L_3.toInt < v11.toInt := z4 rfl rfl c12
        have q15 : 0 ≤ m4_L_2.toInt ∧ m4_L_2.toInt ≤ 19 := by omega
        refine lv_iload_n hx hb dX11_seenOf_15 rfl (lv_at hl 1 rfl) ?_
        refine lv_aload_n hx hb dX11_seenOf_16 rfl (lv_at hl 2 rfl) ?_
        refine lv_iload_n hx hb dX11_seenOf_17 rfl (lv_at hl 0 rfl) ?_
        refine lv_iconst (v := 0) hx hb dX11_seenOf_18 (by decide) ?_
        have hPc := hP.sub (ws' := [(h0, .inr (11, [.int th, .ref tB, .int tsz, .int tat, .int wr, .int dp, .ref rC, .ref rV, .ref rD, .ref rK, .ref rT, .ref rS, .ref rU, .int lw, .int tx, .ref rL, .ref rX, .ref qR, .ref qB, .ref qP, .int qnb, .int qnp, .ref aR, .ref aB, .ref aP, .int nb, .int np, .ref aN, .ref rf, .int ho, .int br, .ref aK, .int ac, .long dw, .ref aE, .int sr, .int sf, .ref aA, .ref aH, .ref aI, .int hi])), (aN, .inl (cI, 97, .inl fN))]) [0, 1] rfl
        have hDc := hT.sub (ws' := [(h0, .inr (11, [.int th, .ref tB, .int tsz, .int tat, .int wr, .int dp, .ref rC, .ref rV, .ref rD, .ref rK, .ref rT, .ref rS, .ref rU, .int lw, .int tx, .ref rL, .ref rX, .ref qR, .ref qB, .ref qP, .int qnb, .int qnp, .ref aR, .ref aB, .ref aP, .int nb, .int np, .ref aN, .ref rf, .int ho, .int br, .ref aK, .int ac, .long dw, .ref aE, .int sr, .int sf, .ref aA, .ref aH, .ref aI, .int hi])), (aN, .inl (cI, 97, .inl fN))]) [0, 1] (by decide) rfl
        have hFc := zfr hS hA
        refine va_calli (va_runV (As := [.int m4_L_3, .int 0]) (rest := [.int m4_L_2]) ⟨hx, hb, hml, hown, hts⟩ (g_X11_shot_0 l dC dI cI cJ h0 m4_L_3 th tB tsz tat wr dp rC rV rD rK rT rS rU lw tx rL rX qR qB qP qnb qnp aR aB aP nb np aN rf ho br aK ac dw aE sr sf aA aH aI hi fN H.size (by omega) (by omega) (by omega) (by omega) (by omega) (by omega) (by omega) (by omega) (by omega) (by omega) (by omega) (by omega) (by omega) ci_fN_zNw_np) (cwV 2 hts (zgV qw1473 qw1475 qw65 qw108 qw1476) rfl rfl rfl hd_X11_shot ⟨by rw [hR]; exact Nat.le_of_ble_eq_true rfl, by rw [hR]; exact Nat.le_of_ble_eq_true rfl⟩) (zPV hPc hK hDc (va_recv hK hP (ci := 11) (q0 := 0) rfl rfl)) rfl rfl hl.1 rfl (lv_room (Nat.le_of_ble_eq_true rfl)) dX11_seenOf_19 ⟨Nat.zero_le _, Nat.zero_le _⟩) hS (fun q _ h => hFc q h) hFc (fun v19 u19 t H locs ht hvm hw hB hz1 hk1 hS => ?_)
        have hP := zkeep hP hk1
        obtain ⟨f19_0, f19_1, f19_2, f19_3⟩ : (0 ≤ v19.toInt) ∧ (v19.toInt ≤ 5) ∧ (v19.toInt = (fN (17 + 4 * m4_L_3.toInt.toNat)).toInt) ∧ (v19 = fN (17 + 4 * m4_L_3.toInt.toNat)) := hw
        have F19 := f19_3
        refine lv_iload_n hx hb dX11_seenOf_22 rfl (lv_at hl 3 rfl) ?_
        refine lv_icmp_ne (tgt := 30) hx hb dX11_seenOf_23 (by decide) (fun c23 => ?_) (fun c23 => ?_)
        · have c23 : ¬ v19.toInt = p0.toInt := z6 rfl rfl c23
          refine lv_iconst (v := 0) hx hb dX11_seenOf_30 (by decide) ?_
          refine lv_iadd hx hb dX11_seenOf_31 ?_
          refine lv_topi (fun v31 e31 => ?_)
          have i31 : v31.toInt = m4_L_2.toInt + 0 := zadd e31 rfl (by decide) (by omega) (by omega)
          refine lv_istore_n (lv' := [(2, .int v31), (3, .int m4_L_3), (0, .ref h0), (1, .int p0)]) hx hb dX11_seenOf_32 rfl hl (by decide) rfl (fun ls hl => ?_)
          obtain ⟨v33, e33⟩ : ∃ y : Int32, y = m4_L_3 + Int32.ofInt (1) := ⟨_, rfl⟩
          refine lv_iinc (v := v33) (lv' := [(3, .int v33), (2, .int v31), (0, .ref h0), (1, .int p0)]) hx hb dX11_seenOf_33 hl (k := 1) rfl e33.symm (by decide) rfl (fun ls hl => ?_)
          have i33 : v33.toInt = m4_L_3.toInt + 1 := zaddI e33 (by decide) (by omega) (by omega)
          first | have q36 := zCt_s (f := fN) (b := p0) (i := m4_L_3) (i' := v33) (v := v19) (r := 1) (by omega) (by omega) (by omega) (Or.inl ⟨by omega, by decide⟩) | have q36 := zCt_s (f := fN) (b := p0) (i := m4_L_3) (i' := v33) (v := v19) (r := 0) (by omega) (by omega) (by omega) (Or.inr ⟨by omega, by decide⟩)
          have q36a : (1 : Int32).toInt = 1 := by decide
          have q36b : (0 : Int32).toInt = 0 := by decide
          refine lv_goto (tgt := 4) hx hb dX11_seenOf_36 (by decide) ?_
          exact ih4 _ (by omega) v31 v33 (by omega) (by omega) (by omega) (by first | exact zCntY (P := fun i => fN (17 + i)) jv4_0 (by omega) i33 F19 (by omega) e31 | exact (zadd0 e31).trans (zCntN (P := fun i => fN (17 + i)) jv4_0 (by omega) i33 F19 (by omega)) | fail) rfl H locs ls hP hS (lv_sub hl [0, 1, 2, 3] rfl)
        · have c23 : v19.toInt = p0.toInt := z5 rfl rfl c23
          refine lv_iconst (v := 1) hx hb dX11_seenOf_26 (by decide) ?_
          refine lv_goto (tgt := 31) hx hb dX11_seenOf_27 (by decide) ?_
          refine lv_iadd hx hb dX11_seenOf_31 ?_
          refine lv_topi (fun v31 e31 => ?_)
          have i31 : v31.toInt = m4_L_2.toInt + 1 := zadd e31 rfl (by decide) (by omega) (by omega)
          refine lv_istore_n (lv' := [(2, .int v31), (3, .int m4_L_3), (0, .ref h0), (1, .int p0)]) hx hb dX11_seenOf_32 rfl hl (by decide) rfl (fun ls hl => ?_)
          obtain ⟨v33, e33⟩ : ∃ y : Int32, y = m4_L_3 + Int32.ofInt (1) := ⟨_, rfl⟩
          refine lv_iinc (v := v33) (lv' := [(3, .int v33), (2, .int v31), (0, .ref h0), (1, .int p0)]) hx hb dX11_seenOf_33 hl (k := 1) rfl e33.symm (by decide) rfl (fun ls hl => ?_)
          have i33 : v33.toInt = m4_L_3.toInt + 1 := zaddI e33 (by decide) (by omega) (by omega)
          first | have q36 := zCt_s (f := fN) (b := p0) (i := m4_L_3) (i' := v33) (v := v19) (r := 1) (by omega) (by omega) (by omega) (Or.inl ⟨by omega, by decide⟩) | have q36 := zCt_s (f := fN) (b := p0) (i := m4_L_3) (i' := v33) (v := v19) (r := 0) (by omega) (by omega) (by omega) (Or.inr ⟨by omega, by decide⟩)
          have q36a : (1 : Int32).toInt = 1 := by decide
          have q36b : (0 : Int32).toInt = 0 := by decide
          refine lv_goto (tgt := 4) hx hb dX11_seenOf_36 (by decide) ?_
          exact ih4 _ (by omega) v31 v33 (by omega) (by omega) (by omega) (by first | exact zCntY (P := fun i => fN (17 + i)) jv4_0 (by omega) i33 F19 (by omega) e31 | exact (zadd0 e31).trans (zCntN (P := fun i => fN (17 + i)) jv4_0 (by omega) i33 F19 (by omega)) | fail) rfl H locs ls hP hS (lv_sub hl [0, 1, 2, 3] rfl)
  refine lv_istore_n (lv' := [(3, .int 0), (2, .int 0), (0, .ref h0), (1, .int p0)]) hx hb dX11_seenOf_3 rfl hl (by decide) rfl (fun ls hl => ?_)
  have zj4_m4_L_2 : (0 : Int32).toInt = 0 := by decide
  have zj4_m4_L_3 : (0 : Int32).toInt = 0 := by decide
  exact J4 _ 0 0 (by decide) (by decide) (by omega) (rfl) rfl H locs ls hP hS (lv_sub hl [0, 1, 2, 3] rfl)
set_option maxHeartbeats 4000000 in
set_option maxRecDepth 100000 in
theorem g_X11_lookedOf (l : Launch) (dC : Nat → ClassId) (dI : Nat → Nat → Nat) (cI cJ : ClassId) (h0 : Nat) (p0 : Int32) (th : Int32) (tB : Nat) (tsz : Int32) (tat : Int32) (wr : Int32) (dp : Int32) (rC : Nat) (rV : Nat) (rD : Nat) (rK : Nat) (rT : Nat) (rS : Nat) (rU : Nat) (lw : Int32) (tx : Int32) (rL : Nat) (rX : Nat) (qR : Nat) (qB : Nat) (qP : Nat) (qnb : Int32) (qnp : Int32) (aR : Nat) (aB : Nat) (aP : Nat) (nb : Int32) (np : Int32) (aN : Nat) (rf : Nat) (ho : Int32) (br : Int32) (aK : Nat) (ac : Int32) (dw : Int64) (aE : Nat) (sr : Int32) (sf : Int32) (aA : Nat) (aH : Nat) (aI : Nat) (hi : Int32) (fN : Nat → Int32) (sz : Nat) (n_ac : 0 ≤ ac.toInt ∧ ac.toInt ≤ 40) (n_hi : 0 ≤ hi.toInt ∧ hi.toInt ≤ 1) (n_ho : (-1) ≤ ho.toInt ∧ ho.toInt ≤ 3) (n_lw : 0 ≤ lw.toInt ∧ lw.toInt ≤ 4) (n_nb : 0 ≤ nb.toInt ∧ nb.toInt ≤ 6) (n_np : 0 ≤ np.toInt ∧ np.toInt ≤ 5) (n_qnb : 0 ≤ qnb.toInt ∧ qnb.toInt ≤ 6) (n_qnp : 0 ≤ qnp.toInt ∧ qnp.toInt ≤ 5) (n_tat : 0 ≤ tat.toInt ∧ tat.toInt ≤ 260) (n_tsz : 0 ≤ tsz.toInt ∧ tsz.toInt ≤ 240) (n_wr : (-1) ≤ wr.toInt ∧ wr.toInt ≤ 260)  (ci_fN_zNw_np : zNw np fN)  : Met l yX11_lookedOf (.code yX11_lookedOf cX11_lookedOf 4 (some .int) :: wA) ({ frames := 2, cells := 0, slots := 0, locals := 45 }) (zP (dC, dI) [(cI, .int), (cJ, .long)] [.ref h0, .int p0] sz [(h0, .inr (11, [.int th, .ref tB, .int tsz, .int tat, .int wr, .int dp, .ref rC, .ref rV, .ref rD, .ref rK, .ref rT, .ref rS, .ref rU, .int lw, .int tx, .ref rL, .ref rX, .ref qR, .ref qB, .ref qP, .int qnb, .int qnp, .ref aR, .ref aB, .ref aP, .int nb, .int np, .ref aN, .ref rf, .int ho, .int br, .ref aK, .int ac, .long dw, .ref aE, .int sr, .int sf, .ref aA, .ref aH, .ref aI, .int hi])), (aN, .inl (cI, 97, .inl fN))]) (va_Qi (fun (r : Int32) (u : Unit) => (r = zLkd (fun i => fN (17 + i)) p0 (fN 16).toInt.toNat)) (fun (_ : Unit) (_ : State) => True) (va_A [] sz)) 0 0 (va_A [] sz) := by
  refine Met.ofW (cc := cX11_lookedOf) (maxL := 4) (ret := (some .int)) (by decide) rfl ?_
  intro p e s m args below meth c s₁ B hml hv
  obtain ⟨hargs, hsz, hP, hK, hT⟩ := hv
  have hx := B.exec
  have hb := B.bytes
  have hr := B.returns
  have hts : ∀ w ∈ wA, w.before args s = true := fun w h => atoms_spec (ws := .code yX11_lookedOf cX11_lookedOf 4 (some .int) :: wA) B.pre w (List.mem_cons_of_mem _ h)
  have hown : s.vm.findClass RX11 = some m.cls := findClass_of_methodNamed B.named
  have hlocks := B.notSynchronized
  subst hsz
  have hD : va_D (va_A [] s.heap.size) [] := zD0
  generalize hAe : va_A [] s.heap.size = A at hD ⊢
  have hA : ∀ q : Nat, s.heap.size ≤ q → A q := fun q h => by rw [← hAe]; exact Or.inr h
  have hl := lv_entry ([.ref h0, .int p0]) (n := 4) (Nat.le_of_ble_eq_true rfl)
  rw [show entryFrame m args 4 = entryFrame m ([.ref h0, .int p0] : List Value).toArray 4 by rw [hargs], lg_entry_eq]
  generalize (lg_sl ([.ref h0, .int p0]) ++ List.replicate (4 - (lg_sl ([.ref h0, .int p0])).length) Slot.unset).toArray = ls at hl ⊢
  have hl : lv_has ls 4 [(0, .ref h0), (1, .int p0)] := hl
  refine zstart (fun H hH => ?_)
  rw [← hH] at hP
  have hS : va_S A s.heap H [] := by rw [hH]; exact va_S.rf
  generalize ([] : List Loc) = locs at hS ⊢
  refine zgen (fun R Q hR hQ => ?_)
  have q0b := ci_fN_zNw_np.2.1
  refine lv_iconst (v := 0) hx hb dX11_lookedOf_0 (by decide) ?_
  refine lv_istore_n (lv' := [(2, .int 0), (0, .ref h0), (1, .int p0)]) hx hb dX11_lookedOf_1 rfl hl (by decide) rfl (fun ls hl => ?_)
  refine lv_iconst (v := 0) hx hb dX11_lookedOf_2 (by decide) ?_
  have J4 : ∀ (n : Nat) (m4_L_2 : Int32) (m4_L_3 : Int32), (0 ≤ m4_L_3.toInt ∧ m4_L_3.toInt ≤ 20) → (m4_L_3.toInt ≤ (fN 16).toInt) → (m4_L_2 = zSum (fun i => fN (17 + i)) p0 m4_L_3.toInt.toNat) → (21 - m4_L_3.toInt).toNat = n → ∀ (H : Heap) (locs : List Loc) (ls : Array Slot), va_P (dC, dI) vwCl [(h0, .inr (11, [.int th, .ref tB, .int tsz, .int tat, .int wr, .int dp, .ref rC, .ref rV, .ref rD, .ref rK, .ref rT, .ref rS, .ref rU, .int lw, .int tx, .ref rL, .ref rX, .ref qR, .ref qB, .ref qP, .int qnb, .int qnp, .ref aR, .ref aB, .ref aP, .int nb, .int np, .ref aN, .ref rf, .int ho, .int br, .ref aK, .int ac, .long dw, .ref aE, .int sr, .int sf, .ref aA, .ref aH, .ref aI, .int hi])), (aN, .inl (cI, 97, .inl fN))] H → va_S A s.heap H locs → lv_has ls 4 [(3, .int m4_L_3), (2, .int m4_L_2), (0, .ref h0), (1, .int p0)] → W p l e R s m args below meth c H locs 0 0 Q (F0 m 4 ls []) := by
    intro n4
    induction n4 using Nat.strongRecOn with
    | _ n4 ih4 =>
      intro m4_L_2 m4_L_3 jf4_0 jf4_1 jv4_0 hmu4 H locs ls hP hS hl
      refine lv_iload_n hx hb dX11_lookedOf_4 rfl (lv_at hl 0 rfl) ?_
      refine lv_aload_n hx hb dX11_lookedOf_5 rfl (lv_at hl 2 rfl) ?_
      refine va_get (D := (dC, dI)) (ci := 11) (v := .ref aN) (C := RX11) (T := TX11) (N := 41) hx hb hts iX11 hown hK hP 0 rfl rfl 27 (by decide) (hts _ qw1154) (fun _ h9 => h9) rfl dX11_lookedOf_6 ?_
      refine lv_bipush (v := 16) hx hb dX11_lookedOf_9 (by decide) ?_
      refine va_iald hx hb hK hP 1 0 rfl rfl (by unfold vp_in; decide) dX11_lookedOf_11 ?_
      refine lv_topi (fun v11 e11 => ?_)
      have i11 : v11.toInt = (fN 16).toInt ∧ 0 ≤ v11.toInt ∧ v11.toInt ≤ 20 := zNw_16 ci_fN_zNw_np e11
      refine lv_icmp_ge (tgt := 44) hx hb dX11_lookedOf_12 (by decide) (fun c12 => ?_) (fun c12 => ?_)
      · have c12 : v11.toInt ≤ m4_L_3.toInt := z3 rfl rfl c12
        have q44 : m4_L_3.toInt.toNat = (fN 16).toInt.toNat := by omega
        refine lv_aload_n hx hb dX11_lookedOf_44 rfl (lv_at hl 2 rfl) ?_
        refine lv_iload_n hx hb dX11_lookedOf_45 rfl (lv_at hl 3 rfl) ?_
        have hPc := hP.sub (ws' := [(h0, .inr (11, [.int th, .ref tB, .int tsz, .int tat, .int wr, .int dp, .ref rC, .ref rV, .ref rD, .ref rK, .ref rT, .ref rS, .ref rU, .int lw, .int tx, .ref rL, .ref rX, .ref qR, .ref qB, .ref qP, .int qnb, .int qnp, .ref aR, .ref aB, .ref aP, .int nb, .int np, .ref aN, .ref rf, .int ho, .int br, .ref aK, .int ac, .long dw, .ref aE, .int sr, .int sf, .ref aA, .ref aH, .ref aI, .int hi])), (aN, .inl (cI, 97, .inl fN))]) [0, 1] rfl
        have hDc := hT.sub (ws' := [(h0, .inr (11, [.int th, .ref tB, .int tsz, .int tat, .int wr, .int dp, .ref rC, .ref rV, .ref rD, .ref rK, .ref rT, .ref rS, .ref rU, .int lw, .int tx, .ref rL, .ref rX, .ref qR, .ref qB, .ref qP, .int qnb, .int qnp, .ref aR, .ref aB, .ref aP, .int nb, .int np, .ref aN, .ref rf, .int ho, .int br, .ref aK, .int ac, .long dw, .ref aE, .int sr, .int sf, .ref aA, .ref aH, .ref aI, .int hi])), (aN, .inl (cI, 97, .inl fN))]) [0, 1] (by decide) rfl
        have hFc := zfr hS hA
        refine va_calli (va_runV (As := [.int p0]) (rest := []) ⟨hx, hb, hml, hown, hts⟩ (g_X11_seenOf l dC dI cI cJ h0 p0 th tB tsz tat wr dp rC rV rD rK rT rS rU lw tx rL rX qR qB qP qnb qnp aR aB aP nb np aN rf ho br aK ac dw aE sr sf aA aH aI hi fN H.size (by omega) (by omega) (by omega) (by omega) (by omega) (by omega) (by omega) (by omega) (by omega) (by omega) (by omega) ci_fN_zNw_np) (cwV 1 hts (zgV qw1525 qw1527 qw71 qw108 qw1528) rfl rfl rfl hd_X11_seenOf ⟨by rw [hR]; exact Nat.le_of_ble_eq_true rfl, by rw [hR]; exact Nat.le_of_ble_eq_true rfl⟩) (zPV hPc hK hDc (va_recv hK hP (ci := 11) (q0 := 0) rfl rfl)) rfl rfl hl.1 rfl (lv_room (Nat.le_of_ble_eq_true rfl)) dX11_lookedOf_46 ⟨Nat.zero_le _, Nat.zero_le _⟩) hS (fun q _ h => hFc q h) hFc (fun v46 u46 t H locs ht hvm hw hB hz1 hk1 hS => ?_)
        have hP := zkeep hP hk1
        obtain ⟨f46_0, f46_1, f46_2, f46_3⟩ : (0 ≤ v46.toInt) ∧ (v46.toInt ≤ 20) ∧ (v46.toInt = (zCt fN p0 (fN 16).toInt.toNat : Int)) ∧ (v46 = zCnt (fun i => fN (17 + i)) p0 (fN 16).toInt.toNat) := hw
        have F46 := f46_3
        refine lv_if_ne (tgt := 56) hx hb dX11_lookedOf_49 (by decide) (fun c49 => ?_) (fun c49 => ?_)
        · have c49 : ¬ v46.toInt = 0 := z6 rfl (by decide) c49
          refine lv_iload_n hx hb dX11_lookedOf_56 rfl (lv_at hl 1 rfl) ?_
          refine lv_aload_n hx hb dX11_lookedOf_57 rfl (lv_at hl 2 rfl) ?_
          refine lv_iload_n hx hb dX11_lookedOf_58 rfl (lv_at hl 3 rfl) ?_
          have hPc := hP.sub (ws' := [(h0, .inr (11, [.int th, .ref tB, .int tsz, .int tat, .int wr, .int dp, .ref rC, .ref rV, .ref rD, .ref rK, .ref rT, .ref rS, .ref rU, .int lw, .int tx, .ref rL, .ref rX, .ref qR, .ref qB, .ref qP, .int qnb, .int qnp, .ref aR, .ref aB, .ref aP, .int nb, .int np, .ref aN, .ref rf, .int ho, .int br, .ref aK, .int ac, .long dw, .ref aE, .int sr, .int sf, .ref aA, .ref aH, .ref aI, .int hi])), (aN, .inl (cI, 97, .inl fN))]) [0, 1] rfl
          have hDc := hT.sub (ws' := [(h0, .inr (11, [.int th, .ref tB, .int tsz, .int tat, .int wr, .int dp, .ref rC, .ref rV, .ref rD, .ref rK, .ref rT, .ref rS, .ref rU, .int lw, .int tx, .ref rL, .ref rX, .ref qR, .ref qB, .ref qP, .int qnb, .int qnp, .ref aR, .ref aB, .ref aP, .int nb, .int np, .ref aN, .ref rf, .int ho, .int br, .ref aK, .int ac, .long dw, .ref aE, .int sr, .int sf, .ref aA, .ref aH, .ref aI, .int hi])), (aN, .inl (cI, 97, .inl fN))]) [0, 1] (by decide) rfl
          have hFc := zfr hS hA
          refine va_calli (va_runV (As := [.int p0]) (rest := [.int m4_L_2]) ⟨hx, hb, hml, hown, hts⟩ (g_X11_seenOf l dC dI cI cJ h0 p0 th tB tsz tat wr dp rC rV rD rK rT rS rU lw tx rL rX qR qB qP qnb qnp aR aB aP nb np aN rf ho br aK ac dw aE sr sf aA aH aI hi fN H.size (by omega) (by omega) (by omega) (by omega) (by omega) (by omega) (by omega) (by omega) (by omega) (by omega) (by omega) ci_fN_zNw_np) (cwV 1 hts (zgV qw1525 qw1527 qw71 qw108 qw1528) rfl rfl rfl hd_X11_seenOf ⟨by rw [hR]; exact Nat.le_of_ble_eq_true rfl, by rw [hR]; exact Nat.le_of_ble_eq_true rfl⟩) (zPV hPc hK hDc (va_recv hK hP (ci := 11) (q0 := 0) rfl rfl)) rfl rfl hl.1 rfl (lv_room (Nat.le_of_ble_eq_true rfl)) dX11_lookedOf_59 ⟨Nat.zero_le _, Nat.zero_le _⟩) hS (fun q _ h => hFc q h) hFc (fun v59 u59 t H locs ht hvm hw hB hz1 hk1 hS => ?_)
          have hP := zkeep hP hk1
          obtain ⟨f59_0, f59_1, f59_2, f59_3⟩ : (0 ≤ v59.toInt) ∧ (v59.toInt ≤ 20) ∧ (v59.toInt = (zCt fN p0 (fN 16).toInt.toNat : Int)) ∧ (v59 = zCnt (fun i => fN (17 + i)) p0 (fN 16).toInt.toNat) := hw
          have F59 := f59_3
          have q62 : ¬ v59.toInt = 0 := by omega
          refine lv_idiv hx hb dX11_lookedOf_62 (z0 (by omega)) ?_
          refine lv_topi (fun v62 e62 => ?_)
          rw [hQ]
          exact W.iret (v := v62) hx hb hr (fun t ht hW => ⟨⟨v62, (), rfl, (by (try dsimp only); unfold zLkd; rw [← F46, ← q44, ← jv4_0]; exact (e62.trans (by rw [F59, ← F46])).trans (if_neg (by omega)).symm), trivial⟩, hS.F ht⟩) hS.2.2 dX11_lookedOf_63
        · have c49 : v46.toInt = 0 := z5 rfl (by decide) c49
          refine lv_iconst (v := 0) hx hb dX11_lookedOf_52 (by decide) ?_
          refine lv_goto (tgt := 63) hx hb dX11_lookedOf_53 (by decide) ?_
          have zr0 : (0 : Int32).toInt = 0 := by decide
          rw [hQ]
          exact W.iret (v := 0) hx hb hr (fun t ht hW => ⟨⟨0, (), rfl, (by (try dsimp only); unfold zLkd; rw [← F46]; exact (if_pos (by omega)).symm), trivial⟩, hS.F ht⟩) hS.2.2 dX11_lookedOf_63
      · have c12 : m4_L_3.toInt < v11.toInt := z4 rfl rfl c12
        refine lv_iload_n hx hb dX11_lookedOf_15 rfl (lv_at hl 1 rfl) ?_
        refine lv_aload_n hx hb dX11_lookedOf_16 rfl (lv_at hl 2 rfl) ?_
        refine lv_iload_n hx hb dX11_lookedOf_17 rfl (lv_at hl 0 rfl) ?_
        refine lv_iconst (v := 0) hx hb dX11_lookedOf_18 (by decide) ?_
        have hPc := hP.sub (ws' := [(h0, .inr (11, [.int th, .ref tB, .int tsz, .int tat, .int wr, .int dp, .ref rC, .ref rV, .ref rD, .ref rK, .ref rT, .ref rS, .ref rU, .int lw, .int tx, .ref rL, .ref rX, .ref qR, .ref qB, .ref qP, .int qnb, .int qnp, .ref aR, .ref aB, .ref aP, .int nb, .int np, .ref aN, .ref rf, .int ho, .int br, .ref aK, .int ac, .long dw, .ref aE, .int sr, .int sf, .ref aA, .ref aH, .ref aI, .int hi])), (aN, .inl (cI, 97, .inl fN))]) [0, 1] rfl
        have hDc := hT.sub (ws' := [(h0, .inr (11, [.int th, .ref tB, .int tsz, .int tat, .int wr, .int dp, .ref rC, .ref rV, .ref rD, .ref rK, .ref rT, .ref rS, .ref rU, .int lw, .int tx, .ref rL, .ref rX, .ref qR, .ref qB, .ref qP, .int qnb, .int qnp, .ref aR, .ref aB, .ref aP, .int nb, .int np, .ref aN, .ref rf, .int ho, .int br, .ref aK, .int ac, .long dw, .ref aE, .int sr, .int sf, .ref aA, .ref aH, .ref aI, .int hi])), (aN, .inl (cI, 97, .inl fN))]) [0, 1] (by decide) rfl
        have hFc := zfr hS hA
        refine va_calli (va_runV (As := [.int m4_L_3, .int 0]) (rest := [.int m4_L_2]) ⟨hx, hb, hml, hown, hts⟩ (g_X11_shot_0 l dC dI cI cJ h0 m4_L_3 th tB tsz tat wr dp rC rV rD rK rT rS rU lw tx rL rX qR qB qP qnb qnp aR aB aP nb np aN rf ho br aK ac dw aE sr sf aA aH aI hi fN H.size (by omega) (by omega) (by omega) (by omega) (by omega) (by omega) (by omega) (by omega) (by omega) (by omega) (by omega) (by omega) (by omega) ci_fN_zNw_np) (cwV 2 hts (zgV qw1473 qw1475 qw65 qw108 qw1476) rfl rfl rfl hd_X11_shot ⟨by rw [hR]; exact Nat.le_of_ble_eq_true rfl, by rw [hR]; exact Nat.le_of_ble_eq_true rfl⟩) (zPV hPc hK hDc (va_recv hK hP (ci := 11) (q0 := 0) rfl rfl)) rfl rfl hl.1 rfl (lv_room (Nat.le_of_ble_eq_true rfl)) dX11_lookedOf_19 ⟨Nat.zero_le _, Nat.zero_le _⟩) hS (fun q _ h => hFc q h) hFc (fun v19 u19 t H locs ht hvm hw hB hz1 hk1 hS => ?_)
        have hP := zkeep hP hk1
        obtain ⟨f19_0, f19_1, f19_2, f19_3⟩ : (0 ≤ v19.toInt) ∧ (v19.toInt ≤ 5) ∧ (v19.toInt = (fN (17 + 4 * m4_L_3.toInt.toNat)).toInt) ∧ (v19 = fN (17 + 4 * m4_L_3.toInt.toNat)) := hw
        have F19 := f19_3
        refine lv_iload_n hx hb dX11_lookedOf_22 rfl (lv_at hl 3 rfl) ?_
        refine lv_icmp_ne (tgt := 35) hx hb dX11_lookedOf_23 (by decide) (fun c23 => ?_) (fun c23 => ?_)
        · have c23 : ¬ v19.toInt = p0.toInt := z6 rfl rfl c23
          refine lv_iconst (v := 0) hx hb dX11_lookedOf_35 (by decide) ?_
          refine lv_iadd hx hb dX11_lookedOf_36 ?_
          refine lv_topi (fun v36 e36 => ?_)
          refine lv_istore_n (lv' := [(2, .int v36), (3, .int m4_L_3), (0, .ref h0), (1, .int p0)]) hx hb dX11_lookedOf_37 rfl hl (by decide) rfl (fun ls hl => ?_)
          obtain ⟨v38, e38⟩ : ∃ y : Int32, y = m4_L_3 + Int32.ofInt (1) := ⟨_, rfl⟩
          refine lv_iinc (v := v38) (lv' := [(3, .int v38), (2, .int v36), (0, .ref h0), (1, .int p0)]) hx hb dX11_lookedOf_38 hl (k := 1) rfl e38.symm (by decide) rfl (fun ls hl => ?_)
          have i38 : v38.toInt = m4_L_3.toInt + 1 := zaddI e38 (by decide) (by omega) (by omega)
          refine lv_goto (tgt := 4) hx hb dX11_lookedOf_41 (by decide) ?_
          exact ih4 _ (by omega) v36 v38 (by omega) (by omega) (by first | exact zSumY (P := fun i => fN (17 + i)) jv4_0 (by omega) i38 F19 F29 (by omega) e36 | exact (zadd0 e36).trans (zSumN (P := fun i => fN (17 + i)) jv4_0 (by omega) i38 F19 (by omega)) | fail) rfl H locs ls hP hS (lv_sub hl [0, 1, 2, 3] rfl)
        · have c23 : v19.toInt = p0.toInt := z5 rfl rfl c23
          refine lv_aload_n hx hb dX11_lookedOf_26 rfl (lv_at hl 2 rfl) ?_
          refine lv_iload_n hx hb dX11_lookedOf_27 rfl (lv_at hl 0 rfl) ?_
          refine lv_iconst (v := 2) hx hb dX11_lookedOf_28 (by decide) ?_
          have hPc := hP.sub (ws' := [(h0, .inr (11, [.int th, .ref tB, .int tsz, .int tat, .int wr, .int dp, .ref rC, .ref rV, .ref rD, .ref rK, .ref rT, .ref rS, .ref rU, .int lw, .int tx, .ref rL, .ref rX, .ref qR, .ref qB, .ref qP, .int qnb, .int qnp, .ref aR, .ref aB, .ref aP, .int nb, .int np, .ref aN, .ref rf, .int ho, .int br, .ref aK, .int ac, .long dw, .ref aE, .int sr, .int sf, .ref aA, .ref aH, .ref aI, .int hi])), (aN, .inl (cI, 97, .inl fN))]) [0, 1] rfl
          have hDc := hT.sub (ws' := [(h0, .inr (11, [.int th, .ref tB, .int tsz, .int tat, .int wr, .int dp, .ref rC, .ref rV, .ref rD, .ref rK, .ref rT, .ref rS, .ref rU, .int lw, .int tx, .ref rL, .ref rX, .ref qR, .ref qB, .ref qP, .int qnb, .int qnp, .ref aR, .ref aB, .ref aP, .int nb, .int np, .ref aN, .ref rf, .int ho, .int br, .ref aK, .int ac, .long dw, .ref aE, .int sr, .int sf, .ref aA, .ref aH, .ref aI, .int hi])), (aN, .inl (cI, 97, .inl fN))]) [0, 1] (by decide) rfl
          have hFc := zfr hS hA
          refine va_calli (va_runV (As := [.int m4_L_3, .int 2]) (rest := [.int m4_L_2]) ⟨hx, hb, hml, hown, hts⟩ (g_X11_shot_2 l dC dI cI cJ h0 m4_L_3 th tB tsz tat wr dp rC rV rD rK rT rS rU lw tx rL rX qR qB qP qnb qnp aR aB aP nb np aN rf ho br aK ac dw aE sr sf aA aH aI hi fN H.size (by omega) (by omega) (by omega) (by omega) (by omega) (by omega) (by omega) (by omega) (by omega) (by omega) (by omega) (by omega) (by omega) ci_fN_zNw_np) (cwV 2 hts (zgV qw1473 qw1475 qw65 qw108 qw1476) rfl rfl rfl hd_X11_shot ⟨by rw [hR]; exact Nat.le_of_ble_eq_true rfl, by rw [hR]; exact Nat.le_of_ble_eq_true rfl⟩) (zPV hPc hK hDc (va_recv hK hP (ci := 11) (q0 := 0) rfl rfl)) rfl rfl hl.1 rfl (lv_room (Nat.le_of_ble_eq_true rfl)) dX11_lookedOf_29 ⟨Nat.zero_le _, Nat.zero_le _⟩) hS (fun q _ h => hFc q h) hFc (fun v29 u29 t H locs ht hvm hw hB hz1 hk1 hS => ?_)
          have hP := zkeep hP hk1
          obtain ⟨f29_0, f29_1, f29_2⟩ : ((-1) ≤ v29.toInt) ∧ (v29.toInt ≤ 9) ∧ (v29 = fN (17 + (4 * m4_L_3.toInt.toNat + 2))) := hw
          have F29 := f29_2
          refine lv_goto (tgt := 36) hx hb dX11_lookedOf_32 (by decide) ?_
          refine lv_iadd hx hb dX11_lookedOf_36 ?_
          refine lv_topi (fun v36 e36 => ?_)
          refine lv_istore_n (lv' := [(2, .int v36), (3, .int m4_L_3), (0, .ref h0), (1, .int p0)]) hx hb dX11_lookedOf_37 rfl hl (by decide) rfl (fun ls hl => ?_)
          obtain ⟨v38, e38⟩ : ∃ y : Int32, y = m4_L_3 + Int32.ofInt (1) := ⟨_, rfl⟩
          refine lv_iinc (v := v38) (lv' := [(3, .int v38), (2, .int v36), (0, .ref h0), (1, .int p0)]) hx hb dX11_lookedOf_38 hl (k := 1) rfl e38.symm (by decide) rfl (fun ls hl => ?_)
          have i38 : v38.toInt = m4_L_3.toInt + 1 := zaddI e38 (by decide) (by omega) (by omega)
          refine lv_goto (tgt := 4) hx hb dX11_lookedOf_41 (by decide) ?_
          exact ih4 _ (by omega) v36 v38 (by omega) (by omega) (by first | exact zSumY (P := fun i => fN (17 + i)) jv4_0 (by omega) i38 F19 F29 (by omega) e36 | exact (zadd0 e36).trans (zSumN (P := fun i => fN (17 + i)) jv4_0 (by omega) i38 F19 (by omega)) | fail) rfl H locs ls hP hS (lv_sub hl [0, 1, 2, 3] rfl)
  refine lv_istore_n (lv' := [(3, .int 0), (2, .int 0), (0, .ref h0), (1, .int p0)]) hx hb dX11_lookedOf_3 rfl hl (by decide) rfl (fun ls hl => ?_)
  have zj4_m4_L_2 : (0 : Int32).toInt = 0 := by decide
  have zj4_m4_L_3 : (0 : Int32).toInt = 0 := by decide
  exact J4 _ 0 0 (by decide) (by omega) (rfl) rfl H locs ls hP hS (lv_sub hl [0, 1, 2, 3] rfl)
set_option maxHeartbeats 4000000 in
set_option maxRecDepth 100000 in
theorem g_X11_bounded (l : Launch) (dC : Nat → ClassId) (dI : Nat → Nat → Nat) (cI cJ : ClassId) (p0 : Int64) (sz : Nat)     : Met l yX11_bounded (.code yX11_bounded cX11_bounded 2 (some .int) :: wA) ({ frames := 1, cells := 0, slots := 0, locals := 30 }) (zP (dC, dI) [(cI, .int), (cJ, .long)] [.long p0] sz []) (va_Qi (fun (r : Int32) (u : Unit) => (r = zC6 p0.toInt)) (fun (_ : Unit) (_ : State) => True) (va_A [] sz)) 0 0 (va_A [] sz) := by
  refine Met.ofW (cc := cX11_bounded) (maxL := 2) (ret := (some .int)) (by decide) rfl ?_
  intro p e s m args below meth c s₁ B hml hv
  obtain ⟨hargs, hsz, hP, hK, hT⟩ := hv
  have hx := B.exec
  have hb := B.bytes
  have hr := B.returns
  have hts : ∀ w ∈ wA, w.before args s = true := fun w h => atoms_spec (ws := .code yX11_bounded cX11_bounded 2 (some .int) :: wA) B.pre w (List.mem_cons_of_mem _ h)
  have hown : s.vm.findClass RX11 = some m.cls := findClass_of_methodNamed B.named
  have hlocks := B.notSynchronized
  subst hsz
  have hD : va_D (va_A [] s.heap.size) [] := zD0
  generalize hAe : va_A [] s.heap.size = A at hD ⊢
  have hA : ∀ q : Nat, s.heap.size ≤ q → A q := fun q h => by rw [← hAe]; exact Or.inr h
  have hl := lv_entry ([.long p0]) (n := 2) (Nat.le_of_ble_eq_true rfl)
  rw [show entryFrame m args 2 = entryFrame m ([.long p0] : List Value).toArray 2 by rw [hargs], lg_entry_eq]
  generalize (lg_sl ([.long p0]) ++ List.replicate (2 - (lg_sl ([.long p0])).length) Slot.unset).toArray = ls at hl ⊢
  have hl : lv_has ls 2 [(0, .long p0)] := hl
  refine zstart (fun H hH => ?_)
  rw [← hH] at hP
  have hS : va_S A s.heap H [] := by rw [hH]; exact va_S.rf
  generalize ([] : List Loc) = locs at hS ⊢
  refine zgen (fun R Q hR hQ => ?_)
  refine lv_ldc2 (v := (-1000000)) hx hb hown (hts _ qw1460) dX11_bounded_0 ?_
  refine lv_ldc2 (v := 1000000) hx hb hown (hts _ qw1461) dX11_bounded_3 ?_
  refine lv_lload_n hx hb dX11_bounded_6 rfl (lv_at hl 0 rfl) ?_
  refine va_mmin_long hx hb (by rw [hml]; exact hl.1.symm) hown (hts _ qw1462) (hts _ qw1463) (hts _ qw112) (hts _ qw1464) (by rw [hR]; exact Nat.le_of_ble_eq_true rfl) (by rw [hR]; exact Nat.le_of_ble_eq_true rfl) (Nat.zero_le _) (Nat.zero_le _) dX11_bounded_7 ?_
  refine lv_topl (fun v7 e7 => ?_)
  refine va_mmax_long hx hb (by rw [hml]; exact hl.1.symm) hown (hts _ qw1465) (hts _ qw1466) (hts _ qw112) (hts _ qw1467) (by rw [hR]; exact Nat.le_of_ble_eq_true rfl) (by rw [hR]; exact Nat.le_of_ble_eq_true rfl) (Nat.zero_le _) (Nat.zero_le _) dX11_bounded_10 ?_
  refine lv_topl (fun v10 e10 => ?_)
  refine lv_l2i hx hb dX11_bounded_13 rfl ?_
  refine lv_topi (fun v13 e13 => ?_)
  rw [hQ]
  exact W.iret (v := v13) hx hb hr (fun t ht hW => ⟨⟨v13, (), rfl, (by (try dsimp only); exact zbnd e7 e10 e13), trivial⟩, hS.F ht⟩) hS.2.2 dX11_bounded_14
set_option maxHeartbeats 4000000 in
set_option maxRecDepth 100000 in
theorem g_X11_worked (l : Launch) (dC : Nat → ClassId) (dI : Nat → Nat → Nat) (cI cJ : ClassId) (p0 : Int32) (p1 : Int64) (p2 : Int64) (sz : Nat)     : Met l yX11_worked (.code yX11_worked cX11_worked 5 (some .int) :: wA) ({ frames := 2, cells := 0, slots := 0, locals := 51 }) (zP (dC, dI) [(cI, .int), (cJ, .long)] [.int p0, .long p1, .long p2] sz []) (va_Qi (fun (r : Int32) (u : Unit) => (zI32 p1.toInt → zI32 p2.toInt → r = zJq p0.toInt p1.toInt p2.toInt)) (fun (_ : Unit) (_ : State) => True) (va_A [] sz)) 0 0 (va_A [] sz) := by
  refine Met.ofW (cc := cX11_worked) (maxL := 5) (ret := (some .int)) (by decide) rfl ?_
  intro p e s m args below meth c s₁ B hml hv
  obtain ⟨hargs, hsz, hP, hK, hT⟩ := hv
  have hx := B.exec
  have hb := B.bytes
  have hr := B.returns
  have hts : ∀ w ∈ wA, w.before args s = true := fun w h => atoms_spec (ws := .code yX11_worked cX11_worked 5 (some .int) :: wA) B.pre w (List.mem_cons_of_mem _ h)
  have hown : s.vm.findClass RX11 = some m.cls := findClass_of_methodNamed B.named
  have hlocks := B.notSynchronized
  subst hsz
  have hD : va_D (va_A [] s.heap.size) [] := zD0
  generalize hAe : va_A [] s.heap.size = A at hD ⊢
  have hA : ∀ q : Nat, s.heap.size ≤ q → A q := fun q h => by rw [← hAe]; exact Or.inr h
  have hl := lv_entry ([.int p0, .long p1, .long p2]) (n := 5) (Nat.le_of_ble_eq_true rfl)
  rw [show entryFrame m args 5 = entryFrame m ([.int p0, .long p1, .long p2] : List Value).toArray 5 by rw [hargs], lg_entry_eq]
  generalize (lg_sl ([.int p0, .long p1, .long p2]) ++ List.replicate (5 - (lg_sl ([.int p0, .long p1, .long p2])).length) Slot.unset).toArray = ls at hl ⊢
  have hl : lv_has ls 5 [(0, .int p0), (1, .long p1), (3, .long p2)] := hl
  refine zstart (fun H hH => ?_)
  rw [← hH] at hP
  have hS : va_S A s.heap H [] := by rw [hH]; exact va_S.rf
  generalize ([] : List Loc) = locs at hS ⊢
  refine zgen (fun R Q hR hQ => ?_)
  refine lv_iload_n hx hb dX11_worked_0 rfl (lv_at hl 0 rfl) ?_
  rcases (show (p0.toInt < 2 ∨ 10 < p0.toInt) ∨ p0.toInt = 2 ∨ p0.toInt = 3 ∨ p0.toInt = 4 ∨ p0.toInt = 5 ∨ p0.toInt = 6 ∨ p0.toInt = 7 ∨ p0.toInt = 8 ∨ p0.toInt = 9 ∨ p0.toInt = 10 by omega) with c1 | c1 | c1 | c1 | c1 | c1 | c1 | c1 | c1 | c1
  · refine lv_tableOut (tgt := 144) hx hb dX11_worked_1 c1 (by decide) ?_
    refine lv_lload_n hx hb dX11_worked_144 rfl (lv_at hl 1 rfl) ?_
    refine lv_lconst (v := 0) hx hb dX11_worked_145 rfl ?_
    refine W.lcmp hx hb dX11_worked_146 ?_
    refine lv_topi (fun v146 e146 => ?_)
    refine lv_if_ne (tgt := 156) hx hb dX11_worked_147 (by decide) (fun c147 => ?_) (fun c147 => ?_)
    · have c147 : ¬ v146.toInt = 0 := z6 rfl (by decide) c147
      refine lv_iconst (v := 1) hx hb dX11_worked_156 (by decide) ?_
      refine lv_goto (tgt := 161) hx hb dX11_worked_157 (by decide) ?_
      have zr0 : (1 : Int32).toInt = 1 := by decide
      rw [hQ]
      exact W.iret (v := 1) hx hb hr (fun t ht hW => ⟨⟨1, (), rfl, (by (try dsimp only); exact fun h1 h2 => by first | exact zq11a (by omega) e146 (by omega) | exact (zq11b (by omega) e146 (by omega) e152).2 (by omega) | fail), trivial⟩, hS.F ht⟩) hS.2.2 dX11_worked_161
    · have c147 : v146.toInt = 0 := z5 rfl (by decide) c147
      refine lv_lload_n hx hb dX11_worked_150 rfl (lv_at hl 2 rfl) ?_
      refine lv_lconst (v := 0) hx hb dX11_worked_151 rfl ?_
      refine W.lcmp hx hb dX11_worked_152 ?_
      refine lv_topi (fun v152 e152 => ?_)
      refine lv_if_eq (tgt := 160) hx hb dX11_worked_153 (by decide) (fun c153 => ?_) (fun c153 => ?_)
      · have c153 : v152.toInt = 0 := z5 rfl (by decide) c153
        refine lv_iconst (v := 0) hx hb dX11_worked_160 (by decide) ?_
        have zr0 : (0 : Int32).toInt = 0 := by decide
        rw [hQ]
        exact W.iret (v := 0) hx hb hr (fun t ht hW => ⟨⟨0, (), rfl, (by (try dsimp only); exact fun h1 h2 => (zq11b (by omega) e146 (by omega) e152).1 (by omega)), trivial⟩, hS.F ht⟩) hS.2.2 dX11_worked_161
      · have c153 : ¬ v152.toInt = 0 := z6 rfl (by decide) c153
        refine lv_iconst (v := 1) hx hb dX11_worked_156 (by decide) ?_
        refine lv_goto (tgt := 161) hx hb dX11_worked_157 (by decide) ?_
        have zr0 : (1 : Int32).toInt = 1 := by decide
        rw [hQ]
        exact W.iret (v := 1) hx hb hr (fun t ht hW => ⟨⟨1, (), rfl, (by (try dsimp only); exact fun h1 h2 => by first | exact zq11a (by omega) e146 (by omega) | exact (zq11b (by omega) e146 (by omega) e152).2 (by omega) | fail), trivial⟩, hS.F ht⟩) hS.2.2 dX11_worked_161
  · refine lv_tableIn (off := 51) (tgt := 52) hx hb dX11_worked_1 (by omega) (by omega) (by rw [c1]; rfl) (by decide) ?_
    refine lv_lload_n hx hb dX11_worked_52 rfl (lv_at hl 1 rfl) ?_
    refine lv_lload_n hx hb dX11_worked_53 rfl (lv_at hl 2 rfl) ?_
    refine lv_ladd hx hb dX11_worked_54 ?_
    refine lv_topl (fun v54 e54 => ?_)
    have hPc : va_P (dC, dI) vwCl [] H := zP0
    have hDc : va_D (fun _ => True) [] := zD0
    have hFc := zfr hS hA
    refine va_calli (va_runS (As := [.long v54]) (rest := []) ⟨hx, hb, hml, hown, hts⟩ (g_X11_bounded l dC dI cI cJ v54 H.size) (cwS 1 hts (zgS qw1457 qw1458 qw108 qw1459) rfl rfl rfl hd_X11_bounded ⟨by rw [hR]; exact Nat.le_of_ble_eq_true rfl, by rw [hR]; exact Nat.le_of_ble_eq_true rfl⟩) (zPS hPc hK hDc) rfl rfl hl.1 rfl (lv_room (Nat.le_of_ble_eq_true rfl)) dX11_worked_55 ⟨Nat.zero_le _, Nat.zero_le _⟩) hS (fun q _ h => hFc q h) hFc (fun v55 u55 t H locs ht hvm hw hB hz1 hk1 hS => ?_)
    have hP := zkeep hP hk1
    have f55_0 : (v55 = zC6 v54.toInt) := hw
    have F55 := f55_0
    rw [hQ]
    exact W.iret (v := v55) hx hb hr (fun t ht hW => ⟨⟨v55, (), rfl, (by (try dsimp only); exact fun h1 h2 => zqA c1 e54 F55 h1 h2), trivial⟩, hS.F ht⟩) hS.2.2 dX11_worked_58
  · refine lv_tableIn (off := 58) (tgt := 59) hx hb dX11_worked_1 (by omega) (by omega) (by rw [c1]; rfl) (by decide) ?_
    refine lv_lload_n hx hb dX11_worked_59 rfl (lv_at hl 1 rfl) ?_
    refine lv_lload_n hx hb dX11_worked_60 rfl (lv_at hl 2 rfl) ?_
    refine lv_lsub hx hb dX11_worked_61 ?_
    refine lv_topl (fun v61 e61 => ?_)
    have hPc : va_P (dC, dI) vwCl [] H := zP0
    have hDc : va_D (fun _ => True) [] := zD0
    have hFc := zfr hS hA
    refine va_calli (va_runS (As := [.long v61]) (rest := []) ⟨hx, hb, hml, hown, hts⟩ (g_X11_bounded l dC dI cI cJ v61 H.size) (cwS 1 hts (zgS qw1457 qw1458 qw108 qw1459) rfl rfl rfl hd_X11_bounded ⟨by rw [hR]; exact Nat.le_of_ble_eq_true rfl, by rw [hR]; exact Nat.le_of_ble_eq_true rfl⟩) (zPS hPc hK hDc) rfl rfl hl.1 rfl (lv_room (Nat.le_of_ble_eq_true rfl)) dX11_worked_62 ⟨Nat.zero_le _, Nat.zero_le _⟩) hS (fun q _ h => hFc q h) hFc (fun v62 u62 t H locs ht hvm hw hB hz1 hk1 hS => ?_)
    have hP := zkeep hP hk1
    have f62_0 : (v62 = zC6 v61.toInt) := hw
    have F62 := f62_0
    rw [hQ]
    exact W.iret (v := v62) hx hb hr (fun t ht hW => ⟨⟨v62, (), rfl, (by (try dsimp only); exact fun h1 h2 => zqS c1 e61 F62 h1 h2), trivial⟩, hS.F ht⟩) hS.2.2 dX11_worked_65
  · refine lv_tableIn (off := 65) (tgt := 66) hx hb dX11_worked_1 (by omega) (by omega) (by rw [c1]; rfl) (by decide) ?_
    refine lv_lload_n hx hb dX11_worked_66 rfl (lv_at hl 1 rfl) ?_
    refine lv_lload_n hx hb dX11_worked_67 rfl (lv_at hl 2 rfl) ?_
    refine lv_lmul hx hb dX11_worked_68 ?_
    refine lv_topl (fun v68 e68 => ?_)
    have hPc : va_P (dC, dI) vwCl [] H := zP0
    have hDc : va_D (fun _ => True) [] := zD0
    have hFc := zfr hS hA
    refine va_calli (va_runS (As := [.long v68]) (rest := []) ⟨hx, hb, hml, hown, hts⟩ (g_X11_bounded l dC dI cI cJ v68 H.size) (cwS 1 hts (zgS qw1457 qw1458 qw108 qw1459) rfl rfl rfl hd_X11_bounded ⟨by rw [hR]; exact Nat.le_of_ble_eq_true rfl, by rw [hR]; exact Nat.le_of_ble_eq_true rfl⟩) (zPS hPc hK hDc) rfl rfl hl.1 rfl (lv_room (Nat.le_of_ble_eq_true rfl)) dX11_worked_69 ⟨Nat.zero_le _, Nat.zero_le _⟩) hS (fun q _ h => hFc q h) hFc (fun v69 u69 t H locs ht hvm hw hB hz1 hk1 hS => ?_)
    have hP := zkeep hP hk1
    have f69_0 : (v69 = zC6 v68.toInt) := hw
    have F69 := f69_0
    rw [hQ]
    exact W.iret (v := v69) hx hb hr (fun t ht hW => ⟨⟨v69, (), rfl, (by (try dsimp only); exact fun h1 h2 => zqM c1 e68 F69 h1 h2), trivial⟩, hS.F ht⟩) hS.2.2 dX11_worked_72
  · refine lv_tableIn (off := 72) (tgt := 73) hx hb dX11_worked_1 (by omega) (by omega) (by rw [c1]; rfl) (by decide) ?_
    refine lv_lload_n hx hb dX11_worked_73 rfl (lv_at hl 2 rfl) ?_
    refine lv_lconst (v := 0) hx hb dX11_worked_74 rfl ?_
    refine W.lcmp hx hb dX11_worked_75 ?_
    refine lv_topi (fun v75 e75 => ?_)
    refine lv_if_ne (tgt := 83) hx hb dX11_worked_76 (by decide) (fun c76 => ?_) (fun c76 => ?_)
    · have c76 : ¬ v75.toInt = 0 := z6 rfl (by decide) c76
      refine lv_lload_n hx hb dX11_worked_83 rfl (lv_at hl 1 rfl) ?_
      refine lv_lload_n hx hb dX11_worked_84 rfl (lv_at hl 2 rfl) ?_
      refine lv_ldiv hx hb dX11_worked_85 (zl0 e75 (by omega)) ?_
      refine lv_topl (fun v85 e85 => ?_)
      have hPc : va_P (dC, dI) vwCl [] H := zP0
      have hDc : va_D (fun _ => True) [] := zD0
      have hFc := zfr hS hA
      refine va_calli (va_runS (As := [.long v85]) (rest := []) ⟨hx, hb, hml, hown, hts⟩ (g_X11_bounded l dC dI cI cJ v85 H.size) (cwS 1 hts (zgS qw1457 qw1458 qw108 qw1459) rfl rfl rfl hd_X11_bounded ⟨by rw [hR]; exact Nat.le_of_ble_eq_true rfl, by rw [hR]; exact Nat.le_of_ble_eq_true rfl⟩) (zPS hPc hK hDc) rfl rfl hl.1 rfl (lv_room (Nat.le_of_ble_eq_true rfl)) dX11_worked_86 ⟨Nat.zero_le _, Nat.zero_le _⟩) hS (fun q _ h => hFc q h) hFc (fun v86 u86 t H locs ht hvm hw hB hz1 hk1 hS => ?_)
      have hP := zkeep hP hk1
      have f86_0 : (v86 = zC6 v85.toInt) := hw
      have F86 := f86_0
      rw [hQ]
      exact W.iret (v := v86) hx hb hr (fun t ht hW => ⟨⟨v86, (), rfl, (by (try dsimp only); exact fun h1 h2 => zqD c1 e75 (by omega) e85 F86 h1), trivial⟩, hS.F ht⟩) hS.2.2 dX11_worked_89
    · have c76 : v75.toInt = 0 := z5 rfl (by decide) c76
      refine lv_iconst (v := 0) hx hb dX11_worked_79 (by decide) ?_
      refine lv_goto (tgt := 89) hx hb dX11_worked_80 (by decide) ?_
      have zr0 : (0 : Int32).toInt = 0 := by decide
      rw [hQ]
      exact W.iret (v := 0) hx hb hr (fun t ht hW => ⟨⟨0, (), rfl, (by (try dsimp only); exact fun h1 h2 => zqD0 c1 e75 (by omega)), trivial⟩, hS.F ht⟩) hS.2.2 dX11_worked_89
  · refine lv_tableIn (off := 89) (tgt := 90) hx hb dX11_worked_1 (by omega) (by omega) (by rw [c1]; rfl) (by decide) ?_
    refine lv_lload_n hx hb dX11_worked_90 rfl (lv_at hl 1 rfl) ?_
    refine lv_lload_n hx hb dX11_worked_91 rfl (lv_at hl 2 rfl) ?_
    refine W.lcmp hx hb dX11_worked_92 ?_
    refine lv_topi (fun v92 e92 => ?_)
    refine lv_if_ne (tgt := 100) hx hb dX11_worked_93 (by decide) (fun c93 => ?_) (fun c93 => ?_)
    · have c93 : ¬ v92.toInt = 0 := z6 rfl (by decide) c93
      refine lv_iconst (v := 0) hx hb dX11_worked_100 (by decide) ?_
      have zr0 : (0 : Int32).toInt = 0 := by decide
      rw [hQ]
      exact W.iret (v := 0) hx hb hr (fun t ht hW => ⟨⟨0, (), rfl, (by (try dsimp only); exact fun h1 h2 => (zq6 c1 e92).2 (by omega)), trivial⟩, hS.F ht⟩) hS.2.2 dX11_worked_101
    · have c93 : v92.toInt = 0 := z5 rfl (by decide) c93
      refine lv_iconst (v := 1) hx hb dX11_worked_96 (by decide) ?_
      refine lv_goto (tgt := 101) hx hb dX11_worked_97 (by decide) ?_
      have zr0 : (1 : Int32).toInt = 1 := by decide
      rw [hQ]
      exact W.iret (v := 1) hx hb hr (fun t ht hW => ⟨⟨1, (), rfl, (by (try dsimp only); exact fun h1 h2 => (zq6 c1 e92).1 (by omega)), trivial⟩, hS.F ht⟩) hS.2.2 dX11_worked_101
  · refine lv_tableIn (off := 101) (tgt := 102) hx hb dX11_worked_1 (by omega) (by omega) (by rw [c1]; rfl) (by decide) ?_
    refine lv_lload_n hx hb dX11_worked_102 rfl (lv_at hl 1 rfl) ?_
    refine lv_lload_n hx hb dX11_worked_103 rfl (lv_at hl 2 rfl) ?_
    refine W.lcmp hx hb dX11_worked_104 ?_
    refine lv_topi (fun v104 e104 => ?_)
    refine lv_if_ge (tgt := 112) hx hb dX11_worked_105 (by decide) (fun c105 => ?_) (fun c105 => ?_)
    · have c105 : 0 ≤ v104.toInt := z3 (by decide) rfl c105
      refine lv_iconst (v := 0) hx hb dX11_worked_112 (by decide) ?_
      have zr0 : (0 : Int32).toInt = 0 := by decide
      rw [hQ]
      exact W.iret (v := 0) hx hb hr (fun t ht hW => ⟨⟨0, (), rfl, (by (try dsimp only); exact fun h1 h2 => (zq7 c1 e104).2 (by omega)), trivial⟩, hS.F ht⟩) hS.2.2 dX11_worked_113
    · have c105 : v104.toInt < 0 := z4 (by decide) rfl c105
      refine lv_iconst (v := 1) hx hb dX11_worked_108 (by decide) ?_
      refine lv_goto (tgt := 113) hx hb dX11_worked_109 (by decide) ?_
      have zr0 : (1 : Int32).toInt = 1 := by decide
      rw [hQ]
      exact W.iret (v := 1) hx hb hr (fun t ht hW => ⟨⟨1, (), rfl, (by (try dsimp only); exact fun h1 h2 => (zq7 c1 e104).1 (by omega)), trivial⟩, hS.F ht⟩) hS.2.2 dX11_worked_113
  · refine lv_tableIn (off := 113) (tgt := 114) hx hb dX11_worked_1 (by omega) (by omega) (by rw [c1]; rfl) (by decide) ?_
    refine lv_lload_n hx hb dX11_worked_114 rfl (lv_at hl 1 rfl) ?_
    refine lv_lload_n hx hb dX11_worked_115 rfl (lv_at hl 2 rfl) ?_
    refine W.lcmp hx hb dX11_worked_116 ?_
    refine lv_topi (fun v116 e116 => ?_)
    refine lv_if_le (tgt := 124) hx hb dX11_worked_117 (by decide) (fun c117 => ?_) (fun c117 => ?_)
    · have c117 : v116.toInt ≤ 0 := z3 rfl (by decide) c117
      refine lv_iconst (v := 0) hx hb dX11_worked_124 (by decide) ?_
      have zr0 : (0 : Int32).toInt = 0 := by decide
      rw [hQ]
      exact W.iret (v := 0) hx hb hr (fun t ht hW => ⟨⟨0, (), rfl, (by (try dsimp only); exact fun h1 h2 => (zq8 c1 e116).2 (by omega)), trivial⟩, hS.F ht⟩) hS.2.2 dX11_worked_125
    · have c117 : 0 < v116.toInt := z4 rfl (by decide) c117
      refine lv_iconst (v := 1) hx hb dX11_worked_120 (by decide) ?_
      refine lv_goto (tgt := 125) hx hb dX11_worked_121 (by decide) ?_
      have zr0 : (1 : Int32).toInt = 1 := by decide
      rw [hQ]
      exact W.iret (v := 1) hx hb hr (fun t ht hW => ⟨⟨1, (), rfl, (by (try dsimp only); exact fun h1 h2 => (zq8 c1 e116).1 (by omega)), trivial⟩, hS.F ht⟩) hS.2.2 dX11_worked_125
  · refine lv_tableIn (off := 143) (tgt := 144) hx hb dX11_worked_1 (by omega) (by omega) (by rw [c1]; rfl) (by decide) ?_
    refine lv_lload_n hx hb dX11_worked_144 rfl (lv_at hl 1 rfl) ?_
    refine lv_lconst (v := 0) hx hb dX11_worked_145 rfl ?_
    refine W.lcmp hx hb dX11_worked_146 ?_
    refine lv_topi (fun v146 e146 => ?_)
    refine lv_if_ne (tgt := 156) hx hb dX11_worked_147 (by decide) (fun c147 => ?_) (fun c147 => ?_)
    · have c147 : ¬ v146.toInt = 0 := z6 rfl (by decide) c147
      refine lv_iconst (v := 1) hx hb dX11_worked_156 (by decide) ?_
      refine lv_goto (tgt := 161) hx hb dX11_worked_157 (by decide) ?_
      have zr0 : (1 : Int32).toInt = 1 := by decide
      rw [hQ]
      exact W.iret (v := 1) hx hb hr (fun t ht hW => ⟨⟨1, (), rfl, (by (try dsimp only); exact fun h1 h2 => by first | exact zq11a (by omega) e146 (by omega) | exact (zq11b (by omega) e146 (by omega) e152).2 (by omega) | fail), trivial⟩, hS.F ht⟩) hS.2.2 dX11_worked_161
    · have c147 : v146.toInt = 0 := z5 rfl (by decide) c147
      refine lv_lload_n hx hb dX11_worked_150 rfl (lv_at hl 2 rfl) ?_
      refine lv_lconst (v := 0) hx hb dX11_worked_151 rfl ?_
      refine W.lcmp hx hb dX11_worked_152 ?_
      refine lv_topi (fun v152 e152 => ?_)
      refine lv_if_eq (tgt := 160) hx hb dX11_worked_153 (by decide) (fun c153 => ?_) (fun c153 => ?_)
      · have c153 : v152.toInt = 0 := z5 rfl (by decide) c153
        refine lv_iconst (v := 0) hx hb dX11_worked_160 (by decide) ?_
        have zr0 : (0 : Int32).toInt = 0 := by decide
        rw [hQ]
        exact W.iret (v := 0) hx hb hr (fun t ht hW => ⟨⟨0, (), rfl, (by (try dsimp only); exact fun h1 h2 => (zq11b (by omega) e146 (by omega) e152).1 (by omega)), trivial⟩, hS.F ht⟩) hS.2.2 dX11_worked_161
      · have c153 : ¬ v152.toInt = 0 := z6 rfl (by decide) c153
        refine lv_iconst (v := 1) hx hb dX11_worked_156 (by decide) ?_
        refine lv_goto (tgt := 161) hx hb dX11_worked_157 (by decide) ?_
        have zr0 : (1 : Int32).toInt = 1 := by decide
        rw [hQ]
        exact W.iret (v := 1) hx hb hr (fun t ht hW => ⟨⟨1, (), rfl, (by (try dsimp only); exact fun h1 h2 => by first | exact zq11a (by omega) e146 (by omega) | exact (zq11b (by omega) e146 (by omega) e152).2 (by omega) | fail), trivial⟩, hS.F ht⟩) hS.2.2 dX11_worked_161
  · refine lv_tableIn (off := 125) (tgt := 126) hx hb dX11_worked_1 (by omega) (by omega) (by rw [c1]; rfl) (by decide) ?_
    refine lv_lload_n hx hb dX11_worked_126 rfl (lv_at hl 1 rfl) ?_
    refine lv_lconst (v := 0) hx hb dX11_worked_127 rfl ?_
    refine W.lcmp hx hb dX11_worked_128 ?_
    refine lv_topi (fun v128 e128 => ?_)
    refine lv_if_eq (tgt := 142) hx hb dX11_worked_129 (by decide) (fun c129 => ?_) (fun c129 => ?_)
    · have c129 : v128.toInt = 0 := z5 rfl (by decide) c129
      refine lv_iconst (v := 0) hx hb dX11_worked_142 (by decide) ?_
      have zr0 : (0 : Int32).toInt = 0 := by decide
      rw [hQ]
      exact W.iret (v := 0) hx hb hr (fun t ht hW => ⟨⟨0, (), rfl, (by (try dsimp only); exact fun h1 h2 => by first | exact zq10a c1 e128 (by omega) | exact (zq10b c1 e128 (by omega) e134).1 (by omega) | fail), trivial⟩, hS.F ht⟩) hS.2.2 dX11_worked_143
    · have c129 : ¬ v128.toInt = 0 := z6 rfl (by decide) c129
      refine lv_lload_n hx hb dX11_worked_132 rfl (lv_at hl 2 rfl) ?_
      refine lv_lconst (v := 0) hx hb dX11_worked_133 rfl ?_
      refine W.lcmp hx hb dX11_worked_134 ?_
      refine lv_topi (fun v134 e134 => ?_)
      refine lv_if_eq (tgt := 142) hx hb dX11_worked_135 (by decide) (fun c135 => ?_) (fun c135 => ?_)
      · have c135 : v134.toInt = 0 := z5 rfl (by decide) c135
        refine lv_iconst (v := 0) hx hb dX11_worked_142 (by decide) ?_
        have zr0 : (0 : Int32).toInt = 0 := by decide
        rw [hQ]
        exact W.iret (v := 0) hx hb hr (fun t ht hW => ⟨⟨0, (), rfl, (by (try dsimp only); exact fun h1 h2 => by first | exact zq10a c1 e128 (by omega) | exact (zq10b c1 e128 (by omega) e134).1 (by omega) | fail), trivial⟩, hS.F ht⟩) hS.2.2 dX11_worked_143
      · have c135 : ¬ v134.toInt = 0 := z6 rfl (by decide) c135
        refine lv_iconst (v := 1) hx hb dX11_worked_138 (by decide) ?_
        refine lv_goto (tgt := 143) hx hb dX11_worked_139 (by decide) ?_
        have zr0 : (1 : Int32).toInt = 1 := by decide
        rw [hQ]
        exact W.iret (v := 1) hx hb hr (fun t ht hW => ⟨⟨1, (), rfl, (by (try dsimp only); exact fun h1 h2 => (zq10b c1 e128 (by omega) e134).2 (by omega)), trivial⟩, hS.F ht⟩) hS.2.2 dX11_worked_143
