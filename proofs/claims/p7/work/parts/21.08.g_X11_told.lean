set_option maxHeartbeats 4000000 in
set_option maxRecDepth 100000 in
theorem g_X11_told (l : Launch) (dC : Nat → ClassId) (dI : Nat → Nat → Nat) (cI cJ : ClassId) (h0 : Nat) (p0 : Int32) (th : Int32) (tB : Nat) (tsz : Int32) (tat : Int32) (wr : Int32) (dp : Int32) (rC : Nat) (rV : Nat) (rD : Nat) (rK : Nat) (rT : Nat) (rS : Nat) (rU : Nat) (lw : Int32) (tx : Int32) (rL : Nat) (rX : Nat) (qR : Nat) (qB : Nat) (qP : Nat) (qnb : Int32) (qnp : Int32) (aR : Nat) (aB : Nat) (aP : Nat) (nb : Int32) (np : Int32) (aN : Nat) (rf : Nat) (ho : Int32) (br : Int32) (aK : Nat) (ac : Int32) (dw : Int64) (aE : Nat) (sr : Int32) (sf : Int32) (aA : Nat) (aH : Nat) (aI : Nat) (hi : Int32) (fBr : Nat → Int32) (fN : Nat → Int32) (sz : Nat) (n_ac : 0 ≤ ac.toInt ∧ ac.toInt ≤ 40) (n_hi : 0 ≤ hi.toInt ∧ hi.toInt ≤ 1) (n_ho : (-1) ≤ ho.toInt ∧ ho.toInt ≤ 3) (n_lw : 0 ≤ lw.toInt ∧ lw.toInt ≤ 4) (n_nb : 0 ≤ nb.toInt ∧ nb.toInt ≤ 6) (n_np : 0 ≤ np.toInt ∧ np.toInt ≤ 5) (n_qnb : 0 ≤ qnb.toInt ∧ qnb.toInt ≤ 6) (n_qnp : 0 ≤ qnp.toInt ∧ qnp.toInt ≤ 5) (n_tat : 0 ≤ tat.toInt ∧ tat.toInt ≤ 260) (n_tsz : 0 ≤ tsz.toInt ∧ tsz.toInt ≤ 240) (n_wr : (-1) ≤ wr.toInt ∧ wr.toInt ≤ 260)  (ci_fBr_zBr_nb : zBr nb fBr) (ci_fN_zNw_np : zNw np fN)  : Met l yX11_told (.code yX11_told cX11_told 5 (some .int) :: wA) ({ frames := 2, cells := 0, slots := 0, locals := 43 }) (zP (dC, dI) [(cI, .int), (cJ, .long)] [.ref h0, .int p0] sz [(h0, .inr (11, [.int th, .ref tB, .int tsz, .int tat, .int wr, .int dp, .ref rC, .ref rV, .ref rD, .ref rK, .ref rT, .ref rS, .ref rU, .int lw, .int tx, .ref rL, .ref rX, .ref qR, .ref qB, .ref qP, .int qnb, .int qnp, .ref aR, .ref aB, .ref aP, .int nb, .int np, .ref aN, .ref rf, .int ho, .int br, .ref aK, .int ac, .long dw, .ref aE, .int sr, .int sf, .ref aA, .ref aH, .ref aI, .int hi])), (aB, .inl (cI, 24, .inl fBr)), (aN, .inl (cI, 97, .inl fN))]) (va_Qi (fun (r : Int32) (u : Unit) => (∀ (kc : zK3) (kT : zT) (q_fR : Nat → Int32) (q_fPa : Nat → Int32) (q_fKp : Nat → Int32) (q_frf : Nat → Int32), zCn q_fR fBr q_fPa nb.toInt np.toInt kc → zKo nb.toInt np.toInt kc kT → zTr nb.toInt np.toInt kT fN q_fKp ac q_frf → r = sV_tol np.toInt kc kT.1 p0)) (fun (_ : Unit) (_ : State) => True) (va_A [] sz)) 0 0 (va_A [] sz) := by
  refine Met.ofW (cc := cX11_told) (maxL := 5) (ret := (some .int)) (by decide) rfl ?_
  intro p e s m args below meth c s₁ B hml hv
  obtain ⟨hargs, hsz, hP, hK, hT⟩ := hv
  have hx := B.exec
  have hb := B.bytes
  have hr := B.returns
  have hts : ∀ w ∈ wA, w.before args s = true := fun w h => atoms_spec (ws := .code yX11_told cX11_told 5 (some .int) :: wA) B.pre w (List.mem_cons_of_mem _ h)
  have hown : s.vm.findClass RX11 = some m.cls := findClass_of_methodNamed B.named
  have hlocks := B.notSynchronized
  subst hsz
  have hD : va_D (va_A [] s.heap.size) [] := zD0
  generalize hAe : va_A [] s.heap.size = A at hD ⊢
  have hA : ∀ q : Nat, s.heap.size ≤ q → A q := fun q h => by rw [← hAe]; exact Or.inr h
  have hl := lv_entry ([.ref h0, .int p0]) (n := 5) (Nat.le_of_ble_eq_true rfl)
  rw [show entryFrame m args 5 = entryFrame m ([.ref h0, .int p0] : List Value).toArray 5 by rw [hargs], lg_entry_eq]
  generalize (lg_sl ([.ref h0, .int p0]) ++ List.replicate (5 - (lg_sl ([.ref h0, .int p0])).length) Slot.unset).toArray = ls at hl ⊢
  have hl : lv_has ls 5 [(0, .ref h0), (1, .int p0)] := hl
  refine zstart (fun H hH => ?_)
  rw [← hH] at hP
  have hS : va_S A s.heap H [] := by rw [hH]; exact va_S.rf
  generalize ([] : List Loc) = locs at hS ⊢
  refine zgen (fun R Q hR hQ => ?_)
  refine lv_iconst (v := 0) hx hb dX11_told_0 (by decide) ?_
  refine lv_istore_n (lv' := [(2, .int 0), (0, .ref h0), (1, .int p0)]) hx hb dX11_told_1 rfl hl (by decide) rfl (fun ls hl => ?_)
  refine lv_iconst (v := 0) hx hb dX11_told_2 (by decide) ?_
  refine lv_istore_n (lv' := [(3, .int 0), (2, .int 0), (0, .ref h0), (1, .int p0)]) hx hb dX11_told_3 rfl hl (by decide) rfl (fun ls hl => ?_)
  refine lv_iconst (v := 0) hx hb dX11_told_4 (by decide) ?_
  have J7 : ∀ (n : Nat) (m7_L_2 : Int32) (m7_L_3 : Int32) (m7_L_4 : Int32), (0 ≤ m7_L_3.toInt ∧ m7_L_3.toInt ≤ 21) → (0 ≤ m7_L_4.toInt ∧ m7_L_4.toInt ≤ 20) → (m7_L_4.toInt ≤ (fN 16).toInt ∨ m7_L_4.toInt = 0) → (m7_L_2 = zTld fBr (fun i => fN (17 + i)) p0 m7_L_4.toInt.toNat) → (zTlc (fun i => fN (17 + i)) p0 m7_L_4 m7_L_3) → (21 - m7_L_4.toInt).toNat = n → ∀ (H : Heap) (locs : List Loc) (ls : Array Slot), va_P (dC, dI) vwCl [(h0, .inr (11, [.int th, .ref tB, .int tsz, .int tat, .int wr, .int dp, .ref rC, .ref rV, .ref rD, .ref rK, .ref rT, .ref rS, .ref rU, .int lw, .int tx, .ref rL, .ref rX, .ref qR, .ref qB, .ref qP, .int qnb, .int qnp, .ref aR, .ref aB, .ref aP, .int nb, .int np, .ref aN, .ref rf, .int ho, .int br, .ref aK, .int ac, .long dw, .ref aE, .int sr, .int sf, .ref aA, .ref aH, .ref aI, .int hi])), (aB, .inl (cI, 24, .inl fBr)), (aN, .inl (cI, 97, .inl fN))] H → va_S A s.heap H locs → lv_has ls 5 [(4, .int m7_L_4), (3, .int m7_L_3), (2, .int m7_L_2), (0, .ref h0), (1, .int p0)] → W p l e R s m args below meth c H locs 0 0 Q (F0 m 7 ls []) := by
    intro n7
    induction n7 using Nat.strongRecOn with
    | _ n7 ih7 =>
      intro m7_L_2 m7_L_3 m7_L_4 jf7_0 jf7_1 jv7_0 jv7_1 jv7_2 hmu7 H locs ls hP hS hl
      refine lv_iload hx hb dX11_told_7 (lv_at hl 0 rfl) ?_
      refine lv_aload_n hx hb dX11_told_9 rfl (lv_at hl 3 rfl) ?_
      refine va_get (D := (dC, dI)) (ci := 11) (v := .ref aN) (C := RX11) (T := TX11) (N := 41) hx hb hts iX11 hown hK hP 0 rfl rfl 27 (by decide) (hts _ qw1154) (fun _ h9 => h9) rfl dX11_told_10 ?_
      refine lv_bipush (v := 16) hx hb dX11_told_13 (by decide) ?_
      refine va_iald hx hb hK hP 2 0 rfl rfl (by unfold vp_in; decide) dX11_told_15 ?_
      refine lv_topi (fun v15 e15 => ?_)
      have i15 : v15.toInt = (fN 16).toInt ∧ 0 ≤ v15.toInt ∧ v15.toInt ≤ 20 := zNw_16 ci_fN_zNw_np e15
      refine lv_icmp_ge (tgt := 62) hx hb dX11_told_16 (by decide) (fun c16 => ?_) (fun c16 => ?_)
      · have c16 : v15.toInt ≤ m7_L_4.toInt := z3 rfl rfl c16
        refine lv_aload_n hx hb dX11_told_62 rfl (lv_at hl 3 rfl) ?_
        refine lv_iload_n hx hb dX11_told_63 rfl (lv_at hl 4 rfl) ?_
        have hPc := hP.sub (ws' := [(h0, .inr (11, [.int th, .ref tB, .int tsz, .int tat, .int wr, .int dp, .ref rC, .ref rV, .ref rD, .ref rK, .ref rT, .ref rS, .ref rU, .int lw, .int tx, .ref rL, .ref rX, .ref qR, .ref qB, .ref qP, .int qnb, .int qnp, .ref aR, .ref aB, .ref aP, .int nb, .int np, .ref aN, .ref rf, .int ho, .int br, .ref aK, .int ac, .long dw, .ref aE, .int sr, .int sf, .ref aA, .ref aH, .ref aI, .int hi]))]) [0] rfl
        have hDc := hT.sub (ws' := [(h0, .inr (11, [.int th, .ref tB, .int tsz, .int tat, .int wr, .int dp, .ref rC, .ref rV, .ref rD, .ref rK, .ref rT, .ref rS, .ref rU, .int lw, .int tx, .ref rL, .ref rX, .ref qR, .ref qB, .ref qP, .int qnb, .int qnp, .ref aR, .ref aB, .ref aP, .int nb, .int np, .ref aN, .ref rf, .int ho, .int br, .ref aK, .int ac, .long dw, .ref aE, .int sr, .int sf, .ref aA, .ref aH, .ref aI, .int hi]))]) [0] (by decide) rfl
        have hFc := zfr hS hA
        refine va_calli (va_runV (As := [.int p0]) (rest := []) ⟨hx, hb, hml, hown, hts⟩ (g_X11_isPainter l dC dI cI cJ h0 p0 th tB tsz tat wr dp rC rV rD rK rT rS rU lw tx rL rX qR qB qP qnb qnp aR aB aP nb np aN rf ho br aK ac dw aE sr sf aA aH aI hi H.size n_ac n_hi n_ho n_lw n_nb n_np n_qnb n_qnp n_tat n_tsz n_wr) (cwV 1 hts (zgV qw1414 qw1416 qw57 qw108 qw1417) rfl rfl rfl hd_X11_isPainter ⟨by rw [hR]; exact Nat.le_of_ble_eq_true rfl, by rw [hR]; exact Nat.le_of_ble_eq_true rfl⟩) (zPV hPc hK hDc (va_recv hK hP (ci := 11) (q0 := 0) rfl rfl)) rfl rfl hl.1 rfl (lv_room (Nat.le_of_ble_eq_true rfl)) dX11_told_64 ⟨Nat.zero_le _, Nat.zero_le _⟩) hS (fun q _ h => hFc q h) hFc (fun v64 u64 t H locs ht hvm hw hB hz1 hk1 hS => ?_)
        have hP := zkeep hP hk1
        obtain ⟨f64_0, f64_1, f64_2, f64_3⟩ : (0 ≤ v64.toInt) ∧ (v64.toInt ≤ 1) ∧ (¬ v64.toInt = 0 → (0 ≤ p0.toInt ∧ p0.toInt < np.toInt)) ∧ (v64.toInt = 0 → ¬ (0 ≤ p0.toInt ∧ p0.toInt < np.toInt)) := hw
        refine lv_if_eq (tgt := 74) hx hb dX11_told_67 (by decide) (fun c67 => ?_) (fun c67 => ?_)
        · have c67 : v64.toInt = 0 := z5 rfl (by decide) c67
          refine lv_ldcw (v := (-1000000)) hx hb hown (hts _ qw1666) dX11_told_74 ?_
          refine lv_goto (tgt := 81) hx hb dX11_told_77 (by decide) ?_
          have zr0 : ((-1000000) : Int32).toInt = (-1000000) := by decide
          rw [hQ]
          exact W.iret (v := ((-1000000))) hx hb hr (fun t ht hW => ⟨⟨(-1000000), (), rfl, (by (try dsimp only); exact fun kc kT q_fR q_fPa q_fKp q_frf hc hb h => by have zl := zTlcE (P := fun i => fN (17 + i)) jv7_2 hb.2.2.2.1 (zSr_pn h.1) (by omega) (zSr_P h.1); unfold sV_tol; exact (if_neg (fun y => by first | (have y1 := y.1; omega) | exact y.2 (zl.mpr (by omega)))).symm), trivial⟩, hS.F ht⟩) hS.2.2 dX11_told_81
        · have c67 : ¬ v64.toInt = 0 := z6 rfl (by decide) c67
          refine lv_iload_n hx hb dX11_told_70 rfl (lv_at hl 1 rfl) ?_
          refine lv_if_ne (tgt := 80) hx hb dX11_told_71 (by decide) (fun c71 => ?_) (fun c71 => ?_)
          · have c71 : ¬ m7_L_3.toInt = 0 := z6 rfl (by decide) c71
            refine lv_iload_n hx hb dX11_told_80 rfl (lv_at hl 2 rfl) ?_
            rw [hQ]
            exact W.iret (v := m7_L_2) hx hb hr (fun t ht hW => ⟨⟨m7_L_2, (), rfl, (by (try dsimp only); exact fun kc kT q_fR q_fPa q_fKp q_frf hc hb h => by have zl := zTlcE (P := fun i => fN (17 + i)) jv7_2 hb.2.2.2.1 (zSr_pn h.1) (by omega) (zSr_P h.1); unfold sV_tol; rw [if_pos ⟨by omega, fun y => absurd (zl.mp y) (by omega)⟩, ← zTld_s (P := fun i => fN (17 + i)) hc hb.2.2.2.1 (zSr_pn h.1) (zSr_P h.1)]; exact jv7_1.trans (by rw [show m7_L_4.toInt.toNat = (fN 16).toInt.toNat by omega])), trivial⟩, hS.F ht⟩) hS.2.2 dX11_told_81
          · have c71 : m7_L_3.toInt = 0 := z5 rfl (by decide) c71
            refine lv_ldcw (v := (-1000000)) hx hb hown (hts _ qw1666) dX11_told_74 ?_
            refine lv_goto (tgt := 81) hx hb dX11_told_77 (by decide) ?_
            have zr0 : ((-1000000) : Int32).toInt = (-1000000) := by decide
            rw [hQ]
            exact W.iret (v := ((-1000000))) hx hb hr (fun t ht hW => ⟨⟨(-1000000), (), rfl, (by (try dsimp only); exact fun kc kT q_fR q_fPa q_fKp q_frf hc hb h => by have zl := zTlcE (P := fun i => fN (17 + i)) jv7_2 hb.2.2.2.1 (zSr_pn h.1) (by omega) (zSr_P h.1); unfold sV_tol; exact (if_neg (fun y => by first | (have y1 := y.1; omega) | exact y.2 (zl.mpr (by omega)))).symm), trivial⟩, hS.F ht⟩) hS.2.2 dX11_told_81
      · have c16 : m7_L_4.toInt < v15.toInt := z4 rfl rfl c16
        refine lv_aload_n hx hb dX11_told_19 rfl (lv_at hl 3 rfl) ?_
        refine lv_iload hx hb dX11_told_20 (lv_at hl 0 rfl) ?_
        refine lv_iconst (v := 1) hx hb dX11_told_22 (by decide) ?_
        have hPc := hP.sub (ws' := [(h0, .inr (11, [.int th, .ref tB, .int tsz, .int tat, .int wr, .int dp, .ref rC, .ref rV, .ref rD, .ref rK, .ref rT, .ref rS, .ref rU, .int lw, .int tx, .ref rL, .ref rX, .ref qR, .ref qB, .ref qP, .int qnb, .int qnp, .ref aR, .ref aB, .ref aP, .int nb, .int np, .ref aN, .ref rf, .int ho, .int br, .ref aK, .int ac, .long dw, .ref aE, .int sr, .int sf, .ref aA, .ref aH, .ref aI, .int hi])), (aN, .inl (cI, 97, .inl fN))]) [0, 2] rfl
        have hDc := hT.sub (ws' := [(h0, .inr (11, [.int th, .ref tB, .int tsz, .int tat, .int wr, .int dp, .ref rC, .ref rV, .ref rD, .ref rK, .ref rT, .ref rS, .ref rU, .int lw, .int tx, .ref rL, .ref rX, .ref qR, .ref qB, .ref qP, .int qnb, .int qnp, .ref aR, .ref aB, .ref aP, .int nb, .int np, .ref aN, .ref rf, .int ho, .int br, .ref aK, .int ac, .long dw, .ref aE, .int sr, .int sf, .ref aA, .ref aH, .ref aI, .int hi])), (aN, .inl (cI, 97, .inl fN))]) [0, 2] (by decide) rfl
        have hFc := zfr hS hA
        refine va_calli (va_runV (As := [.int m7_L_4, .int 1]) (rest := []) ⟨hx, hb, hml, hown, hts⟩ (g_X11_shot_1 l dC dI cI cJ h0 m7_L_4 th tB tsz tat wr dp rC rV rD rK rT rS rU lw tx rL rX qR qB qP qnb qnp aR aB aP nb np aN rf ho br aK ac dw aE sr sf aA aH aI hi fN H.size n_ac n_hi n_ho n_lw n_nb n_np (by omega) n_qnb n_qnp n_tat n_tsz n_wr (by omega) ci_fN_zNw_np) (cwV 2 hts (zgV qw1477 qw1479 qw65 qw108 qw1480) rfl rfl rfl hd_X11_shot ⟨by rw [hR]; exact Nat.le_of_ble_eq_true rfl, by rw [hR]; exact Nat.le_of_ble_eq_true rfl⟩) (zPV hPc hK hDc (va_recv hK hP (ci := 11) (q0 := 0) rfl rfl)) rfl rfl hl.1 rfl (lv_room (Nat.le_of_ble_eq_true rfl)) dX11_told_23 ⟨Nat.zero_le _, Nat.zero_le _⟩) hS (fun q _ h => hFc q h) hFc (fun v23 u23 t H locs ht hvm hw hB hz1 hk1 hS => ?_)
        have hP := zkeep hP hk1
        obtain ⟨f23_0, f23_1, f23_2, f23_3⟩ : (0 ≤ v23.toInt) ∧ (v23.toInt ≤ 4) ∧ (v23.toInt < np.toInt) ∧ (v23 = fN (17 + (4 * m7_L_4.toInt.toNat + 1))) := hw
        have F23 := f23_3
        refine lv_iload_n hx hb dX11_told_26 rfl (lv_at hl 4 rfl) ?_
        refine lv_icmp_ne (tgt := 56) hx hb dX11_told_27 (by decide) (fun c27 => ?_) (fun c27 => ?_)
        · have c27 : ¬ v23.toInt = p0.toInt := z6 rfl rfl c27
          obtain ⟨v56, e56⟩ : ∃ y : Int32, y = m7_L_4 + Int32.ofInt (1) := ⟨_, rfl⟩
          refine lv_iinc (v := v56) (lv' := [(4, .int v56), (3, .int m7_L_3), (2, .int m7_L_2), (0, .ref h0), (1, .int p0)]) hx hb dX11_told_56 hl (k := 0) rfl e56.symm (by decide) rfl (fun ls hl => ?_)
          have i56 : v56.toInt = m7_L_4.toInt + 1 := zaddI e56 (by decide) (by omega) (by omega)
          refine lv_goto (tgt := 7) hx hb dX11_told_59 (by decide) ?_
          exact ih7 _ (by omega) m7_L_2 m7_L_3 v56 jf7_0 (by omega) (by omega) (by first | exact zTldY (P := fun i => fN (17 + i)) jv7_1 (by omega) i56 F23 (by omega) (show v50 = fN (17 + (4 * m7_L_4.toInt.toNat + 2)) - fBr (4 * (fN (17 + 4 * m7_L_4.toInt.toNat)).toInt.toNat) by rw [e50, F35, F47.trans (congrArg fBr (show 4 * v43.toInt.toNat + (0 : Int32).toInt.toNat = 4 * v43.toInt.toNat by have : (0 : Int32).toInt = 0 := (by decide); omega)), F43]) e51 | exact zTldN (P := fun i => fN (17 + i)) jv7_1 (by omega) i56 F23 (by omega)) (by first | exact zTlcY (P := fun i => fN (17 + i)) jv7_2 (by omega) i56 F23 (by omega) i53 | exact zTlcN (P := fun i => fN (17 + i)) jv7_2 (by omega) i56 F23 (by omega)) rfl H locs ls hP hS (lv_sub hl [0, 1, 2, 3, 4] rfl)
        · have c27 : v23.toInt = p0.toInt := z5 rfl rfl c27
          refine lv_iload_n hx hb dX11_told_30 rfl (lv_at hl 2 rfl) ?_
          refine lv_aload_n hx hb dX11_told_31 rfl (lv_at hl 3 rfl) ?_
          refine lv_iload hx hb dX11_told_32 (lv_at hl 0 rfl) ?_
          refine lv_iconst (v := 2) hx hb dX11_told_34 (by decide) ?_
          have hPc := hP.sub (ws' := [(h0, .inr (11, [.int th, .ref tB, .int tsz, .int tat, .int wr, .int dp, .ref rC, .ref rV, .ref rD, .ref rK, .ref rT, .ref rS, .ref rU, .int lw, .int tx, .ref rL, .ref rX, .ref qR, .ref qB, .ref qP, .int qnb, .int qnp, .ref aR, .ref aB, .ref aP, .int nb, .int np, .ref aN, .ref rf, .int ho, .int br, .ref aK, .int ac, .long dw, .ref aE, .int sr, .int sf, .ref aA, .ref aH, .ref aI, .int hi])), (aN, .inl (cI, 97, .inl fN))]) [0, 2] rfl
          have hDc := hT.sub (ws' := [(h0, .inr (11, [.int th, .ref tB, .int tsz, .int tat, .int wr, .int dp, .ref rC, .ref rV, .ref rD, .ref rK, .ref rT, .ref rS, .ref rU, .int lw, .int tx, .ref rL, .ref rX, .ref qR, .ref qB, .ref qP, .int qnb, .int qnp, .ref aR, .ref aB, .ref aP, .int nb, .int np, .ref aN, .ref rf, .int ho, .int br, .ref aK, .int ac, .long dw, .ref aE, .int sr, .int sf, .ref aA, .ref aH, .ref aI, .int hi])), (aN, .inl (cI, 97, .inl fN))]) [0, 2] (by decide) rfl
          have hFc := zfr hS hA
          refine va_calli (va_runV (As := [.int m7_L_4, .int 2]) (rest := [.int m7_L_2]) ⟨hx, hb, hml, hown, hts⟩ (g_X11_shot_2 l dC dI cI cJ h0 m7_L_4 th tB tsz tat wr dp rC rV rD rK rT rS rU lw tx rL rX qR qB qP qnb qnp aR aB aP nb np aN rf ho br aK ac dw aE sr sf aA aH aI hi fN H.size n_ac n_hi n_ho n_lw n_nb n_np (by omega) n_qnb n_qnp n_tat n_tsz n_wr (by omega) ci_fN_zNw_np) (cwV 2 hts (zgV qw1477 qw1479 qw65 qw108 qw1480) rfl rfl rfl hd_X11_shot ⟨by rw [hR]; exact Nat.le_of_ble_eq_true rfl, by rw [hR]; exact Nat.le_of_ble_eq_true rfl⟩) (zPV hPc hK hDc (va_recv hK hP (ci := 11) (q0 := 0) rfl rfl)) rfl rfl hl.1 rfl (lv_room (Nat.le_of_ble_eq_true rfl)) dX11_told_35 ⟨Nat.zero_le _, Nat.zero_le _⟩) hS (fun q _ h => hFc q h) hFc (fun v35 u35 t H locs ht hvm hw hB hz1 hk1 hS => ?_)
          have hP := zkeep hP hk1
          obtain ⟨f35_0, f35_1, f35_2⟩ : ((-1) ≤ v35.toInt) ∧ (v35.toInt ≤ 9) ∧ (v35 = fN (17 + (4 * m7_L_4.toInt.toNat + 2))) := hw
          have F35 := f35_2
          refine lv_aload_n hx hb dX11_told_38 rfl (lv_at hl 3 rfl) ?_
          refine lv_aload_n hx hb dX11_told_39 rfl (lv_at hl 3 rfl) ?_
          refine lv_iload hx hb dX11_told_40 (lv_at hl 0 rfl) ?_
          refine lv_iconst (v := 0) hx hb dX11_told_42 (by decide) ?_
          have hPc := hP.sub (ws' := [(h0, .inr (11, [.int th, .ref tB, .int tsz, .int tat, .int wr, .int dp, .ref rC, .ref rV, .ref rD, .ref rK, .ref rT, .ref rS, .ref rU, .int lw, .int tx, .ref rL, .ref rX, .ref qR, .ref qB, .ref qP, .int qnb, .int qnp, .ref aR, .ref aB, .ref aP, .int nb, .int np, .ref aN, .ref rf, .int ho, .int br, .ref aK, .int ac, .long dw, .ref aE, .int sr, .int sf, .ref aA, .ref aH, .ref aI, .int hi])), (aN, .inl (cI, 97, .inl fN))]) [0, 2] rfl
          have hDc := hT.sub (ws' := [(h0, .inr (11, [.int th, .ref tB, .int tsz, .int tat, .int wr, .int dp, .ref rC, .ref rV, .ref rD, .ref rK, .ref rT, .ref rS, .ref rU, .int lw, .int tx, .ref rL, .ref rX, .ref qR, .ref qB, .ref qP, .int qnb, .int qnp, .ref aR, .ref aB, .ref aP, .int nb, .int np, .ref aN, .ref rf, .int ho, .int br, .ref aK, .int ac, .long dw, .ref aE, .int sr, .int sf, .ref aA, .ref aH, .ref aI, .int hi])), (aN, .inl (cI, 97, .inl fN))]) [0, 2] (by decide) rfl
          have hFc := zfr hS hA
          refine va_calli (va_runV (As := [.int m7_L_4, .int 0]) (rest := [.ref h0, .int v35, .int m7_L_2]) ⟨hx, hb, hml, hown, hts⟩ (g_X11_shot_0 l dC dI cI cJ h0 m7_L_4 th tB tsz tat wr dp rC rV rD rK rT rS rU lw tx rL rX qR qB qP qnb qnp aR aB aP nb np aN rf ho br aK ac dw aE sr sf aA aH aI hi fN H.size n_ac n_hi n_ho n_lw n_nb n_np (by omega) n_qnb n_qnp n_tat n_tsz n_wr (by omega) ci_fN_zNw_np) (cwV 2 hts (zgV qw1477 qw1479 qw65 qw108 qw1480) rfl rfl rfl hd_X11_shot ⟨by rw [hR]; exact Nat.le_of_ble_eq_true rfl, by rw [hR]; exact Nat.le_of_ble_eq_true rfl⟩) (zPV hPc hK hDc (va_recv hK hP (ci := 11) (q0 := 0) rfl rfl)) rfl rfl hl.1 rfl (lv_room (Nat.le_of_ble_eq_true rfl)) dX11_told_43 ⟨Nat.zero_le _, Nat.zero_le _⟩) hS (fun q _ h => hFc q h) hFc (fun v43 u43 t H locs ht hvm hw hB hz1 hk1 hS => ?_)
          have hP := zkeep hP hk1
          obtain ⟨f43_0, f43_1, f43_2, f43_3⟩ : (0 ≤ v43.toInt) ∧ (v43.toInt ≤ 5) ∧ (v43.toInt = (fN (17 + 4 * m7_L_4.toInt.toNat)).toInt) ∧ (v43 = fN (17 + 4 * m7_L_4.toInt.toNat)) := hw
          have F43 := f43_3
          refine lv_iconst (v := 0) hx hb dX11_told_46 (by decide) ?_
          have hPc := hP.sub (ws' := [(h0, .inr (11, [.int th, .ref tB, .int tsz, .int tat, .int wr, .int dp, .ref rC, .ref rV, .ref rD, .ref rK, .ref rT, .ref rS, .ref rU, .int lw, .int tx, .ref rL, .ref rX, .ref qR, .ref qB, .ref qP, .int qnb, .int qnp, .ref aR, .ref aB, .ref aP, .int nb, .int np, .ref aN, .ref rf, .int ho, .int br, .ref aK, .int ac, .long dw, .ref aE, .int sr, .int sf, .ref aA, .ref aH, .ref aI, .int hi])), (aB, .inl (cI, 24, .inl fBr))]) [0, 1] rfl
          have hDc := hT.sub (ws' := [(h0, .inr (11, [.int th, .ref tB, .int tsz, .int tat, .int wr, .int dp, .ref rC, .ref rV, .ref rD, .ref rK, .ref rT, .ref rS, .ref rU, .int lw, .int tx, .ref rL, .ref rX, .ref qR, .ref qB, .ref qP, .int qnb, .int qnp, .ref aR, .ref aB, .ref aP, .int nb, .int np, .ref aN, .ref rf, .int ho, .int br, .ref aK, .int ac, .long dw, .ref aE, .int sr, .int sf, .ref aA, .ref aH, .ref aI, .int hi])), (aB, .inl (cI, 24, .inl fBr))]) [0, 1] (by decide) rfl
          have hFc := zfr hS hA
          refine va_calli (va_runV (As := [.int v43, .int 0]) (rest := [.int v35, .int m7_L_2]) ⟨hx, hb, hml, hown, hts⟩ (g_X11_of l dC dI cI cJ h0 v43 0 th tB tsz tat wr dp rC rV rD rK rT rS rU lw tx rL rX qR qB qP qnb qnp aR aB aP nb np aN rf ho br aK ac dw aE sr sf aA aH aI hi fBr H.size n_ac n_hi n_ho n_lw n_nb n_np ⟨f43_0, f43_1⟩ (by decide) n_qnb n_qnp n_tat n_tsz n_wr) (cwV 2 hts (zgV qw1390 qw1392 qw54 qw108 qw1393) rfl rfl rfl hd_X11_of ⟨by rw [hR]; exact Nat.le_of_ble_eq_true rfl, by rw [hR]; exact Nat.le_of_ble_eq_true rfl⟩) (zPV hPc hK hDc (va_recv hK hP (ci := 11) (q0 := 0) rfl rfl)) rfl rfl hl.1 rfl (lv_room (Nat.le_of_ble_eq_true rfl)) dX11_told_47 ⟨Nat.zero_le _, Nat.zero_le _⟩) hS (fun q _ h => hFc q h) hFc (fun v47 u47 t H locs ht hvm hw hB hz1 hk1 hS => ?_)
          have hP := zkeep hP hk1
          have zn47_0 : (0 : Int32).toInt = 0 := by decide
          have f47_0 : (v47 = fBr (4 * v43.toInt.toNat + (0 : Int32).toInt.toNat)) := hw
          have F47 := f47_0
          refine lv_isub hx hb dX11_told_50 ?_
          refine lv_topi (fun v50 e50 => ?_)
          refine lv_iadd hx hb dX11_told_51 ?_
          refine lv_topi (fun v51 e51 => ?_)
          refine lv_istore_n (lv' := [(2, .int v51), (4, .int m7_L_4), (3, .int m7_L_3), (0, .ref h0), (1, .int p0)]) hx hb dX11_told_52 rfl hl (by decide) rfl (fun ls hl => ?_)
          have q53 := jv7_2.2.1
          have q53b := jv7_2.1
          obtain ⟨v53, e53⟩ : ∃ y : Int32, y = m7_L_3 + Int32.ofInt (1) := ⟨_, rfl⟩
          refine lv_iinc (v := v53) (lv' := [(3, .int v53), (2, .int v51), (4, .int m7_L_4), (0, .ref h0), (1, .int p0)]) hx hb dX11_told_53 hl (k := 2) rfl e53.symm (by decide) rfl (fun ls hl => ?_)
          have i53 : v53.toInt = m7_L_3.toInt + 1 := zaddI e53 (by decide) (by omega) (by omega)
          obtain ⟨v56, e56⟩ : ∃ y : Int32, y = m7_L_4 + Int32.ofInt (1) := ⟨_, rfl⟩
          refine lv_iinc (v := v56) (lv' := [(4, .int v56), (3, .int v53), (2, .int v51), (0, .ref h0), (1, .int p0)]) hx hb dX11_told_56 hl (k := 2) rfl e56.symm (by decide) rfl (fun ls hl => ?_)
          have i56 : v56.toInt = m7_L_4.toInt + 1 := zaddI e56 (by decide) (by omega) (by omega)
          refine lv_goto (tgt := 7) hx hb dX11_told_59 (by decide) ?_
          exact ih7 _ (by omega) v51 v53 v56 (by omega) (by omega) (by omega) (by first | exact zTldY (P := fun i => fN (17 + i)) jv7_1 (by omega) i56 F23 (by omega) (show v50 = fN (17 + (4 * m7_L_4.toInt.toNat + 2)) - fBr (4 * (fN (17 + 4 * m7_L_4.toInt.toNat)).toInt.toNat) by rw [e50, F35, F47.trans (congrArg fBr (show 4 * v43.toInt.toNat + (0 : Int32).toInt.toNat = 4 * v43.toInt.toNat by have : (0 : Int32).toInt = 0 := (by decide); omega)), F43]) e51 | exact zTldN (P := fun i => fN (17 + i)) jv7_1 (by omega) i56 F23 (by omega)) (by first | exact zTlcY (P := fun i => fN (17 + i)) jv7_2 (by omega) i56 F23 (by omega) i53 | exact zTlcN (P := fun i => fN (17 + i)) jv7_2 (by omega) i56 F23 (by omega)) rfl H locs ls hP hS (lv_sub hl [0, 1, 2, 3, 4] rfl)
  refine lv_istore (lv' := [(4, .int 0), (3, .int 0), (2, .int 0), (0, .ref h0), (1, .int p0)]) hx hb dX11_told_5 hl (by decide) rfl (fun ls hl => ?_)
  have zj7_m7_L_2 : (0 : Int32).toInt = 0 := by decide
  have zj7_m7_L_3 : (0 : Int32).toInt = 0 := by decide
  have zj7_m7_L_4 : (0 : Int32).toInt = 0 := by decide
  exact J7 _ 0 0 0 (by decide) (by decide) (Or.inr (by decide)) (rfl) (zTlc_0) rfl H locs ls hP hS (lv_sub hl [0, 1, 2, 3, 4] rfl)
