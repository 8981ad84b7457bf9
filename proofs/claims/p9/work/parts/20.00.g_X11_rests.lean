set_option maxHeartbeats 4000000 in
set_option maxRecDepth 100000 in
theorem g_X11_areReal (l : Launch) (dC : Nat → ClassId) (dI : Nat → Nat → Nat) (cI cJ : ClassId) (h0 : Nat) (p0 : Int32) (th : Int32) (tB : Nat) (tsz : Int32) (tat : Int32) (wr : Int32) (dp : Int32) (rC : Nat) (rV : Nat) (rD : Nat) (rK : Nat) (rT : Nat) (rS : Nat) (rU : Nat) (lw : Int32) (tx : Int32) (rL : Nat) (rX : Nat) (qR : Nat) (qB : Nat) (qP : Nat) (qnb : Int32) (qnp : Int32) (aR : Nat) (aB : Nat) (aP : Nat) (nb : Int32) (np : Int32) (aN : Nat) (rf : Nat) (ho : Int32) (br : Int32) (aK : Nat) (ac : Int32) (dw : Int64) (aE : Nat) (sr : Int32) (sf : Int32) (aA : Nat) (aH : Nat) (aI : Nat) (hi : Int32) (fPa : Nat → Int32) (sz : Nat) (n_ac : 0 ≤ ac.toInt ∧ ac.toInt ≤ 40) (n_hi : 0 ≤ hi.toInt ∧ hi.toInt ≤ 1) (n_ho : (-1) ≤ ho.toInt ∧ ho.toInt ≤ 3) (n_lw : 0 ≤ lw.toInt ∧ lw.toInt ≤ 4) (n_nb : 0 ≤ nb.toInt ∧ nb.toInt ≤ 6) (n_np : 0 ≤ np.toInt ∧ np.toInt ≤ 5) (n_qnb : 0 ≤ qnb.toInt ∧ qnb.toInt ≤ 6) (n_qnp : 0 ≤ qnp.toInt ∧ qnp.toInt ≤ 5) (n_tat : 0 ≤ tat.toInt ∧ tat.toInt ≤ 260) (n_tsz : 0 ≤ tsz.toInt ∧ tsz.toInt ≤ 240) (n_wr : (-1) ≤ wr.toInt ∧ wr.toInt ≤ 260)  (ci_fPa_zBr_np : zBr np fPa)  : Met l yX11_areReal (.code yX11_areReal cX11_areReal 3 (some .boolean) :: wA) ({ frames := 1, cells := 0, slots := 0, locals := 22 }) (zP (dC, dI) [(cI, .int), (cJ, .long)] [.ref h0, .int p0] sz [(h0, .inr (11, [.int th, .ref tB, .int tsz, .int tat, .int wr, .int dp, .ref rC, .ref rV, .ref rD, .ref rK, .ref rT, .ref rS, .ref rU, .int lw, .int tx, .ref rL, .ref rX, .ref qR, .ref qB, .ref qP, .int qnb, .int qnp, .ref aR, .ref aB, .ref aP, .int nb, .int np, .ref aN, .ref rf, .int ho, .int br, .ref aK, .int ac, .long dw, .ref aE, .int sr, .int sf, .ref aA, .ref aH, .ref aI, .int hi])), (aP, .inl (cI, 20, .inl fPa))]) (va_Qi (fun (r : Int32) (u : Unit) => (0 ≤ r.toInt) ∧ (r.toInt ≤ 1) ∧ (∀ kc : zK3, (∀ j : Nat, (j : Int) < 4 * np.toInt → fPa j = kc.2.2 j) → 0 ≤ p0.toInt → (r.toInt = 1 ∧ sRe kc np.toInt.toNat p0.toInt.toNat = true) ∨ (r.toInt = 0 ∧ sRe kc np.toInt.toNat p0.toInt.toNat = false))) (fun (_ : Unit) (_ : State) => True) (va_A [] sz)) 0 0 (va_A [] sz) := by
  refine Met.ofW (cc := cX11_areReal) (maxL := 3) (ret := (some .boolean)) (by decide) rfl ?_
  intro p e s m args below meth c s₁ B hml hv
  have y_ac : zHid (0 ≤ ac.toInt ∧ ac.toInt ≤ 40) := n_ac
  have y_hi : zHid (0 ≤ hi.toInt ∧ hi.toInt ≤ 1) := n_hi
  have y_ho : zHid ((-1) ≤ ho.toInt ∧ ho.toInt ≤ 3) := n_ho
  have y_lw : zHid (0 ≤ lw.toInt ∧ lw.toInt ≤ 4) := n_lw
  have y_nb : zHid (0 ≤ nb.toInt ∧ nb.toInt ≤ 6) := n_nb
  have y_qnb : zHid (0 ≤ qnb.toInt ∧ qnb.toInt ≤ 6) := n_qnb
  have y_qnp : zHid (0 ≤ qnp.toInt ∧ qnp.toInt ≤ 5) := n_qnp
  have y_tat : zHid (0 ≤ tat.toInt ∧ tat.toInt ≤ 260) := n_tat
  have y_tsz : zHid (0 ≤ tsz.toInt ∧ tsz.toInt ≤ 240) := n_tsz
  have y_wr : zHid ((-1) ≤ wr.toInt ∧ wr.toInt ≤ 260) := n_wr
  clear n_ac n_hi n_ho n_lw n_nb n_qnb n_qnp n_tat n_tsz n_wr
  obtain ⟨hargs, hsz, hP, hK, hT⟩ := hv
  have hx := B.exec
  have hb := B.bytes
  have hr := B.returns
  have hts : ∀ w ∈ wA, w.before args s = true := fun w h => atoms_spec (ws := .code yX11_areReal cX11_areReal 3 (some .boolean) :: wA) B.pre w (List.mem_cons_of_mem _ h)
  have hown : s.vm.findClass RX11 = some m.cls := findClass_of_methodNamed B.named
  have hlocks := B.notSynchronized
  subst hsz
  have hD : va_D (va_A [] s.heap.size) [] := zD0
  generalize hAe : va_A [] s.heap.size = A at hD ⊢
  have hA : ∀ q : Nat, s.heap.size ≤ q → A q := fun q h => by rw [← hAe]; exact Or.inr h
  have hl := lv_entry ([.ref h0, .int p0]) (n := 3) (Nat.le_of_ble_eq_true rfl)
  rw [show entryFrame m args 3 = entryFrame m ([.ref h0, .int p0] : List Value).toArray 3 by rw [hargs], lg_entry_eq]
  generalize (lg_sl ([.ref h0, .int p0]) ++ List.replicate (3 - (lg_sl ([.ref h0, .int p0])).length) Slot.unset).toArray = ls at hl ⊢
  have hl : lv_has ls 3 [(0, .ref h0), (1, .int p0)] := hl
  refine zstart (fun H hH => ?_)
  rw [← hH] at hP
  have hS : va_S A s.heap H [] := by rw [hH]; exact va_S.rf
  generalize ([] : List Loc) = locs at hS ⊢
  refine zgen (fun R Q hR hQ => ?_)
  refine lv_iconst (v := 0) hx hb dX11_areReal_0 (by decide) ?_
  have J2 : ∀ (n : Nat) (m2_L_2 : Int32), (0 ≤ m2_L_2.toInt ∧ m2_L_2.toInt ≤ 5) → (∀ kc : zK3, (∀ j : Nat, (j : Int) < 4 * np.toInt → fPa j = kc.2.2 j) → 0 ≤ p0.toInt → ∀ p : Nat, (p : Int) < m2_L_2.toInt → sBi p0.toInt.toNat p → sKi kc p) → (m2_L_2.toInt ≤ np.toInt) → (6 - m2_L_2.toInt).toNat = n → ∀ (H : Heap) (locs : List Loc) (ls : Array Slot), va_P (dC, dI) vwCl [(h0, .inr (11, [.int th, .ref tB, .int tsz, .int tat, .int wr, .int dp, .ref rC, .ref rV, .ref rD, .ref rK, .ref rT, .ref rS, .ref rU, .int lw, .int tx, .ref rL, .ref rX, .ref qR, .ref qB, .ref qP, .int qnb, .int qnp, .ref aR, .ref aB, .ref aP, .int nb, .int np, .ref aN, .ref rf, .int ho, .int br, .ref aK, .int ac, .long dw, .ref aE, .int sr, .int sf, .ref aA, .ref aH, .ref aI, .int hi])), (aP, .inl (cI, 20, .inl fPa))] H → va_S A s.heap H locs → lv_has ls 3 [(2, .int m2_L_2), (0, .ref h0), (1, .int p0)] → W p l e R s m args below meth c H locs 0 0 Q (F0 m 2 ls []) := by
    intro n2
    induction n2 using Nat.strongRecOn with
    | _ n2 ih2 =>
      intro m2_L_2 jf2_0 jv2_0 jf2_2 hmu2 H locs ls hP hS hl
      refine lv_iload_n hx hb dX11_areReal_2 rfl (lv_at hl 0 rfl) ?_
      refine lv_aload_n hx hb dX11_areReal_3 rfl (lv_at hl 1 rfl) ?_
      refine va_get (D := (dC, dI)) (ci := 11) (v := .int np) (C := RX11) (T := TX11) (N := 41) hx hb hts iX11 hown hK hP 0 rfl rfl 26 (by decide) (hts _ qw1153) (fun _ h9 => h9) rfl dX11_areReal_4 ?_
      refine lv_icmp_ge (tgt := 36) hx hb dX11_areReal_7 (by decide) (fun c7 => ?_) (fun c7 => ?_)
      · have c7 : np.toInt ≤ m2_L_2.toInt := z3 rfl rfl c7
        refine lv_iconst (v := 1) hx hb dX11_areReal_36 (by decide) ?_
        have zr0 : (1 : Int32).toInt = 1 := by decide
        rw [hQ]
        exact W.zret (v := 1) (ty := .boolean) hx hb hr rfl (fun t ht hW => ⟨⟨1, (), rfl, ⟨by (try dsimp only); omega, by (try dsimp only); omega, by (try dsimp only); exact fun kc hk h0 => Or.inl ⟨by decide, decide_eq_true (fun p hp hz => jv2_0 kc hk h0 p (by omega) hz)⟩⟩, trivial⟩, hS.F ht⟩) hS.2.2 dX11_areReal_37
      · have c7 : m2_L_2.toInt < np.toInt := z4 rfl rfl c7
        refine lv_iload_n hx hb dX11_areReal_10 rfl (lv_at hl 2 rfl) ?_
        refine lv_iload_n hx hb dX11_areReal_11 rfl (lv_at hl 0 rfl) ?_
        have hPc : va_P (dC, dI) vwCl [] H := zP0
        have hDc : va_D (fun _ => True) [] := zD0
        have hFc := zfr hS hA
        refine va_calli (va_runS (As := [.int p0, .int m2_L_2]) (rest := []) ⟨hx, hb, hml, hown, hts⟩ (g_X11_has l dC dI cI cJ p0 m2_L_2 H.size) (cwS 2 hts (zgS qw1288 qw1289 qw108 qw1290) rfl rfl rfl hd_X11_has ⟨by rw [hR]; exact Nat.le_of_ble_eq_true rfl, by rw [hR]; exact Nat.le_of_ble_eq_true rfl⟩) (zPS hPc hK hDc) rfl rfl hl.1 rfl (lv_room (Nat.le_of_ble_eq_true rfl)) dX11_areReal_12 ⟨Nat.zero_le _, Nat.zero_le _⟩) hS (fun q _ h => hFc q h) hFc (fun v12 u12 t H locs ht hvm hw hB hz1 hk1 hS9 => ?_)
        replace hP := zkeep hP hk1
        replace hS := hS9
        clear hPc hDc hFc hk1 hz1 hvm hS9
        obtain ⟨f12_0, f12_1, f12_2, f12_3⟩ : (0 ≤ v12.toInt) ∧ (v12.toInt ≤ 1) ∧ (v12.toInt = ((p0 >>> (m2_L_2 &&& 31)) &&& 1).toInt) ∧ (v12.toInt = (cBt p0 m2_L_2).toInt) := hw
        have F12 := f12_3
        refine lv_if_eq (tgt := 30) hx hb dX11_areReal_15 (by decide) (fun c15 => ?_) (fun c15 => ?_)
        · have c15 : v12.toInt = 0 := z5 rfl (by decide) c15
          obtain ⟨v30, e30⟩ : ∃ y : Int32, y = m2_L_2 + Int32.ofInt (1) := ⟨_, rfl⟩
          refine lv_iinc (v := v30) (lv' := [(2, .int v30), (0, .ref h0), (1, .int p0)]) hx hb dX11_areReal_30 hl (k := 0) rfl e30.symm (by decide) rfl (fun ls hl => ?_)
          have i30 : v30.toInt = m2_L_2.toInt + 1 := zaddI e30 (by decide) (by omega) (by omega)
          refine lv_goto (tgt := 2) hx hb dX11_areReal_33 (by decide) ?_
          exact ih2 _ (by omega) v30 (by omega) (fun kc hk h0 j hj hz => by by_cases c : (j : Int) < m2_L_2.toInt; exact jv2_0 kc hk h0 j c hz; (rw [show j = m2_L_2.toInt.toNat by omega] at hz ⊢; have b12 := sBi_e (s := p0) (p := m2_L_2) h0 (by omega) F12; first | (have y21 : v21 = kc.2.2 (4 * m2_L_2.toInt.toNat + 3) := (F21.trans (congrArg fPa (show 4 * m2_L_2.toInt.toNat + (3 : Int32).toInt.toNat = 4 * m2_L_2.toInt.toNat + 3 by have : (3 : Int32).toInt = 3 := (by decide); omega))).trans (hk _ (by omega)); have z21 := congrArg Int32.toInt y21; exact fun w => absurd (z21.trans w) (by omega)) | exact absurd (b12.mpr hz) (by omega))) (by omega) rfl H locs ls hP hS (lv_sub hl [0, 1, 2] rfl)
        · have c15 : ¬ v12.toInt = 0 := z6 rfl (by decide) c15
          refine lv_aload_n hx hb dX11_areReal_18 rfl (lv_at hl 1 rfl) ?_
          refine lv_iload_n hx hb dX11_areReal_19 rfl (lv_at hl 0 rfl) ?_
          refine lv_iconst (v := 3) hx hb dX11_areReal_20 (by decide) ?_
          obtain ⟨hPc, hDc⟩ := zc2 (wc := [(h0, .inr (11, [.int th, .ref tB, .int tsz, .int tat, .int wr, .int dp, .ref rC, .ref rV, .ref rD, .ref rK, .ref rT, .ref rS, .ref rU, .int lw, .int tx, .ref rL, .ref rX, .ref qR, .ref qB, .ref qP, .int qnb, .int qnp, .ref aR, .ref aB, .ref aP, .int nb, .int np, .ref aN, .ref rf, .int ho, .int br, .ref aK, .int ac, .long dw, .ref aE, .int sr, .int sf, .ref aA, .ref aH, .ref aI, .int hi])), (aP, .inl (cI, 20, .inl fPa))]) hP hT [0, 1] (by decide +kernel) rfl
          have hFc := zfr hS hA
          refine va_calli (va_runV (As := [.int m2_L_2, .int 3]) (rest := []) ⟨hx, hb, hml, hown, hts⟩ (g_X11_by l dC dI cI cJ h0 m2_L_2 3 th tB tsz tat wr dp rC rV rD rK rT rS rU lw tx rL rX qR qB qP qnb qnp aR aB aP nb np aN rf ho br aK ac dw aE sr sf aA aH aI hi fPa H.size y_ac y_hi y_ho y_lw y_nb n_np (by omega) (by decide) y_qnb y_qnp y_tat y_tsz y_wr) (cwV 2 hts (zgV qw1390 qw1392 qw55 qw108 qw1393) rfl rfl rfl hd_X11_by ⟨by rw [hR]; exact Nat.le_of_ble_eq_true rfl, by rw [hR]; exact Nat.le_of_ble_eq_true rfl⟩) (zPV hPc hK hDc (va_recv (q := (RX11, TX11, 41)) hK hP (ci := 11) (q0 := 0) rfl rfl)) rfl rfl hl.1 rfl (lv_room (Nat.le_of_ble_eq_true rfl)) dX11_areReal_21 ⟨Nat.zero_le _, Nat.zero_le _⟩) hS (fun q _ h => hFc q h) hFc (fun v21 u21 t H locs ht hvm hw hB hz1 hk1 hS9 => ?_)
          replace hP := zkeep hP hk1
          replace hS := hS9
          clear hPc hDc hFc hk1 hz1 hvm hS9
          have zn21_3 : (3 : Int32).toInt = 3 := by decide
          have f21_0 : (v21 = fPa (4 * m2_L_2.toInt.toNat + (3 : Int32).toInt.toNat)) := hw
          have F21 := f21_0
          refine lv_iconst (v := 3) hx hb dX11_areReal_24 (by decide) ?_
          refine lv_icmp_ne (tgt := 30) hx hb dX11_areReal_25 (by decide) (fun c25 => ?_) (fun c25 => ?_)
          · have c25 : ¬ v21.toInt = 3 := z6 rfl (by decide) c25
            obtain ⟨v30, e30⟩ : ∃ y : Int32, y = m2_L_2 + Int32.ofInt (1) := ⟨_, rfl⟩
            refine lv_iinc (v := v30) (lv' := [(2, .int v30), (0, .ref h0), (1, .int p0)]) hx hb dX11_areReal_30 hl (k := 0) rfl e30.symm (by decide) rfl (fun ls hl => ?_)
            have i30 : v30.toInt = m2_L_2.toInt + 1 := zaddI e30 (by decide) (by omega) (by omega)
            refine lv_goto (tgt := 2) hx hb dX11_areReal_33 (by decide) ?_
            exact ih2 _ (by omega) v30 (by omega) (fun kc hk h0 j hj hz => by by_cases c : (j : Int) < m2_L_2.toInt; exact jv2_0 kc hk h0 j c hz; (rw [show j = m2_L_2.toInt.toNat by omega] at hz ⊢; have b12 := sBi_e (s := p0) (p := m2_L_2) h0 (by omega) F12; first | (have y21 : v21 = kc.2.2 (4 * m2_L_2.toInt.toNat + 3) := (F21.trans (congrArg fPa (show 4 * m2_L_2.toInt.toNat + (3 : Int32).toInt.toNat = 4 * m2_L_2.toInt.toNat + 3 by have : (3 : Int32).toInt = 3 := (by decide); omega))).trans (hk _ (by omega)); have z21 := congrArg Int32.toInt y21; exact fun w => absurd (z21.trans w) (by omega)) | exact absurd (b12.mpr hz) (by omega))) (by omega) rfl H locs ls hP hS (lv_sub hl [0, 1, 2] rfl)
          · have c25 : v21.toInt = 3 := z5 rfl (by decide) c25
            refine lv_iconst (v := 0) hx hb dX11_areReal_28 (by decide) ?_
            have zr0 : (0 : Int32).toInt = 0 := by decide
            rw [hQ]
            exact W.zret (v := 0) (ty := .boolean) hx hb hr rfl (fun t ht hW => ⟨⟨0, (), rfl, ⟨by (try dsimp only); omega, by (try dsimp only); omega, by (try dsimp only); exact fun kc hk h0 => by have b12 := sBi_e (s := p0) (p := m2_L_2) h0 (by omega) F12; have y21 : v21 = kc.2.2 (4 * m2_L_2.toInt.toNat + 3) := (F21.trans (congrArg fPa (show 4 * m2_L_2.toInt.toNat + (3 : Int32).toInt.toNat = 4 * m2_L_2.toInt.toNat + 3 by have : (3 : Int32).toInt = 3 := (by decide); omega))).trans (hk _ (by omega)); have z21 := congrArg Int32.toInt y21; exact Or.inr ⟨by decide, decide_eq_false (fun z => z m2_L_2.toInt.toNat (by omega) (b12.mp (by omega)) (by omega))⟩⟩, trivial⟩, hS.F ht⟩) hS.2.2 dX11_areReal_29
  refine lv_istore_n (lv' := [(2, .int 0), (0, .ref h0), (1, .int p0)]) hx hb dX11_areReal_1 rfl hl (by decide) rfl (fun ls hl => ?_)
  have zj2_m2_L_2 : (0 : Int32).toInt = 0 := by decide
  exact J2 _ 0 (by decide) (fun kc hk h0 j hj => by exfalso; have z1 : (0 : Int32).toInt = 0 := (by decide); omega) (by omega) rfl H locs ls hP hS (lv_sub hl [0, 1, 2] rfl)
set_option maxHeartbeats 4000000 in
set_option maxRecDepth 100000 in
theorem g_X11_apart (l : Launch) (dC : Nat → ClassId) (dI : Nat → Nat → Nat) (cI cJ : ClassId) (h0 : Nat) (p0 : Int32) (th : Int32) (tB : Nat) (tsz : Int32) (tat : Int32) (wr : Int32) (dp : Int32) (rC : Nat) (rV : Nat) (rD : Nat) (rK : Nat) (rT : Nat) (rS : Nat) (rU : Nat) (lw : Int32) (tx : Int32) (rL : Nat) (rX : Nat) (qR : Nat) (qB : Nat) (qP : Nat) (qnb : Int32) (qnp : Int32) (aR : Nat) (aB : Nat) (aP : Nat) (nb : Int32) (np : Int32) (aN : Nat) (rf : Nat) (ho : Int32) (br : Int32) (aK : Nat) (ac : Int32) (dw : Int64) (aE : Nat) (sr : Int32) (sf : Int32) (aA : Nat) (aH : Nat) (aI : Nat) (hi : Int32) (fC : Nat → Int32) (fV : Nat → Int32) (fK : Nat → Int32) (fT : Nat → Int32) (fS : Nat → Int32) (fU : Nat → Int32) (fL : Nat → Int32) (fX : Nat → Int32) (fBr : Nat → Int32) (fPa : Nat → Int32) (fN : Nat → Int32) (sz : Nat) (n_ac : 0 ≤ ac.toInt ∧ ac.toInt ≤ 40) (n_hi : 0 ≤ hi.toInt ∧ hi.toInt ≤ 1) (n_ho : (-1) ≤ ho.toInt ∧ ho.toInt ≤ 3) (n_lw : 0 ≤ lw.toInt ∧ lw.toInt ≤ 4) (n_nb : 0 ≤ nb.toInt ∧ nb.toInt ≤ 6) (n_np : 0 ≤ np.toInt ∧ np.toInt ≤ 5) (n_qnb : 0 ≤ qnb.toInt ∧ qnb.toInt ≤ 6) (n_qnp : 0 ≤ qnp.toInt ∧ qnp.toInt ≤ 5) (n_tat : 0 ≤ tat.toInt ∧ tat.toInt ≤ 260) (n_tsz : 0 ≤ tsz.toInt ∧ tsz.toInt ≤ 240) (n_wr : (-1) ≤ wr.toInt ∧ wr.toInt ≤ 260) (hls : zLs ho fC fV fK fT fS fU) (ci_fBr_zBr_nb : zBr nb fBr) (ci_fN_zNw_np : zNw np fN) (ci_fPa_zBr_np : zBr np fPa)  : Met l yX11_apart (.code yX11_apart cX11_apart 5 (some .int) :: wA) ({ frames := 9, cells := 0, slots := 0, locals := 220 }) (zP (dC, dI) [(cI, .int), (cJ, .long)] [.ref h0, .int p0] sz [(h0, .inr (11, [.int th, .ref tB, .int tsz, .int tat, .int wr, .int dp, .ref rC, .ref rV, .ref rD, .ref rK, .ref rT, .ref rS, .ref rU, .int lw, .int tx, .ref rL, .ref rX, .ref qR, .ref qB, .ref qP, .int qnb, .int qnp, .ref aR, .ref aB, .ref aP, .int nb, .int np, .ref aN, .ref rf, .int ho, .int br, .ref aK, .int ac, .long dw, .ref aE, .int sr, .int sf, .ref aA, .ref aH, .ref aI, .int hi])), (rC, .inl (cI, 2600, .inl fC)), (rV, .inl (cI, 2600, .inl fV)), (rK, .inl (cI, 5, .inl fK)), (rT, .inl (cI, 700, .inl fT)), (rS, .inl (cI, 700, .inl fS)), (rU, .inl (cI, 700, .inl fU)), (rL, .inl (cI, 6, .inl fL)), (rX, .inl (cI, 80, .inl fX)), (aB, .inl (cI, 24, .inl fBr)), (aP, .inl (cI, 20, .inl fPa)), (aN, .inl (cI, 97, .inl fN))]) (va_Qi (fun (r : Int32) (u : (Nat → Int32) × (Nat → Int32)) => ((-1) ≤ r.toInt) ∧ (r.toInt ≤ 98) ∧ (∀ (kc : zK3) (kT : zT) (q_fR : Nat → Int32) (q_fKp : Nat → Int32) (q_frf : Nat → Int32) (kl : Option ((Int → Int) × Int)), zCn q_fR fBr fPa nb.toInt np.toInt kc → zKo nb.toInt np.toInt kc kT → zTr nb.toInt np.toInt kT fN q_fKp ac q_frf → zLwR ho fC fV fK fT fS fU kl → r.toInt = sV_apa nb.toInt np.toInt.toNat kc kT.1 kl p0)) (fun (u : (Nat → Int32) × (Nat → Int32)) (t : State) => va_P (dC, dI) vwCl [(h0, .inr (11, [.int th, .ref tB, .int tsz, .int tat, .int wr, .int dp, .ref rC, .ref rV, .ref rD, .ref rK, .ref rT, .ref rS, .ref rU, .int lw, .int tx, .ref rL, .ref rX, .ref qR, .ref qB, .ref qP, .int qnb, .int qnp, .ref aR, .ref aB, .ref aP, .int nb, .int np, .ref aN, .ref rf, .int ho, .int br, .ref aK, .int ac, .long dw, .ref aE, .int sr, .int sf, .ref aA, .ref aH, .ref aI, .int hi])), (rC, .inl (cI, 2600, .inl fC)), (rV, .inl (cI, 2600, .inl fV)), (rK, .inl (cI, 5, .inl fK)), (rT, .inl (cI, 700, .inl fT)), (rS, .inl (cI, 700, .inl fS)), (rU, .inl (cI, 700, .inl fU)), (rL, .inl (cI, 6, .inl u.1)), (rX, .inl (cI, 80, .inl u.2)), (aB, .inl (cI, 24, .inl fBr)), (aP, .inl (cI, 20, .inl fPa)), (aN, .inl (cI, 97, .inl fN))] t.heap ∧ va_D (va_A [(h0, .inr (11, [.int th, .ref tB, .int tsz, .int tat, .int wr, .int dp, .ref rC, .ref rV, .ref rD, .ref rK, .ref rT, .ref rS, .ref rU, .int lw, .int tx, .ref rL, .ref rX, .ref qR, .ref qB, .ref qP, .int qnb, .int qnp, .ref aR, .ref aB, .ref aP, .int nb, .int np, .ref aN, .ref rf, .int ho, .int br, .ref aK, .int ac, .long dw, .ref aE, .int sr, .int sf, .ref aA, .ref aH, .ref aI, .int hi])), (rC, .inl (cI, 2600, .inl fC)), (rV, .inl (cI, 2600, .inl fV)), (rK, .inl (cI, 5, .inl fK)), (rT, .inl (cI, 700, .inl fT)), (rS, .inl (cI, 700, .inl fS)), (rU, .inl (cI, 700, .inl fU)), (rL, .inl (cI, 6, .inl fL)), (rX, .inl (cI, 80, .inl fX)), (aB, .inl (cI, 24, .inl fBr)), (aP, .inl (cI, 20, .inl fPa)), (aN, .inl (cI, 97, .inl fN))] sz) [(h0, .inr (11, [.int th, .ref tB, .int tsz, .int tat, .int wr, .int dp, .ref rC, .ref rV, .ref rD, .ref rK, .ref rT, .ref rS, .ref rU, .int lw, .int tx, .ref rL, .ref rX, .ref qR, .ref qB, .ref qP, .int qnb, .int qnp, .ref aR, .ref aB, .ref aP, .int nb, .int np, .ref aN, .ref rf, .int ho, .int br, .ref aK, .int ac, .long dw, .ref aE, .int sr, .int sf, .ref aA, .ref aH, .ref aI, .int hi])), (rC, .inl (cI, 2600, .inl fC)), (rV, .inl (cI, 2600, .inl fV)), (rK, .inl (cI, 5, .inl fK)), (rT, .inl (cI, 700, .inl fT)), (rS, .inl (cI, 700, .inl fS)), (rU, .inl (cI, 700, .inl fU)), (rL, .inl (cI, 6, .inl u.1)), (rX, .inl (cI, 80, .inl u.2)), (aB, .inl (cI, 24, .inl fBr)), (aP, .inl (cI, 20, .inl fPa)), (aN, .inl (cI, 97, .inl fN))]) (va_A [(h0, .inr (11, [.int th, .ref tB, .int tsz, .int tat, .int wr, .int dp, .ref rC, .ref rV, .ref rD, .ref rK, .ref rT, .ref rS, .ref rU, .int lw, .int tx, .ref rL, .ref rX, .ref qR, .ref qB, .ref qP, .int qnb, .int qnp, .ref aR, .ref aB, .ref aP, .int nb, .int np, .ref aN, .ref rf, .int ho, .int br, .ref aK, .int ac, .long dw, .ref aE, .int sr, .int sf, .ref aA, .ref aH, .ref aI, .int hi])), (rC, .inl (cI, 2600, .inl fC)), (rV, .inl (cI, 2600, .inl fV)), (rK, .inl (cI, 5, .inl fK)), (rT, .inl (cI, 700, .inl fT)), (rS, .inl (cI, 700, .inl fS)), (rU, .inl (cI, 700, .inl fU)), (rL, .inl (cI, 6, .inl fL)), (rX, .inl (cI, 80, .inl fX)), (aB, .inl (cI, 24, .inl fBr)), (aP, .inl (cI, 20, .inl fPa)), (aN, .inl (cI, 97, .inl fN))] sz)) 0 0 (va_A [(h0, .inr (11, [.int th, .ref tB, .int tsz, .int tat, .int wr, .int dp, .ref rC, .ref rV, .ref rD, .ref rK, .ref rT, .ref rS, .ref rU, .int lw, .int tx, .ref rL, .ref rX, .ref qR, .ref qB, .ref qP, .int qnb, .int qnp, .ref aR, .ref aB, .ref aP, .int nb, .int np, .ref aN, .ref rf, .int ho, .int br, .ref aK, .int ac, .long dw, .ref aE, .int sr, .int sf, .ref aA, .ref aH, .ref aI, .int hi])), (rC, .inl (cI, 2600, .inl fC)), (rV, .inl (cI, 2600, .inl fV)), (rK, .inl (cI, 5, .inl fK)), (rT, .inl (cI, 700, .inl fT)), (rS, .inl (cI, 700, .inl fS)), (rU, .inl (cI, 700, .inl fU)), (rL, .inl (cI, 6, .inl fL)), (rX, .inl (cI, 80, .inl fX)), (aB, .inl (cI, 24, .inl fBr)), (aP, .inl (cI, 20, .inl fPa)), (aN, .inl (cI, 97, .inl fN))] sz) := by
  refine Met.ofW (cc := cX11_apart) (maxL := 5) (ret := (some .int)) (by decide) rfl ?_
  intro p e s m args below meth c s₁ B hml hv
  have y_ac : zHid (0 ≤ ac.toInt ∧ ac.toInt ≤ 40) := n_ac
  have y_hi : zHid (0 ≤ hi.toInt ∧ hi.toInt ≤ 1) := n_hi
  have y_ho : zHid ((-1) ≤ ho.toInt ∧ ho.toInt ≤ 3) := n_ho
  have y_lw : zHid (0 ≤ lw.toInt ∧ lw.toInt ≤ 4) := n_lw
  have y_qnb : zHid (0 ≤ qnb.toInt ∧ qnb.toInt ≤ 6) := n_qnb
  have y_qnp : zHid (0 ≤ qnp.toInt ∧ qnp.toInt ≤ 5) := n_qnp
  have y_tat : zHid (0 ≤ tat.toInt ∧ tat.toInt ≤ 260) := n_tat
  have y_tsz : zHid (0 ≤ tsz.toInt ∧ tsz.toInt ≤ 240) := n_tsz
  have y_wr : zHid ((-1) ≤ wr.toInt ∧ wr.toInt ≤ 260) := n_wr
  clear n_ac n_hi n_ho n_lw n_qnb n_qnp n_tat n_tsz n_wr
  obtain ⟨hargs, hsz, hP, hK, hT⟩ := hv
  have hx := B.exec
  have hb := B.bytes
  have hr := B.returns
  have hts : ∀ w ∈ wA, w.before args s = true := fun w h => atoms_spec (ws := .code yX11_apart cX11_apart 5 (some .int) :: wA) B.pre w (List.mem_cons_of_mem _ h)
  have hown : s.vm.findClass RX11 = some m.cls := findClass_of_methodNamed B.named
  have hlocks := B.notSynchronized
  subst hsz
  have hD := hT.self (sz := s.heap.size)
  generalize hAe : va_A [(h0, .inr (11, [.int th, .ref tB, .int tsz, .int tat, .int wr, .int dp, .ref rC, .ref rV, .ref rD, .ref rK, .ref rT, .ref rS, .ref rU, .int lw, .int tx, .ref rL, .ref rX, .ref qR, .ref qB, .ref qP, .int qnb, .int qnp, .ref aR, .ref aB, .ref aP, .int nb, .int np, .ref aN, .ref rf, .int ho, .int br, .ref aK, .int ac, .long dw, .ref aE, .int sr, .int sf, .ref aA, .ref aH, .ref aI, .int hi])), (rC, .inl (cI, 2600, .inl fC)), (rV, .inl (cI, 2600, .inl fV)), (rK, .inl (cI, 5, .inl fK)), (rT, .inl (cI, 700, .inl fT)), (rS, .inl (cI, 700, .inl fS)), (rU, .inl (cI, 700, .inl fU)), (rL, .inl (cI, 6, .inl fL)), (rX, .inl (cI, 80, .inl fX)), (aB, .inl (cI, 24, .inl fBr)), (aP, .inl (cI, 20, .inl fPa)), (aN, .inl (cI, 97, .inl fN))] s.heap.size = A at hD ⊢
  have hA : ∀ q : Nat, s.heap.size ≤ q → A q := fun q h => by rw [← hAe]; exact Or.inr h
  have hl := lv_entry ([.ref h0, .int p0]) (n := 5) (Nat.le_of_ble_eq_true rfl)
  rw [show entryFrame m args 5 = entryFrame m ([.ref h0, .int p0] : List Value).toArray 5 by rw [hargs], lg_entry_eq]
  generalize (lg_sl ([.ref h0, .int p0]) ++ List.replicate (5 - (lg_sl ([.ref h0, .int p0])).length) Slot.unset).toArray = ls at hl ⊢
  have hl : lv_has ls 5 [(0, .ref h0), (1, .int p0)] := hl
  refine zstart (fun H hH => ?_)
  rw [← hH] at hP
  have hS : va_S A s.heap H [] := by rw [hH]; exact va_S.rf
  generalize ([] : List Loc) = locs at hS ⊢
  refine zgen (fun R Q hR hQ => ?_)
  have q0 := pw2_1 (n := np.toInt.toNat)
  refine lv_iconst (v := (-1)) hx hb dX11_apart_0 (by decide) ?_
  refine lv_istore_n (lv' := [(2, .int (-1)), (0, .ref h0), (1, .int p0)]) hx hb dX11_apart_1 rfl hl (by decide) rfl (fun ls hl => ?_)
  refine lv_iconst (v := 0) hx hb dX11_apart_2 (by decide) ?_
  have J4 : ∀ (n : Nat) (m4_A_rL : Nat → Int32) (m4_A_rX : Nat → Int32) (m4_L_2 : Int32) (m4_L_3 : Int32), ((-1) ≤ m4_L_2.toInt ∧ m4_L_2.toInt ≤ 98) → (0 ≤ m4_L_3.toInt ∧ m4_L_3.toInt ≤ 98) → (∀ (kc : zK3) (kT : zT) (q_fR : Nat → Int32) (kl : Option ((Int → Int) × Int)), zCn q_fR fBr fPa nb.toInt np.toInt kc → zKo nb.toInt np.toInt kc kT → zSr nb.toInt np.toInt kT.1 fN → zLwR ho fC fV fK fT fS fU kl → m4_L_2.toInt = zBst (fun s => sRe kc np.toInt.toNat s && aAp kc kT.1 kl np.toInt.toNat p0 s) sBn m4_L_3.toInt.toNat) → (m4_L_3.toInt = 0 ∨ (0 ≤ p0.toInt ∧ p0.toInt < nb.toInt)) → (m4_L_3.toInt ≤ pw2 np.toInt.toNat) → (99 - m4_L_3.toInt).toNat = n → ∀ (H : Heap) (locs : List Loc) (ls : Array Slot), va_P (dC, dI) vwCl [(h0, .inr (11, [.int th, .ref tB, .int tsz, .int tat, .int wr, .int dp, .ref rC, .ref rV, .ref rD, .ref rK, .ref rT, .ref rS, .ref rU, .int lw, .int tx, .ref rL, .ref rX, .ref qR, .ref qB, .ref qP, .int qnb, .int qnp, .ref aR, .ref aB, .ref aP, .int nb, .int np, .ref aN, .ref rf, .int ho, .int br, .ref aK, .int ac, .long dw, .ref aE, .int sr, .int sf, .ref aA, .ref aH, .ref aI, .int hi])), (rC, .inl (cI, 2600, .inl fC)), (rV, .inl (cI, 2600, .inl fV)), (rK, .inl (cI, 5, .inl fK)), (rT, .inl (cI, 700, .inl fT)), (rS, .inl (cI, 700, .inl fS)), (rU, .inl (cI, 700, .inl fU)), (rL, .inl (cI, 6, .inl m4_A_rL)), (rX, .inl (cI, 80, .inl m4_A_rX)), (aB, .inl (cI, 24, .inl fBr)), (aP, .inl (cI, 20, .inl fPa)), (aN, .inl (cI, 97, .inl fN))] H → va_D A [(h0, .inr (11, [.int th, .ref tB, .int tsz, .int tat, .int wr, .int dp, .ref rC, .ref rV, .ref rD, .ref rK, .ref rT, .ref rS, .ref rU, .int lw, .int tx, .ref rL, .ref rX, .ref qR, .ref qB, .ref qP, .int qnb, .int qnp, .ref aR, .ref aB, .ref aP, .int nb, .int np, .ref aN, .ref rf, .int ho, .int br, .ref aK, .int ac, .long dw, .ref aE, .int sr, .int sf, .ref aA, .ref aH, .ref aI, .int hi])), (rC, .inl (cI, 2600, .inl fC)), (rV, .inl (cI, 2600, .inl fV)), (rK, .inl (cI, 5, .inl fK)), (rT, .inl (cI, 700, .inl fT)), (rS, .inl (cI, 700, .inl fS)), (rU, .inl (cI, 700, .inl fU)), (rL, .inl (cI, 6, .inl m4_A_rL)), (rX, .inl (cI, 80, .inl m4_A_rX)), (aB, .inl (cI, 24, .inl fBr)), (aP, .inl (cI, 20, .inl fPa)), (aN, .inl (cI, 97, .inl fN))] → va_S A s.heap H locs → lv_has ls 5 [(3, .int m4_L_3), (2, .int m4_L_2), (0, .ref h0), (1, .int p0)] → W p l e R s m args below meth c H locs 0 0 Q (F0 m 4 ls []) := by
    intro n4
    induction n4 using Nat.strongRecOn with
    | _ n4 ih4 =>
      intro m4_A_rL m4_A_rX m4_L_2 m4_L_3 jf4_0 jf4_1 jv4_0 jf4_3 jf4_4 hmu4 H locs ls hP hD hS hl
      refine lv_iload_n hx hb dX11_apart_4 rfl (lv_at hl 0 rfl) ?_
      refine lv_iconst (v := 1) hx hb dX11_apart_5 (by decide) ?_
      refine lv_aload_n hx hb dX11_apart_6 rfl (lv_at hl 2 rfl) ?_
      refine va_get (D := (dC, dI)) (ci := 11) (v := .int np) (C := RX11) (T := TX11) (N := 41) hx hb hts iX11 hown hK hP 0 rfl rfl 26 (by decide) (hts _ qw1153) (fun _ h9 => h9) rfl dX11_apart_7 ?_
      refine lv_ishl hx hb dX11_apart_10 ?_
      refine lv_topi (fun v10 e10 => ?_)
      have i10 : v10.toInt = pw2 np.toInt.toNat ∧ 1 ≤ v10.toInt ∧ v10.toInt ≤ 64 := zpw e10 (by omega) (by omega)
      refine lv_icmp_ge (tgt := 79) hx hb dX11_apart_11 (by decide) (fun c11 => ?_) (fun c11 => ?_)
      · have c11 : v10.toInt ≤ m4_L_3.toInt := z3 rfl rfl c11
        refine lv_iload_n hx hb dX11_apart_79 rfl (lv_at hl 1 rfl) ?_
        rw [hQ]
        exact W.iret (v := m4_L_2) hx hb hr (fun t ht hW => ⟨⟨m4_L_2, (m4_A_rL, m4_A_rX), rfl, ⟨by (try dsimp only); omega, by (try dsimp only); omega, by (try dsimp only); exact fun kc kT q_fR q_fKp q_frf kl hc hb h hL => by unfold sV_apa; have J := (jv4_0 kc kT _ kl hc hb h.1 hL); first | (rw [if_pos (by omega)]; have e : m4_L_3.toInt.toNat = 2 ^ np.toInt.toNat := (by unfold pw2 at i10 jf4_4; omega); rw [e] at J; exact J) | (rw [if_neg (by omega)]; rcases (show m4_L_3.toInt = 0 ∨ (0 ≤ p0.toInt ∧ p0.toInt < nb.toInt) by omega) with z | z; (rw [show m4_L_3.toInt.toNat = 0 by omega] at J; exact J); (exfalso; omega))⟩, ⟨by rw [ht]; exact hP, hD⟩⟩, hS.F ht⟩) hS.2.2 dX11_apart_80
      · have c11 : m4_L_3.toInt < v10.toInt := z4 rfl rfl c11
        refine lv_aload_n hx hb dX11_apart_14 rfl (lv_at hl 2 rfl) ?_
        refine lv_iload_n hx hb dX11_apart_15 rfl (lv_at hl 3 rfl) ?_
        obtain ⟨hPc, hDc⟩ := zc2 (wc := [(h0, .inr (11, [.int th, .ref tB, .int tsz, .int tat, .int wr, .int dp, .ref rC, .ref rV, .ref rD, .ref rK, .ref rT, .ref rS, .ref rU, .int lw, .int tx, .ref rL, .ref rX, .ref qR, .ref qB, .ref qP, .int qnb, .int qnp, .ref aR, .ref aB, .ref aP, .int nb, .int np, .ref aN, .ref rf, .int ho, .int br, .ref aK, .int ac, .long dw, .ref aE, .int sr, .int sf, .ref aA, .ref aH, .ref aI, .int hi]))]) hP hD [0] (by decide +kernel) rfl
        have hFc := zfr hS hA
        refine va_calli (va_runV (As := [.int p0]) (rest := []) ⟨hx, hb, hml, hown, hts⟩ (g_X11_isBride l dC dI cI cJ h0 p0 th tB tsz tat wr dp rC rV rD rK rT rS rU lw tx rL rX qR qB qP qnb qnp aR aB aP nb np aN rf ho br aK ac dw aE sr sf aA aH aI hi H.size y_ac y_hi y_ho y_lw n_nb n_np y_qnb y_qnp y_tat y_tsz y_wr) (cwV 1 hts (zgV qw1402 qw1404 qw56 qw108 qw1405) rfl rfl rfl hd_X11_isBride ⟨by rw [hR]; exact Nat.le_of_ble_eq_true rfl, by rw [hR]; exact Nat.le_of_ble_eq_true rfl⟩) (zPV hPc hK hDc (va_recv (q := (RX11, TX11, 41)) hK hP (ci := 11) (q0 := 0) rfl rfl)) rfl rfl hl.1 rfl (lv_room (Nat.le_of_ble_eq_true rfl)) dX11_apart_16 ⟨Nat.zero_le _, Nat.zero_le _⟩) hS (fun q _ h => hFc q h) hFc (fun v16 u16 t H locs ht hvm hw hB hz1 hk1 hS9 => ?_)
        replace hP := zkeep hP hk1
        replace hS := hS9
        clear hPc hDc hFc hk1 hz1 hvm hS9
        obtain ⟨f16_0, f16_1, f16_2, f16_3⟩ : (0 ≤ v16.toInt) ∧ (v16.toInt ≤ 1) ∧ (¬ v16.toInt = 0 → (0 ≤ p0.toInt ∧ p0.toInt < nb.toInt)) ∧ (v16.toInt = 0 → ¬ (0 ≤ p0.toInt ∧ p0.toInt < nb.toInt)) := hw
        refine lv_if_eq (tgt := 79) hx hb dX11_apart_19 (by decide) (fun c19 => ?_) (fun c19 => ?_)
        · have c19 : v16.toInt = 0 := z5 rfl (by decide) c19
          refine lv_iload_n hx hb dX11_apart_79 rfl (lv_at hl 1 rfl) ?_
          rw [hQ]
          exact W.iret (v := m4_L_2) hx hb hr (fun t ht hW => ⟨⟨m4_L_2, (m4_A_rL, m4_A_rX), rfl, ⟨by (try dsimp only); omega, by (try dsimp only); omega, by (try dsimp only); exact fun kc kT q_fR q_fKp q_frf kl hc hb h hL => by unfold sV_apa; have J := (jv4_0 kc kT _ kl hc hb h.1 hL); first | (rw [if_pos (by omega)]; have e : m4_L_3.toInt.toNat = 2 ^ np.toInt.toNat := (by unfold pw2 at i10 jf4_4; omega); rw [e] at J; exact J) | (rw [if_neg (by omega)]; rcases (show m4_L_3.toInt = 0 ∨ (0 ≤ p0.toInt ∧ p0.toInt < nb.toInt) by omega) with z | z; (rw [show m4_L_3.toInt.toNat = 0 by omega] at J; exact J); (exfalso; omega))⟩, ⟨by rw [ht]; exact hP, hD⟩⟩, hS.F ht⟩) hS.2.2 dX11_apart_80
        · have c19 : ¬ v16.toInt = 0 := z6 rfl (by decide) c19
          refine lv_iload_n hx hb dX11_apart_22 rfl (lv_at hl 1 rfl) ?_
          refine lv_iconst (v := (-1)) hx hb dX11_apart_23 (by decide) ?_
          refine lv_icmp_eq (tgt := 38) hx hb dX11_apart_24 (by decide) (fun c24 => ?_) (fun c24 => ?_)
          · have c24 : m4_L_2.toInt = (-1) := z5 rfl (by decide) c24
            refine lv_iconst (v := 1) hx hb dX11_apart_38 (by decide) ?_
            refine lv_goto (tgt := 43) hx hb dX11_apart_39 (by decide) ?_
            refine lv_istore (lv' := [(4, .int 1), (3, .int m4_L_3), (2, .int m4_L_2), (0, .ref h0), (1, .int p0)]) hx hb dX11_apart_43 hl (by decide) rfl (fun ls hl => ?_)
            refine lv_iload hx hb dX11_apart_45 (lv_at hl 0 rfl) ?_
            refine lv_if_eq (tgt := 71) hx hb dX11_apart_47 (by decide) (fun c => absurd c (by decide)) (fun _ => ?_)
            refine lv_aload_n hx hb dX11_apart_50 rfl (lv_at hl 3 rfl) ?_
            refine lv_iload_n hx hb dX11_apart_51 rfl (lv_at hl 1 rfl) ?_
            obtain ⟨hPc, hDc⟩ := zc2 (wc := [(h0, .inr (11, [.int th, .ref tB, .int tsz, .int tat, .int wr, .int dp, .ref rC, .ref rV, .ref rD, .ref rK, .ref rT, .ref rS, .ref rU, .int lw, .int tx, .ref rL, .ref rX, .ref qR, .ref qB, .ref qP, .int qnb, .int qnp, .ref aR, .ref aB, .ref aP, .int nb, .int np, .ref aN, .ref rf, .int ho, .int br, .ref aK, .int ac, .long dw, .ref aE, .int sr, .int sf, .ref aA, .ref aH, .ref aI, .int hi])), (aP, .inl (cI, 20, .inl fPa))]) hP hD [0, 10] (by decide +kernel) rfl
            have hFc := zfr hS hA
            refine va_calli (va_runV (As := [.int m4_L_3]) (rest := []) ⟨hx, hb, hml, hown, hts⟩ (g_X11_areReal l dC dI cI cJ h0 m4_L_3 th tB tsz tat wr dp rC rV rD rK rT rS rU lw tx rL rX qR qB qP qnb qnp aR aB aP nb np aN rf ho br aK ac dw aE sr sf aA aH aI hi fPa H.size y_ac y_hi y_ho y_lw n_nb n_np y_qnb y_qnp y_tat y_tsz y_wr ci_fPa_zBr_np) (cwV 1 hts (zgV qw1622 qw1624 qw82 qw108 qw1625) rfl rfl rfl hd_X11_areReal ⟨by rw [hR]; exact Nat.le_of_ble_eq_true rfl, by rw [hR]; exact Nat.le_of_ble_eq_true rfl⟩) (zPV hPc hK hDc (va_recv (q := (RX11, TX11, 41)) hK hP (ci := 11) (q0 := 0) rfl rfl)) rfl rfl hl.1 rfl (lv_room (Nat.le_of_ble_eq_true rfl)) dX11_apart_52 ⟨Nat.zero_le _, Nat.zero_le _⟩) hS (fun q _ h => hFc q h) hFc (fun v52 u52 t H locs ht hvm hw hB hz1 hk1 hS9 => ?_)
            replace hP := zkeep hP hk1
            replace hS := hS9
            clear hPc hDc hFc hk1 hz1 hvm hS9
            obtain ⟨f52_0, f52_1, f52_2⟩ : (0 ≤ v52.toInt) ∧ (v52.toInt ≤ 1) ∧ (∀ kc : zK3, (∀ j : Nat, (j : Int) < 4 * np.toInt → fPa j = kc.2.2 j) → 0 ≤ m4_L_3.toInt → (v52.toInt = 1 ∧ sRe kc np.toInt.toNat m4_L_3.toInt.toNat = true) ∨ (v52.toInt = 0 ∧ sRe kc np.toInt.toNat m4_L_3.toInt.toNat = false)) := hw
            have F52 := f52_2
            refine lv_if_eq (tgt := 71) hx hb dX11_apart_55 (by decide) (fun c55 => ?_) (fun c55 => ?_)
            · have c55 : v52.toInt = 0 := z5 rfl (by decide) c55
              refine lv_iload_n hx hb dX11_apart_71 rfl (lv_at hl 2 rfl) ?_
              refine lv_istore_n (lv' := [(2, .int m4_L_2), (4, .int 1), (3, .int m4_L_3), (0, .ref h0), (1, .int p0)]) hx hb dX11_apart_72 rfl hl (by decide) rfl (fun ls hl => ?_)
              obtain ⟨v73, e73⟩ : ∃ y : Int32, y = m4_L_3 + Int32.ofInt (1) := ⟨_, rfl⟩
              refine lv_iinc (v := v73) (lv' := [(3, .int v73), (2, .int m4_L_2), (4, .int 1), (0, .ref h0), (1, .int p0)]) hx hb dX11_apart_73 hl (k := 2) rfl e73.symm (by decide) rfl (fun ls hl => ?_)
              have i73 : v73.toInt = m4_L_3.toInt + 1 := zaddI e73 (by decide) (by omega) (by omega)
              refine lv_goto (tgt := 4) hx hb dX11_apart_76 (by decide) ?_
              exact ih4 _ (by omega) m4_A_rL m4_A_rX m4_L_2 v73 jf4_0 (by omega) (fun kc kT q_fR kl hc hb h hL => by first | (first | (have g52 := F52 kc hc.2.2 (by omega); have g61 := F61 kc kT _ kl hc hb h hL (by omega); rcases g52 with g | g; rotate_left; (exfalso; omega); rcases g61 with k | k; rotate_left; (exfalso; omega); exact zBstY (P := (fun s => sRe kc np.toInt.toNat s && aAp kc kT.1 kl np.toInt.toNat p0 s)) (jv4_0 kc kT _ kl hc hb h hL) (by omega) i73 (Or.inl (by omega)) (by show (_ && _) = true; rw [g.2, k.2]; rfl)) | (have g52 := F52 kc hc.2.2 (by omega); have g61 := F61 kc kT _ kl hc hb h hL (by omega); rcases g61 with k | k; (exfalso; omega); exact zBstN (P := (fun s => sRe kc np.toInt.toNat s && aAp kc kT.1 kl np.toInt.toNat p0 s)) (jv4_0 kc kT _ kl hc hb h hL) (by omega) i73 (Or.inr (by show (_ && _) = false; rw [k.2, Bool.and_false]))) | (have g52 := F52 kc hc.2.2 (by omega); rcases g52 with g | g; (exfalso; omega); exact zBstN (P := (fun s => sRe kc np.toInt.toNat s && aAp kc kT.1 kl np.toInt.toNat p0 s)) (jv4_0 kc kT _ kl hc hb h hL) (by omega) i73 (Or.inr (by show (_ && _) = false; rw [g.2, Bool.false_and])))) | (have b28 := sBn_e F28 (by omega); have b32 := sBn_e F32 (by omega); (first | (have g52 := F52 kc hc.2.2 (by omega); have g61 := F61 kc kT _ kl hc hb h hL (by omega); rcases g52 with g | g; rotate_left; (exfalso; omega); rcases g61 with k | k; rotate_left; (exfalso; omega); exact zBstY (P := (fun s => sRe kc np.toInt.toNat s && aAp kc kT.1 kl np.toInt.toNat p0 s)) (jv4_0 kc kT _ kl hc hb h hL) (by omega) i73 (Or.inr (by omega)) (by show (_ && _) = true; rw [g.2, k.2]; rfl)) | (have g52 := F52 kc hc.2.2 (by omega); have g61 := F61 kc kT _ kl hc hb h hL (by omega); rcases g61 with k | k; (exfalso; omega); exact zBstN (P := (fun s => sRe kc np.toInt.toNat s && aAp kc kT.1 kl np.toInt.toNat p0 s)) (jv4_0 kc kT _ kl hc hb h hL) (by omega) i73 (Or.inr (by show (_ && _) = false; rw [k.2, Bool.and_false]))) | (have g52 := F52 kc hc.2.2 (by omega); rcases g52 with g | g; (exfalso; omega); exact zBstN (P := (fun s => sRe kc np.toInt.toNat s && aAp kc kT.1 kl np.toInt.toNat p0 s)) (jv4_0 kc kT _ kl hc hb h hL) (by omega) i73 (Or.inr (by show (_ && _) = false; rw [g.2, Bool.false_and]))))) | (have b28 := sBn_e F28 (by omega); have b32 := sBn_e F32 (by omega); exact zBstN (P := (fun s => sRe kc np.toInt.toNat s && aAp kc kT.1 kl np.toInt.toNat p0 s)) (jv4_0 kc kT _ kl hc hb h hL) (by omega) i73 (Or.inl (by omega)))) (by omega) (by omega) rfl H locs ls hP hD hS (lv_sub hl [0, 1, 3, 4] rfl)
            · have c55 : ¬ v52.toInt = 0 := z6 rfl (by decide) c55
              refine lv_aload_n hx hb dX11_apart_58 rfl (lv_at hl 3 rfl) ?_
              refine lv_iload_n hx hb dX11_apart_59 rfl (lv_at hl 1 rfl) ?_
              refine lv_iload_n hx hb dX11_apart_60 rfl (lv_at hl 4 rfl) ?_
              obtain ⟨hPc, hDc, hFc⟩ := zc3 (wc := [(h0, .inr (11, [.int th, .ref tB, .int tsz, .int tat, .int wr, .int dp, .ref rC, .ref rV, .ref rD, .ref rK, .ref rT, .ref rS, .ref rU, .int lw, .int tx, .ref rL, .ref rX, .ref qR, .ref qB, .ref qP, .int qnb, .int qnp, .ref aR, .ref aB, .ref aP, .int nb, .int np, .ref aN, .ref rf, .int ho, .int br, .ref aK, .int ac, .long dw, .ref aE, .int sr, .int sf, .ref aA, .ref aH, .ref aI, .int hi])), (rC, .inl (cI, 2600, .inl fC)), (rV, .inl (cI, 2600, .inl fV)), (rK, .inl (cI, 5, .inl fK)), (rT, .inl (cI, 700, .inl fT)), (rS, .inl (cI, 700, .inl fS)), (rU, .inl (cI, 700, .inl fU)), (rL, .inl (cI, 6, .inl m4_A_rL)), (rX, .inl (cI, 80, .inl m4_A_rX)), (aB, .inl (cI, 24, .inl fBr)), (aP, .inl (cI, 20, .inl fPa)), (aN, .inl (cI, 97, .inl fN))]) hP hD hS hA [0, 1, 2, 3, 4, 5, 6, 7, 8, 9, 10, 11] (by decide +kernel) rfl
              refine va_calli (va_runV (As := [.int m4_L_3, .int p0]) (rest := []) ⟨hx, hb, hml, hown, hts⟩ (g_X11_isApart l dC dI cI cJ h0 m4_L_3 p0 th tB tsz tat wr dp rC rV rD rK rT rS rU lw tx rL rX qR qB qP qnb qnp aR aB aP nb np aN rf ho br aK ac dw aE sr sf aA aH aI hi fC fV fK fT fS fU m4_A_rL m4_A_rX fBr fPa fN H.size y_ac y_hi y_ho y_lw n_nb n_np (by omega) y_qnb y_qnp y_tat y_tsz y_wr (hls) (by omega) ci_fBr_zBr_nb ci_fN_zNw_np ci_fPa_zBr_np) (cwV 2 hts (zgV qw1626 qw1628 qw83 qw108 qw1629) rfl rfl rfl hd_X11_isApart ⟨by rw [hR]; exact Nat.le_of_ble_eq_true rfl, by rw [hR]; exact Nat.le_of_ble_eq_true rfl⟩) (zPV hPc hK hDc (va_recv (q := (RX11, TX11, 41)) hK hP (ci := 11) (q0 := 0) rfl rfl)) rfl rfl hl.1 rfl (lv_room (Nat.le_of_ble_eq_true rfl)) dX11_apart_61 ⟨Nat.zero_le _, Nat.zero_le _⟩) hS (fun q _ h => hFc q h) hFc (fun v61 u61 t H locs ht hvm hw hB hz1 hk1 hS9 => ?_)
              obtain ⟨u61_0, u61_1⟩ := u61
              obtain ⟨hP9, hD9⟩ := zj2 (wX := [(h0, .inr (11, [.int th, .ref tB, .int tsz, .int tat, .int wr, .int dp, .ref rC, .ref rV, .ref rD, .ref rK, .ref rT, .ref rS, .ref rU, .int lw, .int tx, .ref rL, .ref rX, .ref qR, .ref qB, .ref qP, .int qnb, .int qnp, .ref aR, .ref aB, .ref aP, .int nb, .int np, .ref aN, .ref rf, .int ho, .int br, .ref aK, .int ac, .long dw, .ref aE, .int sr, .int sf, .ref aA, .ref aH, .ref aI, .int hi])), (rC, .inl (cI, 2600, .inl fC)), (rV, .inl (cI, 2600, .inl fV)), (rK, .inl (cI, 5, .inl fK)), (rT, .inl (cI, 700, .inl fT)), (rS, .inl (cI, 700, .inl fS)), (rU, .inl (cI, 700, .inl fU)), (rL, .inl (cI, 6, .inl u61_0)), (rX, .inl (cI, 80, .inl u61_1)), (aB, .inl (cI, 24, .inl fBr)), (aP, .inl (cI, 20, .inl fPa)), (aN, .inl (cI, 97, .inl fN))]) hP hD hk1 hFc ht hB [0, 1, 2, 3, 4, 5, 6, 7, 8, 9, 10, 11] [(true, 0), (true, 1), (true, 2), (true, 3), (true, 4), (true, 5), (true, 6), (true, 7), (true, 8), (true, 9), (true, 10), (true, 11)] rfl (by decide +kernel) (by decide +kernel) rfl
              clear hP hD hS hPc hDc hFc hB hk1 hz1 hvm
              have hP := hP9
              have hD := hD9
              have hS := hS9
              clear hP9 hD9 hS9
              obtain ⟨f61_0, f61_1, f61_2⟩ : (0 ≤ v61.toInt) ∧ (v61.toInt ≤ 1) ∧ (∀ (kc : zK3) (kT : zT) (q_fR : Nat → Int32) (kl : Option ((Int → Int) × Int)), zCn q_fR fBr fPa nb.toInt np.toInt kc → zKo nb.toInt np.toInt kc kT → zSr nb.toInt np.toInt kT.1 fN → zLwR ho fC fV fK fT fS fU kl → 0 ≤ m4_L_3.toInt → (v61.toInt = 1 ∧ aAp kc kT.1 kl np.toInt.toNat p0 m4_L_3.toInt.toNat = true) ∨ (v61.toInt = 0 ∧ aAp kc kT.1 kl np.toInt.toNat p0 m4_L_3.toInt.toNat = false)) := hw
              have F61 := f61_2
              refine lv_if_eq (tgt := 71) hx hb dX11_apart_64 (by decide) (fun c64 => ?_) (fun c64 => ?_)
              · have c64 : v61.toInt = 0 := z5 rfl (by decide) c64
                refine lv_iload_n hx hb dX11_apart_71 rfl (lv_at hl 2 rfl) ?_
                refine lv_istore_n (lv' := [(2, .int m4_L_2), (4, .int 1), (3, .int m4_L_3), (0, .ref h0), (1, .int p0)]) hx hb dX11_apart_72 rfl hl (by decide) rfl (fun ls hl => ?_)
                obtain ⟨v73, e73⟩ : ∃ y : Int32, y = m4_L_3 + Int32.ofInt (1) := ⟨_, rfl⟩
                refine lv_iinc (v := v73) (lv' := [(3, .int v73), (2, .int m4_L_2), (4, .int 1), (0, .ref h0), (1, .int p0)]) hx hb dX11_apart_73 hl (k := 2) rfl e73.symm (by decide) rfl (fun ls hl => ?_)
                have i73 : v73.toInt = m4_L_3.toInt + 1 := zaddI e73 (by decide) (by omega) (by omega)
                refine lv_goto (tgt := 4) hx hb dX11_apart_76 (by decide) ?_
                exact ih4 _ (by omega) u61_0 u61_1 m4_L_2 v73 jf4_0 (by omega) (fun kc kT q_fR kl hc hb h hL => by first | (first | (have g52 := F52 kc hc.2.2 (by omega); have g61 := F61 kc kT _ kl hc hb h hL (by omega); rcases g52 with g | g; rotate_left; (exfalso; omega); rcases g61 with k | k; rotate_left; (exfalso; omega); exact zBstY (P := (fun s => sRe kc np.toInt.toNat s && aAp kc kT.1 kl np.toInt.toNat p0 s)) (jv4_0 kc kT _ kl hc hb h hL) (by omega) i73 (Or.inl (by omega)) (by show (_ && _) = true; rw [g.2, k.2]; rfl)) | (have g52 := F52 kc hc.2.2 (by omega); have g61 := F61 kc kT _ kl hc hb h hL (by omega); rcases g61 with k | k; (exfalso; omega); exact zBstN (P := (fun s => sRe kc np.toInt.toNat s && aAp kc kT.1 kl np.toInt.toNat p0 s)) (jv4_0 kc kT _ kl hc hb h hL) (by omega) i73 (Or.inr (by show (_ && _) = false; rw [k.2, Bool.and_false]))) | (have g52 := F52 kc hc.2.2 (by omega); rcases g52 with g | g; (exfalso; omega); exact zBstN (P := (fun s => sRe kc np.toInt.toNat s && aAp kc kT.1 kl np.toInt.toNat p0 s)) (jv4_0 kc kT _ kl hc hb h hL) (by omega) i73 (Or.inr (by show (_ && _) = false; rw [g.2, Bool.false_and])))) | (have b28 := sBn_e F28 (by omega); have b32 := sBn_e F32 (by omega); (first | (have g52 := F52 kc hc.2.2 (by omega); have g61 := F61 kc kT _ kl hc hb h hL (by omega); rcases g52 with g | g; rotate_left; (exfalso; omega); rcases g61 with k | k; rotate_left; (exfalso; omega); exact zBstY (P := (fun s => sRe kc np.toInt.toNat s && aAp kc kT.1 kl np.toInt.toNat p0 s)) (jv4_0 kc kT _ kl hc hb h hL) (by omega) i73 (Or.inr (by omega)) (by show (_ && _) = true; rw [g.2, k.2]; rfl)) | (have g52 := F52 kc hc.2.2 (by omega); have g61 := F61 kc kT _ kl hc hb h hL (by omega); rcases g61 with k | k; (exfalso; omega); exact zBstN (P := (fun s => sRe kc np.toInt.toNat s && aAp kc kT.1 kl np.toInt.toNat p0 s)) (jv4_0 kc kT _ kl hc hb h hL) (by omega) i73 (Or.inr (by show (_ && _) = false; rw [k.2, Bool.and_false]))) | (have g52 := F52 kc hc.2.2 (by omega); rcases g52 with g | g; (exfalso; omega); exact zBstN (P := (fun s => sRe kc np.toInt.toNat s && aAp kc kT.1 kl np.toInt.toNat p0 s)) (jv4_0 kc kT _ kl hc hb h hL) (by omega) i73 (Or.inr (by show (_ && _) = false; rw [g.2, Bool.false_and]))))) | (have b28 := sBn_e F28 (by omega); have b32 := sBn_e F32 (by omega); exact zBstN (P := (fun s => sRe kc np.toInt.toNat s && aAp kc kT.1 kl np.toInt.toNat p0 s)) (jv4_0 kc kT _ kl hc hb h hL) (by omega) i73 (Or.inl (by omega)))) (by omega) (by omega) rfl H locs ls hP hD hS (lv_sub hl [0, 1, 3, 4] rfl)
              · have c64 : ¬ v61.toInt = 0 := z6 rfl (by decide) c64
                refine lv_iload_n hx hb dX11_apart_67 rfl (lv_at hl 1 rfl) ?_
                refine lv_goto (tgt := 72) hx hb dX11_apart_68 (by decide) ?_
                refine lv_istore_n (lv' := [(2, .int m4_L_3), (4, .int 1), (3, .int m4_L_3), (0, .ref h0), (1, .int p0)]) hx hb dX11_apart_72 rfl hl (by decide) rfl (fun ls hl => ?_)
                obtain ⟨v73, e73⟩ : ∃ y : Int32, y = m4_L_3 + Int32.ofInt (1) := ⟨_, rfl⟩
                refine lv_iinc (v := v73) (lv' := [(3, .int v73), (2, .int m4_L_3), (4, .int 1), (0, .ref h0), (1, .int p0)]) hx hb dX11_apart_73 hl (k := 2) rfl e73.symm (by decide) rfl (fun ls hl => ?_)
                have i73 : v73.toInt = m4_L_3.toInt + 1 := zaddI e73 (by decide) (by omega) (by omega)
                refine lv_goto (tgt := 4) hx hb dX11_apart_76 (by decide) ?_
                exact ih4 _ (by omega) u61_0 u61_1 m4_L_3 v73 (by omega) (by omega) (fun kc kT q_fR kl hc hb h hL => by first | (first | (have g52 := F52 kc hc.2.2 (by omega); have g61 := F61 kc kT _ kl hc hb h hL (by omega); rcases g52 with g | g; rotate_left; (exfalso; omega); rcases g61 with k | k; rotate_left; (exfalso; omega); exact zBstY (P := (fun s => sRe kc np.toInt.toNat s && aAp kc kT.1 kl np.toInt.toNat p0 s)) (jv4_0 kc kT _ kl hc hb h hL) (by omega) i73 (Or.inl (by omega)) (by show (_ && _) = true; rw [g.2, k.2]; rfl)) | (have g52 := F52 kc hc.2.2 (by omega); have g61 := F61 kc kT _ kl hc hb h hL (by omega); rcases g61 with k | k; (exfalso; omega); exact zBstN (P := (fun s => sRe kc np.toInt.toNat s && aAp kc kT.1 kl np.toInt.toNat p0 s)) (jv4_0 kc kT _ kl hc hb h hL) (by omega) i73 (Or.inr (by show (_ && _) = false; rw [k.2, Bool.and_false]))) | (have g52 := F52 kc hc.2.2 (by omega); rcases g52 with g | g; (exfalso; omega); exact zBstN (P := (fun s => sRe kc np.toInt.toNat s && aAp kc kT.1 kl np.toInt.toNat p0 s)) (jv4_0 kc kT _ kl hc hb h hL) (by omega) i73 (Or.inr (by show (_ && _) = false; rw [g.2, Bool.false_and])))) | (have b28 := sBn_e F28 (by omega); have b32 := sBn_e F32 (by omega); (first | (have g52 := F52 kc hc.2.2 (by omega); have g61 := F61 kc kT _ kl hc hb h hL (by omega); rcases g52 with g | g; rotate_left; (exfalso; omega); rcases g61 with k | k; rotate_left; (exfalso; omega); exact zBstY (P := (fun s => sRe kc np.toInt.toNat s && aAp kc kT.1 kl np.toInt.toNat p0 s)) (jv4_0 kc kT _ kl hc hb h hL) (by omega) i73 (Or.inr (by omega)) (by show (_ && _) = true; rw [g.2, k.2]; rfl)) | (have g52 := F52 kc hc.2.2 (by omega); have g61 := F61 kc kT _ kl hc hb h hL (by omega); rcases g61 with k | k; (exfalso; omega); exact zBstN (P := (fun s => sRe kc np.toInt.toNat s && aAp kc kT.1 kl np.toInt.toNat p0 s)) (jv4_0 kc kT _ kl hc hb h hL) (by omega) i73 (Or.inr (by show (_ && _) = false; rw [k.2, Bool.and_false]))) | (have g52 := F52 kc hc.2.2 (by omega); rcases g52 with g | g; (exfalso; omega); exact zBstN (P := (fun s => sRe kc np.toInt.toNat s && aAp kc kT.1 kl np.toInt.toNat p0 s)) (jv4_0 kc kT _ kl hc hb h hL) (by omega) i73 (Or.inr (by show (_ && _) = false; rw [g.2, Bool.false_and]))))) | (have b28 := sBn_e F28 (by omega); have b32 := sBn_e F32 (by omega); exact zBstN (P := (fun s => sRe kc np.toInt.toNat s && aAp kc kT.1 kl np.toInt.toNat p0 s)) (jv4_0 kc kT _ kl hc hb h hL) (by omega) i73 (Or.inl (by omega)))) (by omega) (by omega) rfl H locs ls hP hD hS (lv_sub hl [0, 1, 3, 4] rfl)
          · have c24 : ¬ m4_L_2.toInt = (-1) := z6 rfl (by decide) c24
            refine lv_iload_n hx hb dX11_apart_27 rfl (lv_at hl 0 rfl) ?_
            have hPc : va_P (dC, dI) vwCl [] H := zP0
            have hDc : va_D (fun _ => True) [] := zD0
            have hFc := zfr hS hA
            refine va_calli (va_runS (As := [.int m4_L_3]) (rest := []) ⟨hx, hb, hml, hown, hts⟩ (g_J6_bitCount_0f7a4 l dC dI cI cJ m4_L_3 H.size) (va_cwS 1 hts (zgSW qw1621 qw893 qw117 qw894) rfl rfl rfl (hd_J6_bitCount_0f7a4).2 ⟨by rw [hR]; exact Nat.le_of_ble_eq_true rfl, by rw [hR]; exact Nat.le_of_ble_eq_true rfl⟩) (zPS hPc hK hDc) rfl rfl hl.1 rfl (lv_room (Nat.le_of_ble_eq_true rfl)) dX11_apart_28 ⟨Nat.zero_le _, Nat.zero_le _⟩) hS (fun q _ h => hFc q h) hFc (fun v28 u28 t H locs ht hvm hw hB hz1 hk1 hS9 => ?_)
            replace hP := zkeep hP hk1
            replace hS := hS9
            clear hPc hDc hFc hk1 hz1 hvm hS9
            obtain ⟨f28_0, f28_1, f28_2⟩ : (0 ≤ v28.toInt) ∧ (v28.toInt ≤ 63) ∧ (v28 = sBc m4_L_3) := hw
            have F28 := f28_2
            refine lv_iload_n hx hb dX11_apart_31 rfl (lv_at hl 1 rfl) ?_
            have hPc : va_P (dC, dI) vwCl [] H := zP0
            have hDc : va_D (fun _ => True) [] := zD0
            have hFc := zfr hS hA
            refine va_calli (va_runS (As := [.int m4_L_2]) (rest := [.int v28]) ⟨hx, hb, hml, hown, hts⟩ (g_J6_bitCount_0f7a4 l dC dI cI cJ m4_L_2 H.size) (va_cwS 1 hts (zgSW qw1621 qw893 qw117 qw894) rfl rfl rfl (hd_J6_bitCount_0f7a4).2 ⟨by rw [hR]; exact Nat.le_of_ble_eq_true rfl, by rw [hR]; exact Nat.le_of_ble_eq_true rfl⟩) (zPS hPc hK hDc) rfl rfl hl.1 rfl (lv_room (Nat.le_of_ble_eq_true rfl)) dX11_apart_32 ⟨Nat.zero_le _, Nat.zero_le _⟩) hS (fun q _ h => hFc q h) hFc (fun v32 u32 t H locs ht hvm hw hB hz1 hk1 hS9 => ?_)
            replace hP := zkeep hP hk1
            replace hS := hS9
            clear hPc hDc hFc hk1 hz1 hvm hS9
            obtain ⟨f32_0, f32_1, f32_2⟩ : (0 ≤ v32.toInt) ∧ (v32.toInt ≤ 63) ∧ (v32 = sBc m4_L_2) := hw
            have F32 := f32_2
            refine lv_icmp_ge (tgt := 42) hx hb dX11_apart_35 (by decide) (fun c35 => ?_) (fun c35 => ?_)
            · have c35 : v32.toInt ≤ v28.toInt := z3 rfl rfl c35
              refine lv_iconst (v := 0) hx hb dX11_apart_42 (by decide) ?_
              refine lv_istore (lv' := [(4, .int 0), (3, .int m4_L_3), (2, .int m4_L_2), (0, .ref h0), (1, .int p0)]) hx hb dX11_apart_43 hl (by decide) rfl (fun ls hl => ?_)
              refine lv_iload hx hb dX11_apart_45 (lv_at hl 0 rfl) ?_
              refine lv_if_eq (tgt := 71) hx hb dX11_apart_47 (by decide) (fun _ => ?_) (fun c => absurd (by decide) c)
              refine lv_iload_n hx hb dX11_apart_71 rfl (lv_at hl 2 rfl) ?_
              refine lv_istore_n (lv' := [(2, .int m4_L_2), (4, .int 0), (3, .int m4_L_3), (0, .ref h0), (1, .int p0)]) hx hb dX11_apart_72 rfl hl (by decide) rfl (fun ls hl => ?_)
              obtain ⟨v73, e73⟩ : ∃ y : Int32, y = m4_L_3 + Int32.ofInt (1) := ⟨_, rfl⟩
              refine lv_iinc (v := v73) (lv' := [(3, .int v73), (2, .int m4_L_2), (4, .int 0), (0, .ref h0), (1, .int p0)]) hx hb dX11_apart_73 hl (k := 2) rfl e73.symm (by decide) rfl (fun ls hl => ?_)
              have i73 : v73.toInt = m4_L_3.toInt + 1 := zaddI e73 (by decide) (by omega) (by omega)
              refine lv_goto (tgt := 4) hx hb dX11_apart_76 (by decide) ?_
              exact ih4 _ (by omega) m4_A_rL m4_A_rX m4_L_2 v73 jf4_0 (by omega) (fun kc kT q_fR kl hc hb h hL => by first | (first | (have g52 := F52 kc hc.2.2 (by omega); have g61 := F61 kc kT _ kl hc hb h hL (by omega); rcases g52 with g | g; rotate_left; (exfalso; omega); rcases g61 with k | k; rotate_left; (exfalso; omega); exact zBstY (P := (fun s => sRe kc np.toInt.toNat s && aAp kc kT.1 kl np.toInt.toNat p0 s)) (jv4_0 kc kT _ kl hc hb h hL) (by omega) i73 (Or.inl (by omega)) (by show (_ && _) = true; rw [g.2, k.2]; rfl)) | (have g52 := F52 kc hc.2.2 (by omega); have g61 := F61 kc kT _ kl hc hb h hL (by omega); rcases g61 with k | k; (exfalso; omega); exact zBstN (P := (fun s => sRe kc np.toInt.toNat s && aAp kc kT.1 kl np.toInt.toNat p0 s)) (jv4_0 kc kT _ kl hc hb h hL) (by omega) i73 (Or.inr (by show (_ && _) = false; rw [k.2, Bool.and_false]))) | (have g52 := F52 kc hc.2.2 (by omega); rcases g52 with g | g; (exfalso; omega); exact zBstN (P := (fun s => sRe kc np.toInt.toNat s && aAp kc kT.1 kl np.toInt.toNat p0 s)) (jv4_0 kc kT _ kl hc hb h hL) (by omega) i73 (Or.inr (by show (_ && _) = false; rw [g.2, Bool.false_and])))) | (have b28 := sBn_e F28 (by omega); have b32 := sBn_e F32 (by omega); (first | (have g52 := F52 kc hc.2.2 (by omega); have g61 := F61 kc kT _ kl hc hb h hL (by omega); rcases g52 with g | g; rotate_left; (exfalso; omega); rcases g61 with k | k; rotate_left; (exfalso; omega); exact zBstY (P := (fun s => sRe kc np.toInt.toNat s && aAp kc kT.1 kl np.toInt.toNat p0 s)) (jv4_0 kc kT _ kl hc hb h hL) (by omega) i73 (Or.inr (by omega)) (by show (_ && _) = true; rw [g.2, k.2]; rfl)) | (have g52 := F52 kc hc.2.2 (by omega); have g61 := F61 kc kT _ kl hc hb h hL (by omega); rcases g61 with k | k; (exfalso; omega); exact zBstN (P := (fun s => sRe kc np.toInt.toNat s && aAp kc kT.1 kl np.toInt.toNat p0 s)) (jv4_0 kc kT _ kl hc hb h hL) (by omega) i73 (Or.inr (by show (_ && _) = false; rw [k.2, Bool.and_false]))) | (have g52 := F52 kc hc.2.2 (by omega); rcases g52 with g | g; (exfalso; omega); exact zBstN (P := (fun s => sRe kc np.toInt.toNat s && aAp kc kT.1 kl np.toInt.toNat p0 s)) (jv4_0 kc kT _ kl hc hb h hL) (by omega) i73 (Or.inr (by show (_ && _) = false; rw [g.2, Bool.false_and]))))) | (have b28 := sBn_e F28 (by omega); have b32 := sBn_e F32 (by omega); exact zBstN (P := (fun s => sRe kc np.toInt.toNat s && aAp kc kT.1 kl np.toInt.toNat p0 s)) (jv4_0 kc kT _ kl hc hb h hL) (by omega) i73 (Or.inl (by omega)))) (by omega) (by omega) rfl H locs ls hP hD hS (lv_sub hl [0, 1, 3, 4] rfl)
            · have c35 : v28.toInt < v32.toInt := z4 rfl rfl c35
              refine lv_iconst (v := 1) hx hb dX11_apart_38 (by decide) ?_
              refine lv_goto (tgt := 43) hx hb dX11_apart_39 (by decide) ?_
              refine lv_istore (lv' := [(4, .int 1), (3, .int m4_L_3), (2, .int m4_L_2), (0, .ref h0), (1, .int p0)]) hx hb dX11_apart_43 hl (by decide) rfl (fun ls hl => ?_)
              refine lv_iload hx hb dX11_apart_45 (lv_at hl 0 rfl) ?_
              refine lv_if_eq (tgt := 71) hx hb dX11_apart_47 (by decide) (fun c => absurd c (by decide)) (fun _ => ?_)
              refine lv_aload_n hx hb dX11_apart_50 rfl (lv_at hl 3 rfl) ?_
              refine lv_iload_n hx hb dX11_apart_51 rfl (lv_at hl 1 rfl) ?_
              obtain ⟨hPc, hDc⟩ := zc2 (wc := [(h0, .inr (11, [.int th, .ref tB, .int tsz, .int tat, .int wr, .int dp, .ref rC, .ref rV, .ref rD, .ref rK, .ref rT, .ref rS, .ref rU, .int lw, .int tx, .ref rL, .ref rX, .ref qR, .ref qB, .ref qP, .int qnb, .int qnp, .ref aR, .ref aB, .ref aP, .int nb, .int np, .ref aN, .ref rf, .int ho, .int br, .ref aK, .int ac, .long dw, .ref aE, .int sr, .int sf, .ref aA, .ref aH, .ref aI, .int hi])), (aP, .inl (cI, 20, .inl fPa))]) hP hD [0, 10] (by decide +kernel) rfl
              have hFc := zfr hS hA
              refine va_calli (va_runV (As := [.int m4_L_3]) (rest := []) ⟨hx, hb, hml, hown, hts⟩ (g_X11_areReal l dC dI cI cJ h0 m4_L_3 th tB tsz tat wr dp rC rV rD rK rT rS rU lw tx rL rX qR qB qP qnb qnp aR aB aP nb np aN rf ho br aK ac dw aE sr sf aA aH aI hi fPa H.size y_ac y_hi y_ho y_lw n_nb n_np y_qnb y_qnp y_tat y_tsz y_wr ci_fPa_zBr_np) (cwV 1 hts (zgV qw1622 qw1624 qw82 qw108 qw1625) rfl rfl rfl hd_X11_areReal ⟨by rw [hR]; exact Nat.le_of_ble_eq_true rfl, by rw [hR]; exact Nat.le_of_ble_eq_true rfl⟩) (zPV hPc hK hDc (va_recv (q := (RX11, TX11, 41)) hK hP (ci := 11) (q0 := 0) rfl rfl)) rfl rfl hl.1 rfl (lv_room (Nat.le_of_ble_eq_true rfl)) dX11_apart_52 ⟨Nat.zero_le _, Nat.zero_le _⟩) hS (fun q _ h => hFc q h) hFc (fun v52 u52 t H locs ht hvm hw hB hz1 hk1 hS9 => ?_)
              replace hP := zkeep hP hk1
              replace hS := hS9
              clear hPc hDc hFc hk1 hz1 hvm hS9
              obtain ⟨f52_0, f52_1, f52_2⟩ : (0 ≤ v52.toInt) ∧ (v52.toInt ≤ 1) ∧ (∀ kc : zK3, (∀ j : Nat, (j : Int) < 4 * np.toInt → fPa j = kc.2.2 j) → 0 ≤ m4_L_3.toInt → (v52.toInt = 1 ∧ sRe kc np.toInt.toNat m4_L_3.toInt.toNat = true) ∨ (v52.toInt = 0 ∧ sRe kc np.toInt.toNat m4_L_3.toInt.toNat = false)) := hw
              have F52 := f52_2
              refine lv_if_eq (tgt := 71) hx hb dX11_apart_55 (by decide) (fun c55 => ?_) (fun c55 => ?_)
              · have c55 : v52.toInt = 0 := z5 rfl (by decide) c55
                refine lv_iload_n hx hb dX11_apart_71 rfl (lv_at hl 2 rfl) ?_
                refine lv_istore_n (lv' := [(2, .int m4_L_2), (4, .int 1), (3, .int m4_L_3), (0, .ref h0), (1, .int p0)]) hx hb dX11_apart_72 rfl hl (by decide) rfl (fun ls hl => ?_)
                obtain ⟨v73, e73⟩ : ∃ y : Int32, y = m4_L_3 + Int32.ofInt (1) := ⟨_, rfl⟩
                refine lv_iinc (v := v73) (lv' := [(3, .int v73), (2, .int m4_L_2), (4, .int 1), (0, .ref h0), (1, .int p0)]) hx hb dX11_apart_73 hl (k := 2) rfl e73.symm (by decide) rfl (fun ls hl => ?_)
                have i73 : v73.toInt = m4_L_3.toInt + 1 := zaddI e73 (by decide) (by omega) (by omega)
                refine lv_goto (tgt := 4) hx hb dX11_apart_76 (by decide) ?_
                exact ih4 _ (by omega) m4_A_rL m4_A_rX m4_L_2 v73 jf4_0 (by omega) (fun kc kT q_fR kl hc hb h hL => by first | (first | (have g52 := F52 kc hc.2.2 (by omega); have g61 := F61 kc kT _ kl hc hb h hL (by omega); rcases g52 with g | g; rotate_left; (exfalso; omega); rcases g61 with k | k; rotate_left; (exfalso; omega); exact zBstY (P := (fun s => sRe kc np.toInt.toNat s && aAp kc kT.1 kl np.toInt.toNat p0 s)) (jv4_0 kc kT _ kl hc hb h hL) (by omega) i73 (Or.inl (by omega)) (by show (_ && _) = true; rw [g.2, k.2]; rfl)) | (have g52 := F52 kc hc.2.2 (by omega); have g61 := F61 kc kT _ kl hc hb h hL (by omega); rcases g61 with k | k; (exfalso; omega); exact zBstN (P := (fun s => sRe kc np.toInt.toNat s && aAp kc kT.1 kl np.toInt.toNat p0 s)) (jv4_0 kc kT _ kl hc hb h hL) (by omega) i73 (Or.inr (by show (_ && _) = false; rw [k.2, Bool.and_false]))) | (have g52 := F52 kc hc.2.2 (by omega); rcases g52 with g | g; (exfalso; omega); exact zBstN (P := (fun s => sRe kc np.toInt.toNat s && aAp kc kT.1 kl np.toInt.toNat p0 s)) (jv4_0 kc kT _ kl hc hb h hL) (by omega) i73 (Or.inr (by show (_ && _) = false; rw [g.2, Bool.false_and])))) | (have b28 := sBn_e F28 (by omega); have b32 := sBn_e F32 (by omega); (first | (have g52 := F52 kc hc.2.2 (by omega); have g61 := F61 kc kT _ kl hc hb h hL (by omega); rcases g52 with g | g; rotate_left; (exfalso; omega); rcases g61 with k | k; rotate_left; (exfalso; omega); exact zBstY (P := (fun s => sRe kc np.toInt.toNat s && aAp kc kT.1 kl np.toInt.toNat p0 s)) (jv4_0 kc kT _ kl hc hb h hL) (by omega) i73 (Or.inr (by omega)) (by show (_ && _) = true; rw [g.2, k.2]; rfl)) | (have g52 := F52 kc hc.2.2 (by omega); have g61 := F61 kc kT _ kl hc hb h hL (by omega); rcases g61 with k | k; (exfalso; omega); exact zBstN (P := (fun s => sRe kc np.toInt.toNat s && aAp kc kT.1 kl np.toInt.toNat p0 s)) (jv4_0 kc kT _ kl hc hb h hL) (by omega) i73 (Or.inr (by show (_ && _) = false; rw [k.2, Bool.and_false]))) | (have g52 := F52 kc hc.2.2 (by omega); rcases g52 with g | g; (exfalso; omega); exact zBstN (P := (fun s => sRe kc np.toInt.toNat s && aAp kc kT.1 kl np.toInt.toNat p0 s)) (jv4_0 kc kT _ kl hc hb h hL) (by omega) i73 (Or.inr (by show (_ && _) = false; rw [g.2, Bool.false_and]))))) | (have b28 := sBn_e F28 (by omega); have b32 := sBn_e F32 (by omega); exact zBstN (P := (fun s => sRe kc np.toInt.toNat s && aAp kc kT.1 kl np.toInt.toNat p0 s)) (jv4_0 kc kT _ kl hc hb h hL) (by omega) i73 (Or.inl (by omega)))) (by omega) (by omega) rfl H locs ls hP hD hS (lv_sub hl [0, 1, 3, 4] rfl)
              · have c55 : ¬ v52.toInt = 0 := z6 rfl (by decide) c55
                refine lv_aload_n hx hb dX11_apart_58 rfl (lv_at hl 3 rfl) ?_
                refine lv_iload_n hx hb dX11_apart_59 rfl (lv_at hl 1 rfl) ?_
                refine lv_iload_n hx hb dX11_apart_60 rfl (lv_at hl 4 rfl) ?_
                obtain ⟨hPc, hDc, hFc⟩ := zc3 (wc := [(h0, .inr (11, [.int th, .ref tB, .int tsz, .int tat, .int wr, .int dp, .ref rC, .ref rV, .ref rD, .ref rK, .ref rT, .ref rS, .ref rU, .int lw, .int tx, .ref rL, .ref rX, .ref qR, .ref qB, .ref qP, .int qnb, .int qnp, .ref aR, .ref aB, .ref aP, .int nb, .int np, .ref aN, .ref rf, .int ho, .int br, .ref aK, .int ac, .long dw, .ref aE, .int sr, .int sf, .ref aA, .ref aH, .ref aI, .int hi])), (rC, .inl (cI, 2600, .inl fC)), (rV, .inl (cI, 2600, .inl fV)), (rK, .inl (cI, 5, .inl fK)), (rT, .inl (cI, 700, .inl fT)), (rS, .inl (cI, 700, .inl fS)), (rU, .inl (cI, 700, .inl fU)), (rL, .inl (cI, 6, .inl m4_A_rL)), (rX, .inl (cI, 80, .inl m4_A_rX)), (aB, .inl (cI, 24, .inl fBr)), (aP, .inl (cI, 20, .inl fPa)), (aN, .inl (cI, 97, .inl fN))]) hP hD hS hA [0, 1, 2, 3, 4, 5, 6, 7, 8, 9, 10, 11] (by decide +kernel) rfl
                refine va_calli (va_runV (As := [.int m4_L_3, .int p0]) (rest := []) ⟨hx, hb, hml, hown, hts⟩ (g_X11_isApart l dC dI cI cJ h0 m4_L_3 p0 th tB tsz tat wr dp rC rV rD rK rT rS rU lw tx rL rX qR qB qP qnb qnp aR aB aP nb np aN rf ho br aK ac dw aE sr sf aA aH aI hi fC fV fK fT fS fU m4_A_rL m4_A_rX fBr fPa fN H.size y_ac y_hi y_ho y_lw n_nb n_np (by omega) y_qnb y_qnp y_tat y_tsz y_wr (hls) (by omega) ci_fBr_zBr_nb ci_fN_zNw_np ci_fPa_zBr_np) (cwV 2 hts (zgV qw1626 qw1628 qw83 qw108 qw1629) rfl rfl rfl hd_X11_isApart ⟨by rw [hR]; exact Nat.le_of_ble_eq_true rfl, by rw [hR]; exact Nat.le_of_ble_eq_true rfl⟩) (zPV hPc hK hDc (va_recv (q := (RX11, TX11, 41)) hK hP (ci := 11) (q0 := 0) rfl rfl)) rfl rfl hl.1 rfl (lv_room (Nat.le_of_ble_eq_true rfl)) dX11_apart_61 ⟨Nat.zero_le _, Nat.zero_le _⟩) hS (fun q _ h => hFc q h) hFc (fun v61 u61 t H locs ht hvm hw hB hz1 hk1 hS9 => ?_)
                obtain ⟨u61_0, u61_1⟩ := u61
                obtain ⟨hP9, hD9⟩ := zj2 (wX := [(h0, .inr (11, [.int th, .ref tB, .int tsz, .int tat, .int wr, .int dp, .ref rC, .ref rV, .ref rD, .ref rK, .ref rT, .ref rS, .ref rU, .int lw, .int tx, .ref rL, .ref rX, .ref qR, .ref qB, .ref qP, .int qnb, .int qnp, .ref aR, .ref aB, .ref aP, .int nb, .int np, .ref aN, .ref rf, .int ho, .int br, .ref aK, .int ac, .long dw, .ref aE, .int sr, .int sf, .ref aA, .ref aH, .ref aI, .int hi])), (rC, .inl (cI, 2600, .inl fC)), (rV, .inl (cI, 2600, .inl fV)), (rK, .inl (cI, 5, .inl fK)), (rT, .inl (cI, 700, .inl fT)), (rS, .inl (cI, 700, .inl fS)), (rU, .inl (cI, 700, .inl fU)), (rL, .inl (cI, 6, .inl u61_0)), (rX, .inl (cI, 80, .inl u61_1)), (aB, .inl (cI, 24, .inl fBr)), (aP, .inl (cI, 20, .inl fPa)), (aN, .inl (cI, 97, .inl fN))]) hP hD hk1 hFc ht hB [0, 1, 2, 3, 4, 5, 6, 7, 8, 9, 10, 11] [(true, 0), (true, 1), (true, 2), (true, 3), (true, 4), (true, 5), (true, 6), (true, 7), (true, 8), (true, 9), (true, 10), (true, 11)] rfl (by decide +kernel) (by decide +kernel) rfl
                clear hP hD hS hPc hDc hFc hB hk1 hz1 hvm
                have hP := hP9
                have hD := hD9
                have hS := hS9
                clear hP9 hD9 hS9
                obtain ⟨f61_0, f61_1, f61_2⟩ : (0 ≤ v61.toInt) ∧ (v61.toInt ≤ 1) ∧ (∀ (kc : zK3) (kT : zT) (q_fR : Nat → Int32) (kl : Option ((Int → Int) × Int)), zCn q_fR fBr fPa nb.toInt np.toInt kc → zKo nb.toInt np.toInt kc kT → zSr nb.toInt np.toInt kT.1 fN → zLwR ho fC fV fK fT fS fU kl → 0 ≤ m4_L_3.toInt → (v61.toInt = 1 ∧ aAp kc kT.1 kl np.toInt.toNat p0 m4_L_3.toInt.toNat = true) ∨ (v61.toInt = 0 ∧ aAp kc kT.1 kl np.toInt.toNat p0 m4_L_3.toInt.toNat = false)) := hw
                have F61 := f61_2
                refine lv_if_eq (tgt := 71) hx hb dX11_apart_64 (by decide) (fun c64 => ?_) (fun c64 => ?_)
                · have c64 : v61.toInt = 0 := z5 rfl (by decide) c64
                  refine lv_iload_n hx hb dX11_apart_71 rfl (lv_at hl 2 rfl) ?_
                  refine lv_istore_n (lv' := [(2, .int m4_L_2), (4, .int 1), (3, .int m4_L_3), (0, .ref h0), (1, .int p0)]) hx hb dX11_apart_72 rfl hl (by decide) rfl (fun ls hl => ?_)
                  obtain ⟨v73, e73⟩ : ∃ y : Int32, y = m4_L_3 + Int32.ofInt (1) := ⟨_, rfl⟩
                  refine lv_iinc (v := v73) (lv' := [(3, .int v73), (2, .int m4_L_2), (4, .int 1), (0, .ref h0), (1, .int p0)]) hx hb dX11_apart_73 hl (k := 2) rfl e73.symm (by decide) rfl (fun ls hl => ?_)
                  have i73 : v73.toInt = m4_L_3.toInt + 1 := zaddI e73 (by decide) (by omega) (by omega)
                  refine lv_goto (tgt := 4) hx hb dX11_apart_76 (by decide) ?_
                  exact ih4 _ (by omega) u61_0 u61_1 m4_L_2 v73 jf4_0 (by omega) (fun kc kT q_fR kl hc hb h hL => by first | (first | (have g52 := F52 kc hc.2.2 (by omega); have g61 := F61 kc kT _ kl hc hb h hL (by omega); rcases g52 with g | g; rotate_left; (exfalso; omega); rcases g61 with k | k; rotate_left; (exfalso; omega); exact zBstY (P := (fun s => sRe kc np.toInt.toNat s && aAp kc kT.1 kl np.toInt.toNat p0 s)) (jv4_0 kc kT _ kl hc hb h hL) (by omega) i73 (Or.inl (by omega)) (by show (_ && _) = true; rw [g.2, k.2]; rfl)) | (have g52 := F52 kc hc.2.2 (by omega); have g61 := F61 kc kT _ kl hc hb h hL (by omega); rcases g61 with k | k; (exfalso; omega); exact zBstN (P := (fun s => sRe kc np.toInt.toNat s && aAp kc kT.1 kl np.toInt.toNat p0 s)) (jv4_0 kc kT _ kl hc hb h hL) (by omega) i73 (Or.inr (by show (_ && _) = false; rw [k.2, Bool.and_false]))) | (have g52 := F52 kc hc.2.2 (by omega); rcases g52 with g | g; (exfalso; omega); exact zBstN (P := (fun s => sRe kc np.toInt.toNat s && aAp kc kT.1 kl np.toInt.toNat p0 s)) (jv4_0 kc kT _ kl hc hb h hL) (by omega) i73 (Or.inr (by show (_ && _) = false; rw [g.2, Bool.false_and])))) | (have b28 := sBn_e F28 (by omega); have b32 := sBn_e F32 (by omega); (first | (have g52 := F52 kc hc.2.2 (by omega); have g61 := F61 kc kT _ kl hc hb h hL (by omega); rcases g52 with g | g; rotate_left; (exfalso; omega); rcases g61 with k | k; rotate_left; (exfalso; omega); exact zBstY (P := (fun s => sRe kc np.toInt.toNat s && aAp kc kT.1 kl np.toInt.toNat p0 s)) (jv4_0 kc kT _ kl hc hb h hL) (by omega) i73 (Or.inr (by omega)) (by show (_ && _) = true; rw [g.2, k.2]; rfl)) | (have g52 := F52 kc hc.2.2 (by omega); have g61 := F61 kc kT _ kl hc hb h hL (by omega); rcases g61 with k | k; (exfalso; omega); exact zBstN (P := (fun s => sRe kc np.toInt.toNat s && aAp kc kT.1 kl np.toInt.toNat p0 s)) (jv4_0 kc kT _ kl hc hb h hL) (by omega) i73 (Or.inr (by show (_ && _) = false; rw [k.2, Bool.and_false]))) | (have g52 := F52 kc hc.2.2 (by omega); rcases g52 with g | g; (exfalso; omega); exact zBstN (P := (fun s => sRe kc np.toInt.toNat s && aAp kc kT.1 kl np.toInt.toNat p0 s)) (jv4_0 kc kT _ kl hc hb h hL) (by omega) i73 (Or.inr (by show (_ && _) = false; rw [g.2, Bool.false_and]))))) | (have b28 := sBn_e F28 (by omega); have b32 := sBn_e F32 (by omega); exact zBstN (P := (fun s => sRe kc np.toInt.toNat s && aAp kc kT.1 kl np.toInt.toNat p0 s)) (jv4_0 kc kT _ kl hc hb h hL) (by omega) i73 (Or.inl (by omega)))) (by omega) (by omega) rfl H locs ls hP hD hS (lv_sub hl [0, 1, 3, 4] rfl)
                · have c64 : ¬ v61.toInt = 0 := z6 rfl (by decide) c64
                  refine lv_iload_n hx hb dX11_apart_67 rfl (lv_at hl 1 rfl) ?_
                  refine lv_goto (tgt := 72) hx hb dX11_apart_68 (by decide) ?_
                  refine lv_istore_n (lv' := [(2, .int m4_L_3), (4, .int 1), (3, .int m4_L_3), (0, .ref h0), (1, .int p0)]) hx hb dX11_apart_72 rfl hl (by decide) rfl (fun ls hl => ?_)
                  obtain ⟨v73, e73⟩ : ∃ y : Int32, y = m4_L_3 + Int32.ofInt (1) := ⟨_, rfl⟩
                  refine lv_iinc (v := v73) (lv' := [(3, .int v73), (2, .int m4_L_3), (4, .int 1), (0, .ref h0), (1, .int p0)]) hx hb dX11_apart_73 hl (k := 2) rfl e73.symm (by decide) rfl (fun ls hl => ?_)
                  have i73 : v73.toInt = m4_L_3.toInt + 1 := zaddI e73 (by decide) (by omega) (by omega)
                  refine lv_goto (tgt := 4) hx hb dX11_apart_76 (by decide) ?_
                  exact ih4 _ (by omega) u61_0 u61_1 m4_L_3 v73 (by omega) (by omega) (fun kc kT q_fR kl hc hb h hL => by first | (first | (have g52 := F52 kc hc.2.2 (by omega); have g61 := F61 kc kT _ kl hc hb h hL (by omega); rcases g52 with g | g; rotate_left; (exfalso; omega); rcases g61 with k | k; rotate_left; (exfalso; omega); exact zBstY (P := (fun s => sRe kc np.toInt.toNat s && aAp kc kT.1 kl np.toInt.toNat p0 s)) (jv4_0 kc kT _ kl hc hb h hL) (by omega) i73 (Or.inl (by omega)) (by show (_ && _) = true; rw [g.2, k.2]; rfl)) | (have g52 := F52 kc hc.2.2 (by omega); have g61 := F61 kc kT _ kl hc hb h hL (by omega); rcases g61 with k | k; (exfalso; omega); exact zBstN (P := (fun s => sRe kc np.toInt.toNat s && aAp kc kT.1 kl np.toInt.toNat p0 s)) (jv4_0 kc kT _ kl hc hb h hL) (by omega) i73 (Or.inr (by show (_ && _) = false; rw [k.2, Bool.and_false]))) | (have g52 := F52 kc hc.2.2 (by omega); rcases g52 with g | g; (exfalso; omega); exact zBstN (P := (fun s => sRe kc np.toInt.toNat s && aAp kc kT.1 kl np.toInt.toNat p0 s)) (jv4_0 kc kT _ kl hc hb h hL) (by omega) i73 (Or.inr (by show (_ && _) = false; rw [g.2, Bool.false_and])))) | (have b28 := sBn_e F28 (by omega); have b32 := sBn_e F32 (by omega); (first | (have g52 := F52 kc hc.2.2 (by omega); have g61 := F61 kc kT _ kl hc hb h hL (by omega); rcases g52 with g | g; rotate_left; (exfalso; omega); rcases g61 with k | k; rotate_left; (exfalso; omega); exact zBstY (P := (fun s => sRe kc np.toInt.toNat s && aAp kc kT.1 kl np.toInt.toNat p0 s)) (jv4_0 kc kT _ kl hc hb h hL) (by omega) i73 (Or.inr (by omega)) (by show (_ && _) = true; rw [g.2, k.2]; rfl)) | (have g52 := F52 kc hc.2.2 (by omega); have g61 := F61 kc kT _ kl hc hb h hL (by omega); rcases g61 with k | k; (exfalso; omega); exact zBstN (P := (fun s => sRe kc np.toInt.toNat s && aAp kc kT.1 kl np.toInt.toNat p0 s)) (jv4_0 kc kT _ kl hc hb h hL) (by omega) i73 (Or.inr (by show (_ && _) = false; rw [k.2, Bool.and_false]))) | (have g52 := F52 kc hc.2.2 (by omega); rcases g52 with g | g; (exfalso; omega); exact zBstN (P := (fun s => sRe kc np.toInt.toNat s && aAp kc kT.1 kl np.toInt.toNat p0 s)) (jv4_0 kc kT _ kl hc hb h hL) (by omega) i73 (Or.inr (by show (_ && _) = false; rw [g.2, Bool.false_and]))))) | (have b28 := sBn_e F28 (by omega); have b32 := sBn_e F32 (by omega); exact zBstN (P := (fun s => sRe kc np.toInt.toNat s && aAp kc kT.1 kl np.toInt.toNat p0 s)) (jv4_0 kc kT _ kl hc hb h hL) (by omega) i73 (Or.inl (by omega)))) (by omega) (by omega) rfl H locs ls hP hD hS (lv_sub hl [0, 1, 3, 4] rfl)
  refine lv_istore_n (lv' := [(3, .int 0), (2, .int (-1)), (0, .ref h0), (1, .int p0)]) hx hb dX11_apart_3 rfl hl (by decide) rfl (fun ls hl => ?_)
  have zj4_m4_L_2 : ((-1) : Int32).toInt = (-1) := by decide
  have zj4_m4_L_3 : (0 : Int32).toInt = 0 := by decide
  exact J4 _ fL fX (-1) 0 (by decide) (by decide) (fun kc kT q_fR kl hc hb h hL => (show (-1 : Int32).toInt = (-1 : Int) from by decide)) (by omega) (by omega) rfl H locs ls hP hD hS (lv_sub hl [0, 1, 2, 3] rfl)
set_option maxHeartbeats 4000000 in
set_option maxRecDepth 100000 in
theorem g_X11_worthBy (l : Launch) (dC : Nat → ClassId) (dI : Nat → Nat → Nat) (cI cJ : ClassId) (h0 : Nat) (p0 : Int32) (p1 : Int32) (th : Int32) (tB : Nat) (tsz : Int32) (tat : Int32) (wr : Int32) (dp : Int32) (rC : Nat) (rV : Nat) (rD : Nat) (rK : Nat) (rT : Nat) (rS : Nat) (rU : Nat) (lw : Int32) (tx : Int32) (rL : Nat) (rX : Nat) (qR : Nat) (qB : Nat) (qP : Nat) (qnb : Int32) (qnp : Int32) (aR : Nat) (aB : Nat) (aP : Nat) (nb : Int32) (np : Int32) (aN : Nat) (rf : Nat) (ho : Int32) (br : Int32) (aK : Nat) (ac : Int32) (dw : Int64) (aE : Nat) (sr : Int32) (sf : Int32) (aA : Nat) (aH : Nat) (aI : Nat) (hi : Int32) (fR : Nat → Int32) (fBr : Nat → Int32) (sz : Nat) (n_ac : 0 ≤ ac.toInt ∧ ac.toInt ≤ 40) (n_hi : 0 ≤ hi.toInt ∧ hi.toInt ≤ 1) (n_ho : (-1) ≤ ho.toInt ∧ ho.toInt ≤ 3) (n_lw : 0 ≤ lw.toInt ∧ lw.toInt ≤ 4) (n_nb : 0 ≤ nb.toInt ∧ nb.toInt ≤ 6) (n_np : 0 ≤ np.toInt ∧ np.toInt ≤ 5) (n_p0 : 0 ≤ p0.toInt ∧ p0.toInt ≤ 5) (n_qnb : 0 ≤ qnb.toInt ∧ qnb.toInt ≤ 6) (n_qnp : 0 ≤ qnp.toInt ∧ qnp.toInt ≤ 5) (n_tat : 0 ≤ tat.toInt ∧ tat.toInt ≤ 260) (n_tsz : 0 ≤ tsz.toInt ∧ tsz.toInt ≤ 240) (n_wr : (-1) ≤ wr.toInt ∧ wr.toInt ≤ 260)    : Met l yX11_worthBy (.code yX11_worthBy cX11_worthBy 3 (some .int) :: wA) ({ frames := 1, cells := 0, slots := 0, locals := 22 }) (zP (dC, dI) [(cI, .int), (cJ, .long)] [.ref h0, .int p0, .int p1] sz [(h0, .inr (11, [.int th, .ref tB, .int tsz, .int tat, .int wr, .int dp, .ref rC, .ref rV, .ref rD, .ref rK, .ref rT, .ref rS, .ref rU, .int lw, .int tx, .ref rL, .ref rX, .ref qR, .ref qB, .ref qP, .int qnb, .int qnp, .ref aR, .ref aB, .ref aP, .int nb, .int np, .ref aN, .ref rf, .int ho, .int br, .ref aK, .int ac, .long dw, .ref aE, .int sr, .int sf, .ref aA, .ref aH, .ref aI, .int hi])), (aR, .inl (cI, 3, .inl fR)), (aB, .inl (cI, 24, .inl fBr))]) (va_Qi (fun (r : Int32) (u : Unit) => (r = zWo p1 (fR 1) (fBr (4 * p0.toInt.toNat + 1)) (fR 2))) (fun (_ : Unit) (_ : State) => True) (va_A [] sz)) 0 0 (va_A [] sz) := by
  refine Met.ofW (cc := cX11_worthBy) (maxL := 3) (ret := (some .int)) (by decide) rfl ?_
  intro p e s m args below meth c s₁ B hml hv
  have y_ac : zHid (0 ≤ ac.toInt ∧ ac.toInt ≤ 40) := n_ac
  have y_hi : zHid (0 ≤ hi.toInt ∧ hi.toInt ≤ 1) := n_hi
  have y_ho : zHid ((-1) ≤ ho.toInt ∧ ho.toInt ≤ 3) := n_ho
  have y_lw : zHid (0 ≤ lw.toInt ∧ lw.toInt ≤ 4) := n_lw
  have y_nb : zHid (0 ≤ nb.toInt ∧ nb.toInt ≤ 6) := n_nb
  have y_np : zHid (0 ≤ np.toInt ∧ np.toInt ≤ 5) := n_np
  have y_qnb : zHid (0 ≤ qnb.toInt ∧ qnb.toInt ≤ 6) := n_qnb
  have y_qnp : zHid (0 ≤ qnp.toInt ∧ qnp.toInt ≤ 5) := n_qnp
  have y_tat : zHid (0 ≤ tat.toInt ∧ tat.toInt ≤ 260) := n_tat
  have y_tsz : zHid (0 ≤ tsz.toInt ∧ tsz.toInt ≤ 240) := n_tsz
  have y_wr : zHid ((-1) ≤ wr.toInt ∧ wr.toInt ≤ 260) := n_wr
  clear n_ac n_hi n_ho n_lw n_nb n_np n_qnb n_qnp n_tat n_tsz n_wr
  obtain ⟨hargs, hsz, hP, hK, hT⟩ := hv
  have hx := B.exec
  have hb := B.bytes
  have hr := B.returns
  have hts : ∀ w ∈ wA, w.before args s = true := fun w h => atoms_spec (ws := .code yX11_worthBy cX11_worthBy 3 (some .int) :: wA) B.pre w (List.mem_cons_of_mem _ h)
  have hown : s.vm.findClass RX11 = some m.cls := findClass_of_methodNamed B.named
  have hlocks := B.notSynchronized
  subst hsz
  have hD : va_D (va_A [] s.heap.size) [] := zD0
  generalize hAe : va_A [] s.heap.size = A at hD ⊢
  have hA : ∀ q : Nat, s.heap.size ≤ q → A q := fun q h => by rw [← hAe]; exact Or.inr h
  have hl := lv_entry ([.ref h0, .int p0, .int p1]) (n := 3) (Nat.le_of_ble_eq_true rfl)
  rw [show entryFrame m args 3 = entryFrame m ([.ref h0, .int p0, .int p1] : List Value).toArray 3 by rw [hargs], lg_entry_eq]
  generalize (lg_sl ([.ref h0, .int p0, .int p1]) ++ List.replicate (3 - (lg_sl ([.ref h0, .int p0, .int p1])).length) Slot.unset).toArray = ls at hl ⊢
  have hl : lv_has ls 3 [(0, .ref h0), (1, .int p0), (2, .int p1)] := hl
  refine zstart (fun H hH => ?_)
  rw [← hH] at hP
  have hS : va_S A s.heap H [] := by rw [hH]; exact va_S.rf
  generalize ([] : List Loc) = locs at hS ⊢
  refine zgen (fun R Q hR hQ => ?_)
  refine lv_iload_n hx hb dX11_worthBy_0 rfl (lv_at hl 2 rfl) ?_
  refine lv_aload_n hx hb dX11_worthBy_1 rfl (lv_at hl 0 rfl) ?_
  refine va_get (D := (dC, dI)) (ci := 11) (v := .ref aR) (C := RX11) (T := TX11) (N := 41) hx hb hts iX11 hown hK hP 0 rfl rfl 22 (by decide) (hts _ qw1149) (fun _ h9 => h9) rfl dX11_worthBy_2 ?_
  refine lv_iconst (v := 1) hx hb dX11_worthBy_5 (by decide) ?_
  refine va_iald hx hb hK hP 1 0 rfl rfl (by unfold vp_in; decide) dX11_worthBy_6 ?_
  refine lv_topi (fun v6 e6 => ?_)
  refine lv_imul hx hb dX11_worthBy_7 ?_
  refine lv_topi (fun v7 e7 => ?_)
  refine lv_aload_n hx hb dX11_worthBy_8 rfl (lv_at hl 0 rfl) ?_
  refine lv_iload_n hx hb dX11_worthBy_9 rfl (lv_at hl 1 rfl) ?_
  refine lv_iconst (v := 1) hx hb dX11_worthBy_10 (by decide) ?_
  obtain ⟨hPc, hDc⟩ := zc2 (wc := [(h0, .inr (11, [.int th, .ref tB, .int tsz, .int tat, .int wr, .int dp, .ref rC, .ref rV, .ref rD, .ref rK, .ref rT, .ref rS, .ref rU, .int lw, .int tx, .ref rL, .ref rX, .ref qR, .ref qB, .ref qP, .int qnb, .int qnp, .ref aR, .ref aB, .ref aP, .int nb, .int np, .ref aN, .ref rf, .int ho, .int br, .ref aK, .int ac, .long dw, .ref aE, .int sr, .int sf, .ref aA, .ref aH, .ref aI, .int hi])), (aB, .inl (cI, 24, .inl fBr))]) hP hT [0, 2] (by decide +kernel) rfl
  have hFc := zfr hS hA
  refine va_calli (va_runV (As := [.int p0, .int 1]) (rest := [.int v7]) ⟨hx, hb, hml, hown, hts⟩ (g_X11_of l dC dI cI cJ h0 p0 1 th tB tsz tat wr dp rC rV rD rK rT rS rU lw tx rL rX qR qB qP qnb qnp aR aB aP nb np aN rf ho br aK ac dw aE sr sf aA aH aI hi fBr H.size y_ac y_hi y_ho y_lw y_nb y_np n_p0 (by decide) y_qnb y_qnp y_tat y_tsz y_wr) (cwV 2 hts (zgV qw1386 qw1388 qw54 qw108 qw1389) rfl rfl rfl hd_X11_of ⟨by rw [hR]; exact Nat.le_of_ble_eq_true rfl, by rw [hR]; exact Nat.le_of_ble_eq_true rfl⟩) (zPV hPc hK hDc (va_recv (q := (RX11, TX11, 41)) hK hP (ci := 11) (q0 := 0) rfl rfl)) rfl rfl hl.1 rfl (lv_room (Nat.le_of_ble_eq_true rfl)) dX11_worthBy_11 ⟨Nat.zero_le _, Nat.zero_le _⟩) hS (fun q _ h => hFc q h) hFc (fun v11 u11 t H locs ht hvm hw hB hz1 hk1 hS9 => ?_)
  replace hP := zkeep hP hk1
  replace hS := hS9
  clear hPc hDc hFc hk1 hz1 hvm hS9
  have zn11_1 : (1 : Int32).toInt = 1 := by decide
  have f11_0 : (v11 = fBr (4 * p0.toInt.toNat + (1 : Int32).toInt.toNat)) := hw
  have F11 := f11_0
  refine lv_bipush (v := 10) hx hb dX11_worthBy_14 (by decide) ?_
  refine lv_idiv hx hb dX11_worthBy_16 (by decide) ?_
  refine lv_topi (fun v16 e16 => ?_)
  refine lv_aload_n hx hb dX11_worthBy_17 rfl (lv_at hl 0 rfl) ?_
  refine va_get (D := (dC, dI)) (ci := 11) (v := .ref aR) (C := RX11) (T := TX11) (N := 41) hx hb hts iX11 hown hK hP 0 rfl rfl 22 (by decide) (hts _ qw1149) (fun _ h9 => h9) rfl dX11_worthBy_18 ?_
  refine lv_iconst (v := 2) hx hb dX11_worthBy_21 (by decide) ?_
  refine va_iald hx hb hK hP 1 0 rfl rfl (by unfold vp_in; decide) dX11_worthBy_22 ?_
  refine lv_topi (fun v22 e22 => ?_)
  refine lv_imul hx hb dX11_worthBy_23 ?_
  refine lv_topi (fun v23 e23 => ?_)
  refine lv_iadd hx hb dX11_worthBy_24 ?_
  refine lv_topi (fun v24 e24 => ?_)
  rw [hQ]
  exact W.iret (v := v24) hx hb hr (fun t ht hW => ⟨⟨v24, (), rfl, (by (try dsimp only); unfold zWo; rw [e24, e7, e23, e16, zIxN (n := 1) e6 (by decide), zIxN (n := 2) e22 (by decide), F11.trans (congrArg fBr (show 4 * p0.toInt.toNat + (1 : Int32).toInt.toNat = 4 * p0.toInt.toNat + 1 by have : (1 : Int32).toInt = 1 := (by decide); omega))]), trivial⟩, hS.F ht⟩) hS.2.2 dX11_worthBy_25
set_option maxHeartbeats 4000000 in
set_option maxRecDepth 100000 in
theorem g_X11_worth (l : Launch) (dC : Nat → ClassId) (dI : Nat → Nat → Nat) (cI cJ : ClassId) (h0 : Nat) (p0 : Int32) (p1 : Int32) (th : Int32) (tB : Nat) (tsz : Int32) (tat : Int32) (wr : Int32) (dp : Int32) (rC : Nat) (rV : Nat) (rD : Nat) (rK : Nat) (rT : Nat) (rS : Nat) (rU : Nat) (lw : Int32) (tx : Int32) (rL : Nat) (rX : Nat) (qR : Nat) (qB : Nat) (qP : Nat) (qnb : Int32) (qnp : Int32) (aR : Nat) (aB : Nat) (aP : Nat) (nb : Int32) (np : Int32) (aN : Nat) (rf : Nat) (ho : Int32) (br : Int32) (aK : Nat) (ac : Int32) (dw : Int64) (aE : Nat) (sr : Int32) (sf : Int32) (aA : Nat) (aH : Nat) (aI : Nat) (hi : Int32) (fR : Nat → Int32) (fBr : Nat → Int32) (sz : Nat) (n_ac : 0 ≤ ac.toInt ∧ ac.toInt ≤ 40) (n_hi : 0 ≤ hi.toInt ∧ hi.toInt ≤ 1) (n_ho : (-1) ≤ ho.toInt ∧ ho.toInt ≤ 3) (n_lw : 0 ≤ lw.toInt ∧ lw.toInt ≤ 4) (n_nb : 0 ≤ nb.toInt ∧ nb.toInt ≤ 6) (n_np : 0 ≤ np.toInt ∧ np.toInt ≤ 5) (n_qnb : 0 ≤ qnb.toInt ∧ qnb.toInt ≤ 6) (n_qnp : 0 ≤ qnp.toInt ∧ qnp.toInt ≤ 5) (n_tat : 0 ≤ tat.toInt ∧ tat.toInt ≤ 260) (n_tsz : 0 ≤ tsz.toInt ∧ tsz.toInt ≤ 240) (n_wr : (-1) ≤ wr.toInt ∧ wr.toInt ≤ 260)  (ci_fBr_zBr_nb : zBr nb fBr)  : Met l yX11_worth (.code yX11_worth cX11_worth 3 (some .int) :: wA) ({ frames := 2, cells := 0, slots := 0, locals := 44 }) (zP (dC, dI) [(cI, .int), (cJ, .long)] [.ref h0, .int p0, .int p1] sz [(h0, .inr (11, [.int th, .ref tB, .int tsz, .int tat, .int wr, .int dp, .ref rC, .ref rV, .ref rD, .ref rK, .ref rT, .ref rS, .ref rU, .int lw, .int tx, .ref rL, .ref rX, .ref qR, .ref qB, .ref qP, .int qnb, .int qnp, .ref aR, .ref aB, .ref aP, .int nb, .int np, .ref aN, .ref rf, .int ho, .int br, .ref aK, .int ac, .long dw, .ref aE, .int sr, .int sf, .ref aA, .ref aH, .ref aI, .int hi])), (aR, .inl (cI, 3, .inl fR)), (aB, .inl (cI, 24, .inl fBr))]) (va_Qi (fun (r : Int32) (u : Unit) => (((0 ≤ p0.toInt ∧ p0.toInt < nb.toInt) ∧ 0 ≤ p1.toInt ∧ p1.toInt ≤ 9 → r = zWo p1 (fR 1) (fBr (4 * p0.toInt.toNat + 1)) (fR 2)) ∧ (¬ ((0 ≤ p0.toInt ∧ p0.toInt < nb.toInt) ∧ 0 ≤ p1.toInt ∧ p1.toInt ≤ 9) → r = -1))) (fun (_ : Unit) (_ : State) => True) (va_A [] sz)) 0 0 (va_A [] sz) := by
  refine Met.ofW (cc := cX11_worth) (maxL := 3) (ret := (some .int)) (by decide) rfl ?_
  intro p e s m args below meth c s₁ B hml hv
  have y_ac : zHid (0 ≤ ac.toInt ∧ ac.toInt ≤ 40) := n_ac
  have y_hi : zHid (0 ≤ hi.toInt ∧ hi.toInt ≤ 1) := n_hi
  have y_ho : zHid ((-1) ≤ ho.toInt ∧ ho.toInt ≤ 3) := n_ho
  have y_lw : zHid (0 ≤ lw.toInt ∧ lw.toInt ≤ 4) := n_lw
  have y_np : zHid (0 ≤ np.toInt ∧ np.toInt ≤ 5) := n_np
  have y_qnb : zHid (0 ≤ qnb.toInt ∧ qnb.toInt ≤ 6) := n_qnb
  have y_qnp : zHid (0 ≤ qnp.toInt ∧ qnp.toInt ≤ 5) := n_qnp
  have y_tat : zHid (0 ≤ tat.toInt ∧ tat.toInt ≤ 260) := n_tat
  have y_tsz : zHid (0 ≤ tsz.toInt ∧ tsz.toInt ≤ 240) := n_tsz
  have y_wr : zHid ((-1) ≤ wr.toInt ∧ wr.toInt ≤ 260) := n_wr
  clear n_ac n_hi n_ho n_lw n_np n_qnb n_qnp n_tat n_tsz n_wr
  obtain ⟨hargs, hsz, hP, hK, hT⟩ := hv
  have hx := B.exec
  have hb := B.bytes
  have hr := B.returns
  have hts : ∀ w ∈ wA, w.before args s = true := fun w h => atoms_spec (ws := .code yX11_worth cX11_worth 3 (some .int) :: wA) B.pre w (List.mem_cons_of_mem _ h)
  have hown : s.vm.findClass RX11 = some m.cls := findClass_of_methodNamed B.named
  have hlocks := B.notSynchronized
  subst hsz
  have hD : va_D (va_A [] s.heap.size) [] := zD0
  generalize hAe : va_A [] s.heap.size = A at hD ⊢
  have hA : ∀ q : Nat, s.heap.size ≤ q → A q := fun q h => by rw [← hAe]; exact Or.inr h
  have hl := lv_entry ([.ref h0, .int p0, .int p1]) (n := 3) (Nat.le_of_ble_eq_true rfl)
  rw [show entryFrame m args 3 = entryFrame m ([.ref h0, .int p0, .int p1] : List Value).toArray 3 by rw [hargs], lg_entry_eq]
  generalize (lg_sl ([.ref h0, .int p0, .int p1]) ++ List.replicate (3 - (lg_sl ([.ref h0, .int p0, .int p1])).length) Slot.unset).toArray = ls at hl ⊢
  have hl : lv_has ls 3 [(0, .ref h0), (1, .int p0), (2, .int p1)] := hl
  refine zstart (fun H hH => ?_)
  rw [← hH] at hP
  have hS : va_S A s.heap H [] := by rw [hH]; exact va_S.rf
  generalize ([] : List Loc) = locs at hS ⊢
  refine zgen (fun R Q hR hQ => ?_)
  refine lv_aload_n hx hb dX11_worth_0 rfl (lv_at hl 0 rfl) ?_
  refine lv_iload_n hx hb dX11_worth_1 rfl (lv_at hl 1 rfl) ?_
  obtain ⟨hPc, hDc⟩ := zc2 (wc := [(h0, .inr (11, [.int th, .ref tB, .int tsz, .int tat, .int wr, .int dp, .ref rC, .ref rV, .ref rD, .ref rK, .ref rT, .ref rS, .ref rU, .int lw, .int tx, .ref rL, .ref rX, .ref qR, .ref qB, .ref qP, .int qnb, .int qnp, .ref aR, .ref aB, .ref aP, .int nb, .int np, .ref aN, .ref rf, .int ho, .int br, .ref aK, .int ac, .long dw, .ref aE, .int sr, .int sf, .ref aA, .ref aH, .ref aI, .int hi]))]) hP hT [0] (by decide +kernel) rfl
  have hFc := zfr hS hA
  refine va_calli (va_runV (As := [.int p0]) (rest := []) ⟨hx, hb, hml, hown, hts⟩ (g_X11_isBride l dC dI cI cJ h0 p0 th tB tsz tat wr dp rC rV rD rK rT rS rU lw tx rL rX qR qB qP qnb qnp aR aB aP nb np aN rf ho br aK ac dw aE sr sf aA aH aI hi H.size y_ac y_hi y_ho y_lw n_nb y_np y_qnb y_qnp y_tat y_tsz y_wr) (cwV 1 hts (zgV qw1402 qw1404 qw56 qw108 qw1405) rfl rfl rfl hd_X11_isBride ⟨by rw [hR]; exact Nat.le_of_ble_eq_true rfl, by rw [hR]; exact Nat.le_of_ble_eq_true rfl⟩) (zPV hPc hK hDc (va_recv (q := (RX11, TX11, 41)) hK hP (ci := 11) (q0 := 0) rfl rfl)) rfl rfl hl.1 rfl (lv_room (Nat.le_of_ble_eq_true rfl)) dX11_worth_2 ⟨Nat.zero_le _, Nat.zero_le _⟩) hS (fun q _ h => hFc q h) hFc (fun v2 u2 t H locs ht hvm hw hB hz1 hk1 hS9 => ?_)
  replace hP := zkeep hP hk1
  replace hS := hS9
  clear hPc hDc hFc hk1 hz1 hvm hS9
  obtain ⟨f2_0, f2_1, f2_2, f2_3⟩ : (0 ≤ v2.toInt) ∧ (v2.toInt ≤ 1) ∧ (¬ v2.toInt = 0 → (0 ≤ p0.toInt ∧ p0.toInt < nb.toInt)) ∧ (v2.toInt = 0 → ¬ (0 ≤ p0.toInt ∧ p0.toInt < nb.toInt)) := hw
  refine lv_if_eq (tgt := 24) hx hb dX11_worth_5 (by decide) (fun c5 => ?_) (fun c5 => ?_)
  · have c5 : v2.toInt = 0 := z5 rfl (by decide) c5
    refine lv_iconst (v := (-1)) hx hb dX11_worth_24 (by decide) ?_
    have zr0 : ((-1) : Int32).toInt = (-1) := by decide
    rw [hQ]
    exact W.iret (v := ((-1))) hx hb hr (fun t ht hW => ⟨⟨(-1), (), rfl, (by (try dsimp only); exact ⟨fun z => absurd z (by omega), fun _ => rfl⟩), trivial⟩, hS.F ht⟩) hS.2.2 dX11_worth_25
  · have c5 : ¬ v2.toInt = 0 := z6 rfl (by decide) c5
    refine lv_iload_n hx hb dX11_worth_8 rfl (lv_at hl 2 rfl) ?_
    have hPc : va_P (dC, dI) vwCl [] H := zP0
    have hDc : va_D (fun _ => True) [] := zD0
    have hFc := zfr hS hA
    refine va_calli (va_runS (As := [.int p1]) (rest := []) ⟨hx, hb, hml, hown, hts⟩ (g_X11_isFace l dC dI cI cJ p1 H.size) (cwS 1 hts (zgS qw1435 qw1436 qw108 qw1437) rfl rfl rfl hd_X11_isFace ⟨by rw [hR]; exact Nat.le_of_ble_eq_true rfl, by rw [hR]; exact Nat.le_of_ble_eq_true rfl⟩) (zPS hPc hK hDc) rfl rfl hl.1 rfl (lv_room (Nat.le_of_ble_eq_true rfl)) dX11_worth_9 ⟨Nat.zero_le _, Nat.zero_le _⟩) hS (fun q _ h => hFc q h) hFc (fun v9 u9 t H locs ht hvm hw hB hz1 hk1 hS9 => ?_)
    replace hP := zkeep hP hk1
    replace hS := hS9
    clear hPc hDc hFc hk1 hz1 hvm hS9
    obtain ⟨f9_0, f9_1, f9_2, f9_3⟩ : (0 ≤ v9.toInt) ∧ (v9.toInt ≤ 1) ∧ (¬ v9.toInt = 0 → (0 ≤ p1.toInt ∧ p1.toInt ≤ 9)) ∧ (v9.toInt = 0 → ¬ (0 ≤ p1.toInt ∧ p1.toInt ≤ 9)) := hw
    refine lv_if_eq (tgt := 24) hx hb dX11_worth_12 (by decide) (fun c12 => ?_) (fun c12 => ?_)
    · have c12 : v9.toInt = 0 := z5 rfl (by decide) c12
      refine lv_iconst (v := (-1)) hx hb dX11_worth_24 (by decide) ?_
      have zr0 : ((-1) : Int32).toInt = (-1) := by decide
      rw [hQ]
      exact W.iret (v := ((-1))) hx hb hr (fun t ht hW => ⟨⟨(-1), (), rfl, (by (try dsimp only); exact ⟨fun z => absurd z (by omega), fun _ => rfl⟩), trivial⟩, hS.F ht⟩) hS.2.2 dX11_worth_25
    · have c12 : ¬ v9.toInt = 0 := z6 rfl (by decide) c12
      refine lv_aload_n hx hb dX11_worth_15 rfl (lv_at hl 0 rfl) ?_
      refine lv_iload_n hx hb dX11_worth_16 rfl (lv_at hl 1 rfl) ?_
      refine lv_iload_n hx hb dX11_worth_17 rfl (lv_at hl 2 rfl) ?_
      obtain ⟨hPc, hDc⟩ := zc2 (wc := [(h0, .inr (11, [.int th, .ref tB, .int tsz, .int tat, .int wr, .int dp, .ref rC, .ref rV, .ref rD, .ref rK, .ref rT, .ref rS, .ref rU, .int lw, .int tx, .ref rL, .ref rX, .ref qR, .ref qB, .ref qP, .int qnb, .int qnp, .ref aR, .ref aB, .ref aP, .int nb, .int np, .ref aN, .ref rf, .int ho, .int br, .ref aK, .int ac, .long dw, .ref aE, .int sr, .int sf, .ref aA, .ref aH, .ref aI, .int hi])), (aR, .inl (cI, 3, .inl fR)), (aB, .inl (cI, 24, .inl fBr))]) hP hT [0, 1, 2] (by decide +kernel) rfl
      have hFc := zfr hS hA
      refine va_calli (va_runV (As := [.int p0, .int p1]) (rest := []) ⟨hx, hb, hml, hown, hts⟩ (g_X11_worthBy l dC dI cI cJ h0 p0 p1 th tB tsz tat wr dp rC rV rD rK rT rS rU lw tx rL rX qR qB qP qnb qnp aR aB aP nb np aN rf ho br aK ac dw aE sr sf aA aH aI hi fR fBr H.size y_ac y_hi y_ho y_lw n_nb y_np (by omega) y_qnb y_qnp y_tat y_tsz y_wr) (cwV 2 hts (zgV qw1638 qw1640 qw85 qw108 qw1641) rfl rfl rfl hd_X11_worthBy ⟨by rw [hR]; exact Nat.le_of_ble_eq_true rfl, by rw [hR]; exact Nat.le_of_ble_eq_true rfl⟩) (zPV hPc hK hDc (va_recv (q := (RX11, TX11, 41)) hK hP (ci := 11) (q0 := 0) rfl rfl)) rfl rfl hl.1 rfl (lv_room (Nat.le_of_ble_eq_true rfl)) dX11_worth_18 ⟨Nat.zero_le _, Nat.zero_le _⟩) hS (fun q _ h => hFc q h) hFc (fun v18 u18 t H locs ht hvm hw hB hz1 hk1 hS9 => ?_)
      replace hP := zkeep hP hk1
      replace hS := hS9
      clear hPc hDc hFc hk1 hz1 hvm hS9
      have f18_0 : (v18 = zWo p1 (fR 1) (fBr (4 * p0.toInt.toNat + 1)) (fR 2)) := hw
      have F18 := f18_0
      refine lv_goto (tgt := 25) hx hb dX11_worth_21 (by decide) ?_
      rw [hQ]
      exact W.iret (v := v18) hx hb hr (fun t ht hW => ⟨⟨v18, (), rfl, (by (try dsimp only); exact ⟨fun _ => F18, fun z => absurd (by omega) z⟩), trivial⟩, hS.F ht⟩) hS.2.2 dX11_worth_25
set_option maxHeartbeats 4000000 in
set_option maxRecDepth 100000 in
theorem g_X11_worthAs_1 (l : Launch) (dC : Nat → ClassId) (dI : Nat → Nat → Nat) (cI cJ : ClassId) (h0 : Nat) (p0 : Int32) (th : Int32) (tB : Nat) (tsz : Int32) (tat : Int32) (wr : Int32) (dp : Int32) (rC : Nat) (rV : Nat) (rD : Nat) (rK : Nat) (rT : Nat) (rS : Nat) (rU : Nat) (lw : Int32) (tx : Int32) (rL : Nat) (rX : Nat) (qR : Nat) (qB : Nat) (qP : Nat) (qnb : Int32) (qnp : Int32) (aR : Nat) (aB : Nat) (aP : Nat) (nb : Int32) (np : Int32) (aN : Nat) (rf : Nat) (ho : Int32) (br : Int32) (aK : Nat) (ac : Int32) (dw : Int64) (aE : Nat) (sr : Int32) (sf : Int32) (aA : Nat) (aH : Nat) (aI : Nat) (hi : Int32) (fR : Nat → Int32) (fBr : Nat → Int32) (sz : Nat) (n_ac : 0 ≤ ac.toInt ∧ ac.toInt ≤ 40) (n_hi : 0 ≤ hi.toInt ∧ hi.toInt ≤ 1) (n_ho : (-1) ≤ ho.toInt ∧ ho.toInt ≤ 3) (n_lw : 0 ≤ lw.toInt ∧ lw.toInt ≤ 4) (n_nb : 0 ≤ nb.toInt ∧ nb.toInt ≤ 6) (n_np : 0 ≤ np.toInt ∧ np.toInt ≤ 5) (n_p0 : 0 ≤ p0.toInt ∧ p0.toInt ≤ 5) (n_qnb : 0 ≤ qnb.toInt ∧ qnb.toInt ≤ 6) (n_qnp : 0 ≤ qnp.toInt ∧ qnp.toInt ≤ 5) (n_tat : 0 ≤ tat.toInt ∧ tat.toInt ≤ 260) (n_tsz : 0 ≤ tsz.toInt ∧ tsz.toInt ≤ 240) (n_wr : (-1) ≤ wr.toInt ∧ wr.toInt ≤ 260)    : Met l yX11_worthAs (.code yX11_worthAs cX11_worthAs 3 (some .int) :: wA) ({ frames := 2, cells := 0, slots := 0, locals := 44 }) (zP (dC, dI) [(cI, .int), (cJ, .long)] [.ref h0, .int p0, .int 1] sz [(h0, .inr (11, [.int th, .ref tB, .int tsz, .int tat, .int wr, .int dp, .ref rC, .ref rV, .ref rD, .ref rK, .ref rT, .ref rS, .ref rU, .int lw, .int tx, .ref rL, .ref rX, .ref qR, .ref qB, .ref qP, .int qnb, .int qnp, .ref aR, .ref aB, .ref aP, .int nb, .int np, .ref aN, .ref rf, .int ho, .int br, .ref aK, .int ac, .long dw, .ref aE, .int sr, .int sf, .ref aA, .ref aH, .ref aI, .int hi])), (aR, .inl (cI, 3, .inl fR)), (aB, .inl (cI, 24, .inl fBr))]) (va_Qi (fun (r : Int32) (u : Unit) => (r = zTw fR fBr p0.toInt.toNat)) (fun (_ : Unit) (_ : State) => True) (va_A [] sz)) 0 0 (va_A [] sz) := by
  refine Met.ofW (cc := cX11_worthAs) (maxL := 3) (ret := (some .int)) (by decide) rfl ?_
  intro p e s m args below meth c s₁ B hml hv
  have y_ac : zHid (0 ≤ ac.toInt ∧ ac.toInt ≤ 40) := n_ac
  have y_hi : zHid (0 ≤ hi.toInt ∧ hi.toInt ≤ 1) := n_hi
  have y_ho : zHid ((-1) ≤ ho.toInt ∧ ho.toInt ≤ 3) := n_ho
  have y_lw : zHid (0 ≤ lw.toInt ∧ lw.toInt ≤ 4) := n_lw
  have y_nb : zHid (0 ≤ nb.toInt ∧ nb.toInt ≤ 6) := n_nb
  have y_np : zHid (0 ≤ np.toInt ∧ np.toInt ≤ 5) := n_np
  have y_qnb : zHid (0 ≤ qnb.toInt ∧ qnb.toInt ≤ 6) := n_qnb
  have y_qnp : zHid (0 ≤ qnp.toInt ∧ qnp.toInt ≤ 5) := n_qnp
  have y_tat : zHid (0 ≤ tat.toInt ∧ tat.toInt ≤ 260) := n_tat
  have y_tsz : zHid (0 ≤ tsz.toInt ∧ tsz.toInt ≤ 240) := n_tsz
  have y_wr : zHid ((-1) ≤ wr.toInt ∧ wr.toInt ≤ 260) := n_wr
  clear n_ac n_hi n_ho n_lw n_nb n_np n_qnb n_qnp n_tat n_tsz n_wr
  obtain ⟨hargs, hsz, hP, hK, hT⟩ := hv
  have hx := B.exec
  have hb := B.bytes
  have hr := B.returns
  have hts : ∀ w ∈ wA, w.before args s = true := fun w h => atoms_spec (ws := .code yX11_worthAs cX11_worthAs 3 (some .int) :: wA) B.pre w (List.mem_cons_of_mem _ h)
  have hown : s.vm.findClass RX11 = some m.cls := findClass_of_methodNamed B.named
  have hlocks := B.notSynchronized
  subst hsz
  have hD : va_D (va_A [] s.heap.size) [] := zD0
  generalize hAe : va_A [] s.heap.size = A at hD ⊢
  have hA : ∀ q : Nat, s.heap.size ≤ q → A q := fun q h => by rw [← hAe]; exact Or.inr h
  have hl := lv_entry ([.ref h0, .int p0, .int 1]) (n := 3) (Nat.le_of_ble_eq_true rfl)
  rw [show entryFrame m args 3 = entryFrame m ([.ref h0, .int p0, .int 1] : List Value).toArray 3 by rw [hargs], lg_entry_eq]
  generalize (lg_sl ([.ref h0, .int p0, .int 1]) ++ List.replicate (3 - (lg_sl ([.ref h0, .int p0, .int 1])).length) Slot.unset).toArray = ls at hl ⊢
  have hl : lv_has ls 3 [(0, .ref h0), (1, .int p0), (2, .int 1)] := hl
  refine zstart (fun H hH => ?_)
  rw [← hH] at hP
  have hS : va_S A s.heap H [] := by rw [hH]; exact va_S.rf
  generalize ([] : List Loc) = locs at hS ⊢
  refine zgen (fun R Q hR hQ => ?_)
  refine lv_iload_n hx hb dX11_worthAs_0 rfl (lv_at hl 2 rfl) ?_
  refine lv_iconst (v := 2) hx hb dX11_worthAs_1 (by decide) ?_
  refine lv_icmp_ne (tgt := 14) hx hb dX11_worthAs_2 (by decide) (fun _ => ?_) (fun c => absurd c (by decide))
  refine lv_aload_n hx hb dX11_worthAs_14 rfl (lv_at hl 0 rfl) ?_
  refine lv_iload_n hx hb dX11_worthAs_15 rfl (lv_at hl 1 rfl) ?_
  refine lv_iload_n hx hb dX11_worthAs_16 rfl (lv_at hl 2 rfl) ?_
  refine lv_if_ne (tgt := 28) hx hb dX11_worthAs_17 (by decide) (fun _ => ?_) (fun c => absurd c (by decide))
  refine lv_aload_n hx hb dX11_worthAs_28 rfl (lv_at hl 0 rfl) ?_
  refine lv_iload_n hx hb dX11_worthAs_29 rfl (lv_at hl 1 rfl) ?_
  refine lv_iconst (v := 0) hx hb dX11_worthAs_30 (by decide) ?_
  obtain ⟨hPc, hDc⟩ := zc2 (wc := [(h0, .inr (11, [.int th, .ref tB, .int tsz, .int tat, .int wr, .int dp, .ref rC, .ref rV, .ref rD, .ref rK, .ref rT, .ref rS, .ref rU, .int lw, .int tx, .ref rL, .ref rX, .ref qR, .ref qB, .ref qP, .int qnb, .int qnp, .ref aR, .ref aB, .ref aP, .int nb, .int np, .ref aN, .ref rf, .int ho, .int br, .ref aK, .int ac, .long dw, .ref aE, .int sr, .int sf, .ref aA, .ref aH, .ref aI, .int hi])), (aB, .inl (cI, 24, .inl fBr))]) hP hT [0, 2] (by decide +kernel) rfl
  have hFc := zfr hS hA
  refine va_calli (va_runV (As := [.int p0, .int 0]) (rest := [.int p0, .ref h0]) ⟨hx, hb, hml, hown, hts⟩ (g_X11_of l dC dI cI cJ h0 p0 0 th tB tsz tat wr dp rC rV rD rK rT rS rU lw tx rL rX qR qB qP qnb qnp aR aB aP nb np aN rf ho br aK ac dw aE sr sf aA aH aI hi fBr H.size y_ac y_hi y_ho y_lw y_nb y_np n_p0 (by decide) y_qnb y_qnp y_tat y_tsz y_wr) (cwV 2 hts (zgV qw1386 qw1388 qw54 qw108 qw1389) rfl rfl rfl hd_X11_of ⟨by rw [hR]; exact Nat.le_of_ble_eq_true rfl, by rw [hR]; exact Nat.le_of_ble_eq_true rfl⟩) (zPV hPc hK hDc (va_recv (q := (RX11, TX11, 41)) hK hP (ci := 11) (q0 := 0) rfl rfl)) rfl rfl hl.1 rfl (lv_room (Nat.le_of_ble_eq_true rfl)) dX11_worthAs_31 ⟨Nat.zero_le _, Nat.zero_le _⟩) hS (fun q _ h => hFc q h) hFc (fun v31 u31 t H locs ht hvm hw hB hz1 hk1 hS9 => ?_)
  replace hP := zkeep hP hk1
  replace hS := hS9
  clear hPc hDc hFc hk1 hz1 hvm hS9
  have zn31_0 : (0 : Int32).toInt = 0 := by decide
  have f31_0 : (v31 = fBr (4 * p0.toInt.toNat + (0 : Int32).toInt.toNat)) := hw
  have F31 := f31_0
  obtain ⟨hPc, hDc⟩ := zc2 (wc := [(h0, .inr (11, [.int th, .ref tB, .int tsz, .int tat, .int wr, .int dp, .ref rC, .ref rV, .ref rD, .ref rK, .ref rT, .ref rS, .ref rU, .int lw, .int tx, .ref rL, .ref rX, .ref qR, .ref qB, .ref qP, .int qnb, .int qnp, .ref aR, .ref aB, .ref aP, .int nb, .int np, .ref aN, .ref rf, .int ho, .int br, .ref aK, .int ac, .long dw, .ref aE, .int sr, .int sf, .ref aA, .ref aH, .ref aI, .int hi])), (aR, .inl (cI, 3, .inl fR)), (aB, .inl (cI, 24, .inl fBr))]) hP hT [0, 1, 2] (by decide +kernel) rfl
  have hFc := zfr hS hA
  refine va_calli (va_runV (As := [.int p0, .int v31]) (rest := []) ⟨hx, hb, hml, hown, hts⟩ (g_X11_worthBy l dC dI cI cJ h0 p0 v31 th tB tsz tat wr dp rC rV rD rK rT rS rU lw tx rL rX qR qB qP qnb qnp aR aB aP nb np aN rf ho br aK ac dw aE sr sf aA aH aI hi fR fBr H.size y_ac y_hi y_ho y_lw y_nb y_np n_p0 y_qnb y_qnp y_tat y_tsz y_wr) (cwV 2 hts (zgV qw1638 qw1640 qw85 qw108 qw1641) rfl rfl rfl hd_X11_worthBy ⟨by rw [hR]; exact Nat.le_of_ble_eq_true rfl, by rw [hR]; exact Nat.le_of_ble_eq_true rfl⟩) (zPV hPc hK hDc (va_recv (q := (RX11, TX11, 41)) hK hP (ci := 11) (q0 := 0) rfl rfl)) rfl rfl hl.1 rfl (lv_room (Nat.le_of_ble_eq_true rfl)) dX11_worthAs_34 ⟨Nat.zero_le _, Nat.zero_le _⟩) hS (fun q _ h => hFc q h) hFc (fun v34 u34 t H locs ht hvm hw hB hz1 hk1 hS9 => ?_)
  replace hP := zkeep hP hk1
  replace hS := hS9
  clear hPc hDc hFc hk1 hz1 hvm hS9
  have f34_0 : (v34 = zWo v31 (fR 1) (fBr (4 * p0.toInt.toNat + 1)) (fR 2)) := hw
  have F34 := f34_0
  rw [hQ]
  exact W.iret (v := v34) hx hb hr (fun t ht hW => ⟨⟨v34, (), rfl, (by (try dsimp only); unfold zTw; rw [F34, F31.trans (congrArg fBr (show 4 * p0.toInt.toNat + (0 : Int32).toInt.toNat = 4 * p0.toInt.toNat by have : (0 : Int32).toInt = 0 := (by decide); omega))]), trivial⟩, hS.F ht⟩) hS.2.2 dX11_worthAs_37
set_option maxHeartbeats 4000000 in
set_option maxRecDepth 100000 in
theorem g_X11_worthAs (l : Launch) (dC : Nat → ClassId) (dI : Nat → Nat → Nat) (cI cJ : ClassId) (h0 : Nat) (p0 : Int32) (p1 : Int32) (th : Int32) (tB : Nat) (tsz : Int32) (tat : Int32) (wr : Int32) (dp : Int32) (rC : Nat) (rV : Nat) (rD : Nat) (rK : Nat) (rT : Nat) (rS : Nat) (rU : Nat) (lw : Int32) (tx : Int32) (rL : Nat) (rX : Nat) (qR : Nat) (qB : Nat) (qP : Nat) (qnb : Int32) (qnp : Int32) (aR : Nat) (aB : Nat) (aP : Nat) (nb : Int32) (np : Int32) (aN : Nat) (rf : Nat) (ho : Int32) (br : Int32) (aK : Nat) (ac : Int32) (dw : Int64) (aE : Nat) (sr : Int32) (sf : Int32) (aA : Nat) (aH : Nat) (aI : Nat) (hi : Int32) (fC : Nat → Int32) (fV : Nat → Int32) (fK : Nat → Int32) (fT : Nat → Int32) (fS : Nat → Int32) (fU : Nat → Int32) (fL : Nat → Int32) (fX : Nat → Int32) (fR : Nat → Int32) (fBr : Nat → Int32) (fPa : Nat → Int32) (fN : Nat → Int32) (fE : Nat → Int32) (sz : Nat) (n_ac : 0 ≤ ac.toInt ∧ ac.toInt ≤ 40) (n_hi : 0 ≤ hi.toInt ∧ hi.toInt ≤ 1) (n_ho : (-1) ≤ ho.toInt ∧ ho.toInt ≤ 3) (n_lw : 0 ≤ lw.toInt ∧ lw.toInt ≤ 4) (n_nb : 0 ≤ nb.toInt ∧ nb.toInt ≤ 6) (n_np : 0 ≤ np.toInt ∧ np.toInt ≤ 5) (n_p0 : 0 ≤ p0.toInt ∧ p0.toInt ≤ 5) (n_qnb : 0 ≤ qnb.toInt ∧ qnb.toInt ≤ 6) (n_qnp : 0 ≤ qnp.toInt ∧ qnp.toInt ≤ 5) (n_tat : 0 ≤ tat.toInt ∧ tat.toInt ≤ 260) (n_tsz : 0 ≤ tsz.toInt ∧ tsz.toInt ≤ 240) (n_wr : (-1) ≤ wr.toInt ∧ wr.toInt ≤ 260) (hls : zLs ho fC fV fK fT fS fU) (hbn : p0.toInt < nb.toInt) (ci_fBr_zBr_nb : zBr nb fBr) (ci_fN_zNw_np : zNw np fN) (ci_fPa_zBr_np : zBr np fPa)  : Met l yX11_worthAs (.code yX11_worthAs cX11_worthAs 3 (some .int) :: wA) ({ frames := 10, cells := 0, slots := 0, locals := 245 }) (zP (dC, dI) [(cI, .int), (cJ, .long)] [.ref h0, .int p0, .int p1] sz [(h0, .inr (11, [.int th, .ref tB, .int tsz, .int tat, .int wr, .int dp, .ref rC, .ref rV, .ref rD, .ref rK, .ref rT, .ref rS, .ref rU, .int lw, .int tx, .ref rL, .ref rX, .ref qR, .ref qB, .ref qP, .int qnb, .int qnp, .ref aR, .ref aB, .ref aP, .int nb, .int np, .ref aN, .ref rf, .int ho, .int br, .ref aK, .int ac, .long dw, .ref aE, .int sr, .int sf, .ref aA, .ref aH, .ref aI, .int hi])), (rC, .inl (cI, 2600, .inl fC)), (rV, .inl (cI, 2600, .inl fV)), (rK, .inl (cI, 5, .inl fK)), (rT, .inl (cI, 700, .inl fT)), (rS, .inl (cI, 700, .inl fS)), (rU, .inl (cI, 700, .inl fU)), (rL, .inl (cI, 6, .inl fL)), (rX, .inl (cI, 80, .inl fX)), (aR, .inl (cI, 3, .inl fR)), (aB, .inl (cI, 24, .inl fBr)), (aP, .inl (cI, 20, .inl fPa)), (aN, .inl (cI, 97, .inl fN)), (aE, .inl (cI, 10, .inl fE))]) (va_Qi (fun (r : Int32) (u : (Nat → Int32) × (Nat → Int32) × (Nat → Int32)) => True) (fun (u : (Nat → Int32) × (Nat → Int32) × (Nat → Int32)) (t : State) => va_P (dC, dI) vwCl [(h0, .inr (11, [.int th, .ref tB, .int tsz, .int tat, .int wr, .int dp, .ref rC, .ref rV, .ref rD, .ref rK, .ref rT, .ref rS, .ref rU, .int lw, .int tx, .ref rL, .ref rX, .ref qR, .ref qB, .ref qP, .int qnb, .int qnp, .ref aR, .ref aB, .ref aP, .int nb, .int np, .ref aN, .ref rf, .int ho, .int br, .ref aK, .int ac, .long dw, .ref aE, .int sr, .int sf, .ref aA, .ref aH, .ref aI, .int hi])), (rC, .inl (cI, 2600, .inl fC)), (rV, .inl (cI, 2600, .inl fV)), (rK, .inl (cI, 5, .inl fK)), (rT, .inl (cI, 700, .inl fT)), (rS, .inl (cI, 700, .inl fS)), (rU, .inl (cI, 700, .inl fU)), (rL, .inl (cI, 6, .inl u.1)), (rX, .inl (cI, 80, .inl u.2.1)), (aR, .inl (cI, 3, .inl fR)), (aB, .inl (cI, 24, .inl fBr)), (aP, .inl (cI, 20, .inl fPa)), (aN, .inl (cI, 97, .inl fN)), (aE, .inl (cI, 10, .inl u.2.2))] t.heap ∧ va_D (va_A [(h0, .inr (11, [.int th, .ref tB, .int tsz, .int tat, .int wr, .int dp, .ref rC, .ref rV, .ref rD, .ref rK, .ref rT, .ref rS, .ref rU, .int lw, .int tx, .ref rL, .ref rX, .ref qR, .ref qB, .ref qP, .int qnb, .int qnp, .ref aR, .ref aB, .ref aP, .int nb, .int np, .ref aN, .ref rf, .int ho, .int br, .ref aK, .int ac, .long dw, .ref aE, .int sr, .int sf, .ref aA, .ref aH, .ref aI, .int hi])), (rC, .inl (cI, 2600, .inl fC)), (rV, .inl (cI, 2600, .inl fV)), (rK, .inl (cI, 5, .inl fK)), (rT, .inl (cI, 700, .inl fT)), (rS, .inl (cI, 700, .inl fS)), (rU, .inl (cI, 700, .inl fU)), (rL, .inl (cI, 6, .inl fL)), (rX, .inl (cI, 80, .inl fX)), (aR, .inl (cI, 3, .inl fR)), (aB, .inl (cI, 24, .inl fBr)), (aP, .inl (cI, 20, .inl fPa)), (aN, .inl (cI, 97, .inl fN)), (aE, .inl (cI, 10, .inl fE))] sz) [(h0, .inr (11, [.int th, .ref tB, .int tsz, .int tat, .int wr, .int dp, .ref rC, .ref rV, .ref rD, .ref rK, .ref rT, .ref rS, .ref rU, .int lw, .int tx, .ref rL, .ref rX, .ref qR, .ref qB, .ref qP, .int qnb, .int qnp, .ref aR, .ref aB, .ref aP, .int nb, .int np, .ref aN, .ref rf, .int ho, .int br, .ref aK, .int ac, .long dw, .ref aE, .int sr, .int sf, .ref aA, .ref aH, .ref aI, .int hi])), (rC, .inl (cI, 2600, .inl fC)), (rV, .inl (cI, 2600, .inl fV)), (rK, .inl (cI, 5, .inl fK)), (rT, .inl (cI, 700, .inl fT)), (rS, .inl (cI, 700, .inl fS)), (rU, .inl (cI, 700, .inl fU)), (rL, .inl (cI, 6, .inl u.1)), (rX, .inl (cI, 80, .inl u.2.1)), (aR, .inl (cI, 3, .inl fR)), (aB, .inl (cI, 24, .inl fBr)), (aP, .inl (cI, 20, .inl fPa)), (aN, .inl (cI, 97, .inl fN)), (aE, .inl (cI, 10, .inl u.2.2))]) (va_A [(h0, .inr (11, [.int th, .ref tB, .int tsz, .int tat, .int wr, .int dp, .ref rC, .ref rV, .ref rD, .ref rK, .ref rT, .ref rS, .ref rU, .int lw, .int tx, .ref rL, .ref rX, .ref qR, .ref qB, .ref qP, .int qnb, .int qnp, .ref aR, .ref aB, .ref aP, .int nb, .int np, .ref aN, .ref rf, .int ho, .int br, .ref aK, .int ac, .long dw, .ref aE, .int sr, .int sf, .ref aA, .ref aH, .ref aI, .int hi])), (rC, .inl (cI, 2600, .inl fC)), (rV, .inl (cI, 2600, .inl fV)), (rK, .inl (cI, 5, .inl fK)), (rT, .inl (cI, 700, .inl fT)), (rS, .inl (cI, 700, .inl fS)), (rU, .inl (cI, 700, .inl fU)), (rL, .inl (cI, 6, .inl fL)), (rX, .inl (cI, 80, .inl fX)), (aR, .inl (cI, 3, .inl fR)), (aB, .inl (cI, 24, .inl fBr)), (aP, .inl (cI, 20, .inl fPa)), (aN, .inl (cI, 97, .inl fN)), (aE, .inl (cI, 10, .inl fE))] sz)) 0 0 (va_A [(h0, .inr (11, [.int th, .ref tB, .int tsz, .int tat, .int wr, .int dp, .ref rC, .ref rV, .ref rD, .ref rK, .ref rT, .ref rS, .ref rU, .int lw, .int tx, .ref rL, .ref rX, .ref qR, .ref qB, .ref qP, .int qnb, .int qnp, .ref aR, .ref aB, .ref aP, .int nb, .int np, .ref aN, .ref rf, .int ho, .int br, .ref aK, .int ac, .long dw, .ref aE, .int sr, .int sf, .ref aA, .ref aH, .ref aI, .int hi])), (rC, .inl (cI, 2600, .inl fC)), (rV, .inl (cI, 2600, .inl fV)), (rK, .inl (cI, 5, .inl fK)), (rT, .inl (cI, 700, .inl fT)), (rS, .inl (cI, 700, .inl fS)), (rU, .inl (cI, 700, .inl fU)), (rL, .inl (cI, 6, .inl fL)), (rX, .inl (cI, 80, .inl fX)), (aR, .inl (cI, 3, .inl fR)), (aB, .inl (cI, 24, .inl fBr)), (aP, .inl (cI, 20, .inl fPa)), (aN, .inl (cI, 97, .inl fN)), (aE, .inl (cI, 10, .inl fE))] sz) := by
  refine Met.ofW (cc := cX11_worthAs) (maxL := 3) (ret := (some .int)) (by decide) rfl ?_
  intro p e s m args below meth c s₁ B hml hv
  have y_ac : zHid (0 ≤ ac.toInt ∧ ac.toInt ≤ 40) := n_ac
  have y_hi : zHid (0 ≤ hi.toInt ∧ hi.toInt ≤ 1) := n_hi
  have y_ho : zHid ((-1) ≤ ho.toInt ∧ ho.toInt ≤ 3) := n_ho
  have y_lw : zHid (0 ≤ lw.toInt ∧ lw.toInt ≤ 4) := n_lw
  have y_qnb : zHid (0 ≤ qnb.toInt ∧ qnb.toInt ≤ 6) := n_qnb
  have y_qnp : zHid (0 ≤ qnp.toInt ∧ qnp.toInt ≤ 5) := n_qnp
  have y_tat : zHid (0 ≤ tat.toInt ∧ tat.toInt ≤ 260) := n_tat
  have y_tsz : zHid (0 ≤ tsz.toInt ∧ tsz.toInt ≤ 240) := n_tsz
  have y_wr : zHid ((-1) ≤ wr.toInt ∧ wr.toInt ≤ 260) := n_wr
  clear n_ac n_hi n_ho n_lw n_qnb n_qnp n_tat n_tsz n_wr
  obtain ⟨hargs, hsz, hP, hK, hT⟩ := hv
  have hx := B.exec
  have hb := B.bytes
  have hr := B.returns
  have hts : ∀ w ∈ wA, w.before args s = true := fun w h => atoms_spec (ws := .code yX11_worthAs cX11_worthAs 3 (some .int) :: wA) B.pre w (List.mem_cons_of_mem _ h)
  have hown : s.vm.findClass RX11 = some m.cls := findClass_of_methodNamed B.named
  have hlocks := B.notSynchronized
  subst hsz
  have hD := hT.self (sz := s.heap.size)
  generalize hAe : va_A [(h0, .inr (11, [.int th, .ref tB, .int tsz, .int tat, .int wr, .int dp, .ref rC, .ref rV, .ref rD, .ref rK, .ref rT, .ref rS, .ref rU, .int lw, .int tx, .ref rL, .ref rX, .ref qR, .ref qB, .ref qP, .int qnb, .int qnp, .ref aR, .ref aB, .ref aP, .int nb, .int np, .ref aN, .ref rf, .int ho, .int br, .ref aK, .int ac, .long dw, .ref aE, .int sr, .int sf, .ref aA, .ref aH, .ref aI, .int hi])), (rC, .inl (cI, 2600, .inl fC)), (rV, .inl (cI, 2600, .inl fV)), (rK, .inl (cI, 5, .inl fK)), (rT, .inl (cI, 700, .inl fT)), (rS, .inl (cI, 700, .inl fS)), (rU, .inl (cI, 700, .inl fU)), (rL, .inl (cI, 6, .inl fL)), (rX, .inl (cI, 80, .inl fX)), (aR, .inl (cI, 3, .inl fR)), (aB, .inl (cI, 24, .inl fBr)), (aP, .inl (cI, 20, .inl fPa)), (aN, .inl (cI, 97, .inl fN)), (aE, .inl (cI, 10, .inl fE))] s.heap.size = A at hD ⊢
  have hA : ∀ q : Nat, s.heap.size ≤ q → A q := fun q h => by rw [← hAe]; exact Or.inr h
  have hl := lv_entry ([.ref h0, .int p0, .int p1]) (n := 3) (Nat.le_of_ble_eq_true rfl)
  rw [show entryFrame m args 3 = entryFrame m ([.ref h0, .int p0, .int p1] : List Value).toArray 3 by rw [hargs], lg_entry_eq]
  generalize (lg_sl ([.ref h0, .int p0, .int p1]) ++ List.replicate (3 - (lg_sl ([.ref h0, .int p0, .int p1])).length) Slot.unset).toArray = ls at hl ⊢
  have hl : lv_has ls 3 [(0, .ref h0), (1, .int p0), (2, .int p1)] := hl
  refine zstart (fun H hH => ?_)
  rw [← hH] at hP
  have hS : va_S A s.heap H [] := by rw [hH]; exact va_S.rf
  generalize ([] : List Loc) = locs at hS ⊢
  refine zgen (fun R Q hR hQ => ?_)
  refine lv_iload_n hx hb dX11_worthAs_0 rfl (lv_at hl 2 rfl) ?_
  refine lv_iconst (v := 2) hx hb dX11_worthAs_1 (by decide) ?_
  refine lv_icmp_ne (tgt := 14) hx hb dX11_worthAs_2 (by decide) (fun c2 => ?_) (fun c2 => ?_)
  · have c2 : ¬ p1.toInt = 2 := z6 rfl (by decide) c2
    refine lv_aload_n hx hb dX11_worthAs_14 rfl (lv_at hl 0 rfl) ?_
    refine lv_iload_n hx hb dX11_worthAs_15 rfl (lv_at hl 1 rfl) ?_
    refine lv_iload_n hx hb dX11_worthAs_16 rfl (lv_at hl 2 rfl) ?_
    refine lv_if_ne (tgt := 28) hx hb dX11_worthAs_17 (by decide) (fun c17 => ?_) (fun c17 => ?_)
    · have c17 : ¬ p1.toInt = 0 := z6 rfl (by decide) c17
      refine lv_aload_n hx hb dX11_worthAs_28 rfl (lv_at hl 0 rfl) ?_
      refine lv_iload_n hx hb dX11_worthAs_29 rfl (lv_at hl 1 rfl) ?_
      refine lv_iconst (v := 0) hx hb dX11_worthAs_30 (by decide) ?_
      obtain ⟨hPc, hDc⟩ := zc2 (wc := [(h0, .inr (11, [.int th, .ref tB, .int tsz, .int tat, .int wr, .int dp, .ref rC, .ref rV, .ref rD, .ref rK, .ref rT, .ref rS, .ref rU, .int lw, .int tx, .ref rL, .ref rX, .ref qR, .ref qB, .ref qP, .int qnb, .int qnp, .ref aR, .ref aB, .ref aP, .int nb, .int np, .ref aN, .ref rf, .int ho, .int br, .ref aK, .int ac, .long dw, .ref aE, .int sr, .int sf, .ref aA, .ref aH, .ref aI, .int hi])), (aB, .inl (cI, 24, .inl fBr))]) hP hD [0, 10] (by decide +kernel) rfl
      have hFc := zfr hS hA
      refine va_calli (va_runV (As := [.int p0, .int 0]) (rest := [.int p0, .ref h0]) ⟨hx, hb, hml, hown, hts⟩ (g_X11_of l dC dI cI cJ h0 p0 0 th tB tsz tat wr dp rC rV rD rK rT rS rU lw tx rL rX qR qB qP qnb qnp aR aB aP nb np aN rf ho br aK ac dw aE sr sf aA aH aI hi fBr H.size y_ac y_hi y_ho y_lw n_nb n_np n_p0 (by decide) y_qnb y_qnp y_tat y_tsz y_wr) (cwV 2 hts (zgV qw1386 qw1388 qw54 qw108 qw1389) rfl rfl rfl hd_X11_of ⟨by rw [hR]; exact Nat.le_of_ble_eq_true rfl, by rw [hR]; exact Nat.le_of_ble_eq_true rfl⟩) (zPV hPc hK hDc (va_recv (q := (RX11, TX11, 41)) hK hP (ci := 11) (q0 := 0) rfl rfl)) rfl rfl hl.1 rfl (lv_room (Nat.le_of_ble_eq_true rfl)) dX11_worthAs_31 ⟨Nat.zero_le _, Nat.zero_le _⟩) hS (fun q _ h => hFc q h) hFc (fun v31 u31 t H locs ht hvm hw hB hz1 hk1 hS9 => ?_)
      replace hP := zkeep hP hk1
      replace hS := hS9
      clear hPc hDc hFc hk1 hz1 hvm hS9
      have zn31_0 : (0 : Int32).toInt = 0 := by decide
      have f31_0 : (v31 = fBr (4 * p0.toInt.toNat + (0 : Int32).toInt.toNat)) := hw
      have F31 := f31_0
      obtain ⟨hPc, hDc⟩ := zc2 (wc := [(h0, .inr (11, [.int th, .ref tB, .int tsz, .int tat, .int wr, .int dp, .ref rC, .ref rV, .ref rD, .ref rK, .ref rT, .ref rS, .ref rU, .int lw, .int tx, .ref rL, .ref rX, .ref qR, .ref qB, .ref qP, .int qnb, .int qnp, .ref aR, .ref aB, .ref aP, .int nb, .int np, .ref aN, .ref rf, .int ho, .int br, .ref aK, .int ac, .long dw, .ref aE, .int sr, .int sf, .ref aA, .ref aH, .ref aI, .int hi])), (aR, .inl (cI, 3, .inl fR)), (aB, .inl (cI, 24, .inl fBr))]) hP hD [0, 9, 10] (by decide +kernel) rfl
      have hFc := zfr hS hA
      refine va_calli (va_runV (As := [.int p0, .int v31]) (rest := []) ⟨hx, hb, hml, hown, hts⟩ (g_X11_worthBy l dC dI cI cJ h0 p0 v31 th tB tsz tat wr dp rC rV rD rK rT rS rU lw tx rL rX qR qB qP qnb qnp aR aB aP nb np aN rf ho br aK ac dw aE sr sf aA aH aI hi fR fBr H.size y_ac y_hi y_ho y_lw n_nb n_np n_p0 y_qnb y_qnp y_tat y_tsz y_wr) (cwV 2 hts (zgV qw1638 qw1640 qw85 qw108 qw1641) rfl rfl rfl hd_X11_worthBy ⟨by rw [hR]; exact Nat.le_of_ble_eq_true rfl, by rw [hR]; exact Nat.le_of_ble_eq_true rfl⟩) (zPV hPc hK hDc (va_recv (q := (RX11, TX11, 41)) hK hP (ci := 11) (q0 := 0) rfl rfl)) rfl rfl hl.1 rfl (lv_room (Nat.le_of_ble_eq_true rfl)) dX11_worthAs_34 ⟨Nat.zero_le _, Nat.zero_le _⟩) hS (fun q _ h => hFc q h) hFc (fun v34 u34 t H locs ht hvm hw hB hz1 hk1 hS9 => ?_)
      replace hP := zkeep hP hk1
      replace hS := hS9
      clear hPc hDc hFc hk1 hz1 hvm hS9
      have f34_0 : (v34 = zWo v31 (fR 1) (fBr (4 * p0.toInt.toNat + 1)) (fR 2)) := hw
      have F34 := f34_0
      rw [hQ]
      exact W.iret (v := v34) hx hb hr (fun t ht hW => ⟨⟨v34, (fL, fX, fE), rfl, trivial, ⟨by rw [ht]; exact hP, hD⟩⟩, hS.F ht⟩) hS.2.2 dX11_worthAs_37
    · have c17 : p1.toInt = 0 := z5 rfl (by decide) c17
      refine lv_aload_n hx hb dX11_worthAs_20 rfl (lv_at hl 0 rfl) ?_
      refine lv_iload_n hx hb dX11_worthAs_21 rfl (lv_at hl 1 rfl) ?_
      obtain ⟨hPc, hDc, hFc⟩ := zc3 (wc := [(h0, .inr (11, [.int th, .ref tB, .int tsz, .int tat, .int wr, .int dp, .ref rC, .ref rV, .ref rD, .ref rK, .ref rT, .ref rS, .ref rU, .int lw, .int tx, .ref rL, .ref rX, .ref qR, .ref qB, .ref qP, .int qnb, .int qnp, .ref aR, .ref aB, .ref aP, .int nb, .int np, .ref aN, .ref rf, .int ho, .int br, .ref aK, .int ac, .long dw, .ref aE, .int sr, .int sf, .ref aA, .ref aH, .ref aI, .int hi])), (rC, .inl (cI, 2600, .inl fC)), (rV, .inl (cI, 2600, .inl fV)), (rK, .inl (cI, 5, .inl fK)), (rT, .inl (cI, 700, .inl fT)), (rS, .inl (cI, 700, .inl fS)), (rU, .inl (cI, 700, .inl fU)), (rL, .inl (cI, 6, .inl fL)), (rX, .inl (cI, 80, .inl fX)), (aB, .inl (cI, 24, .inl fBr)), (aP, .inl (cI, 20, .inl fPa)), (aN, .inl (cI, 97, .inl fN)), (aE, .inl (cI, 10, .inl fE))]) hP hD hS hA [0, 1, 2, 3, 4, 5, 6, 7, 8, 10, 11, 12, 13] (by decide +kernel) rfl
      refine va_calli (va_runV (As := [.int p0]) (rest := [.int p0, .ref h0]) ⟨hx, hb, hml, hown, hts⟩ (g_X11_likelyOf l dC dI cI cJ h0 p0 th tB tsz tat wr dp rC rV rD rK rT rS rU lw tx rL rX qR qB qP qnb qnp aR aB aP nb np aN rf ho br aK ac dw aE sr sf aA aH aI hi fC fV fK fT fS fU fL fX fBr fPa fN fE H.size y_ac y_hi y_ho y_lw n_nb n_np n_p0 y_qnb y_qnp y_tat y_tsz y_wr (hls) (hbn) ci_fBr_zBr_nb ci_fN_zNw_np ci_fPa_zBr_np) (cwV 1 hts (zgV qw1600 qw1602 qw80 qw108 qw1603) rfl rfl rfl hd_X11_likelyOf ⟨by rw [hR]; exact Nat.le_of_ble_eq_true rfl, by rw [hR]; exact Nat.le_of_ble_eq_true rfl⟩) (zPV hPc hK hDc (va_recv (q := (RX11, TX11, 41)) hK hP (ci := 11) (q0 := 0) rfl rfl)) rfl rfl hl.1 rfl (lv_room (Nat.le_of_ble_eq_true rfl)) dX11_worthAs_22 ⟨Nat.zero_le _, Nat.zero_le _⟩) hS (fun q _ h => hFc q h) hFc (fun v22 u22 t H locs ht hvm hw hB hz1 hk1 hS9 => ?_)
      obtain ⟨u22_0, u22_1, u22_2⟩ := u22
      obtain ⟨hP9, hD9⟩ := zj2 (wX := [(h0, .inr (11, [.int th, .ref tB, .int tsz, .int tat, .int wr, .int dp, .ref rC, .ref rV, .ref rD, .ref rK, .ref rT, .ref rS, .ref rU, .int lw, .int tx, .ref rL, .ref rX, .ref qR, .ref qB, .ref qP, .int qnb, .int qnp, .ref aR, .ref aB, .ref aP, .int nb, .int np, .ref aN, .ref rf, .int ho, .int br, .ref aK, .int ac, .long dw, .ref aE, .int sr, .int sf, .ref aA, .ref aH, .ref aI, .int hi])), (rC, .inl (cI, 2600, .inl fC)), (rV, .inl (cI, 2600, .inl fV)), (rK, .inl (cI, 5, .inl fK)), (rT, .inl (cI, 700, .inl fT)), (rS, .inl (cI, 700, .inl fS)), (rU, .inl (cI, 700, .inl fU)), (rL, .inl (cI, 6, .inl u22_0)), (rX, .inl (cI, 80, .inl u22_1)), (aR, .inl (cI, 3, .inl fR)), (aB, .inl (cI, 24, .inl fBr)), (aP, .inl (cI, 20, .inl fPa)), (aN, .inl (cI, 97, .inl fN)), (aE, .inl (cI, 10, .inl u22_2))]) hP hD hk1 hFc ht hB [0, 1, 2, 3, 4, 5, 6, 7, 8, 10, 11, 12, 13] [(true, 0), (true, 1), (true, 2), (true, 3), (true, 4), (true, 5), (true, 6), (true, 7), (true, 8), (false, 9), (true, 9), (true, 10), (true, 11), (true, 12)] rfl (by decide +kernel) (by decide +kernel) rfl
      clear hP hD hS hPc hDc hFc hB hk1 hz1 hvm
      have hP := hP9
      have hD := hD9
      have hS := hS9
      clear hP9 hD9 hS9
      obtain ⟨f22_0, f22_1, f22_2⟩ : (0 ≤ v22.toInt) ∧ (v22.toInt ≤ 9) ∧ (∀ (kc : zK3) (kT : zT) (q_fR : Nat → Int32) (kl : Option ((Int → Int) × Int)), zCn q_fR fBr fPa nb.toInt np.toInt kc → zKo nb.toInt np.toInt kc kT → zSr nb.toInt np.toInt kT.1 fN → zLwR ho fC fV fK fT fS fU kl → v22 = sLi kc kT.1 kl p0 ∧ ∀ j : Nat, j < 10 → u22_2 j = sBl kc kT.1 kl p0 j) := hw
      have F22 := f22_2
      refine lv_goto (tgt := 34) hx hb dX11_worthAs_25 (by decide) ?_
      obtain ⟨hPc, hDc⟩ := zc2 (wc := [(h0, .inr (11, [.int th, .ref tB, .int tsz, .int tat, .int wr, .int dp, .ref rC, .ref rV, .ref rD, .ref rK, .ref rT, .ref rS, .ref rU, .int lw, .int tx, .ref rL, .ref rX, .ref qR, .ref qB, .ref qP, .int qnb, .int qnp, .ref aR, .ref aB, .ref aP, .int nb, .int np, .ref aN, .ref rf, .int ho, .int br, .ref aK, .int ac, .long dw, .ref aE, .int sr, .int sf, .ref aA, .ref aH, .ref aI, .int hi])), (aR, .inl (cI, 3, .inl fR)), (aB, .inl (cI, 24, .inl fBr))]) hP hD [0, 9, 10] (by decide +kernel) rfl
      have hFc := zfr hS hA
      refine va_calli (va_runV (As := [.int p0, .int v22]) (rest := []) ⟨hx, hb, hml, hown, hts⟩ (g_X11_worthBy l dC dI cI cJ h0 p0 v22 th tB tsz tat wr dp rC rV rD rK rT rS rU lw tx rL rX qR qB qP qnb qnp aR aB aP nb np aN rf ho br aK ac dw aE sr sf aA aH aI hi fR fBr H.size y_ac y_hi y_ho y_lw n_nb n_np n_p0 y_qnb y_qnp y_tat y_tsz y_wr) (cwV 2 hts (zgV qw1638 qw1640 qw85 qw108 qw1641) rfl rfl rfl hd_X11_worthBy ⟨by rw [hR]; exact Nat.le_of_ble_eq_true rfl, by rw [hR]; exact Nat.le_of_ble_eq_true rfl⟩) (zPV hPc hK hDc (va_recv (q := (RX11, TX11, 41)) hK hP (ci := 11) (q0 := 0) rfl rfl)) rfl rfl hl.1 rfl (lv_room (Nat.le_of_ble_eq_true rfl)) dX11_worthAs_34 ⟨Nat.zero_le _, Nat.zero_le _⟩) hS (fun q _ h => hFc q h) hFc (fun v34 u34 t H locs ht hvm hw hB hz1 hk1 hS9 => ?_)
      replace hP := zkeep hP hk1
      replace hS := hS9
      clear hPc hDc hFc hk1 hz1 hvm hS9
      have f34_0 : (v34 = zWo v22 (fR 1) (fBr (4 * p0.toInt.toNat + 1)) (fR 2)) := hw
      have F34 := f34_0
      rw [hQ]
      exact W.iret (v := v34) hx hb hr (fun t ht hW => ⟨⟨v34, (u22_0, u22_1, u22_2), rfl, trivial, ⟨by rw [ht]; exact hP, hD⟩⟩, hS.F ht⟩) hS.2.2 dX11_worthAs_37
  · have c2 : p1.toInt = 2 := z5 rfl (by decide) c2
    refine lv_aload_n hx hb dX11_worthAs_5 rfl (lv_at hl 0 rfl) ?_
    refine lv_iload_n hx hb dX11_worthAs_6 rfl (lv_at hl 1 rfl) ?_
    refine lv_iconst (v := 1) hx hb dX11_worthAs_7 (by decide) ?_
    obtain ⟨hPc, hDc⟩ := zc2 (wc := [(h0, .inr (11, [.int th, .ref tB, .int tsz, .int tat, .int wr, .int dp, .ref rC, .ref rV, .ref rD, .ref rK, .ref rT, .ref rS, .ref rU, .int lw, .int tx, .ref rL, .ref rX, .ref qR, .ref qB, .ref qP, .int qnb, .int qnp, .ref aR, .ref aB, .ref aP, .int nb, .int np, .ref aN, .ref rf, .int ho, .int br, .ref aK, .int ac, .long dw, .ref aE, .int sr, .int sf, .ref aA, .ref aH, .ref aI, .int hi])), (aB, .inl (cI, 24, .inl fBr))]) hP hD [0, 10] (by decide +kernel) rfl
    have hFc := zfr hS hA
    refine va_calli (va_runV (As := [.int p0, .int 1]) (rest := []) ⟨hx, hb, hml, hown, hts⟩ (g_X11_of l dC dI cI cJ h0 p0 1 th tB tsz tat wr dp rC rV rD rK rT rS rU lw tx rL rX qR qB qP qnb qnp aR aB aP nb np aN rf ho br aK ac dw aE sr sf aA aH aI hi fBr H.size y_ac y_hi y_ho y_lw n_nb n_np n_p0 (by decide) y_qnb y_qnp y_tat y_tsz y_wr) (cwV 2 hts (zgV qw1386 qw1388 qw54 qw108 qw1389) rfl rfl rfl hd_X11_of ⟨by rw [hR]; exact Nat.le_of_ble_eq_true rfl, by rw [hR]; exact Nat.le_of_ble_eq_true rfl⟩) (zPV hPc hK hDc (va_recv (q := (RX11, TX11, 41)) hK hP (ci := 11) (q0 := 0) rfl rfl)) rfl rfl hl.1 rfl (lv_room (Nat.le_of_ble_eq_true rfl)) dX11_worthAs_8 ⟨Nat.zero_le _, Nat.zero_le _⟩) hS (fun q _ h => hFc q h) hFc (fun v8 u8 t H locs ht hvm hw hB hz1 hk1 hS9 => ?_)
    replace hP := zkeep hP hk1
    replace hS := hS9
    clear hPc hDc hFc hk1 hz1 hvm hS9
    have zn8_1 : (1 : Int32).toInt = 1 := by decide
    have f8_0 : (v8 = fBr (4 * p0.toInt.toNat + (1 : Int32).toInt.toNat)) := hw
    have F8 := f8_0
    refine lv_goto (tgt := 37) hx hb dX11_worthAs_11 (by decide) ?_
    rw [hQ]
    exact W.iret (v := v8) hx hb hr (fun t ht hW => ⟨⟨v8, (fL, fX, fE), rfl, trivial, ⟨by rw [ht]; exact hP, hD⟩⟩, hS.F ht⟩) hS.2.2 dX11_worthAs_37
set_option maxHeartbeats 4000000 in
set_option maxRecDepth 100000 in
theorem g_X11_chosen (l : Launch) (dC : Nat → ClassId) (dI : Nat → Nat → Nat) (cI cJ : ClassId) (h0 : Nat) (p0 : Int32) (th : Int32) (tB : Nat) (tsz : Int32) (tat : Int32) (wr : Int32) (dp : Int32) (rC : Nat) (rV : Nat) (rD : Nat) (rK : Nat) (rT : Nat) (rS : Nat) (rU : Nat) (lw : Int32) (tx : Int32) (rL : Nat) (rX : Nat) (qR : Nat) (qB : Nat) (qP : Nat) (qnb : Int32) (qnp : Int32) (aR : Nat) (aB : Nat) (aP : Nat) (nb : Int32) (np : Int32) (aN : Nat) (rf : Nat) (ho : Int32) (br : Int32) (aK : Nat) (ac : Int32) (dw : Int64) (aE : Nat) (sr : Int32) (sf : Int32) (aA : Nat) (aH : Nat) (aI : Nat) (hi : Int32) (fC : Nat → Int32) (fV : Nat → Int32) (fK : Nat → Int32) (fT : Nat → Int32) (fS : Nat → Int32) (fU : Nat → Int32) (fL : Nat → Int32) (fX : Nat → Int32) (fR : Nat → Int32) (fBr : Nat → Int32) (fPa : Nat → Int32) (fN : Nat → Int32) (fE : Nat → Int32) (sz : Nat) (n_ac : 0 ≤ ac.toInt ∧ ac.toInt ≤ 40) (n_hi : 0 ≤ hi.toInt ∧ hi.toInt ≤ 1) (n_ho : (-1) ≤ ho.toInt ∧ ho.toInt ≤ 3) (n_lw : 0 ≤ lw.toInt ∧ lw.toInt ≤ 4) (n_nb : 1 ≤ nb.toInt ∧ nb.toInt ≤ 6) (n_np : 0 ≤ np.toInt ∧ np.toInt ≤ 5) (n_qnb : 0 ≤ qnb.toInt ∧ qnb.toInt ≤ 6) (n_qnp : 0 ≤ qnp.toInt ∧ qnp.toInt ≤ 5) (n_tat : 0 ≤ tat.toInt ∧ tat.toInt ≤ 260) (n_tsz : 0 ≤ tsz.toInt ∧ tsz.toInt ≤ 240) (n_wr : (-1) ≤ wr.toInt ∧ wr.toInt ≤ 260) (hls : zLs ho fC fV fK fT fS fU) (ci_fBr_zBr_nb : zBr nb fBr) (ci_fN_zNw_np : zNw np fN) (ci_fPa_zBr_np : zBr np fPa)  : Met l yX11_chosen (.code yX11_chosen cX11_chosen 4 (some .int) :: wA) ({ frames := 11, cells := 0, slots := 0, locals := 267 }) (zP (dC, dI) [(cI, .int), (cJ, .long)] [.ref h0, .int p0] sz [(h0, .inr (11, [.int th, .ref tB, .int tsz, .int tat, .int wr, .int dp, .ref rC, .ref rV, .ref rD, .ref rK, .ref rT, .ref rS, .ref rU, .int lw, .int tx, .ref rL, .ref rX, .ref qR, .ref qB, .ref qP, .int qnb, .int qnp, .ref aR, .ref aB, .ref aP, .int nb, .int np, .ref aN, .ref rf, .int ho, .int br, .ref aK, .int ac, .long dw, .ref aE, .int sr, .int sf, .ref aA, .ref aH, .ref aI, .int hi])), (rC, .inl (cI, 2600, .inl fC)), (rV, .inl (cI, 2600, .inl fV)), (rK, .inl (cI, 5, .inl fK)), (rT, .inl (cI, 700, .inl fT)), (rS, .inl (cI, 700, .inl fS)), (rU, .inl (cI, 700, .inl fU)), (rL, .inl (cI, 6, .inl fL)), (rX, .inl (cI, 80, .inl fX)), (aR, .inl (cI, 3, .inl fR)), (aB, .inl (cI, 24, .inl fBr)), (aP, .inl (cI, 20, .inl fPa)), (aN, .inl (cI, 97, .inl fN)), (aE, .inl (cI, 10, .inl fE))]) (va_Qi (fun (r : Int32) (u : (Nat → Int32) × (Nat → Int32) × (Nat → Int32)) => (0 ≤ r.toInt) ∧ (r.toInt ≤ 5) ∧ (r.toInt < nb.toInt)) (fun (u : (Nat → Int32) × (Nat → Int32) × (Nat → Int32)) (t : State) => va_P (dC, dI) vwCl [(h0, .inr (11, [.int th, .ref tB, .int tsz, .int tat, .int wr, .int dp, .ref rC, .ref rV, .ref rD, .ref rK, .ref rT, .ref rS, .ref rU, .int lw, .int tx, .ref rL, .ref rX, .ref qR, .ref qB, .ref qP, .int qnb, .int qnp, .ref aR, .ref aB, .ref aP, .int nb, .int np, .ref aN, .ref rf, .int ho, .int br, .ref aK, .int ac, .long dw, .ref aE, .int sr, .int sf, .ref aA, .ref aH, .ref aI, .int hi])), (rC, .inl (cI, 2600, .inl fC)), (rV, .inl (cI, 2600, .inl fV)), (rK, .inl (cI, 5, .inl fK)), (rT, .inl (cI, 700, .inl fT)), (rS, .inl (cI, 700, .inl fS)), (rU, .inl (cI, 700, .inl fU)), (rL, .inl (cI, 6, .inl u.1)), (rX, .inl (cI, 80, .inl u.2.1)), (aR, .inl (cI, 3, .inl fR)), (aB, .inl (cI, 24, .inl fBr)), (aP, .inl (cI, 20, .inl fPa)), (aN, .inl (cI, 97, .inl fN)), (aE, .inl (cI, 10, .inl u.2.2))] t.heap ∧ va_D (va_A [(h0, .inr (11, [.int th, .ref tB, .int tsz, .int tat, .int wr, .int dp, .ref rC, .ref rV, .ref rD, .ref rK, .ref rT, .ref rS, .ref rU, .int lw, .int tx, .ref rL, .ref rX, .ref qR, .ref qB, .ref qP, .int qnb, .int qnp, .ref aR, .ref aB, .ref aP, .int nb, .int np, .ref aN, .ref rf, .int ho, .int br, .ref aK, .int ac, .long dw, .ref aE, .int sr, .int sf, .ref aA, .ref aH, .ref aI, .int hi])), (rC, .inl (cI, 2600, .inl fC)), (rV, .inl (cI, 2600, .inl fV)), (rK, .inl (cI, 5, .inl fK)), (rT, .inl (cI, 700, .inl fT)), (rS, .inl (cI, 700, .inl fS)), (rU, .inl (cI, 700, .inl fU)), (rL, .inl (cI, 6, .inl fL)), (rX, .inl (cI, 80, .inl fX)), (aR, .inl (cI, 3, .inl fR)), (aB, .inl (cI, 24, .inl fBr)), (aP, .inl (cI, 20, .inl fPa)), (aN, .inl (cI, 97, .inl fN)), (aE, .inl (cI, 10, .inl fE))] sz) [(h0, .inr (11, [.int th, .ref tB, .int tsz, .int tat, .int wr, .int dp, .ref rC, .ref rV, .ref rD, .ref rK, .ref rT, .ref rS, .ref rU, .int lw, .int tx, .ref rL, .ref rX, .ref qR, .ref qB, .ref qP, .int qnb, .int qnp, .ref aR, .ref aB, .ref aP, .int nb, .int np, .ref aN, .ref rf, .int ho, .int br, .ref aK, .int ac, .long dw, .ref aE, .int sr, .int sf, .ref aA, .ref aH, .ref aI, .int hi])), (rC, .inl (cI, 2600, .inl fC)), (rV, .inl (cI, 2600, .inl fV)), (rK, .inl (cI, 5, .inl fK)), (rT, .inl (cI, 700, .inl fT)), (rS, .inl (cI, 700, .inl fS)), (rU, .inl (cI, 700, .inl fU)), (rL, .inl (cI, 6, .inl u.1)), (rX, .inl (cI, 80, .inl u.2.1)), (aR, .inl (cI, 3, .inl fR)), (aB, .inl (cI, 24, .inl fBr)), (aP, .inl (cI, 20, .inl fPa)), (aN, .inl (cI, 97, .inl fN)), (aE, .inl (cI, 10, .inl u.2.2))]) (va_A [(h0, .inr (11, [.int th, .ref tB, .int tsz, .int tat, .int wr, .int dp, .ref rC, .ref rV, .ref rD, .ref rK, .ref rT, .ref rS, .ref rU, .int lw, .int tx, .ref rL, .ref rX, .ref qR, .ref qB, .ref qP, .int qnb, .int qnp, .ref aR, .ref aB, .ref aP, .int nb, .int np, .ref aN, .ref rf, .int ho, .int br, .ref aK, .int ac, .long dw, .ref aE, .int sr, .int sf, .ref aA, .ref aH, .ref aI, .int hi])), (rC, .inl (cI, 2600, .inl fC)), (rV, .inl (cI, 2600, .inl fV)), (rK, .inl (cI, 5, .inl fK)), (rT, .inl (cI, 700, .inl fT)), (rS, .inl (cI, 700, .inl fS)), (rU, .inl (cI, 700, .inl fU)), (rL, .inl (cI, 6, .inl fL)), (rX, .inl (cI, 80, .inl fX)), (aR, .inl (cI, 3, .inl fR)), (aB, .inl (cI, 24, .inl fBr)), (aP, .inl (cI, 20, .inl fPa)), (aN, .inl (cI, 97, .inl fN)), (aE, .inl (cI, 10, .inl fE))] sz)) 0 0 (va_A [(h0, .inr (11, [.int th, .ref tB, .int tsz, .int tat, .int wr, .int dp, .ref rC, .ref rV, .ref rD, .ref rK, .ref rT, .ref rS, .ref rU, .int lw, .int tx, .ref rL, .ref rX, .ref qR, .ref qB, .ref qP, .int qnb, .int qnp, .ref aR, .ref aB, .ref aP, .int nb, .int np, .ref aN, .ref rf, .int ho, .int br, .ref aK, .int ac, .long dw, .ref aE, .int sr, .int sf, .ref aA, .ref aH, .ref aI, .int hi])), (rC, .inl (cI, 2600, .inl fC)), (rV, .inl (cI, 2600, .inl fV)), (rK, .inl (cI, 5, .inl fK)), (rT, .inl (cI, 700, .inl fT)), (rS, .inl (cI, 700, .inl fS)), (rU, .inl (cI, 700, .inl fU)), (rL, .inl (cI, 6, .inl fL)), (rX, .inl (cI, 80, .inl fX)), (aR, .inl (cI, 3, .inl fR)), (aB, .inl (cI, 24, .inl fBr)), (aP, .inl (cI, 20, .inl fPa)), (aN, .inl (cI, 97, .inl fN)), (aE, .inl (cI, 10, .inl fE))] sz) := by
  refine Met.ofW (cc := cX11_chosen) (maxL := 4) (ret := (some .int)) (by decide) rfl ?_
  intro p e s m args below meth c s₁ B hml hv
  have y_ac : zHid (0 ≤ ac.toInt ∧ ac.toInt ≤ 40) := n_ac
  have y_hi : zHid (0 ≤ hi.toInt ∧ hi.toInt ≤ 1) := n_hi
  have y_ho : zHid ((-1) ≤ ho.toInt ∧ ho.toInt ≤ 3) := n_ho
  have y_lw : zHid (0 ≤ lw.toInt ∧ lw.toInt ≤ 4) := n_lw
  have y_np : zHid (0 ≤ np.toInt ∧ np.toInt ≤ 5) := n_np
  have y_qnb : zHid (0 ≤ qnb.toInt ∧ qnb.toInt ≤ 6) := n_qnb
  have y_qnp : zHid (0 ≤ qnp.toInt ∧ qnp.toInt ≤ 5) := n_qnp
  have y_tat : zHid (0 ≤ tat.toInt ∧ tat.toInt ≤ 260) := n_tat
  have y_tsz : zHid (0 ≤ tsz.toInt ∧ tsz.toInt ≤ 240) := n_tsz
  have y_wr : zHid ((-1) ≤ wr.toInt ∧ wr.toInt ≤ 260) := n_wr
  clear n_ac n_hi n_ho n_lw n_np n_qnb n_qnp n_tat n_tsz n_wr
  obtain ⟨hargs, hsz, hP, hK, hT⟩ := hv
  have hx := B.exec
  have hb := B.bytes
  have hr := B.returns
  have hts : ∀ w ∈ wA, w.before args s = true := fun w h => atoms_spec (ws := .code yX11_chosen cX11_chosen 4 (some .int) :: wA) B.pre w (List.mem_cons_of_mem _ h)
  have hown : s.vm.findClass RX11 = some m.cls := findClass_of_methodNamed B.named
  have hlocks := B.notSynchronized
  subst hsz
  have hD := hT.self (sz := s.heap.size)
  generalize hAe : va_A [(h0, .inr (11, [.int th, .ref tB, .int tsz, .int tat, .int wr, .int dp, .ref rC, .ref rV, .ref rD, .ref rK, .ref rT, .ref rS, .ref rU, .int lw, .int tx, .ref rL, .ref rX, .ref qR, .ref qB, .ref qP, .int qnb, .int qnp, .ref aR, .ref aB, .ref aP, .int nb, .int np, .ref aN, .ref rf, .int ho, .int br, .ref aK, .int ac, .long dw, .ref aE, .int sr, .int sf, .ref aA, .ref aH, .ref aI, .int hi])), (rC, .inl (cI, 2600, .inl fC)), (rV, .inl (cI, 2600, .inl fV)), (rK, .inl (cI, 5, .inl fK)), (rT, .inl (cI, 700, .inl fT)), (rS, .inl (cI, 700, .inl fS)), (rU, .inl (cI, 700, .inl fU)), (rL, .inl (cI, 6, .inl fL)), (rX, .inl (cI, 80, .inl fX)), (aR, .inl (cI, 3, .inl fR)), (aB, .inl (cI, 24, .inl fBr)), (aP, .inl (cI, 20, .inl fPa)), (aN, .inl (cI, 97, .inl fN)), (aE, .inl (cI, 10, .inl fE))] s.heap.size = A at hD ⊢
  have hA : ∀ q : Nat, s.heap.size ≤ q → A q := fun q h => by rw [← hAe]; exact Or.inr h
  have hl := lv_entry ([.ref h0, .int p0]) (n := 4) (Nat.le_of_ble_eq_true rfl)
  rw [show entryFrame m args 4 = entryFrame m ([.ref h0, .int p0] : List Value).toArray 4 by rw [hargs], lg_entry_eq]
  generalize (lg_sl ([.ref h0, .int p0]) ++ List.replicate (4 - (lg_sl ([.ref h0, .int p0])).length) Slot.unset).toArray = ls at hl ⊢
  have hl : lv_has ls 4 [(0, .ref h0), (1, .int p0)] := hl
  refine zstart (fun H hH => ?_)
  rw [← hH] at hP
  have hS : va_S A s.heap H [] := by rw [hH]; exact va_S.rf
  generalize ([] : List Loc) = locs at hS ⊢
  refine zgen (fun R Q hR hQ => ?_)
  refine lv_iconst (v := 0) hx hb dX11_chosen_0 (by decide) ?_
  refine lv_istore_n (lv' := [(2, .int 0), (0, .ref h0), (1, .int p0)]) hx hb dX11_chosen_1 rfl hl (by decide) rfl (fun ls hl => ?_)
  refine lv_iconst (v := 1) hx hb dX11_chosen_2 (by decide) ?_
  have J4 : ∀ (n : Nat) (m4_A_aE : Nat → Int32) (m4_A_rL : Nat → Int32) (m4_A_rX : Nat → Int32) (m4_L_2 : Int32) (m4_L_3 : Int32), (0 ≤ m4_L_2.toInt ∧ m4_L_2.toInt ≤ 5) → (1 ≤ m4_L_3.toInt ∧ m4_L_3.toInt ≤ 6) → (m4_L_2.toInt < nb.toInt) → (7 - m4_L_3.toInt).toNat = n → ∀ (H : Heap) (locs : List Loc) (ls : Array Slot), va_P (dC, dI) vwCl [(h0, .inr (11, [.int th, .ref tB, .int tsz, .int tat, .int wr, .int dp, .ref rC, .ref rV, .ref rD, .ref rK, .ref rT, .ref rS, .ref rU, .int lw, .int tx, .ref rL, .ref rX, .ref qR, .ref qB, .ref qP, .int qnb, .int qnp, .ref aR, .ref aB, .ref aP, .int nb, .int np, .ref aN, .ref rf, .int ho, .int br, .ref aK, .int ac, .long dw, .ref aE, .int sr, .int sf, .ref aA, .ref aH, .ref aI, .int hi])), (rC, .inl (cI, 2600, .inl fC)), (rV, .inl (cI, 2600, .inl fV)), (rK, .inl (cI, 5, .inl fK)), (rT, .inl (cI, 700, .inl fT)), (rS, .inl (cI, 700, .inl fS)), (rU, .inl (cI, 700, .inl fU)), (rL, .inl (cI, 6, .inl m4_A_rL)), (rX, .inl (cI, 80, .inl m4_A_rX)), (aR, .inl (cI, 3, .inl fR)), (aB, .inl (cI, 24, .inl fBr)), (aP, .inl (cI, 20, .inl fPa)), (aN, .inl (cI, 97, .inl fN)), (aE, .inl (cI, 10, .inl m4_A_aE))] H → va_D A [(h0, .inr (11, [.int th, .ref tB, .int tsz, .int tat, .int wr, .int dp, .ref rC, .ref rV, .ref rD, .ref rK, .ref rT, .ref rS, .ref rU, .int lw, .int tx, .ref rL, .ref rX, .ref qR, .ref qB, .ref qP, .int qnb, .int qnp, .ref aR, .ref aB, .ref aP, .int nb, .int np, .ref aN, .ref rf, .int ho, .int br, .ref aK, .int ac, .long dw, .ref aE, .int sr, .int sf, .ref aA, .ref aH, .ref aI, .int hi])), (rC, .inl (cI, 2600, .inl fC)), (rV, .inl (cI, 2600, .inl fV)), (rK, .inl (cI, 5, .inl fK)), (rT, .inl (cI, 700, .inl fT)), (rS, .inl (cI, 700, .inl fS)), (rU, .inl (cI, 700, .inl fU)), (rL, .inl (cI, 6, .inl m4_A_rL)), (rX, .inl (cI, 80, .inl m4_A_rX)), (aR, .inl (cI, 3, .inl fR)), (aB, .inl (cI, 24, .inl fBr)), (aP, .inl (cI, 20, .inl fPa)), (aN, .inl (cI, 97, .inl fN)), (aE, .inl (cI, 10, .inl m4_A_aE))] → va_S A s.heap H locs → lv_has ls 4 [(3, .int m4_L_3), (2, .int m4_L_2), (0, .ref h0), (1, .int p0)] → W p l e R s m args below meth c H locs 0 0 Q (F0 m 4 ls []) := by
    intro n4
    induction n4 using Nat.strongRecOn with
    | _ n4 ih4 =>
      intro m4_A_aE m4_A_rL m4_A_rX m4_L_2 m4_L_3 jf4_0 jf4_1 jf4_2 hmu4 H locs ls hP hD hS hl
      refine lv_iload_n hx hb dX11_chosen_4 rfl (lv_at hl 0 rfl) ?_
      refine lv_aload_n hx hb dX11_chosen_5 rfl (lv_at hl 2 rfl) ?_
      refine va_get (D := (dC, dI)) (ci := 11) (v := .int nb) (C := RX11) (T := TX11) (N := 41) hx hb hts iX11 hown hK hP 0 rfl rfl 25 (by decide) (hts _ qw1152) (fun _ h9 => h9) rfl dX11_chosen_6 ?_
      refine lv_icmp_ge (tgt := 39) hx hb dX11_chosen_9 (by decide) (fun c9 => ?_) (fun c9 => ?_)
      · have c9 : nb.toInt ≤ m4_L_3.toInt := z3 rfl rfl c9
        refine lv_iload_n hx hb dX11_chosen_39 rfl (lv_at hl 1 rfl) ?_
        rw [hQ]
        exact W.iret (v := m4_L_2) hx hb hr (fun t ht hW => ⟨⟨m4_L_2, (m4_A_rL, m4_A_rX, m4_A_aE), rfl, ⟨by (try dsimp only); omega, by (try dsimp only); omega, by (try dsimp only); omega⟩, ⟨by rw [ht]; exact hP, hD⟩⟩, hS.F ht⟩) hS.2.2 dX11_chosen_40
      · have c9 : m4_L_3.toInt < nb.toInt := z4 rfl rfl c9
        refine lv_aload_n hx hb dX11_chosen_12 rfl (lv_at hl 2 rfl) ?_
        refine lv_iload_n hx hb dX11_chosen_13 rfl (lv_at hl 0 rfl) ?_
        refine lv_iload_n hx hb dX11_chosen_14 rfl (lv_at hl 3 rfl) ?_
        obtain ⟨hPc, hDc, hFc⟩ := zc3 (wc := [(h0, .inr (11, [.int th, .ref tB, .int tsz, .int tat, .int wr, .int dp, .ref rC, .ref rV, .ref rD, .ref rK, .ref rT, .ref rS, .ref rU, .int lw, .int tx, .ref rL, .ref rX, .ref qR, .ref qB, .ref qP, .int qnb, .int qnp, .ref aR, .ref aB, .ref aP, .int nb, .int np, .ref aN, .ref rf, .int ho, .int br, .ref aK, .int ac, .long dw, .ref aE, .int sr, .int sf, .ref aA, .ref aH, .ref aI, .int hi])), (rC, .inl (cI, 2600, .inl fC)), (rV, .inl (cI, 2600, .inl fV)), (rK, .inl (cI, 5, .inl fK)), (rT, .inl (cI, 700, .inl fT)), (rS, .inl (cI, 700, .inl fS)), (rU, .inl (cI, 700, .inl fU)), (rL, .inl (cI, 6, .inl m4_A_rL)), (rX, .inl (cI, 80, .inl m4_A_rX)), (aR, .inl (cI, 3, .inl fR)), (aB, .inl (cI, 24, .inl fBr)), (aP, .inl (cI, 20, .inl fPa)), (aN, .inl (cI, 97, .inl fN)), (aE, .inl (cI, 10, .inl m4_A_aE))]) hP hD hS hA [0, 1, 2, 3, 4, 5, 6, 7, 8, 9, 10, 11, 12, 13] (by decide +kernel) rfl
        refine va_calli (va_runV (As := [.int m4_L_3, .int p0]) (rest := []) ⟨hx, hb, hml, hown, hts⟩ (g_X11_worthAs l dC dI cI cJ h0 m4_L_3 p0 th tB tsz tat wr dp rC rV rD rK rT rS rU lw tx rL rX qR qB qP qnb qnp aR aB aP nb np aN rf ho br aK ac dw aE sr sf aA aH aI hi fC fV fK fT fS fU m4_A_rL m4_A_rX fR fBr fPa fN m4_A_aE H.size y_ac y_hi y_ho y_lw (by omega) y_np (by omega) y_qnb y_qnp y_tat y_tsz y_wr (hls) (by omega) ci_fBr_zBr_nb ci_fN_zNw_np ci_fPa_zBr_np) (cwV 2 hts (zgV qw1650 qw1652 qw87 qw108 qw1653) rfl rfl rfl hd_X11_worthAs ⟨by rw [hR]; exact Nat.le_of_ble_eq_true rfl, by rw [hR]; exact Nat.le_of_ble_eq_true rfl⟩) (zPV hPc hK hDc (va_recv (q := (RX11, TX11, 41)) hK hP (ci := 11) (q0 := 0) rfl rfl)) rfl rfl hl.1 rfl (lv_room (Nat.le_of_ble_eq_true rfl)) dX11_chosen_15 ⟨Nat.zero_le _, Nat.zero_le _⟩) hS (fun q _ h => hFc q h) hFc (fun v15 u15 t H locs ht hvm hw hB hz1 hk1 hS9 => ?_)
        obtain ⟨u15_0, u15_1, u15_2⟩ := u15
        obtain ⟨hP9, hD9⟩ := zj2 (wX := [(h0, .inr (11, [.int th, .ref tB, .int tsz, .int tat, .int wr, .int dp, .ref rC, .ref rV, .ref rD, .ref rK, .ref rT, .ref rS, .ref rU, .int lw, .int tx, .ref rL, .ref rX, .ref qR, .ref qB, .ref qP, .int qnb, .int qnp, .ref aR, .ref aB, .ref aP, .int nb, .int np, .ref aN, .ref rf, .int ho, .int br, .ref aK, .int ac, .long dw, .ref aE, .int sr, .int sf, .ref aA, .ref aH, .ref aI, .int hi])), (rC, .inl (cI, 2600, .inl fC)), (rV, .inl (cI, 2600, .inl fV)), (rK, .inl (cI, 5, .inl fK)), (rT, .inl (cI, 700, .inl fT)), (rS, .inl (cI, 700, .inl fS)), (rU, .inl (cI, 700, .inl fU)), (rL, .inl (cI, 6, .inl u15_0)), (rX, .inl (cI, 80, .inl u15_1)), (aR, .inl (cI, 3, .inl fR)), (aB, .inl (cI, 24, .inl fBr)), (aP, .inl (cI, 20, .inl fPa)), (aN, .inl (cI, 97, .inl fN)), (aE, .inl (cI, 10, .inl u15_2))]) hP hD hk1 hFc ht hB [0, 1, 2, 3, 4, 5, 6, 7, 8, 9, 10, 11, 12, 13] [(true, 0), (true, 1), (true, 2), (true, 3), (true, 4), (true, 5), (true, 6), (true, 7), (true, 8), (true, 9), (true, 10), (true, 11), (true, 12), (true, 13)] rfl (by decide +kernel) (by decide +kernel) rfl
        clear hP hD hS hPc hDc hFc hB hk1 hz1 hvm
        have hP := hP9
        have hD := hD9
        have hS := hS9
        clear hP9 hD9 hS9
        refine lv_aload_n hx hb dX11_chosen_18 rfl (lv_at hl 2 rfl) ?_
        refine lv_iload_n hx hb dX11_chosen_19 rfl (lv_at hl 1 rfl) ?_
        refine lv_iload_n hx hb dX11_chosen_20 rfl (lv_at hl 3 rfl) ?_
        obtain ⟨hPc, hDc, hFc⟩ := zc3 (wc := [(h0, .inr (11, [.int th, .ref tB, .int tsz, .int tat, .int wr, .int dp, .ref rC, .ref rV, .ref rD, .ref rK, .ref rT, .ref rS, .ref rU, .int lw, .int tx, .ref rL, .ref rX, .ref qR, .ref qB, .ref qP, .int qnb, .int qnp, .ref aR, .ref aB, .ref aP, .int nb, .int np, .ref aN, .ref rf, .int ho, .int br, .ref aK, .int ac, .long dw, .ref aE, .int sr, .int sf, .ref aA, .ref aH, .ref aI, .int hi])), (rC, .inl (cI, 2600, .inl fC)), (rV, .inl (cI, 2600, .inl fV)), (rK, .inl (cI, 5, .inl fK)), (rT, .inl (cI, 700, .inl fT)), (rS, .inl (cI, 700, .inl fS)), (rU, .inl (cI, 700, .inl fU)), (rL, .inl (cI, 6, .inl u15_0)), (rX, .inl (cI, 80, .inl u15_1)), (aR, .inl (cI, 3, .inl fR)), (aB, .inl (cI, 24, .inl fBr)), (aP, .inl (cI, 20, .inl fPa)), (aN, .inl (cI, 97, .inl fN)), (aE, .inl (cI, 10, .inl u15_2))]) hP hD hS hA [0, 1, 2, 3, 4, 5, 6, 7, 8, 9, 10, 11, 12, 13] (by decide +kernel) rfl
        refine va_calli (va_runV (As := [.int m4_L_2, .int p0]) (rest := [.int v15]) ⟨hx, hb, hml, hown, hts⟩ (g_X11_worthAs l dC dI cI cJ h0 m4_L_2 p0 th tB tsz tat wr dp rC rV rD rK rT rS rU lw tx rL rX qR qB qP qnb qnp aR aB aP nb np aN rf ho br aK ac dw aE sr sf aA aH aI hi fC fV fK fT fS fU u15_0 u15_1 fR fBr fPa fN u15_2 H.size y_ac y_hi y_ho y_lw (by omega) y_np jf4_0 y_qnb y_qnp y_tat y_tsz y_wr (hls) (by omega) ci_fBr_zBr_nb ci_fN_zNw_np ci_fPa_zBr_np) (cwV 2 hts (zgV qw1650 qw1652 qw87 qw108 qw1653) rfl rfl rfl hd_X11_worthAs ⟨by rw [hR]; exact Nat.le_of_ble_eq_true rfl, by rw [hR]; exact Nat.le_of_ble_eq_true rfl⟩) (zPV hPc hK hDc (va_recv (q := (RX11, TX11, 41)) hK hP (ci := 11) (q0 := 0) rfl rfl)) rfl rfl hl.1 rfl (lv_room (Nat.le_of_ble_eq_true rfl)) dX11_chosen_21 ⟨Nat.zero_le _, Nat.zero_le _⟩) hS (fun q _ h => hFc q h) hFc (fun v21 u21 t H locs ht hvm hw hB hz1 hk1 hS9 => ?_)
        obtain ⟨u21_0, u21_1, u21_2⟩ := u21
        obtain ⟨hP9, hD9⟩ := zj2 (wX := [(h0, .inr (11, [.int th, .ref tB, .int tsz, .int tat, .int wr, .int dp, .ref rC, .ref rV, .ref rD, .ref rK, .ref rT, .ref rS, .ref rU, .int lw, .int tx, .ref rL, .ref rX, .ref qR, .ref qB, .ref qP, .int qnb, .int qnp, .ref aR, .ref aB, .ref aP, .int nb, .int np, .ref aN, .ref rf, .int ho, .int br, .ref aK, .int ac, .long dw, .ref aE, .int sr, .int sf, .ref aA, .ref aH, .ref aI, .int hi])), (rC, .inl (cI, 2600, .inl fC)), (rV, .inl (cI, 2600, .inl fV)), (rK, .inl (cI, 5, .inl fK)), (rT, .inl (cI, 700, .inl fT)), (rS, .inl (cI, 700, .inl fS)), (rU, .inl (cI, 700, .inl fU)), (rL, .inl (cI, 6, .inl u21_0)), (rX, .inl (cI, 80, .inl u21_1)), (aR, .inl (cI, 3, .inl fR)), (aB, .inl (cI, 24, .inl fBr)), (aP, .inl (cI, 20, .inl fPa)), (aN, .inl (cI, 97, .inl fN)), (aE, .inl (cI, 10, .inl u21_2))]) hP hD hk1 hFc ht hB [0, 1, 2, 3, 4, 5, 6, 7, 8, 9, 10, 11, 12, 13] [(true, 0), (true, 1), (true, 2), (true, 3), (true, 4), (true, 5), (true, 6), (true, 7), (true, 8), (true, 9), (true, 10), (true, 11), (true, 12), (true, 13)] rfl (by decide +kernel) (by decide +kernel) rfl
        clear hP hD hS hPc hDc hFc hB hk1 hz1 hvm
        have hP := hP9
        have hD := hD9
        have hS := hS9
        clear hP9 hD9 hS9
        refine lv_icmp_le (tgt := 31) hx hb dX11_chosen_24 (by decide) (fun c24 => ?_) (fun c24 => ?_)
        · have c24 : v15.toInt ≤ v21.toInt := z3 rfl rfl c24
          refine lv_iload_n hx hb dX11_chosen_31 rfl (lv_at hl 1 rfl) ?_
          refine lv_istore_n (lv' := [(2, .int m4_L_2), (3, .int m4_L_3), (0, .ref h0), (1, .int p0)]) hx hb dX11_chosen_32 rfl hl (by decide) rfl (fun ls hl => ?_)
          obtain ⟨v33, e33⟩ : ∃ y : Int32, y = m4_L_3 + Int32.ofInt (1) := ⟨_, rfl⟩
          refine lv_iinc (v := v33) (lv' := [(3, .int v33), (2, .int m4_L_2), (0, .ref h0), (1, .int p0)]) hx hb dX11_chosen_33 hl (k := 1) rfl e33.symm (by decide) rfl (fun ls hl => ?_)
          have i33 : v33.toInt = m4_L_3.toInt + 1 := zaddI e33 (by decide) (by omega) (by omega)
          refine lv_goto (tgt := 4) hx hb dX11_chosen_36 (by decide) ?_
          exact ih4 _ (by omega) u21_2 u21_0 u21_1 m4_L_2 v33 jf4_0 (by omega) (by omega) rfl H locs ls hP hD hS (lv_sub hl [0, 1, 2, 3] rfl)
        · have c24 : v21.toInt < v15.toInt := z4 rfl rfl c24
          refine lv_iload_n hx hb dX11_chosen_27 rfl (lv_at hl 0 rfl) ?_
          refine lv_goto (tgt := 32) hx hb dX11_chosen_28 (by decide) ?_
          refine lv_istore_n (lv' := [(2, .int m4_L_3), (3, .int m4_L_3), (0, .ref h0), (1, .int p0)]) hx hb dX11_chosen_32 rfl hl (by decide) rfl (fun ls hl => ?_)
          obtain ⟨v33, e33⟩ : ∃ y : Int32, y = m4_L_3 + Int32.ofInt (1) := ⟨_, rfl⟩
          refine lv_iinc (v := v33) (lv' := [(3, .int v33), (2, .int m4_L_3), (0, .ref h0), (1, .int p0)]) hx hb dX11_chosen_33 hl (k := 1) rfl e33.symm (by decide) rfl (fun ls hl => ?_)
          have i33 : v33.toInt = m4_L_3.toInt + 1 := zaddI e33 (by decide) (by omega) (by omega)
          refine lv_goto (tgt := 4) hx hb dX11_chosen_36 (by decide) ?_
          exact ih4 _ (by omega) u21_2 u21_0 u21_1 m4_L_3 v33 (by omega) (by omega) (by omega) rfl H locs ls hP hD hS (lv_sub hl [0, 1, 2, 3] rfl)
  refine lv_istore_n (lv' := [(3, .int 1), (2, .int 0), (0, .ref h0), (1, .int p0)]) hx hb dX11_chosen_3 rfl hl (by decide) rfl (fun ls hl => ?_)
  have zj4_m4_L_2 : (0 : Int32).toInt = 0 := by decide
  have zj4_m4_L_3 : (1 : Int32).toInt = 1 := by decide
  exact J4 _ fE fL fX 0 1 (by decide) (by decide) (by omega) rfl H locs ls hP hD hS (lv_sub hl [0, 1, 2, 3] rfl)
set_option maxHeartbeats 4000000 in
set_option maxRecDepth 100000 in
theorem g_X11_chooses (l : Launch) (dC : Nat → ClassId) (dI : Nat → Nat → Nat) (cI cJ : ClassId) (h0 : Nat) (p0 : Int32) (th : Int32) (tB : Nat) (tsz : Int32) (tat : Int32) (wr : Int32) (dp : Int32) (rC : Nat) (rV : Nat) (rD : Nat) (rK : Nat) (rT : Nat) (rS : Nat) (rU : Nat) (lw : Int32) (tx : Int32) (rL : Nat) (rX : Nat) (qR : Nat) (qB : Nat) (qP : Nat) (qnb : Int32) (qnp : Int32) (aR : Nat) (aB : Nat) (aP : Nat) (nb : Int32) (np : Int32) (aN : Nat) (rf : Nat) (ho : Int32) (br : Int32) (aK : Nat) (ac : Int32) (dw : Int64) (aE : Nat) (sr : Int32) (sf : Int32) (aA : Nat) (aH : Nat) (aI : Nat) (hi : Int32) (fC : Nat → Int32) (fV : Nat → Int32) (fK : Nat → Int32) (fT : Nat → Int32) (fS : Nat → Int32) (fU : Nat → Int32) (fL : Nat → Int32) (fX : Nat → Int32) (fR : Nat → Int32) (fBr : Nat → Int32) (fPa : Nat → Int32) (fN : Nat → Int32) (fE : Nat → Int32) (sz : Nat) (n_ac : 0 ≤ ac.toInt ∧ ac.toInt ≤ 40) (n_hi : 0 ≤ hi.toInt ∧ hi.toInt ≤ 1) (n_ho : (-1) ≤ ho.toInt ∧ ho.toInt ≤ 3) (n_lw : 0 ≤ lw.toInt ∧ lw.toInt ≤ 4) (n_nb : 0 ≤ nb.toInt ∧ nb.toInt ≤ 6) (n_np : 0 ≤ np.toInt ∧ np.toInt ≤ 5) (n_qnb : 0 ≤ qnb.toInt ∧ qnb.toInt ≤ 6) (n_qnp : 0 ≤ qnp.toInt ∧ qnp.toInt ≤ 5) (n_tat : 0 ≤ tat.toInt ∧ tat.toInt ≤ 260) (n_tsz : 0 ≤ tsz.toInt ∧ tsz.toInt ≤ 240) (n_wr : (-1) ≤ wr.toInt ∧ wr.toInt ≤ 260) (hls : zLs ho fC fV fK fT fS fU) (ci_fBr_zBr_nb : zBr nb fBr) (ci_fN_zNw_np : zNw np fN) (ci_fPa_zBr_np : zBr np fPa)  : Met l yX11_chooses (.code yX11_chooses cX11_chooses 2 (some .int) :: wA) ({ frames := 12, cells := 0, slots := 0, locals := 290 }) (zP (dC, dI) [(cI, .int), (cJ, .long)] [.ref h0, .int p0] sz [(h0, .inr (11, [.int th, .ref tB, .int tsz, .int tat, .int wr, .int dp, .ref rC, .ref rV, .ref rD, .ref rK, .ref rT, .ref rS, .ref rU, .int lw, .int tx, .ref rL, .ref rX, .ref qR, .ref qB, .ref qP, .int qnb, .int qnp, .ref aR, .ref aB, .ref aP, .int nb, .int np, .ref aN, .ref rf, .int ho, .int br, .ref aK, .int ac, .long dw, .ref aE, .int sr, .int sf, .ref aA, .ref aH, .ref aI, .int hi])), (rC, .inl (cI, 2600, .inl fC)), (rV, .inl (cI, 2600, .inl fV)), (rK, .inl (cI, 5, .inl fK)), (rT, .inl (cI, 700, .inl fT)), (rS, .inl (cI, 700, .inl fS)), (rU, .inl (cI, 700, .inl fU)), (rL, .inl (cI, 6, .inl fL)), (rX, .inl (cI, 80, .inl fX)), (aR, .inl (cI, 3, .inl fR)), (aB, .inl (cI, 24, .inl fBr)), (aP, .inl (cI, 20, .inl fPa)), (aN, .inl (cI, 97, .inl fN)), (aE, .inl (cI, 10, .inl fE))]) (va_Qi (fun (r : Int32) (u : (Nat → Int32) × (Nat → Int32) × (Nat → Int32)) => True) (fun (u : (Nat → Int32) × (Nat → Int32) × (Nat → Int32)) (t : State) => va_P (dC, dI) vwCl [(h0, .inr (11, [.int th, .ref tB, .int tsz, .int tat, .int wr, .int dp, .ref rC, .ref rV, .ref rD, .ref rK, .ref rT, .ref rS, .ref rU, .int lw, .int tx, .ref rL, .ref rX, .ref qR, .ref qB, .ref qP, .int qnb, .int qnp, .ref aR, .ref aB, .ref aP, .int nb, .int np, .ref aN, .ref rf, .int ho, .int br, .ref aK, .int ac, .long dw, .ref aE, .int sr, .int sf, .ref aA, .ref aH, .ref aI, .int hi])), (rC, .inl (cI, 2600, .inl fC)), (rV, .inl (cI, 2600, .inl fV)), (rK, .inl (cI, 5, .inl fK)), (rT, .inl (cI, 700, .inl fT)), (rS, .inl (cI, 700, .inl fS)), (rU, .inl (cI, 700, .inl fU)), (rL, .inl (cI, 6, .inl u.1)), (rX, .inl (cI, 80, .inl u.2.1)), (aR, .inl (cI, 3, .inl fR)), (aB, .inl (cI, 24, .inl fBr)), (aP, .inl (cI, 20, .inl fPa)), (aN, .inl (cI, 97, .inl fN)), (aE, .inl (cI, 10, .inl u.2.2))] t.heap ∧ va_D (va_A [(h0, .inr (11, [.int th, .ref tB, .int tsz, .int tat, .int wr, .int dp, .ref rC, .ref rV, .ref rD, .ref rK, .ref rT, .ref rS, .ref rU, .int lw, .int tx, .ref rL, .ref rX, .ref qR, .ref qB, .ref qP, .int qnb, .int qnp, .ref aR, .ref aB, .ref aP, .int nb, .int np, .ref aN, .ref rf, .int ho, .int br, .ref aK, .int ac, .long dw, .ref aE, .int sr, .int sf, .ref aA, .ref aH, .ref aI, .int hi])), (rC, .inl (cI, 2600, .inl fC)), (rV, .inl (cI, 2600, .inl fV)), (rK, .inl (cI, 5, .inl fK)), (rT, .inl (cI, 700, .inl fT)), (rS, .inl (cI, 700, .inl fS)), (rU, .inl (cI, 700, .inl fU)), (rL, .inl (cI, 6, .inl fL)), (rX, .inl (cI, 80, .inl fX)), (aR, .inl (cI, 3, .inl fR)), (aB, .inl (cI, 24, .inl fBr)), (aP, .inl (cI, 20, .inl fPa)), (aN, .inl (cI, 97, .inl fN)), (aE, .inl (cI, 10, .inl fE))] sz) [(h0, .inr (11, [.int th, .ref tB, .int tsz, .int tat, .int wr, .int dp, .ref rC, .ref rV, .ref rD, .ref rK, .ref rT, .ref rS, .ref rU, .int lw, .int tx, .ref rL, .ref rX, .ref qR, .ref qB, .ref qP, .int qnb, .int qnp, .ref aR, .ref aB, .ref aP, .int nb, .int np, .ref aN, .ref rf, .int ho, .int br, .ref aK, .int ac, .long dw, .ref aE, .int sr, .int sf, .ref aA, .ref aH, .ref aI, .int hi])), (rC, .inl (cI, 2600, .inl fC)), (rV, .inl (cI, 2600, .inl fV)), (rK, .inl (cI, 5, .inl fK)), (rT, .inl (cI, 700, .inl fT)), (rS, .inl (cI, 700, .inl fS)), (rU, .inl (cI, 700, .inl fU)), (rL, .inl (cI, 6, .inl u.1)), (rX, .inl (cI, 80, .inl u.2.1)), (aR, .inl (cI, 3, .inl fR)), (aB, .inl (cI, 24, .inl fBr)), (aP, .inl (cI, 20, .inl fPa)), (aN, .inl (cI, 97, .inl fN)), (aE, .inl (cI, 10, .inl u.2.2))]) (va_A [(h0, .inr (11, [.int th, .ref tB, .int tsz, .int tat, .int wr, .int dp, .ref rC, .ref rV, .ref rD, .ref rK, .ref rT, .ref rS, .ref rU, .int lw, .int tx, .ref rL, .ref rX, .ref qR, .ref qB, .ref qP, .int qnb, .int qnp, .ref aR, .ref aB, .ref aP, .int nb, .int np, .ref aN, .ref rf, .int ho, .int br, .ref aK, .int ac, .long dw, .ref aE, .int sr, .int sf, .ref aA, .ref aH, .ref aI, .int hi])), (rC, .inl (cI, 2600, .inl fC)), (rV, .inl (cI, 2600, .inl fV)), (rK, .inl (cI, 5, .inl fK)), (rT, .inl (cI, 700, .inl fT)), (rS, .inl (cI, 700, .inl fS)), (rU, .inl (cI, 700, .inl fU)), (rL, .inl (cI, 6, .inl fL)), (rX, .inl (cI, 80, .inl fX)), (aR, .inl (cI, 3, .inl fR)), (aB, .inl (cI, 24, .inl fBr)), (aP, .inl (cI, 20, .inl fPa)), (aN, .inl (cI, 97, .inl fN)), (aE, .inl (cI, 10, .inl fE))] sz)) 0 0 (va_A [(h0, .inr (11, [.int th, .ref tB, .int tsz, .int tat, .int wr, .int dp, .ref rC, .ref rV, .ref rD, .ref rK, .ref rT, .ref rS, .ref rU, .int lw, .int tx, .ref rL, .ref rX, .ref qR, .ref qB, .ref qP, .int qnb, .int qnp, .ref aR, .ref aB, .ref aP, .int nb, .int np, .ref aN, .ref rf, .int ho, .int br, .ref aK, .int ac, .long dw, .ref aE, .int sr, .int sf, .ref aA, .ref aH, .ref aI, .int hi])), (rC, .inl (cI, 2600, .inl fC)), (rV, .inl (cI, 2600, .inl fV)), (rK, .inl (cI, 5, .inl fK)), (rT, .inl (cI, 700, .inl fT)), (rS, .inl (cI, 700, .inl fS)), (rU, .inl (cI, 700, .inl fU)), (rL, .inl (cI, 6, .inl fL)), (rX, .inl (cI, 80, .inl fX)), (aR, .inl (cI, 3, .inl fR)), (aB, .inl (cI, 24, .inl fBr)), (aP, .inl (cI, 20, .inl fPa)), (aN, .inl (cI, 97, .inl fN)), (aE, .inl (cI, 10, .inl fE))] sz) := by
  refine Met.ofW (cc := cX11_chooses) (maxL := 2) (ret := (some .int)) (by decide) rfl ?_
  intro p e s m args below meth c s₁ B hml hv
  have y_ac : zHid (0 ≤ ac.toInt ∧ ac.toInt ≤ 40) := n_ac
  have y_hi : zHid (0 ≤ hi.toInt ∧ hi.toInt ≤ 1) := n_hi
  have y_ho : zHid ((-1) ≤ ho.toInt ∧ ho.toInt ≤ 3) := n_ho
  have y_lw : zHid (0 ≤ lw.toInt ∧ lw.toInt ≤ 4) := n_lw
  have y_np : zHid (0 ≤ np.toInt ∧ np.toInt ≤ 5) := n_np
  have y_qnb : zHid (0 ≤ qnb.toInt ∧ qnb.toInt ≤ 6) := n_qnb
  have y_qnp : zHid (0 ≤ qnp.toInt ∧ qnp.toInt ≤ 5) := n_qnp
  have y_tat : zHid (0 ≤ tat.toInt ∧ tat.toInt ≤ 260) := n_tat
  have y_tsz : zHid (0 ≤ tsz.toInt ∧ tsz.toInt ≤ 240) := n_tsz
  have y_wr : zHid ((-1) ≤ wr.toInt ∧ wr.toInt ≤ 260) := n_wr
  clear n_ac n_hi n_ho n_lw n_np n_qnb n_qnp n_tat n_tsz n_wr
  obtain ⟨hargs, hsz, hP, hK, hT⟩ := hv
  have hx := B.exec
  have hb := B.bytes
  have hr := B.returns
  have hts : ∀ w ∈ wA, w.before args s = true := fun w h => atoms_spec (ws := .code yX11_chooses cX11_chooses 2 (some .int) :: wA) B.pre w (List.mem_cons_of_mem _ h)
  have hown : s.vm.findClass RX11 = some m.cls := findClass_of_methodNamed B.named
  have hlocks := B.notSynchronized
  subst hsz
  have hD := hT.self (sz := s.heap.size)
  generalize hAe : va_A [(h0, .inr (11, [.int th, .ref tB, .int tsz, .int tat, .int wr, .int dp, .ref rC, .ref rV, .ref rD, .ref rK, .ref rT, .ref rS, .ref rU, .int lw, .int tx, .ref rL, .ref rX, .ref qR, .ref qB, .ref qP, .int qnb, .int qnp, .ref aR, .ref aB, .ref aP, .int nb, .int np, .ref aN, .ref rf, .int ho, .int br, .ref aK, .int ac, .long dw, .ref aE, .int sr, .int sf, .ref aA, .ref aH, .ref aI, .int hi])), (rC, .inl (cI, 2600, .inl fC)), (rV, .inl (cI, 2600, .inl fV)), (rK, .inl (cI, 5, .inl fK)), (rT, .inl (cI, 700, .inl fT)), (rS, .inl (cI, 700, .inl fS)), (rU, .inl (cI, 700, .inl fU)), (rL, .inl (cI, 6, .inl fL)), (rX, .inl (cI, 80, .inl fX)), (aR, .inl (cI, 3, .inl fR)), (aB, .inl (cI, 24, .inl fBr)), (aP, .inl (cI, 20, .inl fPa)), (aN, .inl (cI, 97, .inl fN)), (aE, .inl (cI, 10, .inl fE))] s.heap.size = A at hD ⊢
  have hA : ∀ q : Nat, s.heap.size ≤ q → A q := fun q h => by rw [← hAe]; exact Or.inr h
  have hl := lv_entry ([.ref h0, .int p0]) (n := 2) (Nat.le_of_ble_eq_true rfl)
  rw [show entryFrame m args 2 = entryFrame m ([.ref h0, .int p0] : List Value).toArray 2 by rw [hargs], lg_entry_eq]
  generalize (lg_sl ([.ref h0, .int p0]) ++ List.replicate (2 - (lg_sl ([.ref h0, .int p0])).length) Slot.unset).toArray = ls at hl ⊢
  have hl : lv_has ls 2 [(0, .ref h0), (1, .int p0)] := hl
  refine zstart (fun H hH => ?_)
  rw [← hH] at hP
  have hS : va_S A s.heap H [] := by rw [hH]; exact va_S.rf
  generalize ([] : List Loc) = locs at hS ⊢
  refine zgen (fun R Q hR hQ => ?_)
  refine lv_aload_n hx hb dX11_chooses_0 rfl (lv_at hl 0 rfl) ?_
  refine va_get (D := (dC, dI)) (ci := 11) (v := .int nb) (C := RX11) (T := TX11) (N := 41) hx hb hts iX11 hown hK hP 0 rfl rfl 25 (by decide) (hts _ qw1152) (fun _ h9 => h9) rfl dX11_chooses_1 ?_
  have J16 : ∀ (H : Heap) (locs : List Loc) (ls : Array Slot), va_P (dC, dI) vwCl [(h0, .inr (11, [.int th, .ref tB, .int tsz, .int tat, .int wr, .int dp, .ref rC, .ref rV, .ref rD, .ref rK, .ref rT, .ref rS, .ref rU, .int lw, .int tx, .ref rL, .ref rX, .ref qR, .ref qB, .ref qP, .int qnb, .int qnp, .ref aR, .ref aB, .ref aP, .int nb, .int np, .ref aN, .ref rf, .int ho, .int br, .ref aK, .int ac, .long dw, .ref aE, .int sr, .int sf, .ref aA, .ref aH, .ref aI, .int hi])), (rC, .inl (cI, 2600, .inl fC)), (rV, .inl (cI, 2600, .inl fV)), (rK, .inl (cI, 5, .inl fK)), (rT, .inl (cI, 700, .inl fT)), (rS, .inl (cI, 700, .inl fS)), (rU, .inl (cI, 700, .inl fU)), (rL, .inl (cI, 6, .inl fL)), (rX, .inl (cI, 80, .inl fX)), (aR, .inl (cI, 3, .inl fR)), (aB, .inl (cI, 24, .inl fBr)), (aP, .inl (cI, 20, .inl fPa)), (aN, .inl (cI, 97, .inl fN)), (aE, .inl (cI, 10, .inl fE))] H → va_D A [(h0, .inr (11, [.int th, .ref tB, .int tsz, .int tat, .int wr, .int dp, .ref rC, .ref rV, .ref rD, .ref rK, .ref rT, .ref rS, .ref rU, .int lw, .int tx, .ref rL, .ref rX, .ref qR, .ref qB, .ref qP, .int qnb, .int qnp, .ref aR, .ref aB, .ref aP, .int nb, .int np, .ref aN, .ref rf, .int ho, .int br, .ref aK, .int ac, .long dw, .ref aE, .int sr, .int sf, .ref aA, .ref aH, .ref aI, .int hi])), (rC, .inl (cI, 2600, .inl fC)), (rV, .inl (cI, 2600, .inl fV)), (rK, .inl (cI, 5, .inl fK)), (rT, .inl (cI, 700, .inl fT)), (rS, .inl (cI, 700, .inl fS)), (rU, .inl (cI, 700, .inl fU)), (rL, .inl (cI, 6, .inl fL)), (rX, .inl (cI, 80, .inl fX)), (aR, .inl (cI, 3, .inl fR)), (aB, .inl (cI, 24, .inl fBr)), (aP, .inl (cI, 20, .inl fPa)), (aN, .inl (cI, 97, .inl fN)), (aE, .inl (cI, 10, .inl fE))] → va_S A s.heap H locs → lv_has ls 2 [(0, .ref h0), (1, .int p0)] → W p l e R s m args below meth c H locs 0 0 Q (F0 m 16 ls []) := by
    intro   H locs ls hP hD hS hl
    refine lv_iconst (v := (-1)) hx hb dX11_chooses_16 (by decide) ?_
    have zr0 : ((-1) : Int32).toInt = (-1) := by decide
    rw [hQ]
    exact W.iret (v := ((-1))) hx hb hr (fun t ht hW => ⟨⟨(-1), (fL, fX, fE), rfl, trivial, ⟨by rw [ht]; exact hP, hD⟩⟩, hS.F ht⟩) hS.2.2 dX11_chooses_17
  refine lv_if_eq (tgt := 16) hx hb dX11_chooses_4 (by decide) (fun c4 => ?_) (fun c4 => ?_)
  · have c4 : nb.toInt = 0 := z5 rfl (by decide) c4
    exact J16   H locs ls hP hD hS (lv_sub hl [0, 1] rfl)
  · have c4 : ¬ nb.toInt = 0 := z6 rfl (by decide) c4
    refine lv_iload_n hx hb dX11_chooses_7 rfl (lv_at hl 1 rfl) ?_
    refine lv_iconst (v := 0) hx hb dX11_chooses_8 (by decide) ?_
    refine lv_iconst (v := 3) hx hb dX11_chooses_9 (by decide) ?_
    have hPc : va_P (dC, dI) vwCl [] H := zP0
    have hDc : va_D (fun _ => True) [] := zD0
    have hFc := zfr hS hA
    refine va_calli (va_runS (As := [.int p0, .int 0, .int 3]) (rest := []) ⟨hx, hb, hml, hown, hts⟩ (g_X11_in l dC dI cI cJ p0 0 3 H.size) (cwS 3 hts (zgS qw1305 qw1306 qw108 qw1307) rfl rfl rfl hd_X11_in ⟨by rw [hR]; exact Nat.le_of_ble_eq_true rfl, by rw [hR]; exact Nat.le_of_ble_eq_true rfl⟩) (zPS hPc hK hDc) rfl rfl hl.1 rfl (lv_room (Nat.le_of_ble_eq_true rfl)) dX11_chooses_10 ⟨Nat.zero_le _, Nat.zero_le _⟩) hS (fun q _ h => hFc q h) hFc (fun v10 u10 t H locs ht hvm hw hB hz1 hk1 hS9 => ?_)
    replace hP := zkeep hP hk1
    replace hS := hS9
    clear hPc hDc hFc hk1 hz1 hvm hS9
    have zn10_0 : (0 : Int32).toInt = 0 := by decide
    have zn10_3 : (3 : Int32).toInt = 3 := by decide
    obtain ⟨f10_0, f10_1, f10_2, f10_3⟩ : (0 ≤ v10.toInt) ∧ (v10.toInt ≤ 1) ∧ (¬ v10.toInt = 0 → ((0 : Int32).toInt ≤ p0.toInt ∧ p0.toInt ≤ (3 : Int32).toInt)) ∧ (v10.toInt = 0 → (p0.toInt < (0 : Int32).toInt ∨ (3 : Int32).toInt < p0.toInt)) := hw
    refine lv_if_ne (tgt := 18) hx hb dX11_chooses_13 (by decide) (fun c13 => ?_) (fun c13 => ?_)
    · have c13 : ¬ v10.toInt = 0 := z6 rfl (by decide) c13
      refine lv_iload_n hx hb dX11_chooses_18 rfl (lv_at hl 1 rfl) ?_
      refine lv_iconst (v := 3) hx hb dX11_chooses_19 (by decide) ?_
      have J52 : ∀ (m52_A_aE : Nat → Int32) (m52_A_rL : Nat → Int32) (m52_A_rX : Nat → Int32) (m52_S_0 : Int32), ∀ (H : Heap) (locs : List Loc) (ls : Array Slot), va_P (dC, dI) vwCl [(h0, .inr (11, [.int th, .ref tB, .int tsz, .int tat, .int wr, .int dp, .ref rC, .ref rV, .ref rD, .ref rK, .ref rT, .ref rS, .ref rU, .int lw, .int tx, .ref rL, .ref rX, .ref qR, .ref qB, .ref qP, .int qnb, .int qnp, .ref aR, .ref aB, .ref aP, .int nb, .int np, .ref aN, .ref rf, .int ho, .int br, .ref aK, .int ac, .long dw, .ref aE, .int sr, .int sf, .ref aA, .ref aH, .ref aI, .int hi])), (rC, .inl (cI, 2600, .inl fC)), (rV, .inl (cI, 2600, .inl fV)), (rK, .inl (cI, 5, .inl fK)), (rT, .inl (cI, 700, .inl fT)), (rS, .inl (cI, 700, .inl fS)), (rU, .inl (cI, 700, .inl fU)), (rL, .inl (cI, 6, .inl m52_A_rL)), (rX, .inl (cI, 80, .inl m52_A_rX)), (aR, .inl (cI, 3, .inl fR)), (aB, .inl (cI, 24, .inl fBr)), (aP, .inl (cI, 20, .inl fPa)), (aN, .inl (cI, 97, .inl fN)), (aE, .inl (cI, 10, .inl m52_A_aE))] H → va_D A [(h0, .inr (11, [.int th, .ref tB, .int tsz, .int tat, .int wr, .int dp, .ref rC, .ref rV, .ref rD, .ref rK, .ref rT, .ref rS, .ref rU, .int lw, .int tx, .ref rL, .ref rX, .ref qR, .ref qB, .ref qP, .int qnb, .int qnp, .ref aR, .ref aB, .ref aP, .int nb, .int np, .ref aN, .ref rf, .int ho, .int br, .ref aK, .int ac, .long dw, .ref aE, .int sr, .int sf, .ref aA, .ref aH, .ref aI, .int hi])), (rC, .inl (cI, 2600, .inl fC)), (rV, .inl (cI, 2600, .inl fV)), (rK, .inl (cI, 5, .inl fK)), (rT, .inl (cI, 700, .inl fT)), (rS, .inl (cI, 700, .inl fS)), (rU, .inl (cI, 700, .inl fU)), (rL, .inl (cI, 6, .inl m52_A_rL)), (rX, .inl (cI, 80, .inl m52_A_rX)), (aR, .inl (cI, 3, .inl fR)), (aB, .inl (cI, 24, .inl fBr)), (aP, .inl (cI, 20, .inl fPa)), (aN, .inl (cI, 97, .inl fN)), (aE, .inl (cI, 10, .inl m52_A_aE))] → va_S A s.heap H locs → lv_has ls 2 [(0, .ref h0), (1, .int p0)] → W p l e R s m args below meth c H locs 0 0 Q (F0 m 52 ls [.int m52_S_0]) := by
        intro m52_A_aE m52_A_rL m52_A_rX m52_S_0  H locs ls hP hD hS hl
        rw [hQ]
        exact W.iret (v := m52_S_0) hx hb hr (fun t ht hW => ⟨⟨m52_S_0, (m52_A_rL, m52_A_rX, m52_A_aE), rfl, trivial, ⟨by rw [ht]; exact hP, hD⟩⟩, hS.F ht⟩) hS.2.2 dX11_chooses_52
      refine lv_icmp_ge (tgt := 31) hx hb dX11_chooses_20 (by decide) (fun c20 => ?_) (fun c20 => ?_)
      · have c20 : 3 ≤ p0.toInt := z3 (by decide) rfl c20
        refine lv_aload_n hx hb dX11_chooses_31 rfl (lv_at hl 0 rfl) ?_
        refine lv_aload_n hx hb dX11_chooses_32 rfl (lv_at hl 0 rfl) ?_
        refine lv_iconst (v := 1) hx hb dX11_chooses_33 (by decide) ?_
        obtain ⟨hPc, hDc, hFc⟩ := zc3 (wc := [(h0, .inr (11, [.int th, .ref tB, .int tsz, .int tat, .int wr, .int dp, .ref rC, .ref rV, .ref rD, .ref rK, .ref rT, .ref rS, .ref rU, .int lw, .int tx, .ref rL, .ref rX, .ref qR, .ref qB, .ref qP, .int qnb, .int qnp, .ref aR, .ref aB, .ref aP, .int nb, .int np, .ref aN, .ref rf, .int ho, .int br, .ref aK, .int ac, .long dw, .ref aE, .int sr, .int sf, .ref aA, .ref aH, .ref aI, .int hi])), (rC, .inl (cI, 2600, .inl fC)), (rV, .inl (cI, 2600, .inl fV)), (rK, .inl (cI, 5, .inl fK)), (rT, .inl (cI, 700, .inl fT)), (rS, .inl (cI, 700, .inl fS)), (rU, .inl (cI, 700, .inl fU)), (rL, .inl (cI, 6, .inl fL)), (rX, .inl (cI, 80, .inl fX)), (aR, .inl (cI, 3, .inl fR)), (aB, .inl (cI, 24, .inl fBr)), (aP, .inl (cI, 20, .inl fPa)), (aN, .inl (cI, 97, .inl fN)), (aE, .inl (cI, 10, .inl fE))]) hP hD hS hA [0, 1, 2, 3, 4, 5, 6, 7, 8, 9, 10, 11, 12, 13] (by decide +kernel) rfl
        refine va_calli (va_runV (As := [.int 1]) (rest := [.ref h0]) ⟨hx, hb, hml, hown, hts⟩ (g_X11_chosen l dC dI cI cJ h0 1 th tB tsz tat wr dp rC rV rD rK rT rS rU lw tx rL rX qR qB qP qnb qnp aR aB aP nb np aN rf ho br aK ac dw aE sr sf aA aH aI hi fC fV fK fT fS fU fL fX fR fBr fPa fN fE H.size y_ac y_hi y_ho y_lw (by omega) y_np y_qnb y_qnp y_tat y_tsz y_wr (hls) ci_fBr_zBr_nb ci_fN_zNw_np ci_fPa_zBr_np) (cwV 1 hts (zgV qw1646 qw1648 qw86 qw108 qw1649) rfl rfl rfl hd_X11_chosen ⟨by rw [hR]; exact Nat.le_of_ble_eq_true rfl, by rw [hR]; exact Nat.le_of_ble_eq_true rfl⟩) (zPV hPc hK hDc (va_recv (q := (RX11, TX11, 41)) hK hP (ci := 11) (q0 := 0) rfl rfl)) rfl rfl hl.1 rfl (lv_room (Nat.le_of_ble_eq_true rfl)) dX11_chooses_34 ⟨Nat.zero_le _, Nat.zero_le _⟩) hS (fun q _ h => hFc q h) hFc (fun v34 u34 t H locs ht hvm hw hB hz1 hk1 hS9 => ?_)
        obtain ⟨u34_0, u34_1, u34_2⟩ := u34
        obtain ⟨hP9, hD9⟩ := zj2 (wX := [(h0, .inr (11, [.int th, .ref tB, .int tsz, .int tat, .int wr, .int dp, .ref rC, .ref rV, .ref rD, .ref rK, .ref rT, .ref rS, .ref rU, .int lw, .int tx, .ref rL, .ref rX, .ref qR, .ref qB, .ref qP, .int qnb, .int qnp, .ref aR, .ref aB, .ref aP, .int nb, .int np, .ref aN, .ref rf, .int ho, .int br, .ref aK, .int ac, .long dw, .ref aE, .int sr, .int sf, .ref aA, .ref aH, .ref aI, .int hi])), (rC, .inl (cI, 2600, .inl fC)), (rV, .inl (cI, 2600, .inl fV)), (rK, .inl (cI, 5, .inl fK)), (rT, .inl (cI, 700, .inl fT)), (rS, .inl (cI, 700, .inl fS)), (rU, .inl (cI, 700, .inl fU)), (rL, .inl (cI, 6, .inl u34_0)), (rX, .inl (cI, 80, .inl u34_1)), (aR, .inl (cI, 3, .inl fR)), (aB, .inl (cI, 24, .inl fBr)), (aP, .inl (cI, 20, .inl fPa)), (aN, .inl (cI, 97, .inl fN)), (aE, .inl (cI, 10, .inl u34_2))]) hP hD hk1 hFc ht hB [0, 1, 2, 3, 4, 5, 6, 7, 8, 9, 10, 11, 12, 13] [(true, 0), (true, 1), (true, 2), (true, 3), (true, 4), (true, 5), (true, 6), (true, 7), (true, 8), (true, 9), (true, 10), (true, 11), (true, 12), (true, 13)] rfl (by decide +kernel) (by decide +kernel) rfl
        clear hP hD hS hPc hDc hFc hB hk1 hz1 hvm
        have hP := hP9
        have hD := hD9
        have hS := hS9
        clear hP9 hD9 hS9
        obtain ⟨f34_0, f34_1, f34_2⟩ : (0 ≤ v34.toInt) ∧ (v34.toInt ≤ 5) ∧ (v34.toInt < nb.toInt) := hw
        refine lv_iconst (v := 1) hx hb dX11_chooses_37 (by decide) ?_
        obtain ⟨hPc, hDc, hFc⟩ := zc3 (wc := [(h0, .inr (11, [.int th, .ref tB, .int tsz, .int tat, .int wr, .int dp, .ref rC, .ref rV, .ref rD, .ref rK, .ref rT, .ref rS, .ref rU, .int lw, .int tx, .ref rL, .ref rX, .ref qR, .ref qB, .ref qP, .int qnb, .int qnp, .ref aR, .ref aB, .ref aP, .int nb, .int np, .ref aN, .ref rf, .int ho, .int br, .ref aK, .int ac, .long dw, .ref aE, .int sr, .int sf, .ref aA, .ref aH, .ref aI, .int hi])), (rC, .inl (cI, 2600, .inl fC)), (rV, .inl (cI, 2600, .inl fV)), (rK, .inl (cI, 5, .inl fK)), (rT, .inl (cI, 700, .inl fT)), (rS, .inl (cI, 700, .inl fS)), (rU, .inl (cI, 700, .inl fU)), (rL, .inl (cI, 6, .inl u34_0)), (rX, .inl (cI, 80, .inl u34_1)), (aR, .inl (cI, 3, .inl fR)), (aB, .inl (cI, 24, .inl fBr)), (aP, .inl (cI, 20, .inl fPa)), (aN, .inl (cI, 97, .inl fN)), (aE, .inl (cI, 10, .inl u34_2))]) hP hD hS hA [0, 1, 2, 3, 4, 5, 6, 7, 8, 9, 10, 11, 12, 13] (by decide +kernel) rfl
        refine va_calli (va_runV (As := [.int v34, .int 1]) (rest := []) ⟨hx, hb, hml, hown, hts⟩ (g_X11_worthAs l dC dI cI cJ h0 v34 1 th tB tsz tat wr dp rC rV rD rK rT rS rU lw tx rL rX qR qB qP qnb qnp aR aB aP nb np aN rf ho br aK ac dw aE sr sf aA aH aI hi fC fV fK fT fS fU u34_0 u34_1 fR fBr fPa fN u34_2 H.size y_ac y_hi y_ho y_lw n_nb y_np ⟨f34_0, f34_1⟩ y_qnb y_qnp y_tat y_tsz y_wr (hls) (by omega) ci_fBr_zBr_nb ci_fN_zNw_np ci_fPa_zBr_np) (cwV 2 hts (zgV qw1650 qw1652 qw87 qw108 qw1653) rfl rfl rfl hd_X11_worthAs ⟨by rw [hR]; exact Nat.le_of_ble_eq_true rfl, by rw [hR]; exact Nat.le_of_ble_eq_true rfl⟩) (zPV hPc hK hDc (va_recv (q := (RX11, TX11, 41)) hK hP (ci := 11) (q0 := 0) rfl rfl)) rfl rfl hl.1 rfl (lv_room (Nat.le_of_ble_eq_true rfl)) dX11_chooses_38 ⟨Nat.zero_le _, Nat.zero_le _⟩) hS (fun q _ h => hFc q h) hFc (fun v38 u38 t H locs ht hvm hw hB hz1 hk1 hS9 => ?_)
        obtain ⟨u38_0, u38_1, u38_2⟩ := u38
        obtain ⟨hP9, hD9⟩ := zj2 (wX := [(h0, .inr (11, [.int th, .ref tB, .int tsz, .int tat, .int wr, .int dp, .ref rC, .ref rV, .ref rD, .ref rK, .ref rT, .ref rS, .ref rU, .int lw, .int tx, .ref rL, .ref rX, .ref qR, .ref qB, .ref qP, .int qnb, .int qnp, .ref aR, .ref aB, .ref aP, .int nb, .int np, .ref aN, .ref rf, .int ho, .int br, .ref aK, .int ac, .long dw, .ref aE, .int sr, .int sf, .ref aA, .ref aH, .ref aI, .int hi])), (rC, .inl (cI, 2600, .inl fC)), (rV, .inl (cI, 2600, .inl fV)), (rK, .inl (cI, 5, .inl fK)), (rT, .inl (cI, 700, .inl fT)), (rS, .inl (cI, 700, .inl fS)), (rU, .inl (cI, 700, .inl fU)), (rL, .inl (cI, 6, .inl u38_0)), (rX, .inl (cI, 80, .inl u38_1)), (aR, .inl (cI, 3, .inl fR)), (aB, .inl (cI, 24, .inl fBr)), (aP, .inl (cI, 20, .inl fPa)), (aN, .inl (cI, 97, .inl fN)), (aE, .inl (cI, 10, .inl u38_2))]) hP hD hk1 hFc ht hB [0, 1, 2, 3, 4, 5, 6, 7, 8, 9, 10, 11, 12, 13] [(true, 0), (true, 1), (true, 2), (true, 3), (true, 4), (true, 5), (true, 6), (true, 7), (true, 8), (true, 9), (true, 10), (true, 11), (true, 12), (true, 13)] rfl (by decide +kernel) (by decide +kernel) rfl
        clear hP hD hS hPc hDc hFc hB hk1 hz1 hvm
        have hP := hP9
        have hD := hD9
        have hS := hS9
        clear hP9 hD9 hS9
        refine lv_aload_n hx hb dX11_chooses_41 rfl (lv_at hl 0 rfl) ?_
        refine lv_aload_n hx hb dX11_chooses_42 rfl (lv_at hl 0 rfl) ?_
        refine lv_iconst (v := 0) hx hb dX11_chooses_43 (by decide) ?_
        obtain ⟨hPc, hDc, hFc⟩ := zc3 (wc := [(h0, .inr (11, [.int th, .ref tB, .int tsz, .int tat, .int wr, .int dp, .ref rC, .ref rV, .ref rD, .ref rK, .ref rT, .ref rS, .ref rU, .int lw, .int tx, .ref rL, .ref rX, .ref qR, .ref qB, .ref qP, .int qnb, .int qnp, .ref aR, .ref aB, .ref aP, .int nb, .int np, .ref aN, .ref rf, .int ho, .int br, .ref aK, .int ac, .long dw, .ref aE, .int sr, .int sf, .ref aA, .ref aH, .ref aI, .int hi])), (rC, .inl (cI, 2600, .inl fC)), (rV, .inl (cI, 2600, .inl fV)), (rK, .inl (cI, 5, .inl fK)), (rT, .inl (cI, 700, .inl fT)), (rS, .inl (cI, 700, .inl fS)), (rU, .inl (cI, 700, .inl fU)), (rL, .inl (cI, 6, .inl u38_0)), (rX, .inl (cI, 80, .inl u38_1)), (aR, .inl (cI, 3, .inl fR)), (aB, .inl (cI, 24, .inl fBr)), (aP, .inl (cI, 20, .inl fPa)), (aN, .inl (cI, 97, .inl fN)), (aE, .inl (cI, 10, .inl u38_2))]) hP hD hS hA [0, 1, 2, 3, 4, 5, 6, 7, 8, 9, 10, 11, 12, 13] (by decide +kernel) rfl
        refine va_calli (va_runV (As := [.int 0]) (rest := [.ref h0, .int v38]) ⟨hx, hb, hml, hown, hts⟩ (g_X11_chosen l dC dI cI cJ h0 0 th tB tsz tat wr dp rC rV rD rK rT rS rU lw tx rL rX qR qB qP qnb qnp aR aB aP nb np aN rf ho br aK ac dw aE sr sf aA aH aI hi fC fV fK fT fS fU u38_0 u38_1 fR fBr fPa fN u38_2 H.size y_ac y_hi y_ho y_lw (by omega) y_np y_qnb y_qnp y_tat y_tsz y_wr (hls) ci_fBr_zBr_nb ci_fN_zNw_np ci_fPa_zBr_np) (cwV 1 hts (zgV qw1646 qw1648 qw86 qw108 qw1649) rfl rfl rfl hd_X11_chosen ⟨by rw [hR]; exact Nat.le_of_ble_eq_true rfl, by rw [hR]; exact Nat.le_of_ble_eq_true rfl⟩) (zPV hPc hK hDc (va_recv (q := (RX11, TX11, 41)) hK hP (ci := 11) (q0 := 0) rfl rfl)) rfl rfl hl.1 rfl (lv_room (Nat.le_of_ble_eq_true rfl)) dX11_chooses_44 ⟨Nat.zero_le _, Nat.zero_le _⟩) hS (fun q _ h => hFc q h) hFc (fun v44 u44 t H locs ht hvm hw hB hz1 hk1 hS9 => ?_)
        obtain ⟨u44_0, u44_1, u44_2⟩ := u44
        obtain ⟨hP9, hD9⟩ := zj2 (wX := [(h0, .inr (11, [.int th, .ref tB, .int tsz, .int tat, .int wr, .int dp, .ref rC, .ref rV, .ref rD, .ref rK, .ref rT, .ref rS, .ref rU, .int lw, .int tx, .ref rL, .ref rX, .ref qR, .ref qB, .ref qP, .int qnb, .int qnp, .ref aR, .ref aB, .ref aP, .int nb, .int np, .ref aN, .ref rf, .int ho, .int br, .ref aK, .int ac, .long dw, .ref aE, .int sr, .int sf, .ref aA, .ref aH, .ref aI, .int hi])), (rC, .inl (cI, 2600, .inl fC)), (rV, .inl (cI, 2600, .inl fV)), (rK, .inl (cI, 5, .inl fK)), (rT, .inl (cI, 700, .inl fT)), (rS, .inl (cI, 700, .inl fS)), (rU, .inl (cI, 700, .inl fU)), (rL, .inl (cI, 6, .inl u44_0)), (rX, .inl (cI, 80, .inl u44_1)), (aR, .inl (cI, 3, .inl fR)), (aB, .inl (cI, 24, .inl fBr)), (aP, .inl (cI, 20, .inl fPa)), (aN, .inl (cI, 97, .inl fN)), (aE, .inl (cI, 10, .inl u44_2))]) hP hD hk1 hFc ht hB [0, 1, 2, 3, 4, 5, 6, 7, 8, 9, 10, 11, 12, 13] [(true, 0), (true, 1), (true, 2), (true, 3), (true, 4), (true, 5), (true, 6), (true, 7), (true, 8), (true, 9), (true, 10), (true, 11), (true, 12), (true, 13)] rfl (by decide +kernel) (by decide +kernel) rfl
        clear hP hD hS hPc hDc hFc hB hk1 hz1 hvm
        have hP := hP9
        have hD := hD9
        have hS := hS9
        clear hP9 hD9 hS9
        obtain ⟨f44_0, f44_1, f44_2⟩ : (0 ≤ v44.toInt) ∧ (v44.toInt ≤ 5) ∧ (v44.toInt < nb.toInt) := hw
        refine lv_iconst (v := 1) hx hb dX11_chooses_47 (by decide) ?_
        obtain ⟨hPc, hDc, hFc⟩ := zc3 (wc := [(h0, .inr (11, [.int th, .ref tB, .int tsz, .int tat, .int wr, .int dp, .ref rC, .ref rV, .ref rD, .ref rK, .ref rT, .ref rS, .ref rU, .int lw, .int tx, .ref rL, .ref rX, .ref qR, .ref qB, .ref qP, .int qnb, .int qnp, .ref aR, .ref aB, .ref aP, .int nb, .int np, .ref aN, .ref rf, .int ho, .int br, .ref aK, .int ac, .long dw, .ref aE, .int sr, .int sf, .ref aA, .ref aH, .ref aI, .int hi])), (rC, .inl (cI, 2600, .inl fC)), (rV, .inl (cI, 2600, .inl fV)), (rK, .inl (cI, 5, .inl fK)), (rT, .inl (cI, 700, .inl fT)), (rS, .inl (cI, 700, .inl fS)), (rU, .inl (cI, 700, .inl fU)), (rL, .inl (cI, 6, .inl u44_0)), (rX, .inl (cI, 80, .inl u44_1)), (aR, .inl (cI, 3, .inl fR)), (aB, .inl (cI, 24, .inl fBr)), (aP, .inl (cI, 20, .inl fPa)), (aN, .inl (cI, 97, .inl fN)), (aE, .inl (cI, 10, .inl u44_2))]) hP hD hS hA [0, 1, 2, 3, 4, 5, 6, 7, 8, 9, 10, 11, 12, 13] (by decide +kernel) rfl
        refine va_calli (va_runV (As := [.int v44, .int 1]) (rest := [.int v38]) ⟨hx, hb, hml, hown, hts⟩ (g_X11_worthAs l dC dI cI cJ h0 v44 1 th tB tsz tat wr dp rC rV rD rK rT rS rU lw tx rL rX qR qB qP qnb qnp aR aB aP nb np aN rf ho br aK ac dw aE sr sf aA aH aI hi fC fV fK fT fS fU u44_0 u44_1 fR fBr fPa fN u44_2 H.size y_ac y_hi y_ho y_lw n_nb y_np ⟨f44_0, f44_1⟩ y_qnb y_qnp y_tat y_tsz y_wr (hls) (by omega) ci_fBr_zBr_nb ci_fN_zNw_np ci_fPa_zBr_np) (cwV 2 hts (zgV qw1650 qw1652 qw87 qw108 qw1653) rfl rfl rfl hd_X11_worthAs ⟨by rw [hR]; exact Nat.le_of_ble_eq_true rfl, by rw [hR]; exact Nat.le_of_ble_eq_true rfl⟩) (zPV hPc hK hDc (va_recv (q := (RX11, TX11, 41)) hK hP (ci := 11) (q0 := 0) rfl rfl)) rfl rfl hl.1 rfl (lv_room (Nat.le_of_ble_eq_true rfl)) dX11_chooses_48 ⟨Nat.zero_le _, Nat.zero_le _⟩) hS (fun q _ h => hFc q h) hFc (fun v48 u48 t H locs ht hvm hw hB hz1 hk1 hS9 => ?_)
        obtain ⟨u48_0, u48_1, u48_2⟩ := u48
        obtain ⟨hP9, hD9⟩ := zj2 (wX := [(h0, .inr (11, [.int th, .ref tB, .int tsz, .int tat, .int wr, .int dp, .ref rC, .ref rV, .ref rD, .ref rK, .ref rT, .ref rS, .ref rU, .int lw, .int tx, .ref rL, .ref rX, .ref qR, .ref qB, .ref qP, .int qnb, .int qnp, .ref aR, .ref aB, .ref aP, .int nb, .int np, .ref aN, .ref rf, .int ho, .int br, .ref aK, .int ac, .long dw, .ref aE, .int sr, .int sf, .ref aA, .ref aH, .ref aI, .int hi])), (rC, .inl (cI, 2600, .inl fC)), (rV, .inl (cI, 2600, .inl fV)), (rK, .inl (cI, 5, .inl fK)), (rT, .inl (cI, 700, .inl fT)), (rS, .inl (cI, 700, .inl fS)), (rU, .inl (cI, 700, .inl fU)), (rL, .inl (cI, 6, .inl u48_0)), (rX, .inl (cI, 80, .inl u48_1)), (aR, .inl (cI, 3, .inl fR)), (aB, .inl (cI, 24, .inl fBr)), (aP, .inl (cI, 20, .inl fPa)), (aN, .inl (cI, 97, .inl fN)), (aE, .inl (cI, 10, .inl u48_2))]) hP hD hk1 hFc ht hB [0, 1, 2, 3, 4, 5, 6, 7, 8, 9, 10, 11, 12, 13] [(true, 0), (true, 1), (true, 2), (true, 3), (true, 4), (true, 5), (true, 6), (true, 7), (true, 8), (true, 9), (true, 10), (true, 11), (true, 12), (true, 13)] rfl (by decide +kernel) (by decide +kernel) rfl
        clear hP hD hS hPc hDc hFc hB hk1 hz1 hvm
        have hP := hP9
        have hD := hD9
        have hS := hS9
        clear hP9 hD9 hS9
        refine lv_isub hx hb dX11_chooses_51 ?_
        refine lv_topi (fun v51 e51 => ?_)
        exact J52 u48_2 u48_0 u48_1 v51  H locs ls hP hD hS (lv_sub hl [0, 1] rfl)
      · have c20 : p0.toInt < 3 := z4 (by decide) rfl c20
        refine lv_aload_n hx hb dX11_chooses_23 rfl (lv_at hl 0 rfl) ?_
        refine lv_iload_n hx hb dX11_chooses_24 rfl (lv_at hl 1 rfl) ?_
        obtain ⟨hPc, hDc, hFc⟩ := zc3 (wc := [(h0, .inr (11, [.int th, .ref tB, .int tsz, .int tat, .int wr, .int dp, .ref rC, .ref rV, .ref rD, .ref rK, .ref rT, .ref rS, .ref rU, .int lw, .int tx, .ref rL, .ref rX, .ref qR, .ref qB, .ref qP, .int qnb, .int qnp, .ref aR, .ref aB, .ref aP, .int nb, .int np, .ref aN, .ref rf, .int ho, .int br, .ref aK, .int ac, .long dw, .ref aE, .int sr, .int sf, .ref aA, .ref aH, .ref aI, .int hi])), (rC, .inl (cI, 2600, .inl fC)), (rV, .inl (cI, 2600, .inl fV)), (rK, .inl (cI, 5, .inl fK)), (rT, .inl (cI, 700, .inl fT)), (rS, .inl (cI, 700, .inl fS)), (rU, .inl (cI, 700, .inl fU)), (rL, .inl (cI, 6, .inl fL)), (rX, .inl (cI, 80, .inl fX)), (aR, .inl (cI, 3, .inl fR)), (aB, .inl (cI, 24, .inl fBr)), (aP, .inl (cI, 20, .inl fPa)), (aN, .inl (cI, 97, .inl fN)), (aE, .inl (cI, 10, .inl fE))]) hP hD hS hA [0, 1, 2, 3, 4, 5, 6, 7, 8, 9, 10, 11, 12, 13] (by decide +kernel) rfl
        refine va_calli (va_runV (As := [.int p0]) (rest := []) ⟨hx, hb, hml, hown, hts⟩ (g_X11_chosen l dC dI cI cJ h0 p0 th tB tsz tat wr dp rC rV rD rK rT rS rU lw tx rL rX qR qB qP qnb qnp aR aB aP nb np aN rf ho br aK ac dw aE sr sf aA aH aI hi fC fV fK fT fS fU fL fX fR fBr fPa fN fE H.size y_ac y_hi y_ho y_lw (by omega) y_np y_qnb y_qnp y_tat y_tsz y_wr (hls) ci_fBr_zBr_nb ci_fN_zNw_np ci_fPa_zBr_np) (cwV 1 hts (zgV qw1646 qw1648 qw86 qw108 qw1649) rfl rfl rfl hd_X11_chosen ⟨by rw [hR]; exact Nat.le_of_ble_eq_true rfl, by rw [hR]; exact Nat.le_of_ble_eq_true rfl⟩) (zPV hPc hK hDc (va_recv (q := (RX11, TX11, 41)) hK hP (ci := 11) (q0 := 0) rfl rfl)) rfl rfl hl.1 rfl (lv_room (Nat.le_of_ble_eq_true rfl)) dX11_chooses_25 ⟨Nat.zero_le _, Nat.zero_le _⟩) hS (fun q _ h => hFc q h) hFc (fun v25 u25 t H locs ht hvm hw hB hz1 hk1 hS9 => ?_)
        obtain ⟨u25_0, u25_1, u25_2⟩ := u25
        obtain ⟨hP9, hD9⟩ := zj2 (wX := [(h0, .inr (11, [.int th, .ref tB, .int tsz, .int tat, .int wr, .int dp, .ref rC, .ref rV, .ref rD, .ref rK, .ref rT, .ref rS, .ref rU, .int lw, .int tx, .ref rL, .ref rX, .ref qR, .ref qB, .ref qP, .int qnb, .int qnp, .ref aR, .ref aB, .ref aP, .int nb, .int np, .ref aN, .ref rf, .int ho, .int br, .ref aK, .int ac, .long dw, .ref aE, .int sr, .int sf, .ref aA, .ref aH, .ref aI, .int hi])), (rC, .inl (cI, 2600, .inl fC)), (rV, .inl (cI, 2600, .inl fV)), (rK, .inl (cI, 5, .inl fK)), (rT, .inl (cI, 700, .inl fT)), (rS, .inl (cI, 700, .inl fS)), (rU, .inl (cI, 700, .inl fU)), (rL, .inl (cI, 6, .inl u25_0)), (rX, .inl (cI, 80, .inl u25_1)), (aR, .inl (cI, 3, .inl fR)), (aB, .inl (cI, 24, .inl fBr)), (aP, .inl (cI, 20, .inl fPa)), (aN, .inl (cI, 97, .inl fN)), (aE, .inl (cI, 10, .inl u25_2))]) hP hD hk1 hFc ht hB [0, 1, 2, 3, 4, 5, 6, 7, 8, 9, 10, 11, 12, 13] [(true, 0), (true, 1), (true, 2), (true, 3), (true, 4), (true, 5), (true, 6), (true, 7), (true, 8), (true, 9), (true, 10), (true, 11), (true, 12), (true, 13)] rfl (by decide +kernel) (by decide +kernel) rfl
        clear hP hD hS hPc hDc hFc hB hk1 hz1 hvm
        have hP := hP9
        have hD := hD9
        have hS := hS9
        clear hP9 hD9 hS9
        obtain ⟨f25_0, f25_1, f25_2⟩ : (0 ≤ v25.toInt) ∧ (v25.toInt ≤ 5) ∧ (v25.toInt < nb.toInt) := hw
        refine lv_goto (tgt := 52) hx hb dX11_chooses_28 (by decide) ?_
        exact J52 u25_2 u25_0 u25_1 v25  H locs ls hP hD hS (lv_sub hl [0, 1] rfl)
    · have c13 : v10.toInt = 0 := z5 rfl (by decide) c13
      exact J16   H locs ls hP hD hS (lv_sub hl [0, 1] rfl)
set_option maxHeartbeats 4000000 in
set_option maxRecDepth 100000 in
theorem g_X11_gameOf (l : Launch) (dC : Nat → ClassId) (dI : Nat → Nat → Nat) (cI cJ : ClassId) (h0 : Nat) (p0 : Int32) (p1 : Int32) (p2 : Int32) (p3 : Int32) (p4 : Int32) (th : Int32) (tB : Nat) (tsz : Int32) (tat : Int32) (wr : Int32) (dp : Int32) (rC : Nat) (rV : Nat) (rD : Nat) (rK : Nat) (rT : Nat) (rS : Nat) (rU : Nat) (lw : Int32) (tx : Int32) (rL : Nat) (rX : Nat) (qR : Nat) (qB : Nat) (qP : Nat) (qnb : Int32) (qnp : Int32) (aR : Nat) (aB : Nat) (aP : Nat) (nb : Int32) (np : Int32) (aN : Nat) (rf : Nat) (ho : Int32) (br : Int32) (aK : Nat) (ac : Int32) (dw : Int64) (aE : Nat) (sr : Int32) (sf : Int32) (aA : Nat) (aH : Nat) (aI : Nat) (hi : Int32) (fC : Nat → Int32) (fV : Nat → Int32) (fK : Nat → Int32) (fT : Nat → Int32) (fS : Nat → Int32) (fU : Nat → Int32) (fL : Nat → Int32) (fX : Nat → Int32) (fBr : Nat → Int32) (fPa : Nat → Int32) (fN : Nat → Int32) (sz : Nat) (n_ac : 0 ≤ ac.toInt ∧ ac.toInt ≤ 40) (n_hi : 0 ≤ hi.toInt ∧ hi.toInt ≤ 1) (n_ho : (-1) ≤ ho.toInt ∧ ho.toInt ≤ 3) (n_lw : 0 ≤ lw.toInt ∧ lw.toInt ≤ 4) (n_nb : 0 ≤ nb.toInt ∧ nb.toInt ≤ 6) (n_np : 0 ≤ np.toInt ∧ np.toInt ≤ 5) (n_p0 : 0 ≤ p0.toInt ∧ p0.toInt ≤ 5) (n_p1 : 0 ≤ p1.toInt ∧ p1.toInt ≤ 5) (n_p2 : 0 ≤ p2.toInt ∧ p2.toInt ≤ 4) (n_qnb : 0 ≤ qnb.toInt ∧ qnb.toInt ≤ 6) (n_qnp : 0 ≤ qnp.toInt ∧ qnp.toInt ≤ 5) (n_tat : 0 ≤ tat.toInt ∧ tat.toInt ≤ 260) (n_tsz : 0 ≤ tsz.toInt ∧ tsz.toInt ≤ 240) (n_wr : (-1) ≤ wr.toInt ∧ wr.toInt ≤ 260) (hls : zLs ho fC fV fK fT fS fU) (ci_fBr_zBr_nb : zBr nb fBr) (ci_fN_zNw_np : zNw np fN) (ci_fPa_zBr_np : zBr np fPa)  : Met l yX11_gameOf (.code yX11_gameOf cX11_gameOf 7 (some .int) :: wA) ({ frames := 6, cells := 0, slots := 0, locals := 147 }) (zP (dC, dI) [(cI, .int), (cJ, .long)] [.ref h0, .int p0, .int p1, .int p2, .int p3, .int p4] sz [(h0, .inr (11, [.int th, .ref tB, .int tsz, .int tat, .int wr, .int dp, .ref rC, .ref rV, .ref rD, .ref rK, .ref rT, .ref rS, .ref rU, .int lw, .int tx, .ref rL, .ref rX, .ref qR, .ref qB, .ref qP, .int qnb, .int qnp, .ref aR, .ref aB, .ref aP, .int nb, .int np, .ref aN, .ref rf, .int ho, .int br, .ref aK, .int ac, .long dw, .ref aE, .int sr, .int sf, .ref aA, .ref aH, .ref aI, .int hi])), (rC, .inl (cI, 2600, .inl fC)), (rV, .inl (cI, 2600, .inl fV)), (rK, .inl (cI, 5, .inl fK)), (rT, .inl (cI, 700, .inl fT)), (rS, .inl (cI, 700, .inl fS)), (rU, .inl (cI, 700, .inl fU)), (rL, .inl (cI, 6, .inl fL)), (rX, .inl (cI, 80, .inl fX)), (aB, .inl (cI, 24, .inl fBr)), (aP, .inl (cI, 20, .inl fPa)), (aN, .inl (cI, 97, .inl fN))]) (va_Qi (fun (r : Int32) (u : (Nat → Int32) × (Nat → Int32)) => (∀ (kc : zK3) (kT : zT) (q_fR : Nat → Int32) (kl : Option ((Int → Int) × Int)), zCn q_fR fBr fPa nb.toInt np.toInt kc → zKo nb.toInt np.toInt kc kT → zSr nb.toInt np.toInt kT.1 fN → zLwR ho fC fV fK fT fS fU kl → (0 ≤ p0.toInt ∧ p0.toInt < nb.toInt) → (0 ≤ p1.toInt ∧ p1.toInt < nb.toInt) → (0 ≤ p2.toInt ∧ p2.toInt < np.toInt) → (0 ≤ p3.toInt ∧ p3.toInt ≤ 9) → (0 ≤ p4.toInt ∧ p4.toInt ≤ 9) → r = sGm kc kT.1 kl p2 p0 p1 p3 p4)) (fun (u : (Nat → Int32) × (Nat → Int32)) (t : State) => va_P (dC, dI) vwCl [(h0, .inr (11, [.int th, .ref tB, .int tsz, .int tat, .int wr, .int dp, .ref rC, .ref rV, .ref rD, .ref rK, .ref rT, .ref rS, .ref rU, .int lw, .int tx, .ref rL, .ref rX, .ref qR, .ref qB, .ref qP, .int qnb, .int qnp, .ref aR, .ref aB, .ref aP, .int nb, .int np, .ref aN, .ref rf, .int ho, .int br, .ref aK, .int ac, .long dw, .ref aE, .int sr, .int sf, .ref aA, .ref aH, .ref aI, .int hi])), (rC, .inl (cI, 2600, .inl fC)), (rV, .inl (cI, 2600, .inl fV)), (rK, .inl (cI, 5, .inl fK)), (rT, .inl (cI, 700, .inl fT)), (rS, .inl (cI, 700, .inl fS)), (rU, .inl (cI, 700, .inl fU)), (rL, .inl (cI, 6, .inl u.1)), (rX, .inl (cI, 80, .inl u.2)), (aB, .inl (cI, 24, .inl fBr)), (aP, .inl (cI, 20, .inl fPa)), (aN, .inl (cI, 97, .inl fN))] t.heap ∧ va_D (va_A [(h0, .inr (11, [.int th, .ref tB, .int tsz, .int tat, .int wr, .int dp, .ref rC, .ref rV, .ref rD, .ref rK, .ref rT, .ref rS, .ref rU, .int lw, .int tx, .ref rL, .ref rX, .ref qR, .ref qB, .ref qP, .int qnb, .int qnp, .ref aR, .ref aB, .ref aP, .int nb, .int np, .ref aN, .ref rf, .int ho, .int br, .ref aK, .int ac, .long dw, .ref aE, .int sr, .int sf, .ref aA, .ref aH, .ref aI, .int hi])), (rC, .inl (cI, 2600, .inl fC)), (rV, .inl (cI, 2600, .inl fV)), (rK, .inl (cI, 5, .inl fK)), (rT, .inl (cI, 700, .inl fT)), (rS, .inl (cI, 700, .inl fS)), (rU, .inl (cI, 700, .inl fU)), (rL, .inl (cI, 6, .inl fL)), (rX, .inl (cI, 80, .inl fX)), (aB, .inl (cI, 24, .inl fBr)), (aP, .inl (cI, 20, .inl fPa)), (aN, .inl (cI, 97, .inl fN))] sz) [(h0, .inr (11, [.int th, .ref tB, .int tsz, .int tat, .int wr, .int dp, .ref rC, .ref rV, .ref rD, .ref rK, .ref rT, .ref rS, .ref rU, .int lw, .int tx, .ref rL, .ref rX, .ref qR, .ref qB, .ref qP, .int qnb, .int qnp, .ref aR, .ref aB, .ref aP, .int nb, .int np, .ref aN, .ref rf, .int ho, .int br, .ref aK, .int ac, .long dw, .ref aE, .int sr, .int sf, .ref aA, .ref aH, .ref aI, .int hi])), (rC, .inl (cI, 2600, .inl fC)), (rV, .inl (cI, 2600, .inl fV)), (rK, .inl (cI, 5, .inl fK)), (rT, .inl (cI, 700, .inl fT)), (rS, .inl (cI, 700, .inl fS)), (rU, .inl (cI, 700, .inl fU)), (rL, .inl (cI, 6, .inl u.1)), (rX, .inl (cI, 80, .inl u.2)), (aB, .inl (cI, 24, .inl fBr)), (aP, .inl (cI, 20, .inl fPa)), (aN, .inl (cI, 97, .inl fN))]) (va_A [(h0, .inr (11, [.int th, .ref tB, .int tsz, .int tat, .int wr, .int dp, .ref rC, .ref rV, .ref rD, .ref rK, .ref rT, .ref rS, .ref rU, .int lw, .int tx, .ref rL, .ref rX, .ref qR, .ref qB, .ref qP, .int qnb, .int qnp, .ref aR, .ref aB, .ref aP, .int nb, .int np, .ref aN, .ref rf, .int ho, .int br, .ref aK, .int ac, .long dw, .ref aE, .int sr, .int sf, .ref aA, .ref aH, .ref aI, .int hi])), (rC, .inl (cI, 2600, .inl fC)), (rV, .inl (cI, 2600, .inl fV)), (rK, .inl (cI, 5, .inl fK)), (rT, .inl (cI, 700, .inl fT)), (rS, .inl (cI, 700, .inl fS)), (rU, .inl (cI, 700, .inl fU)), (rL, .inl (cI, 6, .inl fL)), (rX, .inl (cI, 80, .inl fX)), (aB, .inl (cI, 24, .inl fBr)), (aP, .inl (cI, 20, .inl fPa)), (aN, .inl (cI, 97, .inl fN))] sz)) 0 0 (va_A [(h0, .inr (11, [.int th, .ref tB, .int tsz, .int tat, .int wr, .int dp, .ref rC, .ref rV, .ref rD, .ref rK, .ref rT, .ref rS, .ref rU, .int lw, .int tx, .ref rL, .ref rX, .ref qR, .ref qB, .ref qP, .int qnb, .int qnp, .ref aR, .ref aB, .ref aP, .int nb, .int np, .ref aN, .ref rf, .int ho, .int br, .ref aK, .int ac, .long dw, .ref aE, .int sr, .int sf, .ref aA, .ref aH, .ref aI, .int hi])), (rC, .inl (cI, 2600, .inl fC)), (rV, .inl (cI, 2600, .inl fV)), (rK, .inl (cI, 5, .inl fK)), (rT, .inl (cI, 700, .inl fT)), (rS, .inl (cI, 700, .inl fS)), (rU, .inl (cI, 700, .inl fU)), (rL, .inl (cI, 6, .inl fL)), (rX, .inl (cI, 80, .inl fX)), (aB, .inl (cI, 24, .inl fBr)), (aP, .inl (cI, 20, .inl fPa)), (aN, .inl (cI, 97, .inl fN))] sz) := by
  refine Met.ofW (cc := cX11_gameOf) (maxL := 7) (ret := (some .int)) (by decide) rfl ?_
  intro p e s m args below meth c s₁ B hml hv
  have y_ac : zHid (0 ≤ ac.toInt ∧ ac.toInt ≤ 40) := n_ac
  have y_hi : zHid (0 ≤ hi.toInt ∧ hi.toInt ≤ 1) := n_hi
  have y_ho : zHid ((-1) ≤ ho.toInt ∧ ho.toInt ≤ 3) := n_ho
  have y_lw : zHid (0 ≤ lw.toInt ∧ lw.toInt ≤ 4) := n_lw
  have y_qnb : zHid (0 ≤ qnb.toInt ∧ qnb.toInt ≤ 6) := n_qnb
  have y_qnp : zHid (0 ≤ qnp.toInt ∧ qnp.toInt ≤ 5) := n_qnp
  have y_tat : zHid (0 ≤ tat.toInt ∧ tat.toInt ≤ 260) := n_tat
  have y_tsz : zHid (0 ≤ tsz.toInt ∧ tsz.toInt ≤ 240) := n_tsz
  have y_wr : zHid ((-1) ≤ wr.toInt ∧ wr.toInt ≤ 260) := n_wr
  clear n_ac n_hi n_ho n_lw n_qnb n_qnp n_tat n_tsz n_wr
  obtain ⟨hargs, hsz, hP, hK, hT⟩ := hv
  have hx := B.exec
  have hb := B.bytes
  have hr := B.returns
  have hts : ∀ w ∈ wA, w.before args s = true := fun w h => atoms_spec (ws := .code yX11_gameOf cX11_gameOf 7 (some .int) :: wA) B.pre w (List.mem_cons_of_mem _ h)
  have hown : s.vm.findClass RX11 = some m.cls := findClass_of_methodNamed B.named
  have hlocks := B.notSynchronized
  subst hsz
  have hD := hT.self (sz := s.heap.size)
  generalize hAe : va_A [(h0, .inr (11, [.int th, .ref tB, .int tsz, .int tat, .int wr, .int dp, .ref rC, .ref rV, .ref rD, .ref rK, .ref rT, .ref rS, .ref rU, .int lw, .int tx, .ref rL, .ref rX, .ref qR, .ref qB, .ref qP, .int qnb, .int qnp, .ref aR, .ref aB, .ref aP, .int nb, .int np, .ref aN, .ref rf, .int ho, .int br, .ref aK, .int ac, .long dw, .ref aE, .int sr, .int sf, .ref aA, .ref aH, .ref aI, .int hi])), (rC, .inl (cI, 2600, .inl fC)), (rV, .inl (cI, 2600, .inl fV)), (rK, .inl (cI, 5, .inl fK)), (rT, .inl (cI, 700, .inl fT)), (rS, .inl (cI, 700, .inl fS)), (rU, .inl (cI, 700, .inl fU)), (rL, .inl (cI, 6, .inl fL)), (rX, .inl (cI, 80, .inl fX)), (aB, .inl (cI, 24, .inl fBr)), (aP, .inl (cI, 20, .inl fPa)), (aN, .inl (cI, 97, .inl fN))] s.heap.size = A at hD ⊢
  have hA : ∀ q : Nat, s.heap.size ≤ q → A q := fun q h => by rw [← hAe]; exact Or.inr h
  have hl := lv_entry ([.ref h0, .int p0, .int p1, .int p2, .int p3, .int p4]) (n := 7) (Nat.le_of_ble_eq_true rfl)
  rw [show entryFrame m args 7 = entryFrame m ([.ref h0, .int p0, .int p1, .int p2, .int p3, .int p4] : List Value).toArray 7 by rw [hargs], lg_entry_eq]
  generalize (lg_sl ([.ref h0, .int p0, .int p1, .int p2, .int p3, .int p4]) ++ List.replicate (7 - (lg_sl ([.ref h0, .int p0, .int p1, .int p2, .int p3, .int p4])).length) Slot.unset).toArray = ls at hl ⊢
  have hl : lv_has ls 7 [(0, .ref h0), (1, .int p0), (2, .int p1), (3, .int p2), (4, .int p3), (5, .int p4)] := hl
  refine zstart (fun H hH => ?_)
  rw [← hH] at hP
  have hS : va_S A s.heap H [] := by rw [hH]; exact va_S.rf
  generalize ([] : List Loc) = locs at hS ⊢
  refine zgen (fun R Q hR hQ => ?_)
  refine lv_aload_n hx hb dX11_gameOf_0 rfl (lv_at hl 0 rfl) ?_
  refine lv_iload_n hx hb dX11_gameOf_1 rfl (lv_at hl 3 rfl) ?_
  refine lv_iload_n hx hb dX11_gameOf_2 rfl (lv_at hl 1 rfl) ?_
  refine lv_aload_n hx hb dX11_gameOf_3 rfl (lv_at hl 0 rfl) ?_
  refine lv_iload_n hx hb dX11_gameOf_4 rfl (lv_at hl 1 rfl) ?_
  refine lv_iconst (v := 0) hx hb dX11_gameOf_5 (by decide) ?_
  obtain ⟨hPc, hDc⟩ := zc2 (wc := [(h0, .inr (11, [.int th, .ref tB, .int tsz, .int tat, .int wr, .int dp, .ref rC, .ref rV, .ref rD, .ref rK, .ref rT, .ref rS, .ref rU, .int lw, .int tx, .ref rL, .ref rX, .ref qR, .ref qB, .ref qP, .int qnb, .int qnp, .ref aR, .ref aB, .ref aP, .int nb, .int np, .ref aN, .ref rf, .int ho, .int br, .ref aK, .int ac, .long dw, .ref aE, .int sr, .int sf, .ref aA, .ref aH, .ref aI, .int hi])), (aB, .inl (cI, 24, .inl fBr))]) hP hD [0, 9] (by decide +kernel) rfl
  have hFc := zfr hS hA
  refine va_calli (va_runV (As := [.int p0, .int 0]) (rest := [.int p0, .int p2, .ref h0]) ⟨hx, hb, hml, hown, hts⟩ (g_X11_of l dC dI cI cJ h0 p0 0 th tB tsz tat wr dp rC rV rD rK rT rS rU lw tx rL rX qR qB qP qnb qnp aR aB aP nb np aN rf ho br aK ac dw aE sr sf aA aH aI hi fBr H.size y_ac y_hi y_ho y_lw n_nb n_np n_p0 (by decide) y_qnb y_qnp y_tat y_tsz y_wr) (cwV 2 hts (zgV qw1386 qw1388 qw54 qw108 qw1389) rfl rfl rfl hd_X11_of ⟨by rw [hR]; exact Nat.le_of_ble_eq_true rfl, by rw [hR]; exact Nat.le_of_ble_eq_true rfl⟩) (zPV hPc hK hDc (va_recv (q := (RX11, TX11, 41)) hK hP (ci := 11) (q0 := 0) rfl rfl)) rfl rfl hl.1 rfl (lv_room (Nat.le_of_ble_eq_true rfl)) dX11_gameOf_6 ⟨Nat.zero_le _, Nat.zero_le _⟩) hS (fun q _ h => hFc q h) hFc (fun v6 u6 t H locs ht hvm hw hB hz1 hk1 hS9 => ?_)
  replace hP := zkeep hP hk1
  replace hS := hS9
  clear hPc hDc hFc hk1 hz1 hvm hS9
  have zn6_0 : (0 : Int32).toInt = 0 := by decide
  have f6_0 : (v6 = fBr (4 * p0.toInt.toNat + (0 : Int32).toInt.toNat)) := hw
  have F6 := f6_0
  refine lv_iload hx hb dX11_gameOf_9 (lv_at hl 4 rfl) ?_
  obtain ⟨hPc, hDc, hFc⟩ := zc3 (wc := [(h0, .inr (11, [.int th, .ref tB, .int tsz, .int tat, .int wr, .int dp, .ref rC, .ref rV, .ref rD, .ref rK, .ref rT, .ref rS, .ref rU, .int lw, .int tx, .ref rL, .ref rX, .ref qR, .ref qB, .ref qP, .int qnb, .int qnp, .ref aR, .ref aB, .ref aP, .int nb, .int np, .ref aN, .ref rf, .int ho, .int br, .ref aK, .int ac, .long dw, .ref aE, .int sr, .int sf, .ref aA, .ref aH, .ref aI, .int hi])), (rC, .inl (cI, 2600, .inl fC)), (rV, .inl (cI, 2600, .inl fV)), (rK, .inl (cI, 5, .inl fK)), (rT, .inl (cI, 700, .inl fT)), (rS, .inl (cI, 700, .inl fS)), (rU, .inl (cI, 700, .inl fU)), (rL, .inl (cI, 6, .inl fL)), (rX, .inl (cI, 80, .inl fX)), (aB, .inl (cI, 24, .inl fBr)), (aP, .inl (cI, 20, .inl fPa)), (aN, .inl (cI, 97, .inl fN))]) hP hD hS hA [0, 1, 2, 3, 4, 5, 6, 7, 8, 9, 10, 11] (by decide +kernel) rfl
  refine va_calli (va_runV (As := [.int p2, .int p0, .int v6, .int p3]) (rest := []) ⟨hx, hb, hml, hown, hts⟩ (g_X11_looksBy l dC dI cI cJ h0 p2 p0 v6 p3 th tB tsz tat wr dp rC rV rD rK rT rS rU lw tx rL rX qR qB qP qnb qnp aR aB aP nb np aN rf ho br aK ac dw aE sr sf aA aH aI hi fC fV fK fT fS fU fL fX fBr fPa fN H.size y_ac y_hi y_ho y_lw n_nb n_np n_p2 n_p0 y_qnb y_qnp y_tat y_tsz y_wr (hls)) (cwV 4 hts (zgV qw1442 qw1444 qw61 qw108 qw1445) rfl rfl rfl hd_X11_looksBy ⟨by rw [hR]; exact Nat.le_of_ble_eq_true rfl, by rw [hR]; exact Nat.le_of_ble_eq_true rfl⟩) (zPV hPc hK hDc (va_recv (q := (RX11, TX11, 41)) hK hP (ci := 11) (q0 := 0) rfl rfl)) rfl rfl hl.1 rfl (lv_room (Nat.le_of_ble_eq_true rfl)) dX11_gameOf_11 ⟨Nat.zero_le _, Nat.zero_le _⟩) hS (fun q _ h => hFc q h) hFc (fun v11 u11 t H locs ht hvm hw hB hz1 hk1 hS9 => ?_)
  obtain ⟨u11_0, u11_1⟩ := u11
  obtain ⟨hP9, hD9⟩ := zj2 (wX := [(h0, .inr (11, [.int th, .ref tB, .int tsz, .int tat, .int wr, .int dp, .ref rC, .ref rV, .ref rD, .ref rK, .ref rT, .ref rS, .ref rU, .int lw, .int tx, .ref rL, .ref rX, .ref qR, .ref qB, .ref qP, .int qnb, .int qnp, .ref aR, .ref aB, .ref aP, .int nb, .int np, .ref aN, .ref rf, .int ho, .int br, .ref aK, .int ac, .long dw, .ref aE, .int sr, .int sf, .ref aA, .ref aH, .ref aI, .int hi])), (rC, .inl (cI, 2600, .inl fC)), (rV, .inl (cI, 2600, .inl fV)), (rK, .inl (cI, 5, .inl fK)), (rT, .inl (cI, 700, .inl fT)), (rS, .inl (cI, 700, .inl fS)), (rU, .inl (cI, 700, .inl fU)), (rL, .inl (cI, 6, .inl u11_0)), (rX, .inl (cI, 80, .inl u11_1)), (aB, .inl (cI, 24, .inl fBr)), (aP, .inl (cI, 20, .inl fPa)), (aN, .inl (cI, 97, .inl fN))]) hP hD hk1 hFc ht hB [0, 1, 2, 3, 4, 5, 6, 7, 8, 9, 10, 11] [(true, 0), (true, 1), (true, 2), (true, 3), (true, 4), (true, 5), (true, 6), (true, 7), (true, 8), (true, 9), (true, 10), (true, 11)] rfl (by decide +kernel) (by decide +kernel) rfl
  clear hP hD hS hPc hDc hFc hB hk1 hz1 hvm
  have hP := hP9
  have hD := hD9
  have hS := hS9
  clear hP9 hD9 hS9
  obtain ⟨f11_0, f11_1, f11_2⟩ : (0 ≤ v11.toInt) ∧ (v11.toInt ≤ 9) ∧ (∀ lw : Option ((Int → Int) × Int), zLwR ho fC fV fK fT fS fU lw → zB5 v6 (fBr (4 * p0.toInt.toNat + 2)) p3 (fPa (4 * p2.toInt.toNat)) (fN (6 + p2.toInt.toNat)) (fN 15) → v11 = zLkv lw v6 (fBr (4 * p0.toInt.toNat + 2)) p3 (fPa (4 * p2.toInt.toNat)) (fN (6 + p2.toInt.toNat)) (fN 15)) := hw
  have F11 := f11_2
  refine lv_aload_n hx hb dX11_gameOf_14 rfl (lv_at hl 0 rfl) ?_
  refine lv_iload_n hx hb dX11_gameOf_15 rfl (lv_at hl 3 rfl) ?_
  refine lv_iload_n hx hb dX11_gameOf_16 rfl (lv_at hl 2 rfl) ?_
  refine lv_aload_n hx hb dX11_gameOf_17 rfl (lv_at hl 0 rfl) ?_
  refine lv_iload_n hx hb dX11_gameOf_18 rfl (lv_at hl 2 rfl) ?_
  refine lv_iconst (v := 0) hx hb dX11_gameOf_19 (by decide) ?_
  obtain ⟨hPc, hDc⟩ := zc2 (wc := [(h0, .inr (11, [.int th, .ref tB, .int tsz, .int tat, .int wr, .int dp, .ref rC, .ref rV, .ref rD, .ref rK, .ref rT, .ref rS, .ref rU, .int lw, .int tx, .ref rL, .ref rX, .ref qR, .ref qB, .ref qP, .int qnb, .int qnp, .ref aR, .ref aB, .ref aP, .int nb, .int np, .ref aN, .ref rf, .int ho, .int br, .ref aK, .int ac, .long dw, .ref aE, .int sr, .int sf, .ref aA, .ref aH, .ref aI, .int hi])), (aB, .inl (cI, 24, .inl fBr))]) hP hD [0, 9] (by decide +kernel) rfl
  have hFc := zfr hS hA
  refine va_calli (va_runV (As := [.int p1, .int 0]) (rest := [.int p1, .int p2, .ref h0, .int v11]) ⟨hx, hb, hml, hown, hts⟩ (g_X11_of l dC dI cI cJ h0 p1 0 th tB tsz tat wr dp rC rV rD rK rT rS rU lw tx rL rX qR qB qP qnb qnp aR aB aP nb np aN rf ho br aK ac dw aE sr sf aA aH aI hi fBr H.size y_ac y_hi y_ho y_lw n_nb n_np n_p1 (by decide) y_qnb y_qnp y_tat y_tsz y_wr) (cwV 2 hts (zgV qw1386 qw1388 qw54 qw108 qw1389) rfl rfl rfl hd_X11_of ⟨by rw [hR]; exact Nat.le_of_ble_eq_true rfl, by rw [hR]; exact Nat.le_of_ble_eq_true rfl⟩) (zPV hPc hK hDc (va_recv (q := (RX11, TX11, 41)) hK hP (ci := 11) (q0 := 0) rfl rfl)) rfl rfl hl.1 rfl (lv_room (Nat.le_of_ble_eq_true rfl)) dX11_gameOf_20 ⟨Nat.zero_le _, Nat.zero_le _⟩) hS (fun q _ h => hFc q h) hFc (fun v20 u20 t H locs ht hvm hw hB hz1 hk1 hS9 => ?_)
  replace hP := zkeep hP hk1
  replace hS := hS9
  clear hPc hDc hFc hk1 hz1 hvm hS9
  have zn20_0 : (0 : Int32).toInt = 0 := by decide
  have f20_0 : (v20 = fBr (4 * p1.toInt.toNat + (0 : Int32).toInt.toNat)) := hw
  have F20 := f20_0
  refine lv_iload hx hb dX11_gameOf_23 (lv_at hl 5 rfl) ?_
  obtain ⟨hPc, hDc, hFc⟩ := zc3 (wc := [(h0, .inr (11, [.int th, .ref tB, .int tsz, .int tat, .int wr, .int dp, .ref rC, .ref rV, .ref rD, .ref rK, .ref rT, .ref rS, .ref rU, .int lw, .int tx, .ref rL, .ref rX, .ref qR, .ref qB, .ref qP, .int qnb, .int qnp, .ref aR, .ref aB, .ref aP, .int nb, .int np, .ref aN, .ref rf, .int ho, .int br, .ref aK, .int ac, .long dw, .ref aE, .int sr, .int sf, .ref aA, .ref aH, .ref aI, .int hi])), (rC, .inl (cI, 2600, .inl fC)), (rV, .inl (cI, 2600, .inl fV)), (rK, .inl (cI, 5, .inl fK)), (rT, .inl (cI, 700, .inl fT)), (rS, .inl (cI, 700, .inl fS)), (rU, .inl (cI, 700, .inl fU)), (rL, .inl (cI, 6, .inl u11_0)), (rX, .inl (cI, 80, .inl u11_1)), (aB, .inl (cI, 24, .inl fBr)), (aP, .inl (cI, 20, .inl fPa)), (aN, .inl (cI, 97, .inl fN))]) hP hD hS hA [0, 1, 2, 3, 4, 5, 6, 7, 8, 9, 10, 11] (by decide +kernel) rfl
  refine va_calli (va_runV (As := [.int p2, .int p1, .int v20, .int p4]) (rest := [.int v11]) ⟨hx, hb, hml, hown, hts⟩ (g_X11_looksBy l dC dI cI cJ h0 p2 p1 v20 p4 th tB tsz tat wr dp rC rV rD rK rT rS rU lw tx rL rX qR qB qP qnb qnp aR aB aP nb np aN rf ho br aK ac dw aE sr sf aA aH aI hi fC fV fK fT fS fU u11_0 u11_1 fBr fPa fN H.size y_ac y_hi y_ho y_lw n_nb n_np n_p2 n_p1 y_qnb y_qnp y_tat y_tsz y_wr (hls)) (cwV 4 hts (zgV qw1442 qw1444 qw61 qw108 qw1445) rfl rfl rfl hd_X11_looksBy ⟨by rw [hR]; exact Nat.le_of_ble_eq_true rfl, by rw [hR]; exact Nat.le_of_ble_eq_true rfl⟩) (zPV hPc hK hDc (va_recv (q := (RX11, TX11, 41)) hK hP (ci := 11) (q0 := 0) rfl rfl)) rfl rfl hl.1 rfl (lv_room (Nat.le_of_ble_eq_true rfl)) dX11_gameOf_25 ⟨Nat.zero_le _, Nat.zero_le _⟩) hS (fun q _ h => hFc q h) hFc (fun v25 u25 t H locs ht hvm hw hB hz1 hk1 hS9 => ?_)
  obtain ⟨u25_0, u25_1⟩ := u25
  obtain ⟨hP9, hD9⟩ := zj2 (wX := [(h0, .inr (11, [.int th, .ref tB, .int tsz, .int tat, .int wr, .int dp, .ref rC, .ref rV, .ref rD, .ref rK, .ref rT, .ref rS, .ref rU, .int lw, .int tx, .ref rL, .ref rX, .ref qR, .ref qB, .ref qP, .int qnb, .int qnp, .ref aR, .ref aB, .ref aP, .int nb, .int np, .ref aN, .ref rf, .int ho, .int br, .ref aK, .int ac, .long dw, .ref aE, .int sr, .int sf, .ref aA, .ref aH, .ref aI, .int hi])), (rC, .inl (cI, 2600, .inl fC)), (rV, .inl (cI, 2600, .inl fV)), (rK, .inl (cI, 5, .inl fK)), (rT, .inl (cI, 700, .inl fT)), (rS, .inl (cI, 700, .inl fS)), (rU, .inl (cI, 700, .inl fU)), (rL, .inl (cI, 6, .inl u25_0)), (rX, .inl (cI, 80, .inl u25_1)), (aB, .inl (cI, 24, .inl fBr)), (aP, .inl (cI, 20, .inl fPa)), (aN, .inl (cI, 97, .inl fN))]) hP hD hk1 hFc ht hB [0, 1, 2, 3, 4, 5, 6, 7, 8, 9, 10, 11] [(true, 0), (true, 1), (true, 2), (true, 3), (true, 4), (true, 5), (true, 6), (true, 7), (true, 8), (true, 9), (true, 10), (true, 11)] rfl (by decide +kernel) (by decide +kernel) rfl
  clear hP hD hS hPc hDc hFc hB hk1 hz1 hvm
  have hP := hP9
  have hD := hD9
  have hS := hS9
  clear hP9 hD9 hS9
  obtain ⟨f25_0, f25_1, f25_2⟩ : (0 ≤ v25.toInt) ∧ (v25.toInt ≤ 9) ∧ (∀ lw : Option ((Int → Int) × Int), zLwR ho fC fV fK fT fS fU lw → zB5 v20 (fBr (4 * p1.toInt.toNat + 2)) p4 (fPa (4 * p2.toInt.toNat)) (fN (6 + p2.toInt.toNat)) (fN 15) → v25 = zLkv lw v20 (fBr (4 * p1.toInt.toNat + 2)) p4 (fPa (4 * p2.toInt.toNat)) (fN (6 + p2.toInt.toNat)) (fN 15)) := hw
  have F25 := f25_2
  refine lv_isub hx hb dX11_gameOf_28 ?_
  refine lv_topi (fun v28 e28 => ?_)
  have i28 : v28.toInt = v11.toInt - v25.toInt := zsub e28 rfl rfl (by omega) (by omega)
  refine lv_istore (lv' := [(6, .int v28), (0, .ref h0), (1, .int p0), (2, .int p1), (3, .int p2), (4, .int p3), (5, .int p4)]) hx hb dX11_gameOf_29 hl (by decide) rfl (fun ls hl => ?_)
  refine lv_iload hx hb dX11_gameOf_31 (lv_at hl 0 rfl) ?_
  refine lv_if_le (tgt := 41) hx hb dX11_gameOf_33 (by decide) (fun c33 => ?_) (fun c33 => ?_)
  · have c33 : v28.toInt ≤ 0 := z3 rfl (by decide) c33
    refine lv_iload hx hb dX11_gameOf_41 (lv_at hl 0 rfl) ?_
    refine lv_if_ne (tgt := 50) hx hb dX11_gameOf_43 (by decide) (fun c43 => ?_) (fun c43 => ?_)
    · have c43 : ¬ v28.toInt = 0 := z6 rfl (by decide) c43
      refine lv_iconst (v := 0) hx hb dX11_gameOf_50 (by decide) ?_
      refine lv_iload hx hb dX11_gameOf_51 (lv_at hl 5 rfl) ?_
      refine lv_iconst (v := 2) hx hb dX11_gameOf_53 (by decide) ?_
      refine lv_idiv hx hb dX11_gameOf_54 (by decide) ?_
      refine lv_topi (fun v54 e54 => ?_)
      refine lv_isub hx hb dX11_gameOf_55 ?_
      refine lv_topi (fun v55 e55 => ?_)
      rw [hQ]
      exact W.iret (v := v55) hx hb hr (fun t ht hW => ⟨⟨v55, (u25_0, u25_1), rfl, (by (try dsimp only); exact fun kc kT q_fR kl hc hb h hL h0 h1 h2 h3 h4 => by have y6 : v6 = kc.2.1 (4 * p0.toInt.toNat) := (F6.trans (congrArg @fBr (show 4 * p0.toInt.toNat + (0 : Int32).toInt.toNat = 4 * p0.toInt.toNat by have : (0 : Int32).toInt = 0 := (by decide); omega))).trans (hc.2.1 _ (by omega)); have y20 : v20 = kc.2.1 (4 * p1.toInt.toNat) := (F20.trans (congrArg @fBr (show 4 * p1.toInt.toNat + (0 : Int32).toInt.toNat = 4 * p1.toInt.toNat by have : (0 : Int32).toInt = 0 := (by decide); omega))).trans (hc.2.1 _ (by omega)); have o1 : v11 = sLk kc kT.1 kl p2 p0 v6 p3 := sLk_r hc hb h.2.1 (zSr_mo h) h2 h0 (by rw [y6]; exact zFace_b hb h0) h3 hL F11; have o2 : v25 = sLk kc kT.1 kl p2 p1 v20 p4 := sLk_r hc hb h.2.1 (zSr_mo h) h2 h1 (by rw [y20]; exact zFace_b hb h1) h4 hL F25; unfold sGm; rw [← y6, ← y20, ← o1, ← o2]; exact sGn_d (by omega) (by omega) e28 (by first | exact Or.inl ⟨by omega, rfl⟩ | exact Or.inr (Or.inl ⟨by omega, rfl⟩) | exact Or.inr (Or.inr ⟨by omega, rfl⟩)) e54 e55), ⟨by rw [ht]; exact hP, hD⟩⟩, hS.F ht⟩) hS.2.2 dX11_gameOf_56
    · have c43 : v28.toInt = 0 := z5 rfl (by decide) c43
      refine lv_iconst (v := 3) hx hb dX11_gameOf_46 (by decide) ?_
      refine lv_goto (tgt := 51) hx hb dX11_gameOf_47 (by decide) ?_
      refine lv_iload hx hb dX11_gameOf_51 (lv_at hl 5 rfl) ?_
      refine lv_iconst (v := 2) hx hb dX11_gameOf_53 (by decide) ?_
      refine lv_idiv hx hb dX11_gameOf_54 (by decide) ?_
      refine lv_topi (fun v54 e54 => ?_)
      refine lv_isub hx hb dX11_gameOf_55 ?_
      refine lv_topi (fun v55 e55 => ?_)
      rw [hQ]
      exact W.iret (v := v55) hx hb hr (fun t ht hW => ⟨⟨v55, (u25_0, u25_1), rfl, (by (try dsimp only); exact fun kc kT q_fR kl hc hb h hL h0 h1 h2 h3 h4 => by have y6 : v6 = kc.2.1 (4 * p0.toInt.toNat) := (F6.trans (congrArg @fBr (show 4 * p0.toInt.toNat + (0 : Int32).toInt.toNat = 4 * p0.toInt.toNat by have : (0 : Int32).toInt = 0 := (by decide); omega))).trans (hc.2.1 _ (by omega)); have y20 : v20 = kc.2.1 (4 * p1.toInt.toNat) := (F20.trans (congrArg @fBr (show 4 * p1.toInt.toNat + (0 : Int32).toInt.toNat = 4 * p1.toInt.toNat by have : (0 : Int32).toInt = 0 := (by decide); omega))).trans (hc.2.1 _ (by omega)); have o1 : v11 = sLk kc kT.1 kl p2 p0 v6 p3 := sLk_r hc hb h.2.1 (zSr_mo h) h2 h0 (by rw [y6]; exact zFace_b hb h0) h3 hL F11; have o2 : v25 = sLk kc kT.1 kl p2 p1 v20 p4 := sLk_r hc hb h.2.1 (zSr_mo h) h2 h1 (by rw [y20]; exact zFace_b hb h1) h4 hL F25; unfold sGm; rw [← y6, ← y20, ← o1, ← o2]; exact sGn_d (by omega) (by omega) e28 (by first | exact Or.inl ⟨by omega, rfl⟩ | exact Or.inr (Or.inl ⟨by omega, rfl⟩) | exact Or.inr (Or.inr ⟨by omega, rfl⟩)) e54 e55), ⟨by rw [ht]; exact hP, hD⟩⟩, hS.F ht⟩) hS.2.2 dX11_gameOf_56
  · have c33 : 0 < v28.toInt := z4 rfl (by decide) c33
    refine lv_bipush (v := 6) hx hb dX11_gameOf_36 (by decide) ?_
    refine lv_goto (tgt := 51) hx hb dX11_gameOf_38 (by decide) ?_
    refine lv_iload hx hb dX11_gameOf_51 (lv_at hl 5 rfl) ?_
    refine lv_iconst (v := 2) hx hb dX11_gameOf_53 (by decide) ?_
    refine lv_idiv hx hb dX11_gameOf_54 (by decide) ?_
    refine lv_topi (fun v54 e54 => ?_)
    refine lv_isub hx hb dX11_gameOf_55 ?_
    refine lv_topi (fun v55 e55 => ?_)
    rw [hQ]
    exact W.iret (v := v55) hx hb hr (fun t ht hW => ⟨⟨v55, (u25_0, u25_1), rfl, (by (try dsimp only); exact fun kc kT q_fR kl hc hb h hL h0 h1 h2 h3 h4 => by have y6 : v6 = kc.2.1 (4 * p0.toInt.toNat) := (F6.trans (congrArg @fBr (show 4 * p0.toInt.toNat + (0 : Int32).toInt.toNat = 4 * p0.toInt.toNat by have : (0 : Int32).toInt = 0 := (by decide); omega))).trans (hc.2.1 _ (by omega)); have y20 : v20 = kc.2.1 (4 * p1.toInt.toNat) := (F20.trans (congrArg @fBr (show 4 * p1.toInt.toNat + (0 : Int32).toInt.toNat = 4 * p1.toInt.toNat by have : (0 : Int32).toInt = 0 := (by decide); omega))).trans (hc.2.1 _ (by omega)); have o1 : v11 = sLk kc kT.1 kl p2 p0 v6 p3 := sLk_r hc hb h.2.1 (zSr_mo h) h2 h0 (by rw [y6]; exact zFace_b hb h0) h3 hL F11; have o2 : v25 = sLk kc kT.1 kl p2 p1 v20 p4 := sLk_r hc hb h.2.1 (zSr_mo h) h2 h1 (by rw [y20]; exact zFace_b hb h1) h4 hL F25; unfold sGm; rw [← y6, ← y20, ← o1, ← o2]; exact sGn_d (by omega) (by omega) e28 (by first | exact Or.inl ⟨by omega, rfl⟩ | exact Or.inr (Or.inl ⟨by omega, rfl⟩) | exact Or.inr (Or.inr ⟨by omega, rfl⟩)) e54 e55), ⟨by rw [ht]; exact hP, hD⟩⟩, hS.F ht⟩) hS.2.2 dX11_gameOf_56
set_option maxHeartbeats 4000000 in
set_option maxRecDepth 100000 in
theorem g_X11_areTwo (l : Launch) (dC : Nat → ClassId) (dI : Nat → Nat → Nat) (cI cJ : ClassId) (h0 : Nat) (p0 : Int32) (p1 : Int32) (p2 : Int32) (th : Int32) (tB : Nat) (tsz : Int32) (tat : Int32) (wr : Int32) (dp : Int32) (rC : Nat) (rV : Nat) (rD : Nat) (rK : Nat) (rT : Nat) (rS : Nat) (rU : Nat) (lw : Int32) (tx : Int32) (rL : Nat) (rX : Nat) (qR : Nat) (qB : Nat) (qP : Nat) (qnb : Int32) (qnp : Int32) (aR : Nat) (aB : Nat) (aP : Nat) (nb : Int32) (np : Int32) (aN : Nat) (rf : Nat) (ho : Int32) (br : Int32) (aK : Nat) (ac : Int32) (dw : Int64) (aE : Nat) (sr : Int32) (sf : Int32) (aA : Nat) (aH : Nat) (aI : Nat) (hi : Int32) (sz : Nat) (n_ac : 0 ≤ ac.toInt ∧ ac.toInt ≤ 40) (n_hi : 0 ≤ hi.toInt ∧ hi.toInt ≤ 1) (n_ho : (-1) ≤ ho.toInt ∧ ho.toInt ≤ 3) (n_lw : 0 ≤ lw.toInt ∧ lw.toInt ≤ 4) (n_nb : 0 ≤ nb.toInt ∧ nb.toInt ≤ 6) (n_np : 0 ≤ np.toInt ∧ np.toInt ≤ 5) (n_qnb : 0 ≤ qnb.toInt ∧ qnb.toInt ≤ 6) (n_qnp : 0 ≤ qnp.toInt ∧ qnp.toInt ≤ 5) (n_tat : 0 ≤ tat.toInt ∧ tat.toInt ≤ 260) (n_tsz : 0 ≤ tsz.toInt ∧ tsz.toInt ≤ 240) (n_wr : (-1) ≤ wr.toInt ∧ wr.toInt ≤ 260)    : Met l yX11_areTwo (.code yX11_areTwo cX11_areTwo 4 (some .boolean) :: wA) ({ frames := 2, cells := 0, slots := 0, locals := 43 }) (zP (dC, dI) [(cI, .int), (cJ, .long)] [.ref h0, .int p0, .int p1, .int p2] sz [(h0, .inr (11, [.int th, .ref tB, .int tsz, .int tat, .int wr, .int dp, .ref rC, .ref rV, .ref rD, .ref rK, .ref rT, .ref rS, .ref rU, .int lw, .int tx, .ref rL, .ref rX, .ref qR, .ref qB, .ref qP, .int qnb, .int qnp, .ref aR, .ref aB, .ref aP, .int nb, .int np, .ref aN, .ref rf, .int ho, .int br, .ref aK, .int ac, .long dw, .ref aE, .int sr, .int sf, .ref aA, .ref aH, .ref aI, .int hi]))]) (va_Qi (fun (r : Int32) (u : Unit) => (0 ≤ r.toInt) ∧ (r.toInt ≤ 1) ∧ (¬ r.toInt = 0 → (0 ≤ p0.toInt ∧ p0.toInt < nb.toInt ∧ 0 ≤ p1.toInt ∧ p1.toInt < nb.toInt ∧ 0 ≤ p2.toInt ∧ p2.toInt < np.toInt)) ∧ (¬ r.toInt = 0 → ¬ p0.toInt = p1.toInt) ∧ (r.toInt = 0 → ¬ ((0 ≤ p0.toInt ∧ p0.toInt < nb.toInt) ∧ (0 ≤ p1.toInt ∧ p1.toInt < nb.toInt) ∧ ¬ p0.toInt = p1.toInt ∧ 0 ≤ p2.toInt ∧ p2.toInt < np.toInt))) (fun (_ : Unit) (_ : State) => True) (va_A [] sz)) 0 0 (va_A [] sz) := by
  refine Met.ofW (cc := cX11_areTwo) (maxL := 4) (ret := (some .boolean)) (by decide) rfl ?_
  intro p e s m args below meth c s₁ B hml hv
  have y_ac : zHid (0 ≤ ac.toInt ∧ ac.toInt ≤ 40) := n_ac
  have y_hi : zHid (0 ≤ hi.toInt ∧ hi.toInt ≤ 1) := n_hi
  have y_ho : zHid ((-1) ≤ ho.toInt ∧ ho.toInt ≤ 3) := n_ho
  have y_lw : zHid (0 ≤ lw.toInt ∧ lw.toInt ≤ 4) := n_lw
  have y_qnb : zHid (0 ≤ qnb.toInt ∧ qnb.toInt ≤ 6) := n_qnb
  have y_qnp : zHid (0 ≤ qnp.toInt ∧ qnp.toInt ≤ 5) := n_qnp
  have y_tat : zHid (0 ≤ tat.toInt ∧ tat.toInt ≤ 260) := n_tat
  have y_tsz : zHid (0 ≤ tsz.toInt ∧ tsz.toInt ≤ 240) := n_tsz
  have y_wr : zHid ((-1) ≤ wr.toInt ∧ wr.toInt ≤ 260) := n_wr
  clear n_ac n_hi n_ho n_lw n_qnb n_qnp n_tat n_tsz n_wr
  obtain ⟨hargs, hsz, hP, hK, hT⟩ := hv
  have hx := B.exec
  have hb := B.bytes
  have hr := B.returns
  have hts : ∀ w ∈ wA, w.before args s = true := fun w h => atoms_spec (ws := .code yX11_areTwo cX11_areTwo 4 (some .boolean) :: wA) B.pre w (List.mem_cons_of_mem _ h)
  have hown : s.vm.findClass RX11 = some m.cls := findClass_of_methodNamed B.named
  have hlocks := B.notSynchronized
  subst hsz
  have hD : va_D (va_A [] s.heap.size) [] := zD0
  generalize hAe : va_A [] s.heap.size = A at hD ⊢
  have hA : ∀ q : Nat, s.heap.size ≤ q → A q := fun q h => by rw [← hAe]; exact Or.inr h
  have hl := lv_entry ([.ref h0, .int p0, .int p1, .int p2]) (n := 4) (Nat.le_of_ble_eq_true rfl)
  rw [show entryFrame m args 4 = entryFrame m ([.ref h0, .int p0, .int p1, .int p2] : List Value).toArray 4 by rw [hargs], lg_entry_eq]
  generalize (lg_sl ([.ref h0, .int p0, .int p1, .int p2]) ++ List.replicate (4 - (lg_sl ([.ref h0, .int p0, .int p1, .int p2])).length) Slot.unset).toArray = ls at hl ⊢
  have hl : lv_has ls 4 [(0, .ref h0), (1, .int p0), (2, .int p1), (3, .int p2)] := hl
  refine zstart (fun H hH => ?_)
  rw [← hH] at hP
  have hS : va_S A s.heap H [] := by rw [hH]; exact va_S.rf
  generalize ([] : List Loc) = locs at hS ⊢
  refine zgen (fun R Q hR hQ => ?_)
  refine lv_aload_n hx hb dX11_areTwo_0 rfl (lv_at hl 0 rfl) ?_
  refine lv_iload_n hx hb dX11_areTwo_1 rfl (lv_at hl 1 rfl) ?_
  obtain ⟨hPc, hDc⟩ := zc2 (wc := [(h0, .inr (11, [.int th, .ref tB, .int tsz, .int tat, .int wr, .int dp, .ref rC, .ref rV, .ref rD, .ref rK, .ref rT, .ref rS, .ref rU, .int lw, .int tx, .ref rL, .ref rX, .ref qR, .ref qB, .ref qP, .int qnb, .int qnp, .ref aR, .ref aB, .ref aP, .int nb, .int np, .ref aN, .ref rf, .int ho, .int br, .ref aK, .int ac, .long dw, .ref aE, .int sr, .int sf, .ref aA, .ref aH, .ref aI, .int hi]))]) hP hT [0] (by decide +kernel) rfl
  have hFc := zfr hS hA
  refine va_calli (va_runV (As := [.int p0]) (rest := []) ⟨hx, hb, hml, hown, hts⟩ (g_X11_isBride l dC dI cI cJ h0 p0 th tB tsz tat wr dp rC rV rD rK rT rS rU lw tx rL rX qR qB qP qnb qnp aR aB aP nb np aN rf ho br aK ac dw aE sr sf aA aH aI hi H.size y_ac y_hi y_ho y_lw n_nb n_np y_qnb y_qnp y_tat y_tsz y_wr) (cwV 1 hts (zgV qw1402 qw1404 qw56 qw108 qw1405) rfl rfl rfl hd_X11_isBride ⟨by rw [hR]; exact Nat.le_of_ble_eq_true rfl, by rw [hR]; exact Nat.le_of_ble_eq_true rfl⟩) (zPV hPc hK hDc (va_recv (q := (RX11, TX11, 41)) hK hP (ci := 11) (q0 := 0) rfl rfl)) rfl rfl hl.1 rfl (lv_room (Nat.le_of_ble_eq_true rfl)) dX11_areTwo_2 ⟨Nat.zero_le _, Nat.zero_le _⟩) hS (fun q _ h => hFc q h) hFc (fun v2 u2 t H locs ht hvm hw hB hz1 hk1 hS9 => ?_)
  replace hP := zkeep hP hk1
  replace hS := hS9
  clear hPc hDc hFc hk1 hz1 hvm hS9
  obtain ⟨f2_0, f2_1, f2_2, f2_3⟩ : (0 ≤ v2.toInt) ∧ (v2.toInt ≤ 1) ∧ (¬ v2.toInt = 0 → (0 ≤ p0.toInt ∧ p0.toInt < nb.toInt)) ∧ (v2.toInt = 0 → ¬ (0 ≤ p0.toInt ∧ p0.toInt < nb.toInt)) := hw
  refine lv_if_eq (tgt := 33) hx hb dX11_areTwo_5 (by decide) (fun c5 => ?_) (fun c5 => ?_)
  · have c5 : v2.toInt = 0 := z5 rfl (by decide) c5
    refine lv_iconst (v := 0) hx hb dX11_areTwo_33 (by decide) ?_
    have zr0 : (0 : Int32).toInt = 0 := by decide
    rw [hQ]
    exact W.zret (v := 0) (ty := .boolean) hx hb hr rfl (fun t ht hW => ⟨⟨0, (), rfl, ⟨by (try dsimp only); omega, by (try dsimp only); omega, by (try dsimp only); omega, by (try dsimp only); omega, by (try dsimp only); omega⟩, trivial⟩, hS.F ht⟩) hS.2.2 dX11_areTwo_34
  · have c5 : ¬ v2.toInt = 0 := z6 rfl (by decide) c5
    refine lv_aload_n hx hb dX11_areTwo_8 rfl (lv_at hl 0 rfl) ?_
    refine lv_iload_n hx hb dX11_areTwo_9 rfl (lv_at hl 2 rfl) ?_
    obtain ⟨hPc, hDc⟩ := zc2 (wc := [(h0, .inr (11, [.int th, .ref tB, .int tsz, .int tat, .int wr, .int dp, .ref rC, .ref rV, .ref rD, .ref rK, .ref rT, .ref rS, .ref rU, .int lw, .int tx, .ref rL, .ref rX, .ref qR, .ref qB, .ref qP, .int qnb, .int qnp, .ref aR, .ref aB, .ref aP, .int nb, .int np, .ref aN, .ref rf, .int ho, .int br, .ref aK, .int ac, .long dw, .ref aE, .int sr, .int sf, .ref aA, .ref aH, .ref aI, .int hi]))]) hP hT [0] (by decide +kernel) rfl
    have hFc := zfr hS hA
    refine va_calli (va_runV (As := [.int p1]) (rest := []) ⟨hx, hb, hml, hown, hts⟩ (g_X11_isBride l dC dI cI cJ h0 p1 th tB tsz tat wr dp rC rV rD rK rT rS rU lw tx rL rX qR qB qP qnb qnp aR aB aP nb np aN rf ho br aK ac dw aE sr sf aA aH aI hi H.size y_ac y_hi y_ho y_lw n_nb n_np y_qnb y_qnp y_tat y_tsz y_wr) (cwV 1 hts (zgV qw1402 qw1404 qw56 qw108 qw1405) rfl rfl rfl hd_X11_isBride ⟨by rw [hR]; exact Nat.le_of_ble_eq_true rfl, by rw [hR]; exact Nat.le_of_ble_eq_true rfl⟩) (zPV hPc hK hDc (va_recv (q := (RX11, TX11, 41)) hK hP (ci := 11) (q0 := 0) rfl rfl)) rfl rfl hl.1 rfl (lv_room (Nat.le_of_ble_eq_true rfl)) dX11_areTwo_10 ⟨Nat.zero_le _, Nat.zero_le _⟩) hS (fun q _ h => hFc q h) hFc (fun v10 u10 t H locs ht hvm hw hB hz1 hk1 hS9 => ?_)
    replace hP := zkeep hP hk1
    replace hS := hS9
    clear hPc hDc hFc hk1 hz1 hvm hS9
    obtain ⟨f10_0, f10_1, f10_2, f10_3⟩ : (0 ≤ v10.toInt) ∧ (v10.toInt ≤ 1) ∧ (¬ v10.toInt = 0 → (0 ≤ p1.toInt ∧ p1.toInt < nb.toInt)) ∧ (v10.toInt = 0 → ¬ (0 ≤ p1.toInt ∧ p1.toInt < nb.toInt)) := hw
    refine lv_if_eq (tgt := 33) hx hb dX11_areTwo_13 (by decide) (fun c13 => ?_) (fun c13 => ?_)
    · have c13 : v10.toInt = 0 := z5 rfl (by decide) c13
      refine lv_iconst (v := 0) hx hb dX11_areTwo_33 (by decide) ?_
      have zr0 : (0 : Int32).toInt = 0 := by decide
      rw [hQ]
      exact W.zret (v := 0) (ty := .boolean) hx hb hr rfl (fun t ht hW => ⟨⟨0, (), rfl, ⟨by (try dsimp only); omega, by (try dsimp only); omega, by (try dsimp only); omega, by (try dsimp only); omega, by (try dsimp only); omega⟩, trivial⟩, hS.F ht⟩) hS.2.2 dX11_areTwo_34
    · have c13 : ¬ v10.toInt = 0 := z6 rfl (by decide) c13
      refine lv_iload_n hx hb dX11_areTwo_16 rfl (lv_at hl 1 rfl) ?_
      refine lv_iload_n hx hb dX11_areTwo_17 rfl (lv_at hl 2 rfl) ?_
      refine lv_icmp_eq (tgt := 33) hx hb dX11_areTwo_18 (by decide) (fun c18 => ?_) (fun c18 => ?_)
      · have c18 : p0.toInt = p1.toInt := z5 rfl rfl c18
        refine lv_iconst (v := 0) hx hb dX11_areTwo_33 (by decide) ?_
        have zr0 : (0 : Int32).toInt = 0 := by decide
        rw [hQ]
        exact W.zret (v := 0) (ty := .boolean) hx hb hr rfl (fun t ht hW => ⟨⟨0, (), rfl, ⟨by (try dsimp only); omega, by (try dsimp only); omega, by (try dsimp only); omega, by (try dsimp only); omega, by (try dsimp only); omega⟩, trivial⟩, hS.F ht⟩) hS.2.2 dX11_areTwo_34
      · have c18 : ¬ p0.toInt = p1.toInt := z6 rfl rfl c18
        refine lv_aload_n hx hb dX11_areTwo_21 rfl (lv_at hl 0 rfl) ?_
        refine lv_iload_n hx hb dX11_areTwo_22 rfl (lv_at hl 3 rfl) ?_
        obtain ⟨hPc, hDc⟩ := zc2 (wc := [(h0, .inr (11, [.int th, .ref tB, .int tsz, .int tat, .int wr, .int dp, .ref rC, .ref rV, .ref rD, .ref rK, .ref rT, .ref rS, .ref rU, .int lw, .int tx, .ref rL, .ref rX, .ref qR, .ref qB, .ref qP, .int qnb, .int qnp, .ref aR, .ref aB, .ref aP, .int nb, .int np, .ref aN, .ref rf, .int ho, .int br, .ref aK, .int ac, .long dw, .ref aE, .int sr, .int sf, .ref aA, .ref aH, .ref aI, .int hi]))]) hP hT [0] (by decide +kernel) rfl
        have hFc := zfr hS hA
        refine va_calli (va_runV (As := [.int p2]) (rest := []) ⟨hx, hb, hml, hown, hts⟩ (g_X11_isPainter l dC dI cI cJ h0 p2 th tB tsz tat wr dp rC rV rD rK rT rS rU lw tx rL rX qR qB qP qnb qnp aR aB aP nb np aN rf ho br aK ac dw aE sr sf aA aH aI hi H.size y_ac y_hi y_ho y_lw n_nb n_np y_qnb y_qnp y_tat y_tsz y_wr) (cwV 1 hts (zgV qw1410 qw1412 qw57 qw108 qw1413) rfl rfl rfl hd_X11_isPainter ⟨by rw [hR]; exact Nat.le_of_ble_eq_true rfl, by rw [hR]; exact Nat.le_of_ble_eq_true rfl⟩) (zPV hPc hK hDc (va_recv (q := (RX11, TX11, 41)) hK hP (ci := 11) (q0 := 0) rfl rfl)) rfl rfl hl.1 rfl (lv_room (Nat.le_of_ble_eq_true rfl)) dX11_areTwo_23 ⟨Nat.zero_le _, Nat.zero_le _⟩) hS (fun q _ h => hFc q h) hFc (fun v23 u23 t H locs ht hvm hw hB hz1 hk1 hS9 => ?_)
        replace hP := zkeep hP hk1
        replace hS := hS9
        clear hPc hDc hFc hk1 hz1 hvm hS9
        obtain ⟨f23_0, f23_1, f23_2, f23_3⟩ : (0 ≤ v23.toInt) ∧ (v23.toInt ≤ 1) ∧ (¬ v23.toInt = 0 → (0 ≤ p2.toInt ∧ p2.toInt < np.toInt)) ∧ (v23.toInt = 0 → ¬ (0 ≤ p2.toInt ∧ p2.toInt < np.toInt)) := hw
        refine lv_if_eq (tgt := 33) hx hb dX11_areTwo_26 (by decide) (fun c26 => ?_) (fun c26 => ?_)
        · have c26 : v23.toInt = 0 := z5 rfl (by decide) c26
          refine lv_iconst (v := 0) hx hb dX11_areTwo_33 (by decide) ?_
          have zr0 : (0 : Int32).toInt = 0 := by decide
          rw [hQ]
          exact W.zret (v := 0) (ty := .boolean) hx hb hr rfl (fun t ht hW => ⟨⟨0, (), rfl, ⟨by (try dsimp only); omega, by (try dsimp only); omega, by (try dsimp only); omega, by (try dsimp only); omega, by (try dsimp only); omega⟩, trivial⟩, hS.F ht⟩) hS.2.2 dX11_areTwo_34
        · have c26 : ¬ v23.toInt = 0 := z6 rfl (by decide) c26
          refine lv_iconst (v := 1) hx hb dX11_areTwo_29 (by decide) ?_
          refine lv_goto (tgt := 34) hx hb dX11_areTwo_30 (by decide) ?_
          have zr0 : (1 : Int32).toInt = 1 := by decide
          rw [hQ]
          exact W.zret (v := 1) (ty := .boolean) hx hb hr rfl (fun t ht hW => ⟨⟨1, (), rfl, ⟨by (try dsimp only); omega, by (try dsimp only); omega, by (try dsimp only); omega, by (try dsimp only); omega, by (try dsimp only); omega⟩, trivial⟩, hS.F ht⟩) hS.2.2 dX11_areTwo_34
set_option maxHeartbeats 4000000 in
set_option maxRecDepth 100000 in
theorem g_X11_game (l : Launch) (dC : Nat → ClassId) (dI : Nat → Nat → Nat) (cI cJ : ClassId) (h0 : Nat) (p0 : Int32) (p1 : Int32) (p2 : Int32) (p3 : Int32) (p4 : Int32) (p5 : Int32) (th : Int32) (tB : Nat) (tsz : Int32) (tat : Int32) (wr : Int32) (dp : Int32) (rC : Nat) (rV : Nat) (rD : Nat) (rK : Nat) (rT : Nat) (rS : Nat) (rU : Nat) (lw : Int32) (tx : Int32) (rL : Nat) (rX : Nat) (qR : Nat) (qB : Nat) (qP : Nat) (qnb : Int32) (qnp : Int32) (aR : Nat) (aB : Nat) (aP : Nat) (nb : Int32) (np : Int32) (aN : Nat) (rf : Nat) (ho : Int32) (br : Int32) (aK : Nat) (ac : Int32) (dw : Int64) (aE : Nat) (sr : Int32) (sf : Int32) (aA : Nat) (aH : Nat) (aI : Nat) (hi : Int32) (fC : Nat → Int32) (fV : Nat → Int32) (fK : Nat → Int32) (fT : Nat → Int32) (fS : Nat → Int32) (fU : Nat → Int32) (fL : Nat → Int32) (fX : Nat → Int32) (fBr : Nat → Int32) (fPa : Nat → Int32) (fN : Nat → Int32) (sz : Nat) (n_ac : 0 ≤ ac.toInt ∧ ac.toInt ≤ 40) (n_hi : 0 ≤ hi.toInt ∧ hi.toInt ≤ 1) (n_ho : (-1) ≤ ho.toInt ∧ ho.toInt ≤ 3) (n_lw : 0 ≤ lw.toInt ∧ lw.toInt ≤ 4) (n_nb : 0 ≤ nb.toInt ∧ nb.toInt ≤ 6) (n_np : 0 ≤ np.toInt ∧ np.toInt ≤ 5) (n_qnb : 0 ≤ qnb.toInt ∧ qnb.toInt ≤ 6) (n_qnp : 0 ≤ qnp.toInt ∧ qnp.toInt ≤ 5) (n_tat : 0 ≤ tat.toInt ∧ tat.toInt ≤ 260) (n_tsz : 0 ≤ tsz.toInt ∧ tsz.toInt ≤ 240) (n_wr : (-1) ≤ wr.toInt ∧ wr.toInt ≤ 260) (hls : zLs ho fC fV fK fT fS fU) (ci_fBr_zBr_nb : zBr nb fBr) (ci_fN_zNw_np : zNw np fN) (ci_fPa_zBr_np : zBr np fPa)  : Met l yX11_game (.code yX11_game cX11_game 7 (some .int) :: wA) ({ frames := 7, cells := 0, slots := 0, locals := 173 }) (zP (dC, dI) [(cI, .int), (cJ, .long)] [.ref h0, .int p0, .int p1, .int p2, .int p3, .int p4, .int p5] sz [(h0, .inr (11, [.int th, .ref tB, .int tsz, .int tat, .int wr, .int dp, .ref rC, .ref rV, .ref rD, .ref rK, .ref rT, .ref rS, .ref rU, .int lw, .int tx, .ref rL, .ref rX, .ref qR, .ref qB, .ref qP, .int qnb, .int qnp, .ref aR, .ref aB, .ref aP, .int nb, .int np, .ref aN, .ref rf, .int ho, .int br, .ref aK, .int ac, .long dw, .ref aE, .int sr, .int sf, .ref aA, .ref aH, .ref aI, .int hi])), (rC, .inl (cI, 2600, .inl fC)), (rV, .inl (cI, 2600, .inl fV)), (rK, .inl (cI, 5, .inl fK)), (rT, .inl (cI, 700, .inl fT)), (rS, .inl (cI, 700, .inl fS)), (rU, .inl (cI, 700, .inl fU)), (rL, .inl (cI, 6, .inl fL)), (rX, .inl (cI, 80, .inl fX)), (aB, .inl (cI, 24, .inl fBr)), (aP, .inl (cI, 20, .inl fPa)), (aN, .inl (cI, 97, .inl fN))]) (va_Qi (fun (r : Int32) (u : (Nat → Int32) × (Nat → Int32)) => (∀ (kc : zK3) (kT : zT) (q_fR : Nat → Int32) (q_fKp : Nat → Int32) (q_frf : Nat → Int32) (kl : Option ((Int → Int) × Int)), zCn q_fR fBr fPa nb.toInt np.toInt kc → zKo nb.toInt np.toInt kc kT → zTr nb.toInt np.toInt kT fN q_fKp ac q_frf → zLwR ho fC fV fK fT fS fU kl → r = sV_gam nb.toInt np.toInt kc kT.1 kl p0 p1 p2 p3 p4 p5)) (fun (u : (Nat → Int32) × (Nat → Int32)) (t : State) => va_P (dC, dI) vwCl [(h0, .inr (11, [.int th, .ref tB, .int tsz, .int tat, .int wr, .int dp, .ref rC, .ref rV, .ref rD, .ref rK, .ref rT, .ref rS, .ref rU, .int lw, .int tx, .ref rL, .ref rX, .ref qR, .ref qB, .ref qP, .int qnb, .int qnp, .ref aR, .ref aB, .ref aP, .int nb, .int np, .ref aN, .ref rf, .int ho, .int br, .ref aK, .int ac, .long dw, .ref aE, .int sr, .int sf, .ref aA, .ref aH, .ref aI, .int hi])), (rC, .inl (cI, 2600, .inl fC)), (rV, .inl (cI, 2600, .inl fV)), (rK, .inl (cI, 5, .inl fK)), (rT, .inl (cI, 700, .inl fT)), (rS, .inl (cI, 700, .inl fS)), (rU, .inl (cI, 700, .inl fU)), (rL, .inl (cI, 6, .inl u.1)), (rX, .inl (cI, 80, .inl u.2)), (aB, .inl (cI, 24, .inl fBr)), (aP, .inl (cI, 20, .inl fPa)), (aN, .inl (cI, 97, .inl fN))] t.heap ∧ va_D (va_A [(h0, .inr (11, [.int th, .ref tB, .int tsz, .int tat, .int wr, .int dp, .ref rC, .ref rV, .ref rD, .ref rK, .ref rT, .ref rS, .ref rU, .int lw, .int tx, .ref rL, .ref rX, .ref qR, .ref qB, .ref qP, .int qnb, .int qnp, .ref aR, .ref aB, .ref aP, .int nb, .int np, .ref aN, .ref rf, .int ho, .int br, .ref aK, .int ac, .long dw, .ref aE, .int sr, .int sf, .ref aA, .ref aH, .ref aI, .int hi])), (rC, .inl (cI, 2600, .inl fC)), (rV, .inl (cI, 2600, .inl fV)), (rK, .inl (cI, 5, .inl fK)), (rT, .inl (cI, 700, .inl fT)), (rS, .inl (cI, 700, .inl fS)), (rU, .inl (cI, 700, .inl fU)), (rL, .inl (cI, 6, .inl fL)), (rX, .inl (cI, 80, .inl fX)), (aB, .inl (cI, 24, .inl fBr)), (aP, .inl (cI, 20, .inl fPa)), (aN, .inl (cI, 97, .inl fN))] sz) [(h0, .inr (11, [.int th, .ref tB, .int tsz, .int tat, .int wr, .int dp, .ref rC, .ref rV, .ref rD, .ref rK, .ref rT, .ref rS, .ref rU, .int lw, .int tx, .ref rL, .ref rX, .ref qR, .ref qB, .ref qP, .int qnb, .int qnp, .ref aR, .ref aB, .ref aP, .int nb, .int np, .ref aN, .ref rf, .int ho, .int br, .ref aK, .int ac, .long dw, .ref aE, .int sr, .int sf, .ref aA, .ref aH, .ref aI, .int hi])), (rC, .inl (cI, 2600, .inl fC)), (rV, .inl (cI, 2600, .inl fV)), (rK, .inl (cI, 5, .inl fK)), (rT, .inl (cI, 700, .inl fT)), (rS, .inl (cI, 700, .inl fS)), (rU, .inl (cI, 700, .inl fU)), (rL, .inl (cI, 6, .inl u.1)), (rX, .inl (cI, 80, .inl u.2)), (aB, .inl (cI, 24, .inl fBr)), (aP, .inl (cI, 20, .inl fPa)), (aN, .inl (cI, 97, .inl fN))]) (va_A [(h0, .inr (11, [.int th, .ref tB, .int tsz, .int tat, .int wr, .int dp, .ref rC, .ref rV, .ref rD, .ref rK, .ref rT, .ref rS, .ref rU, .int lw, .int tx, .ref rL, .ref rX, .ref qR, .ref qB, .ref qP, .int qnb, .int qnp, .ref aR, .ref aB, .ref aP, .int nb, .int np, .ref aN, .ref rf, .int ho, .int br, .ref aK, .int ac, .long dw, .ref aE, .int sr, .int sf, .ref aA, .ref aH, .ref aI, .int hi])), (rC, .inl (cI, 2600, .inl fC)), (rV, .inl (cI, 2600, .inl fV)), (rK, .inl (cI, 5, .inl fK)), (rT, .inl (cI, 700, .inl fT)), (rS, .inl (cI, 700, .inl fS)), (rU, .inl (cI, 700, .inl fU)), (rL, .inl (cI, 6, .inl fL)), (rX, .inl (cI, 80, .inl fX)), (aB, .inl (cI, 24, .inl fBr)), (aP, .inl (cI, 20, .inl fPa)), (aN, .inl (cI, 97, .inl fN))] sz)) 0 0 (va_A [(h0, .inr (11, [.int th, .ref tB, .int tsz, .int tat, .int wr, .int dp, .ref rC, .ref rV, .ref rD, .ref rK, .ref rT, .ref rS, .ref rU, .int lw, .int tx, .ref rL, .ref rX, .ref qR, .ref qB, .ref qP, .int qnb, .int qnp, .ref aR, .ref aB, .ref aP, .int nb, .int np, .ref aN, .ref rf, .int ho, .int br, .ref aK, .int ac, .long dw, .ref aE, .int sr, .int sf, .ref aA, .ref aH, .ref aI, .int hi])), (rC, .inl (cI, 2600, .inl fC)), (rV, .inl (cI, 2600, .inl fV)), (rK, .inl (cI, 5, .inl fK)), (rT, .inl (cI, 700, .inl fT)), (rS, .inl (cI, 700, .inl fS)), (rU, .inl (cI, 700, .inl fU)), (rL, .inl (cI, 6, .inl fL)), (rX, .inl (cI, 80, .inl fX)), (aB, .inl (cI, 24, .inl fBr)), (aP, .inl (cI, 20, .inl fPa)), (aN, .inl (cI, 97, .inl fN))] sz) := by
  refine Met.ofW (cc := cX11_game) (maxL := 7) (ret := (some .int)) (by decide) rfl ?_
  intro p e s m args below meth c s₁ B hml hv
  have y_ac : zHid (0 ≤ ac.toInt ∧ ac.toInt ≤ 40) := n_ac
  have y_hi : zHid (0 ≤ hi.toInt ∧ hi.toInt ≤ 1) := n_hi
  have y_ho : zHid ((-1) ≤ ho.toInt ∧ ho.toInt ≤ 3) := n_ho
  have y_lw : zHid (0 ≤ lw.toInt ∧ lw.toInt ≤ 4) := n_lw
  have y_qnb : zHid (0 ≤ qnb.toInt ∧ qnb.toInt ≤ 6) := n_qnb
  have y_qnp : zHid (0 ≤ qnp.toInt ∧ qnp.toInt ≤ 5) := n_qnp
  have y_tat : zHid (0 ≤ tat.toInt ∧ tat.toInt ≤ 260) := n_tat
  have y_tsz : zHid (0 ≤ tsz.toInt ∧ tsz.toInt ≤ 240) := n_tsz
  have y_wr : zHid ((-1) ≤ wr.toInt ∧ wr.toInt ≤ 260) := n_wr
  clear n_ac n_hi n_ho n_lw n_qnb n_qnp n_tat n_tsz n_wr
  obtain ⟨hargs, hsz, hP, hK, hT⟩ := hv
  have hx := B.exec
  have hb := B.bytes
  have hr := B.returns
  have hts : ∀ w ∈ wA, w.before args s = true := fun w h => atoms_spec (ws := .code yX11_game cX11_game 7 (some .int) :: wA) B.pre w (List.mem_cons_of_mem _ h)
  have hown : s.vm.findClass RX11 = some m.cls := findClass_of_methodNamed B.named
  have hlocks := B.notSynchronized
  subst hsz
  have hD := hT.self (sz := s.heap.size)
  generalize hAe : va_A [(h0, .inr (11, [.int th, .ref tB, .int tsz, .int tat, .int wr, .int dp, .ref rC, .ref rV, .ref rD, .ref rK, .ref rT, .ref rS, .ref rU, .int lw, .int tx, .ref rL, .ref rX, .ref qR, .ref qB, .ref qP, .int qnb, .int qnp, .ref aR, .ref aB, .ref aP, .int nb, .int np, .ref aN, .ref rf, .int ho, .int br, .ref aK, .int ac, .long dw, .ref aE, .int sr, .int sf, .ref aA, .ref aH, .ref aI, .int hi])), (rC, .inl (cI, 2600, .inl fC)), (rV, .inl (cI, 2600, .inl fV)), (rK, .inl (cI, 5, .inl fK)), (rT, .inl (cI, 700, .inl fT)), (rS, .inl (cI, 700, .inl fS)), (rU, .inl (cI, 700, .inl fU)), (rL, .inl (cI, 6, .inl fL)), (rX, .inl (cI, 80, .inl fX)), (aB, .inl (cI, 24, .inl fBr)), (aP, .inl (cI, 20, .inl fPa)), (aN, .inl (cI, 97, .inl fN))] s.heap.size = A at hD ⊢
  have hA : ∀ q : Nat, s.heap.size ≤ q → A q := fun q h => by rw [← hAe]; exact Or.inr h
  have hl := lv_entry ([.ref h0, .int p0, .int p1, .int p2, .int p3, .int p4, .int p5]) (n := 7) (Nat.le_of_ble_eq_true rfl)
  rw [show entryFrame m args 7 = entryFrame m ([.ref h0, .int p0, .int p1, .int p2, .int p3, .int p4, .int p5] : List Value).toArray 7 by rw [hargs], lg_entry_eq]
  generalize (lg_sl ([.ref h0, .int p0, .int p1, .int p2, .int p3, .int p4, .int p5]) ++ List.replicate (7 - (lg_sl ([.ref h0, .int p0, .int p1, .int p2, .int p3, .int p4, .int p5])).length) Slot.unset).toArray = ls at hl ⊢
  have hl : lv_has ls 7 [(0, .ref h0), (1, .int p0), (2, .int p1), (3, .int p2), (4, .int p3), (5, .int p4), (6, .int p5)] := hl
  refine zstart (fun H hH => ?_)
  rw [← hH] at hP
  have hS : va_S A s.heap H [] := by rw [hH]; exact va_S.rf
  generalize ([] : List Loc) = locs at hS ⊢
  refine zgen (fun R Q hR hQ => ?_)
  refine lv_aload_n hx hb dX11_game_0 rfl (lv_at hl 0 rfl) ?_
  refine lv_iload_n hx hb dX11_game_1 rfl (lv_at hl 1 rfl) ?_
  refine lv_iload_n hx hb dX11_game_2 rfl (lv_at hl 2 rfl) ?_
  refine lv_iload_n hx hb dX11_game_3 rfl (lv_at hl 3 rfl) ?_
  obtain ⟨hPc, hDc⟩ := zc2 (wc := [(h0, .inr (11, [.int th, .ref tB, .int tsz, .int tat, .int wr, .int dp, .ref rC, .ref rV, .ref rD, .ref rK, .ref rT, .ref rS, .ref rU, .int lw, .int tx, .ref rL, .ref rX, .ref qR, .ref qB, .ref qP, .int qnb, .int qnp, .ref aR, .ref aB, .ref aP, .int nb, .int np, .ref aN, .ref rf, .int ho, .int br, .ref aK, .int ac, .long dw, .ref aE, .int sr, .int sf, .ref aA, .ref aH, .ref aI, .int hi]))]) hP hD [0] (by decide +kernel) rfl
  have hFc := zfr hS hA
  refine va_calli (va_runV (As := [.int p0, .int p1, .int p2]) (rest := []) ⟨hx, hb, hml, hown, hts⟩ (g_X11_areTwo l dC dI cI cJ h0 p0 p1 p2 th tB tsz tat wr dp rC rV rD rK rT rS rU lw tx rL rX qR qB qP qnb qnp aR aB aP nb np aN rf ho br aK ac dw aE sr sf aA aH aI hi H.size y_ac y_hi y_ho y_lw n_nb n_np y_qnb y_qnp y_tat y_tsz y_wr) (cwV 3 hts (zgV qw1658 qw1660 qw88 qw108 qw1661) rfl rfl rfl hd_X11_areTwo ⟨by rw [hR]; exact Nat.le_of_ble_eq_true rfl, by rw [hR]; exact Nat.le_of_ble_eq_true rfl⟩) (zPV hPc hK hDc (va_recv (q := (RX11, TX11, 41)) hK hP (ci := 11) (q0 := 0) rfl rfl)) rfl rfl hl.1 rfl (lv_room (Nat.le_of_ble_eq_true rfl)) dX11_game_4 ⟨Nat.zero_le _, Nat.zero_le _⟩) hS (fun q _ h => hFc q h) hFc (fun v4 u4 t H locs ht hvm hw hB hz1 hk1 hS9 => ?_)
  replace hP := zkeep hP hk1
  replace hS := hS9
  clear hPc hDc hFc hk1 hz1 hvm hS9
  obtain ⟨f4_0, f4_1, f4_2, f4_3, f4_4⟩ : (0 ≤ v4.toInt) ∧ (v4.toInt ≤ 1) ∧ (¬ v4.toInt = 0 → (0 ≤ p0.toInt ∧ p0.toInt < nb.toInt ∧ 0 ≤ p1.toInt ∧ p1.toInt < nb.toInt ∧ 0 ≤ p2.toInt ∧ p2.toInt < np.toInt)) ∧ (¬ v4.toInt = 0 → ¬ p0.toInt = p1.toInt) ∧ (v4.toInt = 0 → ¬ ((0 ≤ p0.toInt ∧ p0.toInt < nb.toInt) ∧ (0 ≤ p1.toInt ∧ p1.toInt < nb.toInt) ∧ ¬ p0.toInt = p1.toInt ∧ 0 ≤ p2.toInt ∧ p2.toInt < np.toInt)) := hw
  refine lv_if_eq (tgt := 42) hx hb dX11_game_7 (by decide) (fun c7 => ?_) (fun c7 => ?_)
  · have c7 : v4.toInt = 0 := z5 rfl (by decide) c7
    refine lv_ldcw (v := (-1000000)) hx hb hown (hts _ qw1662) dX11_game_42 ?_
    have zr0 : ((-1000000) : Int32).toInt = (-1000000) := by decide
    rw [hQ]
    exact W.iret (v := ((-1000000))) hx hb hr (fun t ht hW => ⟨⟨(-1000000), (fL, fX), rfl, (by (try dsimp only); exact fun kc kT q_fR q_fKp q_frf kl hc hb h hL => by unfold sV_gam; exact (if_neg (fun y => by obtain ⟨⟨a1, a2, a3, a4⟩, a5, a6, a7⟩ := y; omega)).symm), ⟨by rw [ht]; exact hP, hD⟩⟩, hS.F ht⟩) hS.2.2 dX11_game_45
  · have c7 : ¬ v4.toInt = 0 := z6 rfl (by decide) c7
    refine lv_iload hx hb dX11_game_10 (lv_at hl 4 rfl) ?_
    refine lv_iconst (v := 0) hx hb dX11_game_12 (by decide) ?_
    refine lv_bipush (v := 9) hx hb dX11_game_13 (by decide) ?_
    have hPc : va_P (dC, dI) vwCl [] H := zP0
    have hDc : va_D (fun _ => True) [] := zD0
    have hFc := zfr hS hA
    refine va_calli (va_runS (As := [.int p3, .int 0, .int 9]) (rest := []) ⟨hx, hb, hml, hown, hts⟩ (g_X11_in l dC dI cI cJ p3 0 9 H.size) (cwS 3 hts (zgS qw1305 qw1306 qw108 qw1307) rfl rfl rfl hd_X11_in ⟨by rw [hR]; exact Nat.le_of_ble_eq_true rfl, by rw [hR]; exact Nat.le_of_ble_eq_true rfl⟩) (zPS hPc hK hDc) rfl rfl hl.1 rfl (lv_room (Nat.le_of_ble_eq_true rfl)) dX11_game_15 ⟨Nat.zero_le _, Nat.zero_le _⟩) hS (fun q _ h => hFc q h) hFc (fun v15 u15 t H locs ht hvm hw hB hz1 hk1 hS9 => ?_)
    replace hP := zkeep hP hk1
    replace hS := hS9
    clear hPc hDc hFc hk1 hz1 hvm hS9
    have zn15_0 : (0 : Int32).toInt = 0 := by decide
    have zn15_9 : (9 : Int32).toInt = 9 := by decide
    obtain ⟨f15_0, f15_1, f15_2, f15_3⟩ : (0 ≤ v15.toInt) ∧ (v15.toInt ≤ 1) ∧ (¬ v15.toInt = 0 → ((0 : Int32).toInt ≤ p3.toInt ∧ p3.toInt ≤ (9 : Int32).toInt)) ∧ (v15.toInt = 0 → (p3.toInt < (0 : Int32).toInt ∨ (9 : Int32).toInt < p3.toInt)) := hw
    refine lv_if_eq (tgt := 42) hx hb dX11_game_18 (by decide) (fun c18 => ?_) (fun c18 => ?_)
    · have c18 : v15.toInt = 0 := z5 rfl (by decide) c18
      refine lv_ldcw (v := (-1000000)) hx hb hown (hts _ qw1662) dX11_game_42 ?_
      have zr0 : ((-1000000) : Int32).toInt = (-1000000) := by decide
      rw [hQ]
      exact W.iret (v := ((-1000000))) hx hb hr (fun t ht hW => ⟨⟨(-1000000), (fL, fX), rfl, (by (try dsimp only); exact fun kc kT q_fR q_fKp q_frf kl hc hb h hL => by unfold sV_gam; exact (if_neg (fun y => by obtain ⟨⟨a1, a2, a3, a4⟩, a5, a6, a7⟩ := y; omega)).symm), ⟨by rw [ht]; exact hP, hD⟩⟩, hS.F ht⟩) hS.2.2 dX11_game_45
    · have c18 : ¬ v15.toInt = 0 := z6 rfl (by decide) c18
      refine lv_iload hx hb dX11_game_21 (lv_at hl 5 rfl) ?_
      refine lv_iconst (v := 0) hx hb dX11_game_23 (by decide) ?_
      refine lv_bipush (v := 9) hx hb dX11_game_24 (by decide) ?_
      have hPc : va_P (dC, dI) vwCl [] H := zP0
      have hDc : va_D (fun _ => True) [] := zD0
      have hFc := zfr hS hA
      refine va_calli (va_runS (As := [.int p4, .int 0, .int 9]) (rest := []) ⟨hx, hb, hml, hown, hts⟩ (g_X11_in l dC dI cI cJ p4 0 9 H.size) (cwS 3 hts (zgS qw1305 qw1306 qw108 qw1307) rfl rfl rfl hd_X11_in ⟨by rw [hR]; exact Nat.le_of_ble_eq_true rfl, by rw [hR]; exact Nat.le_of_ble_eq_true rfl⟩) (zPS hPc hK hDc) rfl rfl hl.1 rfl (lv_room (Nat.le_of_ble_eq_true rfl)) dX11_game_26 ⟨Nat.zero_le _, Nat.zero_le _⟩) hS (fun q _ h => hFc q h) hFc (fun v26 u26 t H locs ht hvm hw hB hz1 hk1 hS9 => ?_)
      replace hP := zkeep hP hk1
      replace hS := hS9
      clear hPc hDc hFc hk1 hz1 hvm hS9
      have zn26_0 : (0 : Int32).toInt = 0 := by decide
      have zn26_9 : (9 : Int32).toInt = 9 := by decide
      obtain ⟨f26_0, f26_1, f26_2, f26_3⟩ : (0 ≤ v26.toInt) ∧ (v26.toInt ≤ 1) ∧ (¬ v26.toInt = 0 → ((0 : Int32).toInt ≤ p4.toInt ∧ p4.toInt ≤ (9 : Int32).toInt)) ∧ (v26.toInt = 0 → (p4.toInt < (0 : Int32).toInt ∨ (9 : Int32).toInt < p4.toInt)) := hw
      refine lv_if_eq (tgt := 42) hx hb dX11_game_29 (by decide) (fun c29 => ?_) (fun c29 => ?_)
      · have c29 : v26.toInt = 0 := z5 rfl (by decide) c29
        refine lv_ldcw (v := (-1000000)) hx hb hown (hts _ qw1662) dX11_game_42 ?_
        have zr0 : ((-1000000) : Int32).toInt = (-1000000) := by decide
        rw [hQ]
        exact W.iret (v := ((-1000000))) hx hb hr (fun t ht hW => ⟨⟨(-1000000), (fL, fX), rfl, (by (try dsimp only); exact fun kc kT q_fR q_fKp q_frf kl hc hb h hL => by unfold sV_gam; exact (if_neg (fun y => by obtain ⟨⟨a1, a2, a3, a4⟩, a5, a6, a7⟩ := y; omega)).symm), ⟨by rw [ht]; exact hP, hD⟩⟩, hS.F ht⟩) hS.2.2 dX11_game_45
      · have c29 : ¬ v26.toInt = 0 := z6 rfl (by decide) c29
        refine lv_iload hx hb dX11_game_32 (lv_at hl 6 rfl) ?_
        refine lv_iconst (v := 0) hx hb dX11_game_34 (by decide) ?_
        refine lv_iconst (v := 1) hx hb dX11_game_35 (by decide) ?_
        have hPc : va_P (dC, dI) vwCl [] H := zP0
        have hDc : va_D (fun _ => True) [] := zD0
        have hFc := zfr hS hA
        refine va_calli (va_runS (As := [.int p5, .int 0, .int 1]) (rest := []) ⟨hx, hb, hml, hown, hts⟩ (g_X11_in l dC dI cI cJ p5 0 1 H.size) (cwS 3 hts (zgS qw1305 qw1306 qw108 qw1307) rfl rfl rfl hd_X11_in ⟨by rw [hR]; exact Nat.le_of_ble_eq_true rfl, by rw [hR]; exact Nat.le_of_ble_eq_true rfl⟩) (zPS hPc hK hDc) rfl rfl hl.1 rfl (lv_room (Nat.le_of_ble_eq_true rfl)) dX11_game_36 ⟨Nat.zero_le _, Nat.zero_le _⟩) hS (fun q _ h => hFc q h) hFc (fun v36 u36 t H locs ht hvm hw hB hz1 hk1 hS9 => ?_)
        replace hP := zkeep hP hk1
        replace hS := hS9
        clear hPc hDc hFc hk1 hz1 hvm hS9
        have zn36_0 : (0 : Int32).toInt = 0 := by decide
        have zn36_1 : (1 : Int32).toInt = 1 := by decide
        obtain ⟨f36_0, f36_1, f36_2, f36_3⟩ : (0 ≤ v36.toInt) ∧ (v36.toInt ≤ 1) ∧ (¬ v36.toInt = 0 → ((0 : Int32).toInt ≤ p5.toInt ∧ p5.toInt ≤ (1 : Int32).toInt)) ∧ (v36.toInt = 0 → (p5.toInt < (0 : Int32).toInt ∨ (1 : Int32).toInt < p5.toInt)) := hw
        refine lv_if_ne (tgt := 46) hx hb dX11_game_39 (by decide) (fun c39 => ?_) (fun c39 => ?_)
        · have c39 : ¬ v36.toInt = 0 := z6 rfl (by decide) c39
          refine lv_iload hx hb dX11_game_46 (lv_at hl 6 rfl) ?_
          refine lv_if_ne (tgt := 65) hx hb dX11_game_48 (by decide) (fun c48 => ?_) (fun c48 => ?_)
          · have c48 : ¬ p5.toInt = 0 := z6 rfl (by decide) c48
            refine lv_aload_n hx hb dX11_game_65 rfl (lv_at hl 0 rfl) ?_
            refine lv_iload_n hx hb dX11_game_66 rfl (lv_at hl 2 rfl) ?_
            refine lv_iload_n hx hb dX11_game_67 rfl (lv_at hl 1 rfl) ?_
            refine lv_iload_n hx hb dX11_game_68 rfl (lv_at hl 3 rfl) ?_
            refine lv_iload hx hb dX11_game_69 (lv_at hl 5 rfl) ?_
            refine lv_iload hx hb dX11_game_71 (lv_at hl 4 rfl) ?_
            obtain ⟨hPc, hDc, hFc⟩ := zc3 (wc := [(h0, .inr (11, [.int th, .ref tB, .int tsz, .int tat, .int wr, .int dp, .ref rC, .ref rV, .ref rD, .ref rK, .ref rT, .ref rS, .ref rU, .int lw, .int tx, .ref rL, .ref rX, .ref qR, .ref qB, .ref qP, .int qnb, .int qnp, .ref aR, .ref aB, .ref aP, .int nb, .int np, .ref aN, .ref rf, .int ho, .int br, .ref aK, .int ac, .long dw, .ref aE, .int sr, .int sf, .ref aA, .ref aH, .ref aI, .int hi])), (rC, .inl (cI, 2600, .inl fC)), (rV, .inl (cI, 2600, .inl fV)), (rK, .inl (cI, 5, .inl fK)), (rT, .inl (cI, 700, .inl fT)), (rS, .inl (cI, 700, .inl fS)), (rU, .inl (cI, 700, .inl fU)), (rL, .inl (cI, 6, .inl fL)), (rX, .inl (cI, 80, .inl fX)), (aB, .inl (cI, 24, .inl fBr)), (aP, .inl (cI, 20, .inl fPa)), (aN, .inl (cI, 97, .inl fN))]) hP hD hS hA [0, 1, 2, 3, 4, 5, 6, 7, 8, 9, 10, 11] (by decide +kernel) rfl
            refine va_calli (va_runV (As := [.int p1, .int p0, .int p2, .int p4, .int p3]) (rest := []) ⟨hx, hb, hml, hown, hts⟩ (g_X11_gameOf l dC dI cI cJ h0 p1 p0 p2 p4 p3 th tB tsz tat wr dp rC rV rD rK rT rS rU lw tx rL rX qR qB qP qnb qnp aR aB aP nb np aN rf ho br aK ac dw aE sr sf aA aH aI hi fC fV fK fT fS fU fL fX fBr fPa fN H.size y_ac y_hi y_ho y_lw n_nb n_np (by omega) (by omega) (by omega) y_qnb y_qnp y_tat y_tsz y_wr (hls) ci_fBr_zBr_nb ci_fN_zNw_np ci_fPa_zBr_np) (cwV 5 hts (zgV qw1663 qw1665 qw89 qw108 qw1666) rfl rfl rfl hd_X11_gameOf ⟨by rw [hR]; exact Nat.le_of_ble_eq_true rfl, by rw [hR]; exact Nat.le_of_ble_eq_true rfl⟩) (zPV hPc hK hDc (va_recv (q := (RX11, TX11, 41)) hK hP (ci := 11) (q0 := 0) rfl rfl)) rfl rfl hl.1 rfl (lv_room (Nat.le_of_ble_eq_true rfl)) dX11_game_73 ⟨Nat.zero_le _, Nat.zero_le _⟩) hS (fun q _ h => hFc q h) hFc (fun v73 u73 t H locs ht hvm hw hB hz1 hk1 hS9 => ?_)
            obtain ⟨u73_0, u73_1⟩ := u73
            obtain ⟨hP9, hD9⟩ := zj2 (wX := [(h0, .inr (11, [.int th, .ref tB, .int tsz, .int tat, .int wr, .int dp, .ref rC, .ref rV, .ref rD, .ref rK, .ref rT, .ref rS, .ref rU, .int lw, .int tx, .ref rL, .ref rX, .ref qR, .ref qB, .ref qP, .int qnb, .int qnp, .ref aR, .ref aB, .ref aP, .int nb, .int np, .ref aN, .ref rf, .int ho, .int br, .ref aK, .int ac, .long dw, .ref aE, .int sr, .int sf, .ref aA, .ref aH, .ref aI, .int hi])), (rC, .inl (cI, 2600, .inl fC)), (rV, .inl (cI, 2600, .inl fV)), (rK, .inl (cI, 5, .inl fK)), (rT, .inl (cI, 700, .inl fT)), (rS, .inl (cI, 700, .inl fS)), (rU, .inl (cI, 700, .inl fU)), (rL, .inl (cI, 6, .inl u73_0)), (rX, .inl (cI, 80, .inl u73_1)), (aB, .inl (cI, 24, .inl fBr)), (aP, .inl (cI, 20, .inl fPa)), (aN, .inl (cI, 97, .inl fN))]) hP hD hk1 hFc ht hB [0, 1, 2, 3, 4, 5, 6, 7, 8, 9, 10, 11] [(true, 0), (true, 1), (true, 2), (true, 3), (true, 4), (true, 5), (true, 6), (true, 7), (true, 8), (true, 9), (true, 10), (true, 11)] rfl (by decide +kernel) (by decide +kernel) rfl
            clear hP hD hS hPc hDc hFc hB hk1 hz1 hvm
            have hP := hP9
            have hD := hD9
            have hS := hS9
            clear hP9 hD9 hS9
            have f73_0 : (∀ (kc : zK3) (kT : zT) (q_fR : Nat → Int32) (kl : Option ((Int → Int) × Int)), zCn q_fR fBr fPa nb.toInt np.toInt kc → zKo nb.toInt np.toInt kc kT → zSr nb.toInt np.toInt kT.1 fN → zLwR ho fC fV fK fT fS fU kl → (0 ≤ p1.toInt ∧ p1.toInt < nb.toInt) → (0 ≤ p0.toInt ∧ p0.toInt < nb.toInt) → (0 ≤ p2.toInt ∧ p2.toInt < np.toInt) → (0 ≤ p4.toInt ∧ p4.toInt ≤ 9) → (0 ≤ p3.toInt ∧ p3.toInt ≤ 9) → v73 = sGm kc kT.1 kl p2 p1 p0 p4 p3) := hw
            have F73 := f73_0
            rw [hQ]
            exact W.iret (v := v73) hx hb hr (fun t ht hW => ⟨⟨v73, (u73_0, u73_1), rfl, (by (try dsimp only); exact fun kc kT q_fR q_fKp q_frf kl hc hb h hL => by unfold sV_gam; rw [if_pos ⟨⟨by omega, by omega, by omega, by omega⟩, by omega, by omega, by omega⟩, if_neg (by omega)]; exact F73 kc kT _ kl hc hb h.1 hL (by omega) (by omega) (by omega) (by omega) (by omega)), ⟨by rw [ht]; exact hP, hD⟩⟩, hS.F ht⟩) hS.2.2 dX11_game_76
          · have c48 : p5.toInt = 0 := z5 rfl (by decide) c48
            refine lv_aload_n hx hb dX11_game_51 rfl (lv_at hl 0 rfl) ?_
            refine lv_iload_n hx hb dX11_game_52 rfl (lv_at hl 1 rfl) ?_
            refine lv_iload_n hx hb dX11_game_53 rfl (lv_at hl 2 rfl) ?_
            refine lv_iload_n hx hb dX11_game_54 rfl (lv_at hl 3 rfl) ?_
            refine lv_iload hx hb dX11_game_55 (lv_at hl 4 rfl) ?_
            refine lv_iload hx hb dX11_game_57 (lv_at hl 5 rfl) ?_
            obtain ⟨hPc, hDc, hFc⟩ := zc3 (wc := [(h0, .inr (11, [.int th, .ref tB, .int tsz, .int tat, .int wr, .int dp, .ref rC, .ref rV, .ref rD, .ref rK, .ref rT, .ref rS, .ref rU, .int lw, .int tx, .ref rL, .ref rX, .ref qR, .ref qB, .ref qP, .int qnb, .int qnp, .ref aR, .ref aB, .ref aP, .int nb, .int np, .ref aN, .ref rf, .int ho, .int br, .ref aK, .int ac, .long dw, .ref aE, .int sr, .int sf, .ref aA, .ref aH, .ref aI, .int hi])), (rC, .inl (cI, 2600, .inl fC)), (rV, .inl (cI, 2600, .inl fV)), (rK, .inl (cI, 5, .inl fK)), (rT, .inl (cI, 700, .inl fT)), (rS, .inl (cI, 700, .inl fS)), (rU, .inl (cI, 700, .inl fU)), (rL, .inl (cI, 6, .inl fL)), (rX, .inl (cI, 80, .inl fX)), (aB, .inl (cI, 24, .inl fBr)), (aP, .inl (cI, 20, .inl fPa)), (aN, .inl (cI, 97, .inl fN))]) hP hD hS hA [0, 1, 2, 3, 4, 5, 6, 7, 8, 9, 10, 11] (by decide +kernel) rfl
            refine va_calli (va_runV (As := [.int p0, .int p1, .int p2, .int p3, .int p4]) (rest := []) ⟨hx, hb, hml, hown, hts⟩ (g_X11_gameOf l dC dI cI cJ h0 p0 p1 p2 p3 p4 th tB tsz tat wr dp rC rV rD rK rT rS rU lw tx rL rX qR qB qP qnb qnp aR aB aP nb np aN rf ho br aK ac dw aE sr sf aA aH aI hi fC fV fK fT fS fU fL fX fBr fPa fN H.size y_ac y_hi y_ho y_lw n_nb n_np (by omega) (by omega) (by omega) y_qnb y_qnp y_tat y_tsz y_wr (hls) ci_fBr_zBr_nb ci_fN_zNw_np ci_fPa_zBr_np) (cwV 5 hts (zgV qw1663 qw1665 qw89 qw108 qw1666) rfl rfl rfl hd_X11_gameOf ⟨by rw [hR]; exact Nat.le_of_ble_eq_true rfl, by rw [hR]; exact Nat.le_of_ble_eq_true rfl⟩) (zPV hPc hK hDc (va_recv (q := (RX11, TX11, 41)) hK hP (ci := 11) (q0 := 0) rfl rfl)) rfl rfl hl.1 rfl (lv_room (Nat.le_of_ble_eq_true rfl)) dX11_game_59 ⟨Nat.zero_le _, Nat.zero_le _⟩) hS (fun q _ h => hFc q h) hFc (fun v59 u59 t H locs ht hvm hw hB hz1 hk1 hS9 => ?_)
            obtain ⟨u59_0, u59_1⟩ := u59
            obtain ⟨hP9, hD9⟩ := zj2 (wX := [(h0, .inr (11, [.int th, .ref tB, .int tsz, .int tat, .int wr, .int dp, .ref rC, .ref rV, .ref rD, .ref rK, .ref rT, .ref rS, .ref rU, .int lw, .int tx, .ref rL, .ref rX, .ref qR, .ref qB, .ref qP, .int qnb, .int qnp, .ref aR, .ref aB, .ref aP, .int nb, .int np, .ref aN, .ref rf, .int ho, .int br, .ref aK, .int ac, .long dw, .ref aE, .int sr, .int sf, .ref aA, .ref aH, .ref aI, .int hi])), (rC, .inl (cI, 2600, .inl fC)), (rV, .inl (cI, 2600, .inl fV)), (rK, .inl (cI, 5, .inl fK)), (rT, .inl (cI, 700, .inl fT)), (rS, .inl (cI, 700, .inl fS)), (rU, .inl (cI, 700, .inl fU)), (rL, .inl (cI, 6, .inl u59_0)), (rX, .inl (cI, 80, .inl u59_1)), (aB, .inl (cI, 24, .inl fBr)), (aP, .inl (cI, 20, .inl fPa)), (aN, .inl (cI, 97, .inl fN))]) hP hD hk1 hFc ht hB [0, 1, 2, 3, 4, 5, 6, 7, 8, 9, 10, 11] [(true, 0), (true, 1), (true, 2), (true, 3), (true, 4), (true, 5), (true, 6), (true, 7), (true, 8), (true, 9), (true, 10), (true, 11)] rfl (by decide +kernel) (by decide +kernel) rfl
            clear hP hD hS hPc hDc hFc hB hk1 hz1 hvm
            have hP := hP9
            have hD := hD9
            have hS := hS9
            clear hP9 hD9 hS9
            have f59_0 : (∀ (kc : zK3) (kT : zT) (q_fR : Nat → Int32) (kl : Option ((Int → Int) × Int)), zCn q_fR fBr fPa nb.toInt np.toInt kc → zKo nb.toInt np.toInt kc kT → zSr nb.toInt np.toInt kT.1 fN → zLwR ho fC fV fK fT fS fU kl → (0 ≤ p0.toInt ∧ p0.toInt < nb.toInt) → (0 ≤ p1.toInt ∧ p1.toInt < nb.toInt) → (0 ≤ p2.toInt ∧ p2.toInt < np.toInt) → (0 ≤ p3.toInt ∧ p3.toInt ≤ 9) → (0 ≤ p4.toInt ∧ p4.toInt ≤ 9) → v59 = sGm kc kT.1 kl p2 p0 p1 p3 p4) := hw
            have F59 := f59_0
            refine lv_goto (tgt := 76) hx hb dX11_game_62 (by decide) ?_
            rw [hQ]
            exact W.iret (v := v59) hx hb hr (fun t ht hW => ⟨⟨v59, (u59_0, u59_1), rfl, (by (try dsimp only); exact fun kc kT q_fR q_fKp q_frf kl hc hb h hL => by unfold sV_gam; rw [if_pos ⟨⟨by omega, by omega, by omega, by omega⟩, by omega, by omega, by omega⟩, if_pos (by omega)]; exact F59 kc kT _ kl hc hb h.1 hL (by omega) (by omega) (by omega) (by omega) (by omega)), ⟨by rw [ht]; exact hP, hD⟩⟩, hS.F ht⟩) hS.2.2 dX11_game_76
        · have c39 : v36.toInt = 0 := z5 rfl (by decide) c39
          refine lv_ldcw (v := (-1000000)) hx hb hown (hts _ qw1662) dX11_game_42 ?_
          have zr0 : ((-1000000) : Int32).toInt = (-1000000) := by decide
          rw [hQ]
          exact W.iret (v := ((-1000000))) hx hb hr (fun t ht hW => ⟨⟨(-1000000), (fL, fX), rfl, (by (try dsimp only); exact fun kc kT q_fR q_fKp q_frf kl hc hb h hL => by unfold sV_gam; exact (if_neg (fun y => by obtain ⟨⟨a1, a2, a3, a4⟩, a5, a6, a7⟩ := y; omega)).symm), ⟨by rw [ht]; exact hP, hD⟩⟩, hS.F ht⟩) hS.2.2 dX11_game_45
set_option maxHeartbeats 4000000 in
set_option maxRecDepth 100000 in
theorem g_X11_isRest (l : Launch) (dC : Nat → ClassId) (dI : Nat → Nat → Nat) (cI cJ : ClassId) (h0 : Nat) (p0 : Int32) (p1 : Int32) (p2 : Int32) (p3 : Int32) (p4 : Int32) (th : Int32) (tB : Nat) (tsz : Int32) (tat : Int32) (wr : Int32) (dp : Int32) (rC : Nat) (rV : Nat) (rD : Nat) (rK : Nat) (rT : Nat) (rS : Nat) (rU : Nat) (lw : Int32) (tx : Int32) (rL : Nat) (rX : Nat) (qR : Nat) (qB : Nat) (qP : Nat) (qnb : Int32) (qnp : Int32) (aR : Nat) (aB : Nat) (aP : Nat) (nb : Int32) (np : Int32) (aN : Nat) (rf : Nat) (ho : Int32) (br : Int32) (aK : Nat) (ac : Int32) (dw : Int64) (aE : Nat) (sr : Int32) (sf : Int32) (aA : Nat) (aH : Nat) (aI : Nat) (hi : Int32) (fC : Nat → Int32) (fV : Nat → Int32) (fK : Nat → Int32) (fT : Nat → Int32) (fS : Nat → Int32) (fU : Nat → Int32) (fL : Nat → Int32) (fX : Nat → Int32) (fBr : Nat → Int32) (fPa : Nat → Int32) (fN : Nat → Int32) (sz : Nat) (n_ac : 0 ≤ ac.toInt ∧ ac.toInt ≤ 40) (n_hi : 0 ≤ hi.toInt ∧ hi.toInt ≤ 1) (n_ho : (-1) ≤ ho.toInt ∧ ho.toInt ≤ 3) (n_lw : 0 ≤ lw.toInt ∧ lw.toInt ≤ 4) (n_nb : 0 ≤ nb.toInt ∧ nb.toInt ≤ 6) (n_np : 0 ≤ np.toInt ∧ np.toInt ≤ 5) (n_p0 : 0 ≤ p0.toInt ∧ p0.toInt ≤ 5) (n_p1 : 0 ≤ p1.toInt ∧ p1.toInt ≤ 5) (n_p2 : 0 ≤ p2.toInt ∧ p2.toInt ≤ 4) (n_qnb : 0 ≤ qnb.toInt ∧ qnb.toInt ≤ 6) (n_qnp : 0 ≤ qnp.toInt ∧ qnp.toInt ≤ 5) (n_tat : 0 ≤ tat.toInt ∧ tat.toInt ≤ 260) (n_tsz : 0 ≤ tsz.toInt ∧ tsz.toInt ≤ 240) (n_wr : (-1) ≤ wr.toInt ∧ wr.toInt ≤ 260) (hls : zLs ho fC fV fK fT fS fU) (ci_fBr_zBr_nb : zBr nb fBr) (ci_fN_zNw_np : zNw np fN) (ci_fPa_zBr_np : zBr np fPa)  : Met l yX11_isRest (.code yX11_isRest cX11_isRest 7 (some .boolean) :: wA) ({ frames := 7, cells := 0, slots := 0, locals := 173 }) (zP (dC, dI) [(cI, .int), (cJ, .long)] [.ref h0, .int p0, .int p1, .int p2, .int p3, .int p4] sz [(h0, .inr (11, [.int th, .ref tB, .int tsz, .int tat, .int wr, .int dp, .ref rC, .ref rV, .ref rD, .ref rK, .ref rT, .ref rS, .ref rU, .int lw, .int tx, .ref rL, .ref rX, .ref qR, .ref qB, .ref qP, .int qnb, .int qnp, .ref aR, .ref aB, .ref aP, .int nb, .int np, .ref aN, .ref rf, .int ho, .int br, .ref aK, .int ac, .long dw, .ref aE, .int sr, .int sf, .ref aA, .ref aH, .ref aI, .int hi])), (rC, .inl (cI, 2600, .inl fC)), (rV, .inl (cI, 2600, .inl fV)), (rK, .inl (cI, 5, .inl fK)), (rT, .inl (cI, 700, .inl fT)), (rS, .inl (cI, 700, .inl fS)), (rU, .inl (cI, 700, .inl fU)), (rL, .inl (cI, 6, .inl fL)), (rX, .inl (cI, 80, .inl fX)), (aB, .inl (cI, 24, .inl fBr)), (aP, .inl (cI, 20, .inl fPa)), (aN, .inl (cI, 97, .inl fN))]) (va_Qi (fun (r : Int32) (u : (Nat → Int32) × (Nat → Int32)) => (0 ≤ r.toInt) ∧ (r.toInt ≤ 1) ∧ (∀ (kc : zK3) (kT : zT) (q_fR : Nat → Int32) (kl : Option ((Int → Int) × Int)), zCn q_fR fBr fPa nb.toInt np.toInt kc → zKo nb.toInt np.toInt kc kT → zSr nb.toInt np.toInt kT.1 fN → zLwR ho fC fV fK fT fS fU kl → (0 ≤ p0.toInt ∧ p0.toInt < nb.toInt) → (0 ≤ p1.toInt ∧ p1.toInt < nb.toInt) → (0 ≤ p2.toInt ∧ p2.toInt < np.toInt) → (0 ≤ p3.toInt ∧ p3.toInt ≤ 9) → (0 ≤ p4.toInt ∧ p4.toInt ≤ 9) → (r.toInt = 1 ∧ sBa (sRow kc kT.1 kl p2 p0) p3.toInt.toNat ((sRow kc kT.1 kl p2 p1) p4.toInt.toNat) ∧ sBa (sRow kc kT.1 kl p2 p1) p4.toInt.toNat ((sRow kc kT.1 kl p2 p0) p3.toInt.toNat)) ∨ (r.toInt = 0 ∧ ¬ (sBa (sRow kc kT.1 kl p2 p0) p3.toInt.toNat ((sRow kc kT.1 kl p2 p1) p4.toInt.toNat) ∧ sBa (sRow kc kT.1 kl p2 p1) p4.toInt.toNat ((sRow kc kT.1 kl p2 p0) p3.toInt.toNat))))) (fun (u : (Nat → Int32) × (Nat → Int32)) (t : State) => va_P (dC, dI) vwCl [(h0, .inr (11, [.int th, .ref tB, .int tsz, .int tat, .int wr, .int dp, .ref rC, .ref rV, .ref rD, .ref rK, .ref rT, .ref rS, .ref rU, .int lw, .int tx, .ref rL, .ref rX, .ref qR, .ref qB, .ref qP, .int qnb, .int qnp, .ref aR, .ref aB, .ref aP, .int nb, .int np, .ref aN, .ref rf, .int ho, .int br, .ref aK, .int ac, .long dw, .ref aE, .int sr, .int sf, .ref aA, .ref aH, .ref aI, .int hi])), (rC, .inl (cI, 2600, .inl fC)), (rV, .inl (cI, 2600, .inl fV)), (rK, .inl (cI, 5, .inl fK)), (rT, .inl (cI, 700, .inl fT)), (rS, .inl (cI, 700, .inl fS)), (rU, .inl (cI, 700, .inl fU)), (rL, .inl (cI, 6, .inl u.1)), (rX, .inl (cI, 80, .inl u.2)), (aB, .inl (cI, 24, .inl fBr)), (aP, .inl (cI, 20, .inl fPa)), (aN, .inl (cI, 97, .inl fN))] t.heap ∧ va_D (va_A [(h0, .inr (11, [.int th, .ref tB, .int tsz, .int tat, .int wr, .int dp, .ref rC, .ref rV, .ref rD, .ref rK, .ref rT, .ref rS, .ref rU, .int lw, .int tx, .ref rL, .ref rX, .ref qR, .ref qB, .ref qP, .int qnb, .int qnp, .ref aR, .ref aB, .ref aP, .int nb, .int np, .ref aN, .ref rf, .int ho, .int br, .ref aK, .int ac, .long dw, .ref aE, .int sr, .int sf, .ref aA, .ref aH, .ref aI, .int hi])), (rC, .inl (cI, 2600, .inl fC)), (rV, .inl (cI, 2600, .inl fV)), (rK, .inl (cI, 5, .inl fK)), (rT, .inl (cI, 700, .inl fT)), (rS, .inl (cI, 700, .inl fS)), (rU, .inl (cI, 700, .inl fU)), (rL, .inl (cI, 6, .inl fL)), (rX, .inl (cI, 80, .inl fX)), (aB, .inl (cI, 24, .inl fBr)), (aP, .inl (cI, 20, .inl fPa)), (aN, .inl (cI, 97, .inl fN))] sz) [(h0, .inr (11, [.int th, .ref tB, .int tsz, .int tat, .int wr, .int dp, .ref rC, .ref rV, .ref rD, .ref rK, .ref rT, .ref rS, .ref rU, .int lw, .int tx, .ref rL, .ref rX, .ref qR, .ref qB, .ref qP, .int qnb, .int qnp, .ref aR, .ref aB, .ref aP, .int nb, .int np, .ref aN, .ref rf, .int ho, .int br, .ref aK, .int ac, .long dw, .ref aE, .int sr, .int sf, .ref aA, .ref aH, .ref aI, .int hi])), (rC, .inl (cI, 2600, .inl fC)), (rV, .inl (cI, 2600, .inl fV)), (rK, .inl (cI, 5, .inl fK)), (rT, .inl (cI, 700, .inl fT)), (rS, .inl (cI, 700, .inl fS)), (rU, .inl (cI, 700, .inl fU)), (rL, .inl (cI, 6, .inl u.1)), (rX, .inl (cI, 80, .inl u.2)), (aB, .inl (cI, 24, .inl fBr)), (aP, .inl (cI, 20, .inl fPa)), (aN, .inl (cI, 97, .inl fN))]) (va_A [(h0, .inr (11, [.int th, .ref tB, .int tsz, .int tat, .int wr, .int dp, .ref rC, .ref rV, .ref rD, .ref rK, .ref rT, .ref rS, .ref rU, .int lw, .int tx, .ref rL, .ref rX, .ref qR, .ref qB, .ref qP, .int qnb, .int qnp, .ref aR, .ref aB, .ref aP, .int nb, .int np, .ref aN, .ref rf, .int ho, .int br, .ref aK, .int ac, .long dw, .ref aE, .int sr, .int sf, .ref aA, .ref aH, .ref aI, .int hi])), (rC, .inl (cI, 2600, .inl fC)), (rV, .inl (cI, 2600, .inl fV)), (rK, .inl (cI, 5, .inl fK)), (rT, .inl (cI, 700, .inl fT)), (rS, .inl (cI, 700, .inl fS)), (rU, .inl (cI, 700, .inl fU)), (rL, .inl (cI, 6, .inl fL)), (rX, .inl (cI, 80, .inl fX)), (aB, .inl (cI, 24, .inl fBr)), (aP, .inl (cI, 20, .inl fPa)), (aN, .inl (cI, 97, .inl fN))] sz)) 0 0 (va_A [(h0, .inr (11, [.int th, .ref tB, .int tsz, .int tat, .int wr, .int dp, .ref rC, .ref rV, .ref rD, .ref rK, .ref rT, .ref rS, .ref rU, .int lw, .int tx, .ref rL, .ref rX, .ref qR, .ref qB, .ref qP, .int qnb, .int qnp, .ref aR, .ref aB, .ref aP, .int nb, .int np, .ref aN, .ref rf, .int ho, .int br, .ref aK, .int ac, .long dw, .ref aE, .int sr, .int sf, .ref aA, .ref aH, .ref aI, .int hi])), (rC, .inl (cI, 2600, .inl fC)), (rV, .inl (cI, 2600, .inl fV)), (rK, .inl (cI, 5, .inl fK)), (rT, .inl (cI, 700, .inl fT)), (rS, .inl (cI, 700, .inl fS)), (rU, .inl (cI, 700, .inl fU)), (rL, .inl (cI, 6, .inl fL)), (rX, .inl (cI, 80, .inl fX)), (aB, .inl (cI, 24, .inl fBr)), (aP, .inl (cI, 20, .inl fPa)), (aN, .inl (cI, 97, .inl fN))] sz) := by
  refine Met.ofW (cc := cX11_isRest) (maxL := 7) (ret := (some .boolean)) (by decide) rfl ?_
  intro p e s m args below meth c s₁ B hml hv
  have y_ac : zHid (0 ≤ ac.toInt ∧ ac.toInt ≤ 40) := n_ac
  have y_hi : zHid (0 ≤ hi.toInt ∧ hi.toInt ≤ 1) := n_hi
  have y_ho : zHid ((-1) ≤ ho.toInt ∧ ho.toInt ≤ 3) := n_ho
  have y_lw : zHid (0 ≤ lw.toInt ∧ lw.toInt ≤ 4) := n_lw
  have y_qnb : zHid (0 ≤ qnb.toInt ∧ qnb.toInt ≤ 6) := n_qnb
  have y_qnp : zHid (0 ≤ qnp.toInt ∧ qnp.toInt ≤ 5) := n_qnp
  have y_tat : zHid (0 ≤ tat.toInt ∧ tat.toInt ≤ 260) := n_tat
  have y_tsz : zHid (0 ≤ tsz.toInt ∧ tsz.toInt ≤ 240) := n_tsz
  have y_wr : zHid ((-1) ≤ wr.toInt ∧ wr.toInt ≤ 260) := n_wr
  clear n_ac n_hi n_ho n_lw n_qnb n_qnp n_tat n_tsz n_wr
  obtain ⟨hargs, hsz, hP, hK, hT⟩ := hv
  have hx := B.exec
  have hb := B.bytes
  have hr := B.returns
  have hts : ∀ w ∈ wA, w.before args s = true := fun w h => atoms_spec (ws := .code yX11_isRest cX11_isRest 7 (some .boolean) :: wA) B.pre w (List.mem_cons_of_mem _ h)
  have hown : s.vm.findClass RX11 = some m.cls := findClass_of_methodNamed B.named
  have hlocks := B.notSynchronized
  subst hsz
  have hD := hT.self (sz := s.heap.size)
  generalize hAe : va_A [(h0, .inr (11, [.int th, .ref tB, .int tsz, .int tat, .int wr, .int dp, .ref rC, .ref rV, .ref rD, .ref rK, .ref rT, .ref rS, .ref rU, .int lw, .int tx, .ref rL, .ref rX, .ref qR, .ref qB, .ref qP, .int qnb, .int qnp, .ref aR, .ref aB, .ref aP, .int nb, .int np, .ref aN, .ref rf, .int ho, .int br, .ref aK, .int ac, .long dw, .ref aE, .int sr, .int sf, .ref aA, .ref aH, .ref aI, .int hi])), (rC, .inl (cI, 2600, .inl fC)), (rV, .inl (cI, 2600, .inl fV)), (rK, .inl (cI, 5, .inl fK)), (rT, .inl (cI, 700, .inl fT)), (rS, .inl (cI, 700, .inl fS)), (rU, .inl (cI, 700, .inl fU)), (rL, .inl (cI, 6, .inl fL)), (rX, .inl (cI, 80, .inl fX)), (aB, .inl (cI, 24, .inl fBr)), (aP, .inl (cI, 20, .inl fPa)), (aN, .inl (cI, 97, .inl fN))] s.heap.size = A at hD ⊢
  have hA : ∀ q : Nat, s.heap.size ≤ q → A q := fun q h => by rw [← hAe]; exact Or.inr h
  have hl := lv_entry ([.ref h0, .int p0, .int p1, .int p2, .int p3, .int p4]) (n := 7) (Nat.le_of_ble_eq_true rfl)
  rw [show entryFrame m args 7 = entryFrame m ([.ref h0, .int p0, .int p1, .int p2, .int p3, .int p4] : List Value).toArray 7 by rw [hargs], lg_entry_eq]
  generalize (lg_sl ([.ref h0, .int p0, .int p1, .int p2, .int p3, .int p4]) ++ List.replicate (7 - (lg_sl ([.ref h0, .int p0, .int p1, .int p2, .int p3, .int p4])).length) Slot.unset).toArray = ls at hl ⊢
  have hl : lv_has ls 7 [(0, .ref h0), (1, .int p0), (2, .int p1), (3, .int p2), (4, .int p3), (5, .int p4)] := hl
  refine zstart (fun H hH => ?_)
  rw [← hH] at hP
  have hS : va_S A s.heap H [] := by rw [hH]; exact va_S.rf
  generalize ([] : List Loc) = locs at hS ⊢
  refine zgen (fun R Q hR hQ => ?_)
  refine lv_iconst (v := 0) hx hb dX11_isRest_0 (by decide) ?_
  have J3 : ∀ (n : Nat) (m3_A_rL : Nat → Int32) (m3_A_rX : Nat → Int32) (m3_L_6 : Int32), (0 ≤ m3_L_6.toInt ∧ m3_L_6.toInt ≤ 10) → (∀ (kc : zK3) (kT : zT) (q_fR : Nat → Int32) (kl : Option ((Int → Int) × Int)), zCn q_fR fBr fPa nb.toInt np.toInt kc → zKo nb.toInt np.toInt kc kT → zSr nb.toInt np.toInt kT.1 fN → zLwR ho fC fV fK fT fS fU kl → (0 ≤ p0.toInt ∧ p0.toInt < nb.toInt) → (0 ≤ p1.toInt ∧ p1.toInt < nb.toInt) → (0 ≤ p2.toInt ∧ p2.toInt < np.toInt) → (0 ≤ p3.toInt ∧ p3.toInt ≤ 9) → (0 ≤ p4.toInt ∧ p4.toInt ≤ 9) → zBa (sRow kc kT.1 kl p2 p0) p3 ((sRow kc kT.1 kl p2 p1) p4.toInt.toNat) m3_L_6 ∧ zBa (sRow kc kT.1 kl p2 p1) p4 ((sRow kc kT.1 kl p2 p0) p3.toInt.toNat) m3_L_6) → (11 - m3_L_6.toInt).toNat = n → ∀ (H : Heap) (locs : List Loc) (ls : Array Slot), va_P (dC, dI) vwCl [(h0, .inr (11, [.int th, .ref tB, .int tsz, .int tat, .int wr, .int dp, .ref rC, .ref rV, .ref rD, .ref rK, .ref rT, .ref rS, .ref rU, .int lw, .int tx, .ref rL, .ref rX, .ref qR, .ref qB, .ref qP, .int qnb, .int qnp, .ref aR, .ref aB, .ref aP, .int nb, .int np, .ref aN, .ref rf, .int ho, .int br, .ref aK, .int ac, .long dw, .ref aE, .int sr, .int sf, .ref aA, .ref aH, .ref aI, .int hi])), (rC, .inl (cI, 2600, .inl fC)), (rV, .inl (cI, 2600, .inl fV)), (rK, .inl (cI, 5, .inl fK)), (rT, .inl (cI, 700, .inl fT)), (rS, .inl (cI, 700, .inl fS)), (rU, .inl (cI, 700, .inl fU)), (rL, .inl (cI, 6, .inl m3_A_rL)), (rX, .inl (cI, 80, .inl m3_A_rX)), (aB, .inl (cI, 24, .inl fBr)), (aP, .inl (cI, 20, .inl fPa)), (aN, .inl (cI, 97, .inl fN))] H → va_D A [(h0, .inr (11, [.int th, .ref tB, .int tsz, .int tat, .int wr, .int dp, .ref rC, .ref rV, .ref rD, .ref rK, .ref rT, .ref rS, .ref rU, .int lw, .int tx, .ref rL, .ref rX, .ref qR, .ref qB, .ref qP, .int qnb, .int qnp, .ref aR, .ref aB, .ref aP, .int nb, .int np, .ref aN, .ref rf, .int ho, .int br, .ref aK, .int ac, .long dw, .ref aE, .int sr, .int sf, .ref aA, .ref aH, .ref aI, .int hi])), (rC, .inl (cI, 2600, .inl fC)), (rV, .inl (cI, 2600, .inl fV)), (rK, .inl (cI, 5, .inl fK)), (rT, .inl (cI, 700, .inl fT)), (rS, .inl (cI, 700, .inl fS)), (rU, .inl (cI, 700, .inl fU)), (rL, .inl (cI, 6, .inl m3_A_rL)), (rX, .inl (cI, 80, .inl m3_A_rX)), (aB, .inl (cI, 24, .inl fBr)), (aP, .inl (cI, 20, .inl fPa)), (aN, .inl (cI, 97, .inl fN))] → va_S A s.heap H locs → lv_has ls 7 [(6, .int m3_L_6), (0, .ref h0), (1, .int p0), (2, .int p1), (3, .int p2), (4, .int p3), (5, .int p4)] → W p l e R s m args below meth c H locs 0 0 Q (F0 m 3 ls []) := by
    intro n3
    induction n3 using Nat.strongRecOn with
    | _ n3 ih3 =>
      intro m3_A_rL m3_A_rX m3_L_6 jf3_0 jv3_0 hmu3 H locs ls hP hD hS hl
      refine lv_iload hx hb dX11_isRest_3 (lv_at hl 0 rfl) ?_
      refine lv_bipush (v := 9) hx hb dX11_isRest_5 (by decide) ?_
      refine lv_icmp_gt (tgt := 68) hx hb dX11_isRest_7 (by decide) (fun c7 => ?_) (fun c7 => ?_)
      · have c7 : 9 < m3_L_6.toInt := z1 (by decide) rfl c7
        refine lv_iconst (v := 1) hx hb dX11_isRest_68 (by decide) ?_
        have zr0 : (1 : Int32).toInt = 1 := by decide
        rw [hQ]
        exact W.zret (v := 1) (ty := .boolean) hx hb hr rfl (fun t ht hW => ⟨⟨1, (m3_A_rL, m3_A_rX), rfl, ⟨by (try dsimp only); omega, by (try dsimp only); omega, by (try dsimp only); exact fun kc kT q_fR kl hc hb h hL h0 h1 h2 h3 h4 => Or.inl ⟨by decide, zBa_y (jv3_0 kc kT _ kl hc hb h hL h0 h1 h2 h3 h4).1 (by omega) (by omega), zBa_y (jv3_0 kc kT _ kl hc hb h hL h0 h1 h2 h3 h4).2 (by omega) (by omega)⟩⟩, ⟨by rw [ht]; exact hP, hD⟩⟩, hS.F ht⟩) hS.2.2 dX11_isRest_69
      · have c7 : m3_L_6.toInt ≤ 9 := z2 (by decide) rfl c7
        refine lv_aload_n hx hb dX11_isRest_10 rfl (lv_at hl 1 rfl) ?_
        refine lv_iload_n hx hb dX11_isRest_11 rfl (lv_at hl 2 rfl) ?_
        refine lv_iload_n hx hb dX11_isRest_12 rfl (lv_at hl 3 rfl) ?_
        refine lv_iload_n hx hb dX11_isRest_13 rfl (lv_at hl 4 rfl) ?_
        refine lv_iload hx hb dX11_isRest_14 (lv_at hl 0 rfl) ?_
        refine lv_iload hx hb dX11_isRest_16 (lv_at hl 6 rfl) ?_
        obtain ⟨hPc, hDc, hFc⟩ := zc3 (wc := [(h0, .inr (11, [.int th, .ref tB, .int tsz, .int tat, .int wr, .int dp, .ref rC, .ref rV, .ref rD, .ref rK, .ref rT, .ref rS, .ref rU, .int lw, .int tx, .ref rL, .ref rX, .ref qR, .ref qB, .ref qP, .int qnb, .int qnp, .ref aR, .ref aB, .ref aP, .int nb, .int np, .ref aN, .ref rf, .int ho, .int br, .ref aK, .int ac, .long dw, .ref aE, .int sr, .int sf, .ref aA, .ref aH, .ref aI, .int hi])), (rC, .inl (cI, 2600, .inl fC)), (rV, .inl (cI, 2600, .inl fV)), (rK, .inl (cI, 5, .inl fK)), (rT, .inl (cI, 700, .inl fT)), (rS, .inl (cI, 700, .inl fS)), (rU, .inl (cI, 700, .inl fU)), (rL, .inl (cI, 6, .inl m3_A_rL)), (rX, .inl (cI, 80, .inl m3_A_rX)), (aB, .inl (cI, 24, .inl fBr)), (aP, .inl (cI, 20, .inl fPa)), (aN, .inl (cI, 97, .inl fN))]) hP hD hS hA [0, 1, 2, 3, 4, 5, 6, 7, 8, 9, 10, 11] (by decide +kernel) rfl
        refine va_calli (va_runV (As := [.int p0, .int p1, .int p2, .int m3_L_6, .int p4]) (rest := []) ⟨hx, hb, hml, hown, hts⟩ (g_X11_gameOf l dC dI cI cJ h0 p0 p1 p2 m3_L_6 p4 th tB tsz tat wr dp rC rV rD rK rT rS rU lw tx rL rX qR qB qP qnb qnp aR aB aP nb np aN rf ho br aK ac dw aE sr sf aA aH aI hi fC fV fK fT fS fU m3_A_rL m3_A_rX fBr fPa fN H.size y_ac y_hi y_ho y_lw n_nb n_np n_p0 n_p1 n_p2 y_qnb y_qnp y_tat y_tsz y_wr (hls) ci_fBr_zBr_nb ci_fN_zNw_np ci_fPa_zBr_np) (cwV 5 hts (zgV qw1663 qw1665 qw89 qw108 qw1666) rfl rfl rfl hd_X11_gameOf ⟨by rw [hR]; exact Nat.le_of_ble_eq_true rfl, by rw [hR]; exact Nat.le_of_ble_eq_true rfl⟩) (zPV hPc hK hDc (va_recv (q := (RX11, TX11, 41)) hK hP (ci := 11) (q0 := 0) rfl rfl)) rfl rfl hl.1 rfl (lv_room (Nat.le_of_ble_eq_true rfl)) dX11_isRest_18 ⟨Nat.zero_le _, Nat.zero_le _⟩) hS (fun q _ h => hFc q h) hFc (fun v18 u18 t H locs ht hvm hw hB hz1 hk1 hS9 => ?_)
        obtain ⟨u18_0, u18_1⟩ := u18
        obtain ⟨hP9, hD9⟩ := zj2 (wX := [(h0, .inr (11, [.int th, .ref tB, .int tsz, .int tat, .int wr, .int dp, .ref rC, .ref rV, .ref rD, .ref rK, .ref rT, .ref rS, .ref rU, .int lw, .int tx, .ref rL, .ref rX, .ref qR, .ref qB, .ref qP, .int qnb, .int qnp, .ref aR, .ref aB, .ref aP, .int nb, .int np, .ref aN, .ref rf, .int ho, .int br, .ref aK, .int ac, .long dw, .ref aE, .int sr, .int sf, .ref aA, .ref aH, .ref aI, .int hi])), (rC, .inl (cI, 2600, .inl fC)), (rV, .inl (cI, 2600, .inl fV)), (rK, .inl (cI, 5, .inl fK)), (rT, .inl (cI, 700, .inl fT)), (rS, .inl (cI, 700, .inl fS)), (rU, .inl (cI, 700, .inl fU)), (rL, .inl (cI, 6, .inl u18_0)), (rX, .inl (cI, 80, .inl u18_1)), (aB, .inl (cI, 24, .inl fBr)), (aP, .inl (cI, 20, .inl fPa)), (aN, .inl (cI, 97, .inl fN))]) hP hD hk1 hFc ht hB [0, 1, 2, 3, 4, 5, 6, 7, 8, 9, 10, 11] [(true, 0), (true, 1), (true, 2), (true, 3), (true, 4), (true, 5), (true, 6), (true, 7), (true, 8), (true, 9), (true, 10), (true, 11)] rfl (by decide +kernel) (by decide +kernel) rfl
        clear hP hD hS hPc hDc hFc hB hk1 hz1 hvm
        have hP := hP9
        have hD := hD9
        have hS := hS9
        clear hP9 hD9 hS9
        have f18_0 : (∀ (kc : zK3) (kT : zT) (q_fR : Nat → Int32) (kl : Option ((Int → Int) × Int)), zCn q_fR fBr fPa nb.toInt np.toInt kc → zKo nb.toInt np.toInt kc kT → zSr nb.toInt np.toInt kT.1 fN → zLwR ho fC fV fK fT fS fU kl → (0 ≤ p0.toInt ∧ p0.toInt < nb.toInt) → (0 ≤ p1.toInt ∧ p1.toInt < nb.toInt) → (0 ≤ p2.toInt ∧ p2.toInt < np.toInt) → (0 ≤ m3_L_6.toInt ∧ m3_L_6.toInt ≤ 9) → (0 ≤ p4.toInt ∧ p4.toInt ≤ 9) → v18 = sGm kc kT.1 kl p2 p0 p1 m3_L_6 p4) := hw
        have F18 := f18_0
        refine lv_aload_n hx hb dX11_isRest_21 rfl (lv_at hl 1 rfl) ?_
        refine lv_iload_n hx hb dX11_isRest_22 rfl (lv_at hl 2 rfl) ?_
        refine lv_iload_n hx hb dX11_isRest_23 rfl (lv_at hl 3 rfl) ?_
        refine lv_iload_n hx hb dX11_isRest_24 rfl (lv_at hl 4 rfl) ?_
        refine lv_iload hx hb dX11_isRest_25 (lv_at hl 5 rfl) ?_
        refine lv_iload hx hb dX11_isRest_27 (lv_at hl 6 rfl) ?_
        obtain ⟨hPc, hDc, hFc⟩ := zc3 (wc := [(h0, .inr (11, [.int th, .ref tB, .int tsz, .int tat, .int wr, .int dp, .ref rC, .ref rV, .ref rD, .ref rK, .ref rT, .ref rS, .ref rU, .int lw, .int tx, .ref rL, .ref rX, .ref qR, .ref qB, .ref qP, .int qnb, .int qnp, .ref aR, .ref aB, .ref aP, .int nb, .int np, .ref aN, .ref rf, .int ho, .int br, .ref aK, .int ac, .long dw, .ref aE, .int sr, .int sf, .ref aA, .ref aH, .ref aI, .int hi])), (rC, .inl (cI, 2600, .inl fC)), (rV, .inl (cI, 2600, .inl fV)), (rK, .inl (cI, 5, .inl fK)), (rT, .inl (cI, 700, .inl fT)), (rS, .inl (cI, 700, .inl fS)), (rU, .inl (cI, 700, .inl fU)), (rL, .inl (cI, 6, .inl u18_0)), (rX, .inl (cI, 80, .inl u18_1)), (aB, .inl (cI, 24, .inl fBr)), (aP, .inl (cI, 20, .inl fPa)), (aN, .inl (cI, 97, .inl fN))]) hP hD hS hA [0, 1, 2, 3, 4, 5, 6, 7, 8, 9, 10, 11] (by decide +kernel) rfl
        refine va_calli (va_runV (As := [.int p0, .int p1, .int p2, .int p3, .int p4]) (rest := [.int v18]) ⟨hx, hb, hml, hown, hts⟩ (g_X11_gameOf l dC dI cI cJ h0 p0 p1 p2 p3 p4 th tB tsz tat wr dp rC rV rD rK rT rS rU lw tx rL rX qR qB qP qnb qnp aR aB aP nb np aN rf ho br aK ac dw aE sr sf aA aH aI hi fC fV fK fT fS fU u18_0 u18_1 fBr fPa fN H.size y_ac y_hi y_ho y_lw n_nb n_np n_p0 n_p1 n_p2 y_qnb y_qnp y_tat y_tsz y_wr (hls) ci_fBr_zBr_nb ci_fN_zNw_np ci_fPa_zBr_np) (cwV 5 hts (zgV qw1663 qw1665 qw89 qw108 qw1666) rfl rfl rfl hd_X11_gameOf ⟨by rw [hR]; exact Nat.le_of_ble_eq_true rfl, by rw [hR]; exact Nat.le_of_ble_eq_true rfl⟩) (zPV hPc hK hDc (va_recv (q := (RX11, TX11, 41)) hK hP (ci := 11) (q0 := 0) rfl rfl)) rfl rfl hl.1 rfl (lv_room (Nat.le_of_ble_eq_true rfl)) dX11_isRest_29 ⟨Nat.zero_le _, Nat.zero_le _⟩) hS (fun q _ h => hFc q h) hFc (fun v29 u29 t H locs ht hvm hw hB hz1 hk1 hS9 => ?_)
        obtain ⟨u29_0, u29_1⟩ := u29
        obtain ⟨hP9, hD9⟩ := zj2 (wX := [(h0, .inr (11, [.int th, .ref tB, .int tsz, .int tat, .int wr, .int dp, .ref rC, .ref rV, .ref rD, .ref rK, .ref rT, .ref rS, .ref rU, .int lw, .int tx, .ref rL, .ref rX, .ref qR, .ref qB, .ref qP, .int qnb, .int qnp, .ref aR, .ref aB, .ref aP, .int nb, .int np, .ref aN, .ref rf, .int ho, .int br, .ref aK, .int ac, .long dw, .ref aE, .int sr, .int sf, .ref aA, .ref aH, .ref aI, .int hi])), (rC, .inl (cI, 2600, .inl fC)), (rV, .inl (cI, 2600, .inl fV)), (rK, .inl (cI, 5, .inl fK)), (rT, .inl (cI, 700, .inl fT)), (rS, .inl (cI, 700, .inl fS)), (rU, .inl (cI, 700, .inl fU)), (rL, .inl (cI, 6, .inl u29_0)), (rX, .inl (cI, 80, .inl u29_1)), (aB, .inl (cI, 24, .inl fBr)), (aP, .inl (cI, 20, .inl fPa)), (aN, .inl (cI, 97, .inl fN))]) hP hD hk1 hFc ht hB [0, 1, 2, 3, 4, 5, 6, 7, 8, 9, 10, 11] [(true, 0), (true, 1), (true, 2), (true, 3), (true, 4), (true, 5), (true, 6), (true, 7), (true, 8), (true, 9), (true, 10), (true, 11)] rfl (by decide +kernel) (by decide +kernel) rfl
        clear hP hD hS hPc hDc hFc hB hk1 hz1 hvm
        have hP := hP9
        have hD := hD9
        have hS := hS9
        clear hP9 hD9 hS9
        have f29_0 : (∀ (kc : zK3) (kT : zT) (q_fR : Nat → Int32) (kl : Option ((Int → Int) × Int)), zCn q_fR fBr fPa nb.toInt np.toInt kc → zKo nb.toInt np.toInt kc kT → zSr nb.toInt np.toInt kT.1 fN → zLwR ho fC fV fK fT fS fU kl → (0 ≤ p0.toInt ∧ p0.toInt < nb.toInt) → (0 ≤ p1.toInt ∧ p1.toInt < nb.toInt) → (0 ≤ p2.toInt ∧ p2.toInt < np.toInt) → (0 ≤ p3.toInt ∧ p3.toInt ≤ 9) → (0 ≤ p4.toInt ∧ p4.toInt ≤ 9) → v29 = sGm kc kT.1 kl p2 p0 p1 p3 p4) := hw
        have F29 := f29_0
        refine lv_icmp_gt (tgt := 60) hx hb dX11_isRest_32 (by decide) (fun c32 => ?_) (fun c32 => ?_)
        · have c32 : v29.toInt < v18.toInt := z1 rfl rfl c32
          refine lv_iconst (v := 0) hx hb dX11_isRest_60 (by decide) ?_
          have zr0 : (0 : Int32).toInt = 0 := by decide
          rw [hQ]
          exact W.zret (v := 0) (ty := .boolean) hx hb hr rfl (fun t ht hW => ⟨⟨0, (u29_0, u29_1), rfl, ⟨by (try dsimp only); omega, by (try dsimp only); omega, by (try dsimp only); exact fun kc kT q_fR kl hc hb h hL h0 h1 h2 h3 h4 => Or.inr ⟨by decide, fun y => zBa_n (k := m3_L_6) (by omega) (by omega) (by omega) ((F18 kc kT _ kl hc hb h hL (by omega) (by omega) (by omega) (by omega) (by omega)).trans (sGm_r (by omega) (by omega))) ((F29 kc kT _ kl hc hb h hL (by omega) (by omega) (by omega) (by omega) (by omega)).trans (sGm_r (by omega) (by omega))) (by omega) y.1⟩⟩, ⟨by rw [ht]; exact hP, hD⟩⟩, hS.F ht⟩) hS.2.2 dX11_isRest_61
        · have c32 : v18.toInt ≤ v29.toInt := z2 rfl rfl c32
          refine lv_aload_n hx hb dX11_isRest_35 rfl (lv_at hl 1 rfl) ?_
          refine lv_iload_n hx hb dX11_isRest_36 rfl (lv_at hl 3 rfl) ?_
          refine lv_iload_n hx hb dX11_isRest_37 rfl (lv_at hl 2 rfl) ?_
          refine lv_iload_n hx hb dX11_isRest_38 rfl (lv_at hl 4 rfl) ?_
          refine lv_iload hx hb dX11_isRest_39 (lv_at hl 0 rfl) ?_
          refine lv_iload hx hb dX11_isRest_41 (lv_at hl 5 rfl) ?_
          obtain ⟨hPc, hDc, hFc⟩ := zc3 (wc := [(h0, .inr (11, [.int th, .ref tB, .int tsz, .int tat, .int wr, .int dp, .ref rC, .ref rV, .ref rD, .ref rK, .ref rT, .ref rS, .ref rU, .int lw, .int tx, .ref rL, .ref rX, .ref qR, .ref qB, .ref qP, .int qnb, .int qnp, .ref aR, .ref aB, .ref aP, .int nb, .int np, .ref aN, .ref rf, .int ho, .int br, .ref aK, .int ac, .long dw, .ref aE, .int sr, .int sf, .ref aA, .ref aH, .ref aI, .int hi])), (rC, .inl (cI, 2600, .inl fC)), (rV, .inl (cI, 2600, .inl fV)), (rK, .inl (cI, 5, .inl fK)), (rT, .inl (cI, 700, .inl fT)), (rS, .inl (cI, 700, .inl fS)), (rU, .inl (cI, 700, .inl fU)), (rL, .inl (cI, 6, .inl u29_0)), (rX, .inl (cI, 80, .inl u29_1)), (aB, .inl (cI, 24, .inl fBr)), (aP, .inl (cI, 20, .inl fPa)), (aN, .inl (cI, 97, .inl fN))]) hP hD hS hA [0, 1, 2, 3, 4, 5, 6, 7, 8, 9, 10, 11] (by decide +kernel) rfl
          refine va_calli (va_runV (As := [.int p1, .int p0, .int p2, .int m3_L_6, .int p3]) (rest := []) ⟨hx, hb, hml, hown, hts⟩ (g_X11_gameOf l dC dI cI cJ h0 p1 p0 p2 m3_L_6 p3 th tB tsz tat wr dp rC rV rD rK rT rS rU lw tx rL rX qR qB qP qnb qnp aR aB aP nb np aN rf ho br aK ac dw aE sr sf aA aH aI hi fC fV fK fT fS fU u29_0 u29_1 fBr fPa fN H.size y_ac y_hi y_ho y_lw n_nb n_np n_p1 n_p0 n_p2 y_qnb y_qnp y_tat y_tsz y_wr (hls) ci_fBr_zBr_nb ci_fN_zNw_np ci_fPa_zBr_np) (cwV 5 hts (zgV qw1663 qw1665 qw89 qw108 qw1666) rfl rfl rfl hd_X11_gameOf ⟨by rw [hR]; exact Nat.le_of_ble_eq_true rfl, by rw [hR]; exact Nat.le_of_ble_eq_true rfl⟩) (zPV hPc hK hDc (va_recv (q := (RX11, TX11, 41)) hK hP (ci := 11) (q0 := 0) rfl rfl)) rfl rfl hl.1 rfl (lv_room (Nat.le_of_ble_eq_true rfl)) dX11_isRest_43 ⟨Nat.zero_le _, Nat.zero_le _⟩) hS (fun q _ h => hFc q h) hFc (fun v43 u43 t H locs ht hvm hw hB hz1 hk1 hS9 => ?_)
          obtain ⟨u43_0, u43_1⟩ := u43
          obtain ⟨hP9, hD9⟩ := zj2 (wX := [(h0, .inr (11, [.int th, .ref tB, .int tsz, .int tat, .int wr, .int dp, .ref rC, .ref rV, .ref rD, .ref rK, .ref rT, .ref rS, .ref rU, .int lw, .int tx, .ref rL, .ref rX, .ref qR, .ref qB, .ref qP, .int qnb, .int qnp, .ref aR, .ref aB, .ref aP, .int nb, .int np, .ref aN, .ref rf, .int ho, .int br, .ref aK, .int ac, .long dw, .ref aE, .int sr, .int sf, .ref aA, .ref aH, .ref aI, .int hi])), (rC, .inl (cI, 2600, .inl fC)), (rV, .inl (cI, 2600, .inl fV)), (rK, .inl (cI, 5, .inl fK)), (rT, .inl (cI, 700, .inl fT)), (rS, .inl (cI, 700, .inl fS)), (rU, .inl (cI, 700, .inl fU)), (rL, .inl (cI, 6, .inl u43_0)), (rX, .inl (cI, 80, .inl u43_1)), (aB, .inl (cI, 24, .inl fBr)), (aP, .inl (cI, 20, .inl fPa)), (aN, .inl (cI, 97, .inl fN))]) hP hD hk1 hFc ht hB [0, 1, 2, 3, 4, 5, 6, 7, 8, 9, 10, 11] [(true, 0), (true, 1), (true, 2), (true, 3), (true, 4), (true, 5), (true, 6), (true, 7), (true, 8), (true, 9), (true, 10), (true, 11)] rfl (by decide +kernel) (by decide +kernel) rfl
          clear hP hD hS hPc hDc hFc hB hk1 hz1 hvm
          have hP := hP9
          have hD := hD9
          have hS := hS9
          clear hP9 hD9 hS9
          have f43_0 : (∀ (kc : zK3) (kT : zT) (q_fR : Nat → Int32) (kl : Option ((Int → Int) × Int)), zCn q_fR fBr fPa nb.toInt np.toInt kc → zKo nb.toInt np.toInt kc kT → zSr nb.toInt np.toInt kT.1 fN → zLwR ho fC fV fK fT fS fU kl → (0 ≤ p1.toInt ∧ p1.toInt < nb.toInt) → (0 ≤ p0.toInt ∧ p0.toInt < nb.toInt) → (0 ≤ p2.toInt ∧ p2.toInt < np.toInt) → (0 ≤ m3_L_6.toInt ∧ m3_L_6.toInt ≤ 9) → (0 ≤ p3.toInt ∧ p3.toInt ≤ 9) → v43 = sGm kc kT.1 kl p2 p1 p0 m3_L_6 p3) := hw
          have F43 := f43_0
          refine lv_aload_n hx hb dX11_isRest_46 rfl (lv_at hl 1 rfl) ?_
          refine lv_iload_n hx hb dX11_isRest_47 rfl (lv_at hl 3 rfl) ?_
          refine lv_iload_n hx hb dX11_isRest_48 rfl (lv_at hl 2 rfl) ?_
          refine lv_iload_n hx hb dX11_isRest_49 rfl (lv_at hl 4 rfl) ?_
          refine lv_iload hx hb dX11_isRest_50 (lv_at hl 6 rfl) ?_
          refine lv_iload hx hb dX11_isRest_52 (lv_at hl 5 rfl) ?_
          obtain ⟨hPc, hDc, hFc⟩ := zc3 (wc := [(h0, .inr (11, [.int th, .ref tB, .int tsz, .int tat, .int wr, .int dp, .ref rC, .ref rV, .ref rD, .ref rK, .ref rT, .ref rS, .ref rU, .int lw, .int tx, .ref rL, .ref rX, .ref qR, .ref qB, .ref qP, .int qnb, .int qnp, .ref aR, .ref aB, .ref aP, .int nb, .int np, .ref aN, .ref rf, .int ho, .int br, .ref aK, .int ac, .long dw, .ref aE, .int sr, .int sf, .ref aA, .ref aH, .ref aI, .int hi])), (rC, .inl (cI, 2600, .inl fC)), (rV, .inl (cI, 2600, .inl fV)), (rK, .inl (cI, 5, .inl fK)), (rT, .inl (cI, 700, .inl fT)), (rS, .inl (cI, 700, .inl fS)), (rU, .inl (cI, 700, .inl fU)), (rL, .inl (cI, 6, .inl u43_0)), (rX, .inl (cI, 80, .inl u43_1)), (aB, .inl (cI, 24, .inl fBr)), (aP, .inl (cI, 20, .inl fPa)), (aN, .inl (cI, 97, .inl fN))]) hP hD hS hA [0, 1, 2, 3, 4, 5, 6, 7, 8, 9, 10, 11] (by decide +kernel) rfl
          refine va_calli (va_runV (As := [.int p1, .int p0, .int p2, .int p4, .int p3]) (rest := [.int v43]) ⟨hx, hb, hml, hown, hts⟩ (g_X11_gameOf l dC dI cI cJ h0 p1 p0 p2 p4 p3 th tB tsz tat wr dp rC rV rD rK rT rS rU lw tx rL rX qR qB qP qnb qnp aR aB aP nb np aN rf ho br aK ac dw aE sr sf aA aH aI hi fC fV fK fT fS fU u43_0 u43_1 fBr fPa fN H.size y_ac y_hi y_ho y_lw n_nb n_np n_p1 n_p0 n_p2 y_qnb y_qnp y_tat y_tsz y_wr (hls) ci_fBr_zBr_nb ci_fN_zNw_np ci_fPa_zBr_np) (cwV 5 hts (zgV qw1663 qw1665 qw89 qw108 qw1666) rfl rfl rfl hd_X11_gameOf ⟨by rw [hR]; exact Nat.le_of_ble_eq_true rfl, by rw [hR]; exact Nat.le_of_ble_eq_true rfl⟩) (zPV hPc hK hDc (va_recv (q := (RX11, TX11, 41)) hK hP (ci := 11) (q0 := 0) rfl rfl)) rfl rfl hl.1 rfl (lv_room (Nat.le_of_ble_eq_true rfl)) dX11_isRest_54 ⟨Nat.zero_le _, Nat.zero_le _⟩) hS (fun q _ h => hFc q h) hFc (fun v54 u54 t H locs ht hvm hw hB hz1 hk1 hS9 => ?_)
          obtain ⟨u54_0, u54_1⟩ := u54
          obtain ⟨hP9, hD9⟩ := zj2 (wX := [(h0, .inr (11, [.int th, .ref tB, .int tsz, .int tat, .int wr, .int dp, .ref rC, .ref rV, .ref rD, .ref rK, .ref rT, .ref rS, .ref rU, .int lw, .int tx, .ref rL, .ref rX, .ref qR, .ref qB, .ref qP, .int qnb, .int qnp, .ref aR, .ref aB, .ref aP, .int nb, .int np, .ref aN, .ref rf, .int ho, .int br, .ref aK, .int ac, .long dw, .ref aE, .int sr, .int sf, .ref aA, .ref aH, .ref aI, .int hi])), (rC, .inl (cI, 2600, .inl fC)), (rV, .inl (cI, 2600, .inl fV)), (rK, .inl (cI, 5, .inl fK)), (rT, .inl (cI, 700, .inl fT)), (rS, .inl (cI, 700, .inl fS)), (rU, .inl (cI, 700, .inl fU)), (rL, .inl (cI, 6, .inl u54_0)), (rX, .inl (cI, 80, .inl u54_1)), (aB, .inl (cI, 24, .inl fBr)), (aP, .inl (cI, 20, .inl fPa)), (aN, .inl (cI, 97, .inl fN))]) hP hD hk1 hFc ht hB [0, 1, 2, 3, 4, 5, 6, 7, 8, 9, 10, 11] [(true, 0), (true, 1), (true, 2), (true, 3), (true, 4), (true, 5), (true, 6), (true, 7), (true, 8), (true, 9), (true, 10), (true, 11)] rfl (by decide +kernel) (by decide +kernel) rfl
          clear hP hD hS hPc hDc hFc hB hk1 hz1 hvm
          have hP := hP9
          have hD := hD9
          have hS := hS9
          clear hP9 hD9 hS9
          have f54_0 : (∀ (kc : zK3) (kT : zT) (q_fR : Nat → Int32) (kl : Option ((Int → Int) × Int)), zCn q_fR fBr fPa nb.toInt np.toInt kc → zKo nb.toInt np.toInt kc kT → zSr nb.toInt np.toInt kT.1 fN → zLwR ho fC fV fK fT fS fU kl → (0 ≤ p1.toInt ∧ p1.toInt < nb.toInt) → (0 ≤ p0.toInt ∧ p0.toInt < nb.toInt) → (0 ≤ p2.toInt ∧ p2.toInt < np.toInt) → (0 ≤ p4.toInt ∧ p4.toInt ≤ 9) → (0 ≤ p3.toInt ∧ p3.toInt ≤ 9) → v54 = sGm kc kT.1 kl p2 p1 p0 p4 p3) := hw
          have F54 := f54_0
          refine lv_icmp_le (tgt := 62) hx hb dX11_isRest_57 (by decide) (fun c57 => ?_) (fun c57 => ?_)
          · have c57 : v43.toInt ≤ v54.toInt := z3 rfl rfl c57
            obtain ⟨v62, e62⟩ : ∃ y : Int32, y = m3_L_6 + Int32.ofInt (1) := ⟨_, rfl⟩
            refine lv_iinc (v := v62) (lv' := [(6, .int v62), (0, .ref h0), (1, .int p0), (2, .int p1), (3, .int p2), (4, .int p3), (5, .int p4)]) hx hb dX11_isRest_62 hl (k := 0) rfl e62.symm (by decide) rfl (fun ls hl => ?_)
            have i62 : v62.toInt = m3_L_6.toInt + 1 := zaddI e62 (by decide) (by omega) (by omega)
            refine lv_goto (tgt := 3) hx hb dX11_isRest_65 (by decide) ?_
            exact ih3 _ (by omega) u54_0 u54_1 v62 (by omega) (fun kc kT q_fR kl hc hb h hL h0 h1 h2 h3 h4 => ⟨zBa_s (jv3_0 kc kT _ kl hc hb h hL h0 h1 h2 h3 h4).1 (by omega) i62 ((F18 kc kT _ kl hc hb h hL (by omega) (by omega) (by omega) (by omega) (by omega)).trans (sGm_r (by omega) (by omega))) ((F29 kc kT _ kl hc hb h hL (by omega) (by omega) (by omega) (by omega) (by omega)).trans (sGm_r (by omega) (by omega))) (by omega), zBa_s (jv3_0 kc kT _ kl hc hb h hL h0 h1 h2 h3 h4).2 (by omega) i62 ((F43 kc kT _ kl hc hb h hL (by omega) (by omega) (by omega) (by omega) (by omega)).trans (sGm_r (by omega) (by omega))) ((F54 kc kT _ kl hc hb h hL (by omega) (by omega) (by omega) (by omega) (by omega)).trans (sGm_r (by omega) (by omega))) (by omega)⟩) rfl H locs ls hP hD hS (lv_sub hl [0, 1, 2, 3, 4, 5, 6] rfl)
          · have c57 : v54.toInt < v43.toInt := z4 rfl rfl c57
            refine lv_iconst (v := 0) hx hb dX11_isRest_60 (by decide) ?_
            have zr0 : (0 : Int32).toInt = 0 := by decide
            rw [hQ]
            exact W.zret (v := 0) (ty := .boolean) hx hb hr rfl (fun t ht hW => ⟨⟨0, (u54_0, u54_1), rfl, ⟨by (try dsimp only); omega, by (try dsimp only); omega, by (try dsimp only); exact fun kc kT q_fR kl hc hb h hL h0 h1 h2 h3 h4 => Or.inr ⟨by decide, fun y => zBa_n (k := m3_L_6) (by omega) (by omega) (by omega) ((F43 kc kT _ kl hc hb h hL (by omega) (by omega) (by omega) (by omega) (by omega)).trans (sGm_r (by omega) (by omega))) ((F54 kc kT _ kl hc hb h hL (by omega) (by omega) (by omega) (by omega) (by omega)).trans (sGm_r (by omega) (by omega))) (by omega) y.2⟩⟩, ⟨by rw [ht]; exact hP, hD⟩⟩, hS.F ht⟩) hS.2.2 dX11_isRest_61
  refine lv_istore (lv' := [(6, .int 0), (0, .ref h0), (1, .int p0), (2, .int p1), (3, .int p2), (4, .int p3), (5, .int p4)]) hx hb dX11_isRest_1 hl (by decide) rfl (fun ls hl => ?_)
  have zj3_m3_L_6 : (0 : Int32).toInt = 0 := by decide
  exact J3 _ fL fX 0 (by decide) (fun kc kT q_fR kl hc hb h hL h0 h1 h2 h3 h4 => ⟨zBa_0, zBa_0⟩) rfl H locs ls hP hD hS (lv_sub hl [0, 1, 2, 3, 4, 5, 6] rfl)
set_option maxHeartbeats 4000000 in
set_option maxRecDepth 100000 in
theorem g_X11_rests (l : Launch) (dC : Nat → ClassId) (dI : Nat → Nat → Nat) (cI cJ : ClassId) (h0 : Nat) (p0 : Int32) (p1 : Int32) (p2 : Int32) (p3 : Int32) (th : Int32) (tB : Nat) (tsz : Int32) (tat : Int32) (wr : Int32) (dp : Int32) (rC : Nat) (rV : Nat) (rD : Nat) (rK : Nat) (rT : Nat) (rS : Nat) (rU : Nat) (lw : Int32) (tx : Int32) (rL : Nat) (rX : Nat) (qR : Nat) (qB : Nat) (qP : Nat) (qnb : Int32) (qnp : Int32) (aR : Nat) (aB : Nat) (aP : Nat) (nb : Int32) (np : Int32) (aN : Nat) (rf : Nat) (ho : Int32) (br : Int32) (aK : Nat) (ac : Int32) (dw : Int64) (aE : Nat) (sr : Int32) (sf : Int32) (aA : Nat) (aH : Nat) (aI : Nat) (hi : Int32) (fC : Nat → Int32) (fV : Nat → Int32) (fK : Nat → Int32) (fT : Nat → Int32) (fS : Nat → Int32) (fU : Nat → Int32) (fL : Nat → Int32) (fX : Nat → Int32) (fBr : Nat → Int32) (fPa : Nat → Int32) (fN : Nat → Int32) (sz : Nat) (n_ac : 0 ≤ ac.toInt ∧ ac.toInt ≤ 40) (n_hi : 0 ≤ hi.toInt ∧ hi.toInt ≤ 1) (n_ho : (-1) ≤ ho.toInt ∧ ho.toInt ≤ 3) (n_lw : 0 ≤ lw.toInt ∧ lw.toInt ≤ 4) (n_nb : 0 ≤ nb.toInt ∧ nb.toInt ≤ 6) (n_np : 0 ≤ np.toInt ∧ np.toInt ≤ 5) (n_qnb : 0 ≤ qnb.toInt ∧ qnb.toInt ≤ 6) (n_qnp : 0 ≤ qnp.toInt ∧ qnp.toInt ≤ 5) (n_tat : 0 ≤ tat.toInt ∧ tat.toInt ≤ 260) (n_tsz : 0 ≤ tsz.toInt ∧ tsz.toInt ≤ 240) (n_wr : (-1) ≤ wr.toInt ∧ wr.toInt ≤ 260) (hls : zLs ho fC fV fK fT fS fU) (ci_fBr_zBr_nb : zBr nb fBr) (ci_fN_zNw_np : zNw np fN) (ci_fPa_zBr_np : zBr np fPa)  : Met l yX11_rests (.code yX11_rests cX11_rests 7 (some .int) :: wA) ({ frames := 8, cells := 0, slots := 0, locals := 199 }) (zP (dC, dI) [(cI, .int), (cJ, .long)] [.ref h0, .int p0, .int p1, .int p2, .int p3] sz [(h0, .inr (11, [.int th, .ref tB, .int tsz, .int tat, .int wr, .int dp, .ref rC, .ref rV, .ref rD, .ref rK, .ref rT, .ref rS, .ref rU, .int lw, .int tx, .ref rL, .ref rX, .ref qR, .ref qB, .ref qP, .int qnb, .int qnp, .ref aR, .ref aB, .ref aP, .int nb, .int np, .ref aN, .ref rf, .int ho, .int br, .ref aK, .int ac, .long dw, .ref aE, .int sr, .int sf, .ref aA, .ref aH, .ref aI, .int hi])), (rC, .inl (cI, 2600, .inl fC)), (rV, .inl (cI, 2600, .inl fV)), (rK, .inl (cI, 5, .inl fK)), (rT, .inl (cI, 700, .inl fT)), (rS, .inl (cI, 700, .inl fS)), (rU, .inl (cI, 700, .inl fU)), (rL, .inl (cI, 6, .inl fL)), (rX, .inl (cI, 80, .inl fX)), (aB, .inl (cI, 24, .inl fBr)), (aP, .inl (cI, 20, .inl fPa)), (aN, .inl (cI, 97, .inl fN))]) (va_Qi (fun (r : Int32) (u : (Nat → Int32) × (Nat → Int32)) => ((-1) ≤ r.toInt) ∧ (r.toInt ≤ 100) ∧ (∀ (kc : zK3) (kT : zT) (q_fR : Nat → Int32) (q_fKp : Nat → Int32) (q_frf : Nat → Int32) (kl : Option ((Int → Int) × Int)), zCn q_fR fBr fPa nb.toInt np.toInt kc → zKo nb.toInt np.toInt kc kT → zTr nb.toInt np.toInt kT fN q_fKp ac q_frf → zLwR ho fC fV fK fT fS fU kl → r.toInt = sV_res nb.toInt np.toInt kc kT.1 kl p0 p1 p2 p3)) (fun (u : (Nat → Int32) × (Nat → Int32)) (t : State) => va_P (dC, dI) vwCl [(h0, .inr (11, [.int th, .ref tB, .int tsz, .int tat, .int wr, .int dp, .ref rC, .ref rV, .ref rD, .ref rK, .ref rT, .ref rS, .ref rU, .int lw, .int tx, .ref rL, .ref rX, .ref qR, .ref qB, .ref qP, .int qnb, .int qnp, .ref aR, .ref aB, .ref aP, .int nb, .int np, .ref aN, .ref rf, .int ho, .int br, .ref aK, .int ac, .long dw, .ref aE, .int sr, .int sf, .ref aA, .ref aH, .ref aI, .int hi])), (rC, .inl (cI, 2600, .inl fC)), (rV, .inl (cI, 2600, .inl fV)), (rK, .inl (cI, 5, .inl fK)), (rT, .inl (cI, 700, .inl fT)), (rS, .inl (cI, 700, .inl fS)), (rU, .inl (cI, 700, .inl fU)), (rL, .inl (cI, 6, .inl u.1)), (rX, .inl (cI, 80, .inl u.2)), (aB, .inl (cI, 24, .inl fBr)), (aP, .inl (cI, 20, .inl fPa)), (aN, .inl (cI, 97, .inl fN))] t.heap ∧ va_D (va_A [(h0, .inr (11, [.int th, .ref tB, .int tsz, .int tat, .int wr, .int dp, .ref rC, .ref rV, .ref rD, .ref rK, .ref rT, .ref rS, .ref rU, .int lw, .int tx, .ref rL, .ref rX, .ref qR, .ref qB, .ref qP, .int qnb, .int qnp, .ref aR, .ref aB, .ref aP, .int nb, .int np, .ref aN, .ref rf, .int ho, .int br, .ref aK, .int ac, .long dw, .ref aE, .int sr, .int sf, .ref aA, .ref aH, .ref aI, .int hi])), (rC, .inl (cI, 2600, .inl fC)), (rV, .inl (cI, 2600, .inl fV)), (rK, .inl (cI, 5, .inl fK)), (rT, .inl (cI, 700, .inl fT)), (rS, .inl (cI, 700, .inl fS)), (rU, .inl (cI, 700, .inl fU)), (rL, .inl (cI, 6, .inl fL)), (rX, .inl (cI, 80, .inl fX)), (aB, .inl (cI, 24, .inl fBr)), (aP, .inl (cI, 20, .inl fPa)), (aN, .inl (cI, 97, .inl fN))] sz) [(h0, .inr (11, [.int th, .ref tB, .int tsz, .int tat, .int wr, .int dp, .ref rC, .ref rV, .ref rD, .ref rK, .ref rT, .ref rS, .ref rU, .int lw, .int tx, .ref rL, .ref rX, .ref qR, .ref qB, .ref qP, .int qnb, .int qnp, .ref aR, .ref aB, .ref aP, .int nb, .int np, .ref aN, .ref rf, .int ho, .int br, .ref aK, .int ac, .long dw, .ref aE, .int sr, .int sf, .ref aA, .ref aH, .ref aI, .int hi])), (rC, .inl (cI, 2600, .inl fC)), (rV, .inl (cI, 2600, .inl fV)), (rK, .inl (cI, 5, .inl fK)), (rT, .inl (cI, 700, .inl fT)), (rS, .inl (cI, 700, .inl fS)), (rU, .inl (cI, 700, .inl fU)), (rL, .inl (cI, 6, .inl u.1)), (rX, .inl (cI, 80, .inl u.2)), (aB, .inl (cI, 24, .inl fBr)), (aP, .inl (cI, 20, .inl fPa)), (aN, .inl (cI, 97, .inl fN))]) (va_A [(h0, .inr (11, [.int th, .ref tB, .int tsz, .int tat, .int wr, .int dp, .ref rC, .ref rV, .ref rD, .ref rK, .ref rT, .ref rS, .ref rU, .int lw, .int tx, .ref rL, .ref rX, .ref qR, .ref qB, .ref qP, .int qnb, .int qnp, .ref aR, .ref aB, .ref aP, .int nb, .int np, .ref aN, .ref rf, .int ho, .int br, .ref aK, .int ac, .long dw, .ref aE, .int sr, .int sf, .ref aA, .ref aH, .ref aI, .int hi])), (rC, .inl (cI, 2600, .inl fC)), (rV, .inl (cI, 2600, .inl fV)), (rK, .inl (cI, 5, .inl fK)), (rT, .inl (cI, 700, .inl fT)), (rS, .inl (cI, 700, .inl fS)), (rU, .inl (cI, 700, .inl fU)), (rL, .inl (cI, 6, .inl fL)), (rX, .inl (cI, 80, .inl fX)), (aB, .inl (cI, 24, .inl fBr)), (aP, .inl (cI, 20, .inl fPa)), (aN, .inl (cI, 97, .inl fN))] sz)) 0 0 (va_A [(h0, .inr (11, [.int th, .ref tB, .int tsz, .int tat, .int wr, .int dp, .ref rC, .ref rV, .ref rD, .ref rK, .ref rT, .ref rS, .ref rU, .int lw, .int tx, .ref rL, .ref rX, .ref qR, .ref qB, .ref qP, .int qnb, .int qnp, .ref aR, .ref aB, .ref aP, .int nb, .int np, .ref aN, .ref rf, .int ho, .int br, .ref aK, .int ac, .long dw, .ref aE, .int sr, .int sf, .ref aA, .ref aH, .ref aI, .int hi])), (rC, .inl (cI, 2600, .inl fC)), (rV, .inl (cI, 2600, .inl fV)), (rK, .inl (cI, 5, .inl fK)), (rT, .inl (cI, 700, .inl fT)), (rS, .inl (cI, 700, .inl fS)), (rU, .inl (cI, 700, .inl fU)), (rL, .inl (cI, 6, .inl fL)), (rX, .inl (cI, 80, .inl fX)), (aB, .inl (cI, 24, .inl fBr)), (aP, .inl (cI, 20, .inl fPa)), (aN, .inl (cI, 97, .inl fN))] sz) := by
  refine Met.ofW (cc := cX11_rests) (maxL := 7) (ret := (some .int)) (by decide) rfl ?_
  intro p e s m args below meth c s₁ B hml hv
  have y_ac : zHid (0 ≤ ac.toInt ∧ ac.toInt ≤ 40) := n_ac
  have y_hi : zHid (0 ≤ hi.toInt ∧ hi.toInt ≤ 1) := n_hi
  have y_ho : zHid ((-1) ≤ ho.toInt ∧ ho.toInt ≤ 3) := n_ho
  have y_lw : zHid (0 ≤ lw.toInt ∧ lw.toInt ≤ 4) := n_lw
  have y_qnb : zHid (0 ≤ qnb.toInt ∧ qnb.toInt ≤ 6) := n_qnb
  have y_qnp : zHid (0 ≤ qnp.toInt ∧ qnp.toInt ≤ 5) := n_qnp
  have y_tat : zHid (0 ≤ tat.toInt ∧ tat.toInt ≤ 260) := n_tat
  have y_tsz : zHid (0 ≤ tsz.toInt ∧ tsz.toInt ≤ 240) := n_tsz
  have y_wr : zHid ((-1) ≤ wr.toInt ∧ wr.toInt ≤ 260) := n_wr
  clear n_ac n_hi n_ho n_lw n_qnb n_qnp n_tat n_tsz n_wr
  obtain ⟨hargs, hsz, hP, hK, hT⟩ := hv
  have hx := B.exec
  have hb := B.bytes
  have hr := B.returns
  have hts : ∀ w ∈ wA, w.before args s = true := fun w h => atoms_spec (ws := .code yX11_rests cX11_rests 7 (some .int) :: wA) B.pre w (List.mem_cons_of_mem _ h)
  have hown : s.vm.findClass RX11 = some m.cls := findClass_of_methodNamed B.named
  have hlocks := B.notSynchronized
  subst hsz
  have hD := hT.self (sz := s.heap.size)
  generalize hAe : va_A [(h0, .inr (11, [.int th, .ref tB, .int tsz, .int tat, .int wr, .int dp, .ref rC, .ref rV, .ref rD, .ref rK, .ref rT, .ref rS, .ref rU, .int lw, .int tx, .ref rL, .ref rX, .ref qR, .ref qB, .ref qP, .int qnb, .int qnp, .ref aR, .ref aB, .ref aP, .int nb, .int np, .ref aN, .ref rf, .int ho, .int br, .ref aK, .int ac, .long dw, .ref aE, .int sr, .int sf, .ref aA, .ref aH, .ref aI, .int hi])), (rC, .inl (cI, 2600, .inl fC)), (rV, .inl (cI, 2600, .inl fV)), (rK, .inl (cI, 5, .inl fK)), (rT, .inl (cI, 700, .inl fT)), (rS, .inl (cI, 700, .inl fS)), (rU, .inl (cI, 700, .inl fU)), (rL, .inl (cI, 6, .inl fL)), (rX, .inl (cI, 80, .inl fX)), (aB, .inl (cI, 24, .inl fBr)), (aP, .inl (cI, 20, .inl fPa)), (aN, .inl (cI, 97, .inl fN))] s.heap.size = A at hD ⊢
  have hA : ∀ q : Nat, s.heap.size ≤ q → A q := fun q h => by rw [← hAe]; exact Or.inr h
  have hl := lv_entry ([.ref h0, .int p0, .int p1, .int p2, .int p3]) (n := 7) (Nat.le_of_ble_eq_true rfl)
  rw [show entryFrame m args 7 = entryFrame m ([.ref h0, .int p0, .int p1, .int p2, .int p3] : List Value).toArray 7 by rw [hargs], lg_entry_eq]
  generalize (lg_sl ([.ref h0, .int p0, .int p1, .int p2, .int p3]) ++ List.replicate (7 - (lg_sl ([.ref h0, .int p0, .int p1, .int p2, .int p3])).length) Slot.unset).toArray = ls at hl ⊢
  have hl : lv_has ls 7 [(0, .ref h0), (1, .int p0), (2, .int p1), (3, .int p2), (4, .int p3)] := hl
  refine zstart (fun H hH => ?_)
  rw [← hH] at hP
  have hS : va_S A s.heap H [] := by rw [hH]; exact va_S.rf
  generalize ([] : List Loc) = locs at hS ⊢
  refine zgen (fun R Q hR hQ => ?_)
  refine lv_aload_n hx hb dX11_rests_0 rfl (lv_at hl 0 rfl) ?_
  refine lv_iload_n hx hb dX11_rests_1 rfl (lv_at hl 1 rfl) ?_
  refine lv_iload_n hx hb dX11_rests_2 rfl (lv_at hl 2 rfl) ?_
  refine lv_iload_n hx hb dX11_rests_3 rfl (lv_at hl 3 rfl) ?_
  obtain ⟨hPc, hDc⟩ := zc2 (wc := [(h0, .inr (11, [.int th, .ref tB, .int tsz, .int tat, .int wr, .int dp, .ref rC, .ref rV, .ref rD, .ref rK, .ref rT, .ref rS, .ref rU, .int lw, .int tx, .ref rL, .ref rX, .ref qR, .ref qB, .ref qP, .int qnb, .int qnp, .ref aR, .ref aB, .ref aP, .int nb, .int np, .ref aN, .ref rf, .int ho, .int br, .ref aK, .int ac, .long dw, .ref aE, .int sr, .int sf, .ref aA, .ref aH, .ref aI, .int hi]))]) hP hD [0] (by decide +kernel) rfl
  have hFc := zfr hS hA
  refine va_calli (va_runV (As := [.int p0, .int p1, .int p2]) (rest := []) ⟨hx, hb, hml, hown, hts⟩ (g_X11_areTwo l dC dI cI cJ h0 p0 p1 p2 th tB tsz tat wr dp rC rV rD rK rT rS rU lw tx rL rX qR qB qP qnb qnp aR aB aP nb np aN rf ho br aK ac dw aE sr sf aA aH aI hi H.size y_ac y_hi y_ho y_lw n_nb n_np y_qnb y_qnp y_tat y_tsz y_wr) (cwV 3 hts (zgV qw1658 qw1660 qw88 qw108 qw1661) rfl rfl rfl hd_X11_areTwo ⟨by rw [hR]; exact Nat.le_of_ble_eq_true rfl, by rw [hR]; exact Nat.le_of_ble_eq_true rfl⟩) (zPV hPc hK hDc (va_recv (q := (RX11, TX11, 41)) hK hP (ci := 11) (q0 := 0) rfl rfl)) rfl rfl hl.1 rfl (lv_room (Nat.le_of_ble_eq_true rfl)) dX11_rests_4 ⟨Nat.zero_le _, Nat.zero_le _⟩) hS (fun q _ h => hFc q h) hFc (fun v4 u4 t H locs ht hvm hw hB hz1 hk1 hS9 => ?_)
  replace hP := zkeep hP hk1
  replace hS := hS9
  clear hPc hDc hFc hk1 hz1 hvm hS9
  obtain ⟨f4_0, f4_1, f4_2, f4_3, f4_4⟩ : (0 ≤ v4.toInt) ∧ (v4.toInt ≤ 1) ∧ (¬ v4.toInt = 0 → (0 ≤ p0.toInt ∧ p0.toInt < nb.toInt ∧ 0 ≤ p1.toInt ∧ p1.toInt < nb.toInt ∧ 0 ≤ p2.toInt ∧ p2.toInt < np.toInt)) ∧ (¬ v4.toInt = 0 → ¬ p0.toInt = p1.toInt) ∧ (v4.toInt = 0 → ¬ ((0 ≤ p0.toInt ∧ p0.toInt < nb.toInt) ∧ (0 ≤ p1.toInt ∧ p1.toInt < nb.toInt) ∧ ¬ p0.toInt = p1.toInt ∧ 0 ≤ p2.toInt ∧ p2.toInt < np.toInt)) := hw
  refine lv_if_eq (tgt := 16) hx hb dX11_rests_7 (by decide) (fun c7 => ?_) (fun c7 => ?_)
  · have c7 : v4.toInt = 0 := z5 rfl (by decide) c7
    refine lv_iconst (v := (-1)) hx hb dX11_rests_16 (by decide) ?_
    have zr0 : ((-1) : Int32).toInt = (-1) := by decide
    rw [hQ]
    exact W.iret (v := ((-1))) hx hb hr (fun t ht hW => ⟨⟨(-1), (fL, fX), rfl, ⟨by (try dsimp only); omega, by (try dsimp only); omega, by (try dsimp only); exact fun kc kT q_fR q_fKp q_frf kl hc hb h hL => by unfold sV_res; exact (if_neg (fun y => by obtain ⟨⟨a1, a2, a3, a4⟩, a5⟩ := y; omega)).symm⟩, ⟨by rw [ht]; exact hP, hD⟩⟩, hS.F ht⟩) hS.2.2 dX11_rests_17
  · have c7 : ¬ v4.toInt = 0 := z6 rfl (by decide) c7
    refine lv_iload hx hb dX11_rests_10 (lv_at hl 4 rfl) ?_
    refine lv_iconst (v := (-1)) hx hb dX11_rests_12 (by decide) ?_
    refine lv_icmp_ge (tgt := 18) hx hb dX11_rests_13 (by decide) (fun c13 => ?_) (fun c13 => ?_)
    · have c13 : (-1) ≤ p3.toInt := z3 (by decide) rfl c13
      refine lv_iconst (v := 0) hx hb dX11_rests_18 (by decide) ?_
      refine lv_istore (lv' := [(5, .int 0), (0, .ref h0), (1, .int p0), (2, .int p1), (3, .int p2), (4, .int p3)]) hx hb dX11_rests_19 hl (by decide) rfl (fun ls hl => ?_)
      refine lv_iconst (v := 0) hx hb dX11_rests_21 (by decide) ?_
      have J24 : ∀ (n : Nat) (m24_A_rL : Nat → Int32) (m24_A_rX : Nat → Int32) (m24_L_5 : Int32) (m24_L_6 : Int32), (0 ≤ m24_L_5.toInt ∧ m24_L_5.toInt ≤ 100) → (0 ≤ m24_L_6.toInt ∧ m24_L_6.toInt ≤ 100) → (∀ (kc : zK3) (kT : zT) (q_fR : Nat → Int32) (kl : Option ((Int → Int) × Int)), zCn q_fR fBr fPa nb.toInt np.toInt kc → zKo nb.toInt np.toInt kc kT → zSr nb.toInt np.toInt kT.1 fN → zLwR ho fC fV fK fT fS fU kl → zRt (sRow kc kT.1 kl p2 p0) (sRow kc kT.1 kl p2 p1) p3.toInt m24_L_5 m24_L_6.toInt.toNat) → (0 ≤ m24_L_5.toInt ∧ m24_L_5.toInt ≤ m24_L_6.toInt) → (101 - m24_L_6.toInt).toNat = n → ∀ (H : Heap) (locs : List Loc) (ls : Array Slot), va_P (dC, dI) vwCl [(h0, .inr (11, [.int th, .ref tB, .int tsz, .int tat, .int wr, .int dp, .ref rC, .ref rV, .ref rD, .ref rK, .ref rT, .ref rS, .ref rU, .int lw, .int tx, .ref rL, .ref rX, .ref qR, .ref qB, .ref qP, .int qnb, .int qnp, .ref aR, .ref aB, .ref aP, .int nb, .int np, .ref aN, .ref rf, .int ho, .int br, .ref aK, .int ac, .long dw, .ref aE, .int sr, .int sf, .ref aA, .ref aH, .ref aI, .int hi])), (rC, .inl (cI, 2600, .inl fC)), (rV, .inl (cI, 2600, .inl fV)), (rK, .inl (cI, 5, .inl fK)), (rT, .inl (cI, 700, .inl fT)), (rS, .inl (cI, 700, .inl fS)), (rU, .inl (cI, 700, .inl fU)), (rL, .inl (cI, 6, .inl m24_A_rL)), (rX, .inl (cI, 80, .inl m24_A_rX)), (aB, .inl (cI, 24, .inl fBr)), (aP, .inl (cI, 20, .inl fPa)), (aN, .inl (cI, 97, .inl fN))] H → va_D A [(h0, .inr (11, [.int th, .ref tB, .int tsz, .int tat, .int wr, .int dp, .ref rC, .ref rV, .ref rD, .ref rK, .ref rT, .ref rS, .ref rU, .int lw, .int tx, .ref rL, .ref rX, .ref qR, .ref qB, .ref qP, .int qnb, .int qnp, .ref aR, .ref aB, .ref aP, .int nb, .int np, .ref aN, .ref rf, .int ho, .int br, .ref aK, .int ac, .long dw, .ref aE, .int sr, .int sf, .ref aA, .ref aH, .ref aI, .int hi])), (rC, .inl (cI, 2600, .inl fC)), (rV, .inl (cI, 2600, .inl fV)), (rK, .inl (cI, 5, .inl fK)), (rT, .inl (cI, 700, .inl fT)), (rS, .inl (cI, 700, .inl fS)), (rU, .inl (cI, 700, .inl fU)), (rL, .inl (cI, 6, .inl m24_A_rL)), (rX, .inl (cI, 80, .inl m24_A_rX)), (aB, .inl (cI, 24, .inl fBr)), (aP, .inl (cI, 20, .inl fPa)), (aN, .inl (cI, 97, .inl fN))] → va_S A s.heap H locs → lv_has ls 7 [(6, .int m24_L_6), (5, .int m24_L_5), (0, .ref h0), (1, .int p0), (2, .int p1), (3, .int p2), (4, .int p3)] → W p l e R s m args below meth c H locs 0 0 Q (F0 m 24 ls []) := by
        intro n24
        induction n24 using Nat.strongRecOn with
        | _ n24 ih24 =>
          intro m24_A_rL m24_A_rX m24_L_5 m24_L_6 jf24_0 jf24_1 jv24_0 jf24_3 hmu24 H locs ls hP hD hS hl
          refine lv_iload hx hb dX11_rests_24 (lv_at hl 0 rfl) ?_
          refine lv_bipush (v := 100) hx hb dX11_rests_26 (by decide) ?_
          refine lv_icmp_ge (tgt := 70) hx hb dX11_rests_28 (by decide) (fun c28 => ?_) (fun c28 => ?_)
          · have c28 : 100 ≤ m24_L_6.toInt := z3 (by decide) rfl c28
            refine lv_iload hx hb dX11_rests_70 (lv_at hl 6 rfl) ?_
            refine lv_iconst (v := (-1)) hx hb dX11_rests_72 (by decide) ?_
            refine lv_icmp_ne (tgt := 81) hx hb dX11_rests_73 (by decide) (fun c73 => ?_) (fun c73 => ?_)
            · have c73 : ¬ p3.toInt = (-1) := z6 rfl (by decide) c73
              refine lv_iconst (v := (-1)) hx hb dX11_rests_81 (by decide) ?_
              have zr0 : ((-1) : Int32).toInt = (-1) := by decide
              rw [hQ]
              exact W.iret (v := ((-1))) hx hb hr (fun t ht hW => ⟨⟨(-1), (m24_A_rL, m24_A_rX), rfl, ⟨by (try dsimp only); omega, by (try dsimp only); omega, by (try dsimp only); exact fun kc kT q_fR q_fKp q_frf kl hc hb h hL => by unfold sV_res; rw [if_pos ⟨⟨by omega, by omega, by omega, by omega⟩, by omega⟩]; have J := (jv24_0 kc kT _ kl hc hb h.1 hL); rw [show m24_L_6.toInt.toNat = 100 by omega] at J; rw [if_neg (by omega), J.2 (by omega)]; decide⟩, ⟨by rw [ht]; exact hP, hD⟩⟩, hS.F ht⟩) hS.2.2 dX11_rests_82
            · have c73 : p3.toInt = (-1) := z5 rfl (by decide) c73
              refine lv_iload hx hb dX11_rests_76 (lv_at hl 1 rfl) ?_
              refine lv_goto (tgt := 82) hx hb dX11_rests_78 (by decide) ?_
              rw [hQ]
              exact W.iret (v := m24_L_5) hx hb hr (fun t ht hW => ⟨⟨m24_L_5, (m24_A_rL, m24_A_rX), rfl, ⟨by (try dsimp only); omega, by (try dsimp only); omega, by (try dsimp only); exact fun kc kT q_fR q_fKp q_frf kl hc hb h hL => by unfold sV_res; rw [if_pos ⟨⟨by omega, by omega, by omega, by omega⟩, by omega⟩]; have J := (jv24_0 kc kT _ kl hc hb h.1 hL); rw [show m24_L_6.toInt.toNat = 100 by omega] at J; rw [if_pos (by omega)]; exact J.1⟩, ⟨by rw [ht]; exact hP, hD⟩⟩, hS.F ht⟩) hS.2.2 dX11_rests_82
          · have c28 : m24_L_6.toInt < 100 := z4 (by decide) rfl c28
            refine lv_aload_n hx hb dX11_rests_31 rfl (lv_at hl 2 rfl) ?_
            refine lv_iload_n hx hb dX11_rests_32 rfl (lv_at hl 3 rfl) ?_
            refine lv_iload_n hx hb dX11_rests_33 rfl (lv_at hl 4 rfl) ?_
            refine lv_iload_n hx hb dX11_rests_34 rfl (lv_at hl 5 rfl) ?_
            refine lv_iload hx hb dX11_rests_35 (lv_at hl 0 rfl) ?_
            refine lv_bipush (v := 10) hx hb dX11_rests_37 (by decide) ?_
            refine lv_idiv hx hb dX11_rests_39 (by decide) ?_
            refine lv_topi (fun v39 e39 => ?_)
            have i39 : v39.toInt = m24_L_6.toInt / 10 := zdiv e39 rfl (by decide) (by omega) (by omega)
            refine lv_iload hx hb dX11_rests_40 (lv_at hl 0 rfl) ?_
            refine lv_bipush (v := 10) hx hb dX11_rests_42 (by decide) ?_
            refine lv_irem hx hb dX11_rests_44 (by decide) ?_
            refine lv_topi (fun v44 e44 => ?_)
            have i44 : v44.toInt = m24_L_6.toInt % 10 := zrem e44 rfl (by decide) (by omega) (by omega)
            obtain ⟨hPc, hDc, hFc⟩ := zc3 (wc := [(h0, .inr (11, [.int th, .ref tB, .int tsz, .int tat, .int wr, .int dp, .ref rC, .ref rV, .ref rD, .ref rK, .ref rT, .ref rS, .ref rU, .int lw, .int tx, .ref rL, .ref rX, .ref qR, .ref qB, .ref qP, .int qnb, .int qnp, .ref aR, .ref aB, .ref aP, .int nb, .int np, .ref aN, .ref rf, .int ho, .int br, .ref aK, .int ac, .long dw, .ref aE, .int sr, .int sf, .ref aA, .ref aH, .ref aI, .int hi])), (rC, .inl (cI, 2600, .inl fC)), (rV, .inl (cI, 2600, .inl fV)), (rK, .inl (cI, 5, .inl fK)), (rT, .inl (cI, 700, .inl fT)), (rS, .inl (cI, 700, .inl fS)), (rU, .inl (cI, 700, .inl fU)), (rL, .inl (cI, 6, .inl m24_A_rL)), (rX, .inl (cI, 80, .inl m24_A_rX)), (aB, .inl (cI, 24, .inl fBr)), (aP, .inl (cI, 20, .inl fPa)), (aN, .inl (cI, 97, .inl fN))]) hP hD hS hA [0, 1, 2, 3, 4, 5, 6, 7, 8, 9, 10, 11] (by decide +kernel) rfl
            refine va_calli (va_runV (As := [.int p0, .int p1, .int p2, .int v39, .int v44]) (rest := []) ⟨hx, hb, hml, hown, hts⟩ (g_X11_isRest l dC dI cI cJ h0 p0 p1 p2 v39 v44 th tB tsz tat wr dp rC rV rD rK rT rS rU lw tx rL rX qR qB qP qnb qnp aR aB aP nb np aN rf ho br aK ac dw aE sr sf aA aH aI hi fC fV fK fT fS fU m24_A_rL m24_A_rX fBr fPa fN H.size y_ac y_hi y_ho y_lw n_nb n_np (by omega) (by omega) (by omega) y_qnb y_qnp y_tat y_tsz y_wr (hls) ci_fBr_zBr_nb ci_fN_zNw_np ci_fPa_zBr_np) (cwV 5 hts (zgV qw1671 qw1673 qw90 qw108 qw1674) rfl rfl rfl hd_X11_isRest ⟨by rw [hR]; exact Nat.le_of_ble_eq_true rfl, by rw [hR]; exact Nat.le_of_ble_eq_true rfl⟩) (zPV hPc hK hDc (va_recv (q := (RX11, TX11, 41)) hK hP (ci := 11) (q0 := 0) rfl rfl)) rfl rfl hl.1 rfl (lv_room (Nat.le_of_ble_eq_true rfl)) dX11_rests_45 ⟨Nat.zero_le _, Nat.zero_le _⟩) hS (fun q _ h => hFc q h) hFc (fun v45 u45 t H locs ht hvm hw hB hz1 hk1 hS9 => ?_)
            obtain ⟨u45_0, u45_1⟩ := u45
            obtain ⟨hP9, hD9⟩ := zj2 (wX := [(h0, .inr (11, [.int th, .ref tB, .int tsz, .int tat, .int wr, .int dp, .ref rC, .ref rV, .ref rD, .ref rK, .ref rT, .ref rS, .ref rU, .int lw, .int tx, .ref rL, .ref rX, .ref qR, .ref qB, .ref qP, .int qnb, .int qnp, .ref aR, .ref aB, .ref aP, .int nb, .int np, .ref aN, .ref rf, .int ho, .int br, .ref aK, .int ac, .long dw, .ref aE, .int sr, .int sf, .ref aA, .ref aH, .ref aI, .int hi])), (rC, .inl (cI, 2600, .inl fC)), (rV, .inl (cI, 2600, .inl fV)), (rK, .inl (cI, 5, .inl fK)), (rT, .inl (cI, 700, .inl fT)), (rS, .inl (cI, 700, .inl fS)), (rU, .inl (cI, 700, .inl fU)), (rL, .inl (cI, 6, .inl u45_0)), (rX, .inl (cI, 80, .inl u45_1)), (aB, .inl (cI, 24, .inl fBr)), (aP, .inl (cI, 20, .inl fPa)), (aN, .inl (cI, 97, .inl fN))]) hP hD hk1 hFc ht hB [0, 1, 2, 3, 4, 5, 6, 7, 8, 9, 10, 11] [(true, 0), (true, 1), (true, 2), (true, 3), (true, 4), (true, 5), (true, 6), (true, 7), (true, 8), (true, 9), (true, 10), (true, 11)] rfl (by decide +kernel) (by decide +kernel) rfl
            clear hP hD hS hPc hDc hFc hB hk1 hz1 hvm
            have hP := hP9
            have hD := hD9
            have hS := hS9
            clear hP9 hD9 hS9
            obtain ⟨f45_0, f45_1, f45_2⟩ : (0 ≤ v45.toInt) ∧ (v45.toInt ≤ 1) ∧ (∀ (kc : zK3) (kT : zT) (q_fR : Nat → Int32) (kl : Option ((Int → Int) × Int)), zCn q_fR fBr fPa nb.toInt np.toInt kc → zKo nb.toInt np.toInt kc kT → zSr nb.toInt np.toInt kT.1 fN → zLwR ho fC fV fK fT fS fU kl → (0 ≤ p0.toInt ∧ p0.toInt < nb.toInt) → (0 ≤ p1.toInt ∧ p1.toInt < nb.toInt) → (0 ≤ p2.toInt ∧ p2.toInt < np.toInt) → (0 ≤ v39.toInt ∧ v39.toInt ≤ 9) → (0 ≤ v44.toInt ∧ v44.toInt ≤ 9) → (v45.toInt = 1 ∧ sBa (sRow kc kT.1 kl p2 p0) v39.toInt.toNat ((sRow kc kT.1 kl p2 p1) v44.toInt.toNat) ∧ sBa (sRow kc kT.1 kl p2 p1) v44.toInt.toNat ((sRow kc kT.1 kl p2 p0) v39.toInt.toNat)) ∨ (v45.toInt = 0 ∧ ¬ (sBa (sRow kc kT.1 kl p2 p0) v39.toInt.toNat ((sRow kc kT.1 kl p2 p1) v44.toInt.toNat) ∧ sBa (sRow kc kT.1 kl p2 p1) v44.toInt.toNat ((sRow kc kT.1 kl p2 p0) v39.toInt.toNat)))) := hw
            have F45 := f45_2
            refine lv_if_eq (tgt := 64) hx hb dX11_rests_48 (by decide) (fun c48 => ?_) (fun c48 => ?_)
            · have c48 : v45.toInt = 0 := z5 rfl (by decide) c48
              obtain ⟨v64, e64⟩ : ∃ y : Int32, y = m24_L_6 + Int32.ofInt (1) := ⟨_, rfl⟩
              refine lv_iinc (v := v64) (lv' := [(6, .int v64), (5, .int m24_L_5), (0, .ref h0), (1, .int p0), (2, .int p1), (3, .int p2), (4, .int p3)]) hx hb dX11_rests_64 hl (k := 0) rfl e64.symm (by decide) rfl (fun ls hl => ?_)
              have i64 : v64.toInt = m24_L_6.toInt + 1 := zaddI e64 (by decide) (by omega) (by omega)
              refine lv_goto (tgt := 24) hx hb dX11_rests_67 (by decide) ?_
              exact ih24 _ (by omega) u45_0 u45_1 m24_L_5 v64 jf24_0 (by omega) (fun kc kT q_fR kl hc hb h hL => by have kk : sRk (sRow kc kT.1 kl p2 p0) (sRow kc kT.1 kl p2 p1) m24_L_6.toInt.toNat ↔ (sBa (sRow kc kT.1 kl p2 p0) v39.toInt.toNat ((sRow kc kT.1 kl p2 p1) v44.toInt.toNat) ∧ sBa (sRow kc kT.1 kl p2 p1) v44.toInt.toNat ((sRow kc kT.1 kl p2 p0) v39.toInt.toNat)) := (by unfold sRk; rw [show m24_L_6.toInt.toNat / 10 = v39.toInt.toNat by omega, show m24_L_6.toInt.toNat % 10 = v44.toInt.toNat by omega]); have g := F45 kc kT _ kl hc hb h hL (by omega) (by omega) (by omega) (by omega) (by omega); first | (rcases g with b | b; rotate_left; (exfalso; omega); exact zRtY (jv24_0 kc kT _ kl hc hb h hL) (by omega) (kk.mpr b.2) (by omega) i61) | (rcases g with b | b; (exfalso; omega); exact zRtN (jv24_0 kc kT _ kl hc hb h hL) (by omega) (fun z => b.2 (kk.mp z)))) (by omega) rfl H locs ls hP hD hS (lv_sub hl [0, 1, 2, 3, 4, 5, 6] rfl)
            · have c48 : ¬ v45.toInt = 0 := z6 rfl (by decide) c48
              refine lv_iload hx hb dX11_rests_51 (lv_at hl 1 rfl) ?_
              refine lv_iload hx hb dX11_rests_53 (lv_at hl 6 rfl) ?_
              refine lv_icmp_ne (tgt := 61) hx hb dX11_rests_55 (by decide) (fun c55 => ?_) (fun c55 => ?_)
              · have c55 : ¬ m24_L_5.toInt = p3.toInt := z6 rfl rfl c55
                have q61 : 0 ≤ m24_L_5.toInt ∧ m24_L_5.toInt ≤ 99 := by omega
                obtain ⟨v61, e61⟩ : ∃ y : Int32, y = m24_L_5 + Int32.ofInt (1) := ⟨_, rfl⟩
                refine lv_iinc (v := v61) (lv' := [(5, .int v61), (6, .int m24_L_6), (0, .ref h0), (1, .int p0), (2, .int p1), (3, .int p2), (4, .int p3)]) hx hb dX11_rests_61 hl (k := 1) rfl e61.symm (by decide) rfl (fun ls hl => ?_)
                have i61 : v61.toInt = m24_L_5.toInt + 1 := zaddI e61 (by decide) (by omega) (by omega)
                obtain ⟨v64, e64⟩ : ∃ y : Int32, y = m24_L_6 + Int32.ofInt (1) := ⟨_, rfl⟩
                refine lv_iinc (v := v64) (lv' := [(6, .int v64), (5, .int v61), (0, .ref h0), (1, .int p0), (2, .int p1), (3, .int p2), (4, .int p3)]) hx hb dX11_rests_64 hl (k := 1) rfl e64.symm (by decide) rfl (fun ls hl => ?_)
                have i64 : v64.toInt = m24_L_6.toInt + 1 := zaddI e64 (by decide) (by omega) (by omega)
                refine lv_goto (tgt := 24) hx hb dX11_rests_67 (by decide) ?_
                exact ih24 _ (by omega) u45_0 u45_1 v61 v64 (by omega) (by omega) (fun kc kT q_fR kl hc hb h hL => by have kk : sRk (sRow kc kT.1 kl p2 p0) (sRow kc kT.1 kl p2 p1) m24_L_6.toInt.toNat ↔ (sBa (sRow kc kT.1 kl p2 p0) v39.toInt.toNat ((sRow kc kT.1 kl p2 p1) v44.toInt.toNat) ∧ sBa (sRow kc kT.1 kl p2 p1) v44.toInt.toNat ((sRow kc kT.1 kl p2 p0) v39.toInt.toNat)) := (by unfold sRk; rw [show m24_L_6.toInt.toNat / 10 = v39.toInt.toNat by omega, show m24_L_6.toInt.toNat % 10 = v44.toInt.toNat by omega]); have g := F45 kc kT _ kl hc hb h hL (by omega) (by omega) (by omega) (by omega) (by omega); first | (rcases g with b | b; rotate_left; (exfalso; omega); exact zRtY (jv24_0 kc kT _ kl hc hb h hL) (by omega) (kk.mpr b.2) (by omega) i61) | (rcases g with b | b; (exfalso; omega); exact zRtN (jv24_0 kc kT _ kl hc hb h hL) (by omega) (fun z => b.2 (kk.mp z)))) (by omega) rfl H locs ls hP hD hS (lv_sub hl [0, 1, 2, 3, 4, 5, 6] rfl)
              · have c55 : m24_L_5.toInt = p3.toInt := z5 rfl rfl c55
                refine lv_iload hx hb dX11_rests_58 (lv_at hl 0 rfl) ?_
                rw [hQ]
                exact W.iret (v := m24_L_6) hx hb hr (fun t ht hW => ⟨⟨m24_L_6, (u45_0, u45_1), rfl, ⟨by (try dsimp only); omega, by (try dsimp only); omega, by (try dsimp only); exact fun kc kT q_fR q_fKp q_frf kl hc hb h hL => by unfold sV_res; rw [if_pos ⟨⟨by omega, by omega, by omega, by omega⟩, by omega⟩]; have J := (jv24_0 kc kT _ kl hc hb h.1 hL); have kk : sRk (sRow kc kT.1 kl p2 p0) (sRow kc kT.1 kl p2 p1) m24_L_6.toInt.toNat ↔ (sBa (sRow kc kT.1 kl p2 p0) v39.toInt.toNat ((sRow kc kT.1 kl p2 p1) v44.toInt.toNat) ∧ sBa (sRow kc kT.1 kl p2 p1) v44.toInt.toNat ((sRow kc kT.1 kl p2 p0) v39.toInt.toNat)) := (by unfold sRk; rw [show m24_L_6.toInt.toNat / 10 = v39.toInt.toNat by omega, show m24_L_6.toInt.toNat % 10 = v44.toInt.toNat by omega]); have g := F45 kc kT _ kl hc hb h.1 hL (by omega) (by omega) (by omega) (by omega) (by omega); rcases g with b | b; rotate_left; (exfalso; omega); rw [if_neg (by omega), zRtR J (kk.mpr b.2) (by omega) (by omega) (by omega)]; omega⟩, ⟨by rw [ht]; exact hP, hD⟩⟩, hS.F ht⟩) hS.2.2 dX11_rests_60
      refine lv_istore (lv' := [(6, .int 0), (5, .int 0), (0, .ref h0), (1, .int p0), (2, .int p1), (3, .int p2), (4, .int p3)]) hx hb dX11_rests_22 hl (by decide) rfl (fun ls hl => ?_)
      have zj24_m24_L_5 : (0 : Int32).toInt = 0 := by decide
      have zj24_m24_L_6 : (0 : Int32).toInt = 0 := by decide
      exact J24 _ fL fX 0 0 (by decide) (by decide) (fun kc kT q_fR kl hc hb h hL => zRt_0) (by omega) rfl H locs ls hP hD hS (lv_sub hl [0, 1, 2, 3, 4, 5, 6] rfl)
    · have c13 : p3.toInt < (-1) := z4 (by decide) rfl c13
      refine lv_iconst (v := (-1)) hx hb dX11_rests_16 (by decide) ?_
      have zr0 : ((-1) : Int32).toInt = (-1) := by decide
      rw [hQ]
      exact W.iret (v := ((-1))) hx hb hr (fun t ht hW => ⟨⟨(-1), (fL, fX), rfl, ⟨by (try dsimp only); omega, by (try dsimp only); omega, by (try dsimp only); exact fun kc kT q_fR q_fKp q_frf kl hc hb h hL => by unfold sV_res; exact (if_neg (fun y => by obtain ⟨⟨a1, a2, a3, a4⟩, a5⟩ := y; omega)).symm⟩, ⟨by rw [ht]; exact hP, hD⟩⟩, hS.F ht⟩) hS.2.2 dX11_rests_17
