set_option maxHeartbeats 4000000 in
set_option maxRecDepth 100000 in
theorem g_X11_fitsFace (l : Launch) (dC : Nat → ClassId) (dI : Nat → Nat → Nat) (cI cJ : ClassId) (h0 : Nat) (p0 : Int32) (p1 : Int32) (th : Int32) (tB : Nat) (tsz : Int32) (tat : Int32) (wr : Int32) (dp : Int32) (rC : Nat) (rV : Nat) (rD : Nat) (rK : Nat) (rT : Nat) (rS : Nat) (rU : Nat) (lw : Int32) (tx : Int32) (rL : Nat) (rX : Nat) (qR : Nat) (qB : Nat) (qP : Nat) (qnb : Int32) (qnp : Int32) (aR : Nat) (aB : Nat) (aP : Nat) (nb : Int32) (np : Int32) (aN : Nat) (rf : Nat) (ho : Int32) (br : Int32) (aK : Nat) (ac : Int32) (dw : Int64) (aE : Nat) (sr : Int32) (sf : Int32) (aA : Nat) (aH : Nat) (aI : Nat) (hi : Int32) (fBr : Nat → Int32) (fN : Nat → Int32) (sz : Nat) (n_ac : 0 ≤ ac.toInt ∧ ac.toInt ≤ 40) (n_hi : 0 ≤ hi.toInt ∧ hi.toInt ≤ 1) (n_ho : (-1) ≤ ho.toInt ∧ ho.toInt ≤ 3) (n_lw : 0 ≤ lw.toInt ∧ lw.toInt ≤ 4) (n_nb : 0 ≤ nb.toInt ∧ nb.toInt ≤ 6) (n_np : 0 ≤ np.toInt ∧ np.toInt ≤ 5) (n_p0 : 0 ≤ p0.toInt ∧ p0.toInt ≤ 5) (n_p1 : 0 ≤ p1.toInt ∧ p1.toInt ≤ 9) (n_qnb : 0 ≤ qnb.toInt ∧ qnb.toInt ≤ 6) (n_qnp : 0 ≤ qnp.toInt ∧ qnp.toInt ≤ 5) (n_tat : 0 ≤ tat.toInt ∧ tat.toInt ≤ 260) (n_tsz : 0 ≤ tsz.toInt ∧ tsz.toInt ≤ 240) (n_wr : (-1) ≤ wr.toInt ∧ wr.toInt ≤ 260) (hbn : p0.toInt < nb.toInt) (ci_fBr_zBr_nb : zBr nb fBr) (ci_fN_zNw_np : zNw np fN)  : Met l yX11_fitsFace (.code yX11_fitsFace cX11_fitsFace 4 (some .boolean) :: wA) ({ frames := 1, cells := 0, slots := 0, locals := 22 }) (zP (dC, dI) [(cI, .int), (cJ, .long)] [.ref h0, .int p0, .int p1] sz [(h0, .inr (11, [.int th, .ref tB, .int tsz, .int tat, .int wr, .int dp, .ref rC, .ref rV, .ref rD, .ref rK, .ref rT, .ref rS, .ref rU, .int lw, .int tx, .ref rL, .ref rX, .ref qR, .ref qB, .ref qP, .int qnb, .int qnp, .ref aR, .ref aB, .ref aP, .int nb, .int np, .ref aN, .ref rf, .int ho, .int br, .ref aK, .int ac, .long dw, .ref aE, .int sr, .int sf, .ref aA, .ref aH, .ref aI, .int hi])), (aB, .inl (cI, 24, .inl fBr)), (aN, .inl (cI, 97, .inl fN))]) (va_Qi (fun (r : Int32) (u : Unit) => (0 ≤ r.toInt) ∧ (r.toInt ≤ 1) ∧ (p1.toInt = (fBr (4 * p0.toInt.toNat)).toInt → r.toInt = 1) ∧ ((r.toInt = 1 ∧ zFf (cBt (fN 11) p0) (cBt (fN 12) p0) (fBr (4 * p0.toInt.toNat)) p1) ∨ (r.toInt = 0 ∧ ¬ zFf (cBt (fN 11) p0) (cBt (fN 12) p0) (fBr (4 * p0.toInt.toNat)) p1))) (fun (_ : Unit) (_ : State) => True) (va_A [] sz)) 0 0 (va_A [] sz) := by
  refine Met.ofW (cc := cX11_fitsFace) (maxL := 4) (ret := (some .boolean)) (by decide) rfl ?_
  intro p e s m args below meth c s₁ B hml hv
  obtain ⟨hargs, hsz, hP, hK, hT⟩ := hv
  have hx := B.exec
  have hb := B.bytes
  have hr := B.returns
  have hts : ∀ w ∈ wA, w.before args s = true := fun w h => atoms_spec (ws := .code yX11_fitsFace cX11_fitsFace 4 (some .boolean) :: wA) B.pre w (List.mem_cons_of_mem _ h)
  have hown : s.vm.findClass RX11 = some m.cls := findClass_of_methodNamed B.named
  have hlocks := B.notSynchronized
  subst hsz
  have hD : va_D (va_A [] s.heap.size) [] := zD0
  generalize hAe : va_A [] s.heap.size = A at hD ⊢
  have hA : ∀ q : Nat, s.heap.size ≤ q → A q := fun q h => by rw [← hAe]; exact Or.inr h
  have hl := lv_entry ([.ref h0, .int p0, .int p1]) (n := 4) (Nat.le_of_ble_eq_true rfl)
  rw [show entryFrame m args 4 = entryFrame m ([.ref h0, .int p0, .int p1] : List Value).toArray 4 by rw [hargs], lg_entry_eq]
  generalize (lg_sl ([.ref h0, .int p0, .int p1]) ++ List.replicate (4 - (lg_sl ([.ref h0, .int p0, .int p1])).length) Slot.unset).toArray = ls at hl ⊢
  have hl : lv_has ls 4 [(0, .ref h0), (1, .int p0), (2, .int p1)] := hl
  refine zstart (fun H hH => ?_)
  rw [← hH] at hP
  have hS : va_S A s.heap H [] := by rw [hH]; exact va_S.rf
  generalize ([] : List Loc) = locs at hS ⊢
  refine zgen (fun R Q hR hQ => ?_)
  refine lv_aload_n hx hb dX11_fitsFace_0 rfl (lv_at hl 0 rfl) ?_
  refine va_get (D := (dC, dI)) (ci := 11) (v := .ref aN) (C := RX11) (T := TX11) (N := 41) hx hb hts iX11 hown hK hP 0 rfl rfl 27 (by decide) (hts _ qw1154) (fun _ h9 => h9) rfl dX11_fitsFace_1 ?_
  refine lv_bipush (v := 11) hx hb dX11_fitsFace_4 (by decide) ?_
  refine va_iald hx hb hK hP 2 0 rfl rfl (by unfold vp_in; decide) dX11_fitsFace_6 ?_
  refine lv_topi (fun v6 e6 => ?_)
  refine lv_iload_n hx hb dX11_fitsFace_7 rfl (lv_at hl 1 rfl) ?_
  have hPc : va_P (dC, dI) vwCl [] H := zP0
  have hDc : va_D (fun _ => True) [] := zD0
  have hFc := zfr hS hA
  refine va_calli (va_runS (As := [.int v6, .int p0]) (rest := []) ⟨hx, hb, hml, hown, hts⟩ (g_X11_has l dC dI cI cJ v6 p0 H.size) (cwS 2 hts (zgS qw1288 qw1289 qw108 qw1290) rfl rfl rfl hd_X11_has ⟨by rw [hR]; exact Nat.le_of_ble_eq_true rfl, by rw [hR]; exact Nat.le_of_ble_eq_true rfl⟩) (zPS hPc hK hDc) rfl rfl hl.1 rfl (lv_room (Nat.le_of_ble_eq_true rfl)) dX11_fitsFace_8 ⟨Nat.zero_le _, Nat.zero_le _⟩) hS (fun q _ h => hFc q h) hFc (fun v8 u8 t H locs ht hvm hw hB hz1 hk1 hS => ?_)
  have hP := zkeep hP hk1
  obtain ⟨f8_0, f8_1, f8_2, f8_3⟩ : (0 ≤ v8.toInt) ∧ (v8.toInt ≤ 1) ∧ (v8.toInt = ((v6 >>> (p0 &&& 31)) &&& 1).toInt) ∧ (v8.toInt = (cBt v6 p0).toInt) := hw
  have F8 := f8_3
  refine lv_if_eq (tgt := 42) hx hb dX11_fitsFace_11 (by decide) (fun c11 => ?_) (fun c11 => ?_)
  · have c11 : v8.toInt = 0 := z5 rfl (by decide) c11
    refine lv_iconst (v := 1) hx hb dX11_fitsFace_42 (by decide) ?_
    refine lv_goto (tgt := 47) hx hb dX11_fitsFace_43 (by decide) ?_
    refine lv_istore_n (lv' := [(3, .int 1), (0, .ref h0), (1, .int p0), (2, .int p1)]) hx hb dX11_fitsFace_47 rfl hl (by decide) rfl (fun ls hl => ?_)
    refine lv_iload_n hx hb dX11_fitsFace_48 rfl (lv_at hl 0 rfl) ?_
    refine lv_if_eq (tgt := 84) hx hb dX11_fitsFace_49 (by decide) (fun c => absurd c (by decide)) (fun _ => ?_)
    refine lv_aload_n hx hb dX11_fitsFace_52 rfl (lv_at hl 1 rfl) ?_
    refine va_get (D := (dC, dI)) (ci := 11) (v := .ref aN) (C := RX11) (T := TX11) (N := 41) hx hb hts iX11 hown hK hP 0 rfl rfl 27 (by decide) (hts _ qw1154) (fun _ h9 => h9) rfl dX11_fitsFace_53 ?_
    refine lv_bipush (v := 12) hx hb dX11_fitsFace_56 (by decide) ?_
    refine va_iald hx hb hK hP 2 0 rfl rfl (by unfold vp_in; decide) dX11_fitsFace_58 ?_
    refine lv_topi (fun v58 e58 => ?_)
    refine lv_iload_n hx hb dX11_fitsFace_59 rfl (lv_at hl 2 rfl) ?_
    have hPc : va_P (dC, dI) vwCl [] H := zP0
    have hDc : va_D (fun _ => True) [] := zD0
    have hFc := zfr hS hA
    refine va_calli (va_runS (As := [.int v58, .int p0]) (rest := []) ⟨hx, hb, hml, hown, hts⟩ (g_X11_has l dC dI cI cJ v58 p0 H.size) (cwS 2 hts (zgS qw1288 qw1289 qw108 qw1290) rfl rfl rfl hd_X11_has ⟨by rw [hR]; exact Nat.le_of_ble_eq_true rfl, by rw [hR]; exact Nat.le_of_ble_eq_true rfl⟩) (zPS hPc hK hDc) rfl rfl hl.1 rfl (lv_room (Nat.le_of_ble_eq_true rfl)) dX11_fitsFace_60 ⟨Nat.zero_le _, Nat.zero_le _⟩) hS (fun q _ h => hFc q h) hFc (fun v60 u60 t H locs ht hvm hw hB hz1 hk1 hS => ?_)
    have hP := zkeep hP hk1
    obtain ⟨f60_0, f60_1, f60_2, f60_3⟩ : (0 ≤ v60.toInt) ∧ (v60.toInt ≤ 1) ∧ (v60.toInt = ((v58 >>> (p0 &&& 31)) &&& 1).toInt) ∧ (v60.toInt = (cBt v58 p0).toInt) := hw
    have F60 := f60_3
    refine lv_if_eq (tgt := 80) hx hb dX11_fitsFace_63 (by decide) (fun c63 => ?_) (fun c63 => ?_)
    · have c63 : v60.toInt = 0 := z5 rfl (by decide) c63
      refine lv_iconst (v := 1) hx hb dX11_fitsFace_80 (by decide) ?_
      refine lv_goto (tgt := 85) hx hb dX11_fitsFace_81 (by decide) ?_
      have zr0 : (1 : Int32).toInt = 1 := by decide
      rw [hQ]
      exact W.zret (v := 1) (ty := .boolean) hx hb hr rfl (fun t ht hW => ⟨⟨1, (), rfl, ⟨by (try dsimp only); omega, by (try dsimp only); omega, by (try dsimp only); omega, by (try dsimp only); have l8 := congrArg (fun x => (cBt x p0).toInt) (zIxN (n := 11) e6 (by decide)); have y8 : (cBt (fN 11) p0).toInt = v8.toInt := (by rw [F8]; exact l8.symm); have l60 := congrArg (fun x => (cBt x p0).toInt) (zIxN (n := 12) e58 (by decide)); have y60 : (cBt (fN 12) p0).toInt = v60.toInt := (by rw [F60]; exact l60.symm); refine Or.inl ⟨by decide, fun z => ?_, fun z => ?_⟩; (try omega); (try omega); (try (constructor <;> intro z2 <;> omega)); (try omega)⟩, trivial⟩, hS.F ht⟩) hS.2.2 dX11_fitsFace_85
    · have c63 : ¬ v60.toInt = 0 := z6 rfl (by decide) c63
      refine lv_iload_n hx hb dX11_fitsFace_66 rfl (lv_at hl 3 rfl) ?_
      refine lv_iconst (v := 2) hx hb dX11_fitsFace_67 (by decide) ?_
      refine lv_irem hx hb dX11_fitsFace_68 (by decide) ?_
      refine lv_topi (fun v68 e68 => ?_)
      have i68 : v68.toInt = p1.toInt % 2 := zrem e68 rfl (by decide) (by omega) (by omega)
      refine lv_aload_n hx hb dX11_fitsFace_69 rfl (lv_at hl 1 rfl) ?_
      refine lv_iload_n hx hb dX11_fitsFace_70 rfl (lv_at hl 2 rfl) ?_
      refine lv_iconst (v := 0) hx hb dX11_fitsFace_71 (by decide) ?_
      have hPc := hP.sub (ws' := [(h0, .inr (11, [.int th, .ref tB, .int tsz, .int tat, .int wr, .int dp, .ref rC, .ref rV, .ref rD, .ref rK, .ref rT, .ref rS, .ref rU, .int lw, .int tx, .ref rL, .ref rX, .ref qR, .ref qB, .ref qP, .int qnb, .int qnp, .ref aR, .ref aB, .ref aP, .int nb, .int np, .ref aN, .ref rf, .int ho, .int br, .ref aK, .int ac, .long dw, .ref aE, .int sr, .int sf, .ref aA, .ref aH, .ref aI, .int hi])), (aB, .inl (cI, 24, .inl fBr))]) [0, 1] rfl
      have hDc := hT.sub (ws' := [(h0, .inr (11, [.int th, .ref tB, .int tsz, .int tat, .int wr, .int dp, .ref rC, .ref rV, .ref rD, .ref rK, .ref rT, .ref rS, .ref rU, .int lw, .int tx, .ref rL, .ref rX, .ref qR, .ref qB, .ref qP, .int qnb, .int qnp, .ref aR, .ref aB, .ref aP, .int nb, .int np, .ref aN, .ref rf, .int ho, .int br, .ref aK, .int ac, .long dw, .ref aE, .int sr, .int sf, .ref aA, .ref aH, .ref aI, .int hi])), (aB, .inl (cI, 24, .inl fBr))]) [0, 1] (by decide) rfl
      have hFc := zfr hS hA
      refine va_calli (va_runV (As := [.int p0, .int 0]) (rest := [.int v68]) ⟨hx, hb, hml, hown, hts⟩ (g_X11_of_0 l dC dI cI cJ h0 p0 th tB tsz tat wr dp rC rV rD rK rT rS rU lw tx rL rX qR qB qP qnb qnp aR aB aP nb np aN rf ho br aK ac dw aE sr sf aA aH aI hi fBr H.size n_ac n_hi n_ho n_lw n_nb n_np n_p0 n_qnb n_qnp n_tat n_tsz n_wr (hbn) ci_fBr_zBr_nb) (cwV 2 hts (zgV qw1386 qw1388 qw54 qw108 qw1389) rfl rfl rfl hd_X11_of ⟨by rw [hR]; exact Nat.le_of_ble_eq_true rfl, by rw [hR]; exact Nat.le_of_ble_eq_true rfl⟩) (zPV hPc hK hDc (va_recv hK hP (ci := 11) (q0 := 0) rfl rfl)) rfl rfl hl.1 rfl (lv_room (Nat.le_of_ble_eq_true rfl)) dX11_fitsFace_72 ⟨Nat.zero_le _, Nat.zero_le _⟩) hS (fun q _ h => hFc q h) hFc (fun v72 u72 t H locs ht hvm hw hB hz1 hk1 hS => ?_)
      have hP := zkeep hP hk1
      obtain ⟨f72_0, f72_1, f72_2⟩ : (0 ≤ v72.toInt) ∧ (v72.toInt ≤ 9) ∧ (v72.toInt = (fBr (4 * p0.toInt.toNat)).toInt) := hw
      refine lv_iconst (v := 2) hx hb dX11_fitsFace_75 (by decide) ?_
      refine lv_irem hx hb dX11_fitsFace_76 (by decide) ?_
      refine lv_topi (fun v76 e76 => ?_)
      have i76 : v76.toInt = v72.toInt % 2 := zrem e76 rfl (by decide) (by omega) (by omega)
      refine lv_icmp_ne (tgt := 84) hx hb dX11_fitsFace_77 (by decide) (fun c77 => ?_) (fun c77 => ?_)
      · have c77 : ¬ v68.toInt = v76.toInt := z6 rfl rfl c77
        refine lv_iconst (v := 0) hx hb dX11_fitsFace_84 (by decide) ?_
        have zr0 : (0 : Int32).toInt = 0 := by decide
        rw [hQ]
        exact W.zret (v := 0) (ty := .boolean) hx hb hr rfl (fun t ht hW => ⟨⟨0, (), rfl, ⟨by (try dsimp only); omega, by (try dsimp only); omega, by (try dsimp only); omega, by (try dsimp only); have l8 := congrArg (fun x => (cBt x p0).toInt) (zIxN (n := 11) e6 (by decide)); have y8 : (cBt (fN 11) p0).toInt = v8.toInt := (by rw [F8]; exact l8.symm); have l60 := congrArg (fun x => (cBt x p0).toInt) (zIxN (n := 12) e58 (by decide)); have y60 : (cBt (fN 12) p0).toInt = v60.toInt := (by rw [F60]; exact l60.symm); have t68 : (p1 - p1 / 2 * 2).toInt = v68.toInt := (by rw [e68]); have t76 : (fBr (4 * p0.toInt.toNat) - fBr (4 * p0.toInt.toNat) / 2 * 2).toInt = v76.toInt := (by rw [e76, show v72 = fBr (4 * p0.toInt.toNat) from Int32.toInt_inj.mp f72_2]); refine Or.inr ⟨by decide, fun z => ?_⟩; have z1 := z.1; have z2 := z.2; first | (have z3 := z1 (by omega); omega) | (have z3 := z2 (by omega); omega)⟩, trivial⟩, hS.F ht⟩) hS.2.2 dX11_fitsFace_85
      · have c77 : v68.toInt = v76.toInt := z5 rfl rfl c77
        refine lv_iconst (v := 1) hx hb dX11_fitsFace_80 (by decide) ?_
        refine lv_goto (tgt := 85) hx hb dX11_fitsFace_81 (by decide) ?_
        have zr0 : (1 : Int32).toInt = 1 := by decide
        rw [hQ]
        exact W.zret (v := 1) (ty := .boolean) hx hb hr rfl (fun t ht hW => ⟨⟨1, (), rfl, ⟨by (try dsimp only); omega, by (try dsimp only); omega, by (try dsimp only); omega, by (try dsimp only); have l8 := congrArg (fun x => (cBt x p0).toInt) (zIxN (n := 11) e6 (by decide)); have y8 : (cBt (fN 11) p0).toInt = v8.toInt := (by rw [F8]; exact l8.symm); have l60 := congrArg (fun x => (cBt x p0).toInt) (zIxN (n := 12) e58 (by decide)); have y60 : (cBt (fN 12) p0).toInt = v60.toInt := (by rw [F60]; exact l60.symm); have t68 : (p1 - p1 / 2 * 2).toInt = v68.toInt := (by rw [e68]); have t76 : (fBr (4 * p0.toInt.toNat) - fBr (4 * p0.toInt.toNat) / 2 * 2).toInt = v76.toInt := (by rw [e76, show v72 = fBr (4 * p0.toInt.toNat) from Int32.toInt_inj.mp f72_2]); refine Or.inl ⟨by decide, fun z => ?_, fun z => ?_⟩; (try omega); (try omega); (try (constructor <;> intro z2 <;> omega)); (try omega)⟩, trivial⟩, hS.F ht⟩) hS.2.2 dX11_fitsFace_85
  · have c11 : ¬ v8.toInt = 0 := z6 rfl (by decide) c11
    refine lv_iload_n hx hb dX11_fitsFace_14 rfl (lv_at hl 2 rfl) ?_
    refine lv_iconst (v := 5) hx hb dX11_fitsFace_15 (by decide) ?_
    refine lv_icmp_lt (tgt := 23) hx hb dX11_fitsFace_16 (by decide) (fun c16 => ?_) (fun c16 => ?_)
    · have c16 : p1.toInt < 5 := z1 rfl (by decide) c16
      refine lv_iconst (v := 0) hx hb dX11_fitsFace_23 (by decide) ?_
      refine lv_aload_n hx hb dX11_fitsFace_24 rfl (lv_at hl 0 rfl) ?_
      refine lv_iload_n hx hb dX11_fitsFace_25 rfl (lv_at hl 1 rfl) ?_
      refine lv_iconst (v := 0) hx hb dX11_fitsFace_26 (by decide) ?_
      have hPc := hP.sub (ws' := [(h0, .inr (11, [.int th, .ref tB, .int tsz, .int tat, .int wr, .int dp, .ref rC, .ref rV, .ref rD, .ref rK, .ref rT, .ref rS, .ref rU, .int lw, .int tx, .ref rL, .ref rX, .ref qR, .ref qB, .ref qP, .int qnb, .int qnp, .ref aR, .ref aB, .ref aP, .int nb, .int np, .ref aN, .ref rf, .int ho, .int br, .ref aK, .int ac, .long dw, .ref aE, .int sr, .int sf, .ref aA, .ref aH, .ref aI, .int hi])), (aB, .inl (cI, 24, .inl fBr))]) [0, 1] rfl
      have hDc := hT.sub (ws' := [(h0, .inr (11, [.int th, .ref tB, .int tsz, .int tat, .int wr, .int dp, .ref rC, .ref rV, .ref rD, .ref rK, .ref rT, .ref rS, .ref rU, .int lw, .int tx, .ref rL, .ref rX, .ref qR, .ref qB, .ref qP, .int qnb, .int qnp, .ref aR, .ref aB, .ref aP, .int nb, .int np, .ref aN, .ref rf, .int ho, .int br, .ref aK, .int ac, .long dw, .ref aE, .int sr, .int sf, .ref aA, .ref aH, .ref aI, .int hi])), (aB, .inl (cI, 24, .inl fBr))]) [0, 1] (by decide) rfl
      have hFc := zfr hS hA
      refine va_calli (va_runV (As := [.int p0, .int 0]) (rest := [.int 0]) ⟨hx, hb, hml, hown, hts⟩ (g_X11_of_0 l dC dI cI cJ h0 p0 th tB tsz tat wr dp rC rV rD rK rT rS rU lw tx rL rX qR qB qP qnb qnp aR aB aP nb np aN rf ho br aK ac dw aE sr sf aA aH aI hi fBr H.size n_ac n_hi n_ho n_lw n_nb n_np n_p0 n_qnb n_qnp n_tat n_tsz n_wr (hbn) ci_fBr_zBr_nb) (cwV 2 hts (zgV qw1386 qw1388 qw54 qw108 qw1389) rfl rfl rfl hd_X11_of ⟨by rw [hR]; exact Nat.le_of_ble_eq_true rfl, by rw [hR]; exact Nat.le_of_ble_eq_true rfl⟩) (zPV hPc hK hDc (va_recv hK hP (ci := 11) (q0 := 0) rfl rfl)) rfl rfl hl.1 rfl (lv_room (Nat.le_of_ble_eq_true rfl)) dX11_fitsFace_27 ⟨Nat.zero_le _, Nat.zero_le _⟩) hS (fun q _ h => hFc q h) hFc (fun v27 u27 t H locs ht hvm hw hB hz1 hk1 hS => ?_)
      have hP := zkeep hP hk1
      obtain ⟨f27_0, f27_1, f27_2⟩ : (0 ≤ v27.toInt) ∧ (v27.toInt ≤ 9) ∧ (v27.toInt = (fBr (4 * p0.toInt.toNat)).toInt) := hw
      refine lv_iconst (v := 5) hx hb dX11_fitsFace_30 (by decide) ?_
      refine lv_icmp_lt (tgt := 38) hx hb dX11_fitsFace_31 (by decide) (fun c31 => ?_) (fun c31 => ?_)
      · have c31 : v27.toInt < 5 := z1 rfl (by decide) c31
        refine lv_iconst (v := 0) hx hb dX11_fitsFace_38 (by decide) ?_
        refine lv_icmp_ne (tgt := 46) hx hb dX11_fitsFace_39 (by decide) (fun c => absurd (by decide) c) (fun _ => ?_)
        refine lv_iconst (v := 1) hx hb dX11_fitsFace_42 (by decide) ?_
        refine lv_goto (tgt := 47) hx hb dX11_fitsFace_43 (by decide) ?_
        refine lv_istore_n (lv' := [(3, .int 1), (0, .ref h0), (1, .int p0), (2, .int p1)]) hx hb dX11_fitsFace_47 rfl hl (by decide) rfl (fun ls hl => ?_)
        refine lv_iload_n hx hb dX11_fitsFace_48 rfl (lv_at hl 0 rfl) ?_
        refine lv_if_eq (tgt := 84) hx hb dX11_fitsFace_49 (by decide) (fun c => absurd c (by decide)) (fun _ => ?_)
        refine lv_aload_n hx hb dX11_fitsFace_52 rfl (lv_at hl 1 rfl) ?_
        refine va_get (D := (dC, dI)) (ci := 11) (v := .ref aN) (C := RX11) (T := TX11) (N := 41) hx hb hts iX11 hown hK hP 0 rfl rfl 27 (by decide) (hts _ qw1154) (fun _ h9 => h9) rfl dX11_fitsFace_53 ?_
        refine lv_bipush (v := 12) hx hb dX11_fitsFace_56 (by decide) ?_
        refine va_iald hx hb hK hP 2 0 rfl rfl (by unfold vp_in; decide) dX11_fitsFace_58 ?_
        refine lv_topi (fun v58 e58 => ?_)
        refine lv_iload_n hx hb dX11_fitsFace_59 rfl (lv_at hl 2 rfl) ?_
        have hPc : va_P (dC, dI) vwCl [] H := zP0
        have hDc : va_D (fun _ => True) [] := zD0
        have hFc := zfr hS hA
        refine va_calli (va_runS (As := [.int v58, .int p0]) (rest := []) ⟨hx, hb, hml, hown, hts⟩ (g_X11_has l dC dI cI cJ v58 p0 H.size) (cwS 2 hts (zgS qw1288 qw1289 qw108 qw1290) rfl rfl rfl hd_X11_has ⟨by rw [hR]; exact Nat.le_of_ble_eq_true rfl, by rw [hR]; exact Nat.le_of_ble_eq_true rfl⟩) (zPS hPc hK hDc) rfl rfl hl.1 rfl (lv_room (Nat.le_of_ble_eq_true rfl)) dX11_fitsFace_60 ⟨Nat.zero_le _, Nat.zero_le _⟩) hS (fun q _ h => hFc q h) hFc (fun v60 u60 t H locs ht hvm hw hB hz1 hk1 hS => ?_)
        have hP := zkeep hP hk1
        obtain ⟨f60_0, f60_1, f60_2, f60_3⟩ : (0 ≤ v60.toInt) ∧ (v60.toInt ≤ 1) ∧ (v60.toInt = ((v58 >>> (p0 &&& 31)) &&& 1).toInt) ∧ (v60.toInt = (cBt v58 p0).toInt) := hw
        have F60 := f60_3
        refine lv_if_eq (tgt := 80) hx hb dX11_fitsFace_63 (by decide) (fun c63 => ?_) (fun c63 => ?_)
        · have c63 : v60.toInt = 0 := z5 rfl (by decide) c63
          refine lv_iconst (v := 1) hx hb dX11_fitsFace_80 (by decide) ?_
          refine lv_goto (tgt := 85) hx hb dX11_fitsFace_81 (by decide) ?_
          have zr0 : (1 : Int32).toInt = 1 := by decide
          rw [hQ]
          exact W.zret (v := 1) (ty := .boolean) hx hb hr rfl (fun t ht hW => ⟨⟨1, (), rfl, ⟨by (try dsimp only); omega, by (try dsimp only); omega, by (try dsimp only); omega, by (try dsimp only); have l8 := congrArg (fun x => (cBt x p0).toInt) (zIxN (n := 11) e6 (by decide)); have y8 : (cBt (fN 11) p0).toInt = v8.toInt := (by rw [F8]; exact l8.symm); have l60 := congrArg (fun x => (cBt x p0).toInt) (zIxN (n := 12) e58 (by decide)); have y60 : (cBt (fN 12) p0).toInt = v60.toInt := (by rw [F60]; exact l60.symm); refine Or.inl ⟨by decide, fun z => ?_, fun z => ?_⟩; (try omega); (try omega); (try (constructor <;> intro z2 <;> omega)); (try omega)⟩, trivial⟩, hS.F ht⟩) hS.2.2 dX11_fitsFace_85
        · have c63 : ¬ v60.toInt = 0 := z6 rfl (by decide) c63
          refine lv_iload_n hx hb dX11_fitsFace_66 rfl (lv_at hl 3 rfl) ?_
          refine lv_iconst (v := 2) hx hb dX11_fitsFace_67 (by decide) ?_
          refine lv_irem hx hb dX11_fitsFace_68 (by decide) ?_
          refine lv_topi (fun v68 e68 => ?_)
          have i68 : v68.toInt = p1.toInt % 2 := zrem e68 rfl (by decide) (by omega) (by omega)
          refine lv_aload_n hx hb dX11_fitsFace_69 rfl (lv_at hl 1 rfl) ?_
          refine lv_iload_n hx hb dX11_fitsFace_70 rfl (lv_at hl 2 rfl) ?_
          refine lv_iconst (v := 0) hx hb dX11_fitsFace_71 (by decide) ?_
          have hPc := hP.sub (ws' := [(h0, .inr (11, [.int th, .ref tB, .int tsz, .int tat, .int wr, .int dp, .ref rC, .ref rV, .ref rD, .ref rK, .ref rT, .ref rS, .ref rU, .int lw, .int tx, .ref rL, .ref rX, .ref qR, .ref qB, .ref qP, .int qnb, .int qnp, .ref aR, .ref aB, .ref aP, .int nb, .int np, .ref aN, .ref rf, .int ho, .int br, .ref aK, .int ac, .long dw, .ref aE, .int sr, .int sf, .ref aA, .ref aH, .ref aI, .int hi])), (aB, .inl (cI, 24, .inl fBr))]) [0, 1] rfl
          have hDc := hT.sub (ws' := [(h0, .inr (11, [.int th, .ref tB, .int tsz, .int tat, .int wr, .int dp, .ref rC, .ref rV, .ref rD, .ref rK, .ref rT, .ref rS, .ref rU, .int lw, .int tx, .ref rL, .ref rX, .ref qR, .ref qB, .ref qP, .int qnb, .int qnp, .ref aR, .ref aB, .ref aP, .int nb, .int np, .ref aN, .ref rf, .int ho, .int br, .ref aK, .int ac, .long dw, .ref aE, .int sr, .int sf, .ref aA, .ref aH, .ref aI, .int hi])), (aB, .inl (cI, 24, .inl fBr))]) [0, 1] (by decide) rfl
          have hFc := zfr hS hA
          refine va_calli (va_runV (As := [.int p0, .int 0]) (rest := [.int v68]) ⟨hx, hb, hml, hown, hts⟩ (g_X11_of_0 l dC dI cI cJ h0 p0 th tB tsz tat wr dp rC rV rD rK rT rS rU lw tx rL rX qR qB qP qnb qnp aR aB aP nb np aN rf ho br aK ac dw aE sr sf aA aH aI hi fBr H.size n_ac n_hi n_ho n_lw n_nb n_np n_p0 n_qnb n_qnp n_tat n_tsz n_wr (hbn) ci_fBr_zBr_nb) (cwV 2 hts (zgV qw1386 qw1388 qw54 qw108 qw1389) rfl rfl rfl hd_X11_of ⟨by rw [hR]; exact Nat.le_of_ble_eq_true rfl, by rw [hR]; exact Nat.le_of_ble_eq_true rfl⟩) (zPV hPc hK hDc (va_recv hK hP (ci := 11) (q0 := 0) rfl rfl)) rfl rfl hl.1 rfl (lv_room (Nat.le_of_ble_eq_true rfl)) dX11_fitsFace_72 ⟨Nat.zero_le _, Nat.zero_le _⟩) hS (fun q _ h => hFc q h) hFc (fun v72 u72 t H locs ht hvm hw hB hz1 hk1 hS => ?_)
          have hP := zkeep hP hk1
          obtain ⟨f72_0, f72_1, f72_2⟩ : (0 ≤ v72.toInt) ∧ (v72.toInt ≤ 9) ∧ (v72.toInt = (fBr (4 * p0.toInt.toNat)).toInt) := hw
          refine lv_iconst (v := 2) hx hb dX11_fitsFace_75 (by decide) ?_
          refine lv_irem hx hb dX11_fitsFace_76 (by decide) ?_
          refine lv_topi (fun v76 e76 => ?_)
          have i76 : v76.toInt = v72.toInt % 2 := zrem e76 rfl (by decide) (by omega) (by omega)
          refine lv_icmp_ne (tgt := 84) hx hb dX11_fitsFace_77 (by decide) (fun c77 => ?_) (fun c77 => ?_)
          · have c77 : ¬ v68.toInt = v76.toInt := z6 rfl rfl c77
            refine lv_iconst (v := 0) hx hb dX11_fitsFace_84 (by decide) ?_
            have zr0 : (0 : Int32).toInt = 0 := by decide
            rw [hQ]
            exact W.zret (v := 0) (ty := .boolean) hx hb hr rfl (fun t ht hW => ⟨⟨0, (), rfl, ⟨by (try dsimp only); omega, by (try dsimp only); omega, by (try dsimp only); omega, by (try dsimp only); have l8 := congrArg (fun x => (cBt x p0).toInt) (zIxN (n := 11) e6 (by decide)); have y8 : (cBt (fN 11) p0).toInt = v8.toInt := (by rw [F8]; exact l8.symm); have l60 := congrArg (fun x => (cBt x p0).toInt) (zIxN (n := 12) e58 (by decide)); have y60 : (cBt (fN 12) p0).toInt = v60.toInt := (by rw [F60]; exact l60.symm); have t68 : (p1 - p1 / 2 * 2).toInt = v68.toInt := (by rw [e68]); have t76 : (fBr (4 * p0.toInt.toNat) - fBr (4 * p0.toInt.toNat) / 2 * 2).toInt = v76.toInt := (by rw [e76, show v72 = fBr (4 * p0.toInt.toNat) from Int32.toInt_inj.mp f72_2]); refine Or.inr ⟨by decide, fun z => ?_⟩; have z1 := z.1; have z2 := z.2; first | (have z3 := z1 (by omega); omega) | (have z3 := z2 (by omega); omega)⟩, trivial⟩, hS.F ht⟩) hS.2.2 dX11_fitsFace_85
          · have c77 : v68.toInt = v76.toInt := z5 rfl rfl c77
            refine lv_iconst (v := 1) hx hb dX11_fitsFace_80 (by decide) ?_
            refine lv_goto (tgt := 85) hx hb dX11_fitsFace_81 (by decide) ?_
            have zr0 : (1 : Int32).toInt = 1 := by decide
            rw [hQ]
            exact W.zret (v := 1) (ty := .boolean) hx hb hr rfl (fun t ht hW => ⟨⟨1, (), rfl, ⟨by (try dsimp only); omega, by (try dsimp only); omega, by (try dsimp only); omega, by (try dsimp only); have l8 := congrArg (fun x => (cBt x p0).toInt) (zIxN (n := 11) e6 (by decide)); have y8 : (cBt (fN 11) p0).toInt = v8.toInt := (by rw [F8]; exact l8.symm); have l60 := congrArg (fun x => (cBt x p0).toInt) (zIxN (n := 12) e58 (by decide)); have y60 : (cBt (fN 12) p0).toInt = v60.toInt := (by rw [F60]; exact l60.symm); have t68 : (p1 - p1 / 2 * 2).toInt = v68.toInt := (by rw [e68]); have t76 : (fBr (4 * p0.toInt.toNat) - fBr (4 * p0.toInt.toNat) / 2 * 2).toInt = v76.toInt := (by rw [e76, show v72 = fBr (4 * p0.toInt.toNat) from Int32.toInt_inj.mp f72_2]); refine Or.inl ⟨by decide, fun z => ?_, fun z => ?_⟩; (try omega); (try omega); (try (constructor <;> intro z2 <;> omega)); (try omega)⟩, trivial⟩, hS.F ht⟩) hS.2.2 dX11_fitsFace_85
      · have c31 : 5 ≤ v27.toInt := z2 rfl (by decide) c31
        refine lv_iconst (v := 1) hx hb dX11_fitsFace_34 (by decide) ?_
        refine lv_goto (tgt := 39) hx hb dX11_fitsFace_35 (by decide) ?_
        refine lv_icmp_ne (tgt := 46) hx hb dX11_fitsFace_39 (by decide) (fun _ => ?_) (fun c => absurd c (by decide))
        refine lv_iconst (v := 0) hx hb dX11_fitsFace_46 (by decide) ?_
        refine lv_istore_n (lv' := [(3, .int 0), (0, .ref h0), (1, .int p0), (2, .int p1)]) hx hb dX11_fitsFace_47 rfl hl (by decide) rfl (fun ls hl => ?_)
        refine lv_iload_n hx hb dX11_fitsFace_48 rfl (lv_at hl 0 rfl) ?_
        refine lv_if_eq (tgt := 84) hx hb dX11_fitsFace_49 (by decide) (fun _ => ?_) (fun c => absurd (by decide) c)
        refine lv_iconst (v := 0) hx hb dX11_fitsFace_84 (by decide) ?_
        have zr0 : (0 : Int32).toInt = 0 := by decide
        rw [hQ]
        exact W.zret (v := 0) (ty := .boolean) hx hb hr rfl (fun t ht hW => ⟨⟨0, (), rfl, ⟨by (try dsimp only); omega, by (try dsimp only); omega, by (try dsimp only); omega, by (try dsimp only); have l8 := congrArg (fun x => (cBt x p0).toInt) (zIxN (n := 11) e6 (by decide)); have y8 : (cBt (fN 11) p0).toInt = v8.toInt := (by rw [F8]; exact l8.symm); refine Or.inr ⟨by decide, fun z => ?_⟩; have z1 := z.1; have z2 := z.2; first | (have z3 := z1 (by omega); omega) | (have z3 := z2 (by omega); omega)⟩, trivial⟩, hS.F ht⟩) hS.2.2 dX11_fitsFace_85
    · have c16 : 5 ≤ p1.toInt := z2 rfl (by decide) c16
      refine lv_iconst (v := 1) hx hb dX11_fitsFace_19 (by decide) ?_
      refine lv_goto (tgt := 24) hx hb dX11_fitsFace_20 (by decide) ?_
      refine lv_aload_n hx hb dX11_fitsFace_24 rfl (lv_at hl 0 rfl) ?_
      refine lv_iload_n hx hb dX11_fitsFace_25 rfl (lv_at hl 1 rfl) ?_
      refine lv_iconst (v := 0) hx hb dX11_fitsFace_26 (by decide) ?_
      have hPc := hP.sub (ws' := [(h0, .inr (11, [.int th, .ref tB, .int tsz, .int tat, .int wr, .int dp, .ref rC, .ref rV, .ref rD, .ref rK, .ref rT, .ref rS, .ref rU, .int lw, .int tx, .ref rL, .ref rX, .ref qR, .ref qB, .ref qP, .int qnb, .int qnp, .ref aR, .ref aB, .ref aP, .int nb, .int np, .ref aN, .ref rf, .int ho, .int br, .ref aK, .int ac, .long dw, .ref aE, .int sr, .int sf, .ref aA, .ref aH, .ref aI, .int hi])), (aB, .inl (cI, 24, .inl fBr))]) [0, 1] rfl
      have hDc := hT.sub (ws' := [(h0, .inr (11, [.int th, .ref tB, .int tsz, .int tat, .int wr, .int dp, .ref rC, .ref rV, .ref rD, .ref rK, .ref rT, .ref rS, .ref rU, .int lw, .int tx, .ref rL, .ref rX, .ref qR, .ref qB, .ref qP, .int qnb, .int qnp, .ref aR, .ref aB, .ref aP, .int nb, .int np, .ref aN, .ref rf, .int ho, .int br, .ref aK, .int ac, .long dw, .ref aE, .int sr, .int sf, .ref aA, .ref aH, .ref aI, .int hi])), (aB, .inl (cI, 24, .inl fBr))]) [0, 1] (by decide) rfl
      have hFc := zfr hS hA
      refine va_calli (va_runV (As := [.int p0, .int 0]) (rest := [.int 1]) ⟨hx, hb, hml, hown, hts⟩ (g_X11_of_0 l dC dI cI cJ h0 p0 th tB tsz tat wr dp rC rV rD rK rT rS rU lw tx rL rX qR qB qP qnb qnp aR aB aP nb np aN rf ho br aK ac dw aE sr sf aA aH aI hi fBr H.size n_ac n_hi n_ho n_lw n_nb n_np n_p0 n_qnb n_qnp n_tat n_tsz n_wr (hbn) ci_fBr_zBr_nb) (cwV 2 hts (zgV qw1386 qw1388 qw54 qw108 qw1389) rfl rfl rfl hd_X11_of ⟨by rw [hR]; exact Nat.le_of_ble_eq_true rfl, by rw [hR]; exact Nat.le_of_ble_eq_true rfl⟩) (zPV hPc hK hDc (va_recv hK hP (ci := 11) (q0 := 0) rfl rfl)) rfl rfl hl.1 rfl (lv_room (Nat.le_of_ble_eq_true rfl)) dX11_fitsFace_27 ⟨Nat.zero_le _, Nat.zero_le _⟩) hS (fun q _ h => hFc q h) hFc (fun v27 u27 t H locs ht hvm hw hB hz1 hk1 hS => ?_)
      have hP := zkeep hP hk1
      obtain ⟨f27_0, f27_1, f27_2⟩ : (0 ≤ v27.toInt) ∧ (v27.toInt ≤ 9) ∧ (v27.toInt = (fBr (4 * p0.toInt.toNat)).toInt) := hw
      refine lv_iconst (v := 5) hx hb dX11_fitsFace_30 (by decide) ?_
      refine lv_icmp_lt (tgt := 38) hx hb dX11_fitsFace_31 (by decide) (fun c31 => ?_) (fun c31 => ?_)
      · have c31 : v27.toInt < 5 := z1 rfl (by decide) c31
        refine lv_iconst (v := 0) hx hb dX11_fitsFace_38 (by decide) ?_
        refine lv_icmp_ne (tgt := 46) hx hb dX11_fitsFace_39 (by decide) (fun _ => ?_) (fun c => absurd c (by decide))
        refine lv_iconst (v := 0) hx hb dX11_fitsFace_46 (by decide) ?_
        refine lv_istore_n (lv' := [(3, .int 0), (0, .ref h0), (1, .int p0), (2, .int p1)]) hx hb dX11_fitsFace_47 rfl hl (by decide) rfl (fun ls hl => ?_)
        refine lv_iload_n hx hb dX11_fitsFace_48 rfl (lv_at hl 0 rfl) ?_
        refine lv_if_eq (tgt := 84) hx hb dX11_fitsFace_49 (by decide) (fun _ => ?_) (fun c => absurd (by decide) c)
        refine lv_iconst (v := 0) hx hb dX11_fitsFace_84 (by decide) ?_
        have zr0 : (0 : Int32).toInt = 0 := by decide
        rw [hQ]
        exact W.zret (v := 0) (ty := .boolean) hx hb hr rfl (fun t ht hW => ⟨⟨0, (), rfl, ⟨by (try dsimp only); omega, by (try dsimp only); omega, by (try dsimp only); omega, by (try dsimp only); have l8 := congrArg (fun x => (cBt x p0).toInt) (zIxN (n := 11) e6 (by decide)); have y8 : (cBt (fN 11) p0).toInt = v8.toInt := (by rw [F8]; exact l8.symm); refine Or.inr ⟨by decide, fun z => ?_⟩; have z1 := z.1; have z2 := z.2; first | (have z3 := z1 (by omega); omega) | (have z3 := z2 (by omega); omega)⟩, trivial⟩, hS.F ht⟩) hS.2.2 dX11_fitsFace_85
      · have c31 : 5 ≤ v27.toInt := z2 rfl (by decide) c31
        refine lv_iconst (v := 1) hx hb dX11_fitsFace_34 (by decide) ?_
        refine lv_goto (tgt := 39) hx hb dX11_fitsFace_35 (by decide) ?_
        refine lv_icmp_ne (tgt := 46) hx hb dX11_fitsFace_39 (by decide) (fun c => absurd (by decide) c) (fun _ => ?_)
        refine lv_iconst (v := 1) hx hb dX11_fitsFace_42 (by decide) ?_
        refine lv_goto (tgt := 47) hx hb dX11_fitsFace_43 (by decide) ?_
        refine lv_istore_n (lv' := [(3, .int 1), (0, .ref h0), (1, .int p0), (2, .int p1)]) hx hb dX11_fitsFace_47 rfl hl (by decide) rfl (fun ls hl => ?_)
        refine lv_iload_n hx hb dX11_fitsFace_48 rfl (lv_at hl 0 rfl) ?_
        refine lv_if_eq (tgt := 84) hx hb dX11_fitsFace_49 (by decide) (fun c => absurd c (by decide)) (fun _ => ?_)
        refine lv_aload_n hx hb dX11_fitsFace_52 rfl (lv_at hl 1 rfl) ?_
        refine va_get (D := (dC, dI)) (ci := 11) (v := .ref aN) (C := RX11) (T := TX11) (N := 41) hx hb hts iX11 hown hK hP 0 rfl rfl 27 (by decide) (hts _ qw1154) (fun _ h9 => h9) rfl dX11_fitsFace_53 ?_
        refine lv_bipush (v := 12) hx hb dX11_fitsFace_56 (by decide) ?_
        refine va_iald hx hb hK hP 2 0 rfl rfl (by unfold vp_in; decide) dX11_fitsFace_58 ?_
        refine lv_topi (fun v58 e58 => ?_)
        refine lv_iload_n hx hb dX11_fitsFace_59 rfl (lv_at hl 2 rfl) ?_
        have hPc : va_P (dC, dI) vwCl [] H := zP0
        have hDc : va_D (fun _ => True) [] := zD0
        have hFc := zfr hS hA
        refine va_calli (va_runS (As := [.int v58, .int p0]) (rest := []) ⟨hx, hb, hml, hown, hts⟩ (g_X11_has l dC dI cI cJ v58 p0 H.size) (cwS 2 hts (zgS qw1288 qw1289 qw108 qw1290) rfl rfl rfl hd_X11_has ⟨by rw [hR]; exact Nat.le_of_ble_eq_true rfl, by rw [hR]; exact Nat.le_of_ble_eq_true rfl⟩) (zPS hPc hK hDc) rfl rfl hl.1 rfl (lv_room (Nat.le_of_ble_eq_true rfl)) dX11_fitsFace_60 ⟨Nat.zero_le _, Nat.zero_le _⟩) hS (fun q _ h => hFc q h) hFc (fun v60 u60 t H locs ht hvm hw hB hz1 hk1 hS => ?_)
        have hP := zkeep hP hk1
        obtain ⟨f60_0, f60_1, f60_2, f60_3⟩ : (0 ≤ v60.toInt) ∧ (v60.toInt ≤ 1) ∧ (v60.toInt = ((v58 >>> (p0 &&& 31)) &&& 1).toInt) ∧ (v60.toInt = (cBt v58 p0).toInt) := hw
        have F60 := f60_3
        refine lv_if_eq (tgt := 80) hx hb dX11_fitsFace_63 (by decide) (fun c63 => ?_) (fun c63 => ?_)
        · have c63 : v60.toInt = 0 := z5 rfl (by decide) c63
          refine lv_iconst (v := 1) hx hb dX11_fitsFace_80 (by decide) ?_
          refine lv_goto (tgt := 85) hx hb dX11_fitsFace_81 (by decide) ?_
          have zr0 : (1 : Int32).toInt = 1 := by decide
          rw [hQ]
          exact W.zret (v := 1) (ty := .boolean) hx hb hr rfl (fun t ht hW => ⟨⟨1, (), rfl, ⟨by (try dsimp only); omega, by (try dsimp only); omega, by (try dsimp only); omega, by (try dsimp only); have l8 := congrArg (fun x => (cBt x p0).toInt) (zIxN (n := 11) e6 (by decide)); have y8 : (cBt (fN 11) p0).toInt = v8.toInt := (by rw [F8]; exact l8.symm); have l60 := congrArg (fun x => (cBt x p0).toInt) (zIxN (n := 12) e58 (by decide)); have y60 : (cBt (fN 12) p0).toInt = v60.toInt := (by rw [F60]; exact l60.symm); refine Or.inl ⟨by decide, fun z => ?_, fun z => ?_⟩; (try omega); (try omega); (try (constructor <;> intro z2 <;> omega)); (try omega)⟩, trivial⟩, hS.F ht⟩) hS.2.2 dX11_fitsFace_85
        · have c63 : ¬ v60.toInt = 0 := z6 rfl (by decide) c63
          refine lv_iload_n hx hb dX11_fitsFace_66 rfl (lv_at hl 3 rfl) ?_
          refine lv_iconst (v := 2) hx hb dX11_fitsFace_67 (by decide) ?_
          refine lv_irem hx hb dX11_fitsFace_68 (by decide) ?_
          refine lv_topi (fun v68 e68 => ?_)
          have i68 : v68.toInt = p1.toInt % 2 := zrem e68 rfl (by decide) (by omega) (by omega)
          refine lv_aload_n hx hb dX11_fitsFace_69 rfl (lv_at hl 1 rfl) ?_
          refine lv_iload_n hx hb dX11_fitsFace_70 rfl (lv_at hl 2 rfl) ?_
          refine lv_iconst (v := 0) hx hb dX11_fitsFace_71 (by decide) ?_
          have hPc := hP.sub (ws' := [(h0, .inr (11, [.int th, .ref tB, .int tsz, .int tat, .int wr, .int dp, .ref rC, .ref rV, .ref rD, .ref rK, .ref rT, .ref rS, .ref rU, .int lw, .int tx, .ref rL, .ref rX, .ref qR, .ref qB, .ref qP, .int qnb, .int qnp, .ref aR, .ref aB, .ref aP, .int nb, .int np, .ref aN, .ref rf, .int ho, .int br, .ref aK, .int ac, .long dw, .ref aE, .int sr, .int sf, .ref aA, .ref aH, .ref aI, .int hi])), (aB, .inl (cI, 24, .inl fBr))]) [0, 1] rfl
          have hDc := hT.sub (ws' := [(h0, .inr (11, [.int th, .ref tB, .int tsz, .int tat, .int wr, .int dp, .ref rC, .ref rV, .ref rD, .ref rK, .ref rT, .ref rS, .ref rU, .int lw, .int tx, .ref rL, .ref rX, .ref qR, .ref qB, .ref qP, .int qnb, .int qnp, .ref aR, .ref aB, .ref aP, .int nb, .int np, .ref aN, .ref rf, .int ho, .int br, .ref aK, .int ac, .long dw, .ref aE, .int sr, .int sf, .ref aA, .ref aH, .ref aI, .int hi])), (aB, .inl (cI, 24, .inl fBr))]) [0, 1] (by decide) rfl
          have hFc := zfr hS hA
          refine va_calli (va_runV (As := [.int p0, .int 0]) (rest := [.int v68]) ⟨hx, hb, hml, hown, hts⟩ (g_X11_of_0 l dC dI cI cJ h0 p0 th tB tsz tat wr dp rC rV rD rK rT rS rU lw tx rL rX qR qB qP qnb qnp aR aB aP nb np aN rf ho br aK ac dw aE sr sf aA aH aI hi fBr H.size n_ac n_hi n_ho n_lw n_nb n_np n_p0 n_qnb n_qnp n_tat n_tsz n_wr (hbn) ci_fBr_zBr_nb) (cwV 2 hts (zgV qw1386 qw1388 qw54 qw108 qw1389) rfl rfl rfl hd_X11_of ⟨by rw [hR]; exact Nat.le_of_ble_eq_true rfl, by rw [hR]; exact Nat.le_of_ble_eq_true rfl⟩) (zPV hPc hK hDc (va_recv hK hP (ci := 11) (q0 := 0) rfl rfl)) rfl rfl hl.1 rfl (lv_room (Nat.le_of_ble_eq_true rfl)) dX11_fitsFace_72 ⟨Nat.zero_le _, Nat.zero_le _⟩) hS (fun q _ h => hFc q h) hFc (fun v72 u72 t H locs ht hvm hw hB hz1 hk1 hS => ?_)
          have hP := zkeep hP hk1
          obtain ⟨f72_0, f72_1, f72_2⟩ : (0 ≤ v72.toInt) ∧ (v72.toInt ≤ 9) ∧ (v72.toInt = (fBr (4 * p0.toInt.toNat)).toInt) := hw
          refine lv_iconst (v := 2) hx hb dX11_fitsFace_75 (by decide) ?_
          refine lv_irem hx hb dX11_fitsFace_76 (by decide) ?_
          refine lv_topi (fun v76 e76 => ?_)
          have i76 : v76.toInt = v72.toInt % 2 := zrem e76 rfl (by decide) (by omega) (by omega)
          refine lv_icmp_ne (tgt := 84) hx hb dX11_fitsFace_77 (by decide) (fun c77 => ?_) (fun c77 => ?_)
          · have c77 : ¬ v68.toInt = v76.toInt := z6 rfl rfl c77
            refine lv_iconst (v := 0) hx hb dX11_fitsFace_84 (by decide) ?_
            have zr0 : (0 : Int32).toInt = 0 := by decide
            rw [hQ]
            exact W.zret (v := 0) (ty := .boolean) hx hb hr rfl (fun t ht hW => ⟨⟨0, (), rfl, ⟨by (try dsimp only); omega, by (try dsimp only); omega, by (try dsimp only); omega, by (try dsimp only); have l8 := congrArg (fun x => (cBt x p0).toInt) (zIxN (n := 11) e6 (by decide)); have y8 : (cBt (fN 11) p0).toInt = v8.toInt := (by rw [F8]; exact l8.symm); have l60 := congrArg (fun x => (cBt x p0).toInt) (zIxN (n := 12) e58 (by decide)); have y60 : (cBt (fN 12) p0).toInt = v60.toInt := (by rw [F60]; exact l60.symm); have t68 : (p1 - p1 / 2 * 2).toInt = v68.toInt := (by rw [e68]); have t76 : (fBr (4 * p0.toInt.toNat) - fBr (4 * p0.toInt.toNat) / 2 * 2).toInt = v76.toInt := (by rw [e76, show v72 = fBr (4 * p0.toInt.toNat) from Int32.toInt_inj.mp f72_2]); refine Or.inr ⟨by decide, fun z => ?_⟩; have z1 := z.1; have z2 := z.2; first | (have z3 := z1 (by omega); omega) | (have z3 := z2 (by omega); omega)⟩, trivial⟩, hS.F ht⟩) hS.2.2 dX11_fitsFace_85
          · have c77 : v68.toInt = v76.toInt := z5 rfl rfl c77
            refine lv_iconst (v := 1) hx hb dX11_fitsFace_80 (by decide) ?_
            refine lv_goto (tgt := 85) hx hb dX11_fitsFace_81 (by decide) ?_
            have zr0 : (1 : Int32).toInt = 1 := by decide
            rw [hQ]
            exact W.zret (v := 1) (ty := .boolean) hx hb hr rfl (fun t ht hW => ⟨⟨1, (), rfl, ⟨by (try dsimp only); omega, by (try dsimp only); omega, by (try dsimp only); omega, by (try dsimp only); have l8 := congrArg (fun x => (cBt x p0).toInt) (zIxN (n := 11) e6 (by decide)); have y8 : (cBt (fN 11) p0).toInt = v8.toInt := (by rw [F8]; exact l8.symm); have l60 := congrArg (fun x => (cBt x p0).toInt) (zIxN (n := 12) e58 (by decide)); have y60 : (cBt (fN 12) p0).toInt = v60.toInt := (by rw [F60]; exact l60.symm); have t68 : (p1 - p1 / 2 * 2).toInt = v68.toInt := (by rw [e68]); have t76 : (fBr (4 * p0.toInt.toNat) - fBr (4 * p0.toInt.toNat) / 2 * 2).toInt = v76.toInt := (by rw [e76, show v72 = fBr (4 * p0.toInt.toNat) from Int32.toInt_inj.mp f72_2]); refine Or.inl ⟨by decide, fun z => ?_, fun z => ?_⟩; (try omega); (try omega); (try (constructor <;> intro z2 <;> omega)); (try omega)⟩, trivial⟩, hS.F ht⟩) hS.2.2 dX11_fitsFace_85
