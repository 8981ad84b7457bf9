set_option maxHeartbeats 4000000 in
set_option maxRecDepth 100000 in
theorem g_X11_most (l : Launch) (dC : Nat → ClassId) (dI : Nat → Nat → Nat) (cI cJ : ClassId) (h0 : Nat) (p0 : Int32) (th : Int32) (tB : Nat) (tsz : Int32) (tat : Int32) (wr : Int32) (dp : Int32) (rC : Nat) (rV : Nat) (rD : Nat) (rK : Nat) (rT : Nat) (rS : Nat) (rU : Nat) (lw : Int32) (tx : Int32) (rL : Nat) (rX : Nat) (qR : Nat) (qB : Nat) (qP : Nat) (qnb : Int32) (qnp : Int32) (aR : Nat) (aB : Nat) (aP : Nat) (nb : Int32) (np : Int32) (aN : Nat) (rf : Nat) (ho : Int32) (br : Int32) (aK : Nat) (ac : Int32) (dw : Int64) (aE : Nat) (sr : Int32) (sf : Int32) (aA : Nat) (aH : Nat) (aI : Nat) (hi : Int32) (fC : Nat → Int32) (fV : Nat → Int32) (fK : Nat → Int32) (fT : Nat → Int32) (fS : Nat → Int32) (fU : Nat → Int32) (fL : Nat → Int32) (fX : Nat → Int32) (fBr : Nat → Int32) (fPa : Nat → Int32) (fN : Nat → Int32) (fE : Nat → Int32) (sz : Nat) (n_ac : 0 ≤ ac.toInt ∧ ac.toInt ≤ 40) (n_hi : 0 ≤ hi.toInt ∧ hi.toInt ≤ 1) (n_ho : (-1) ≤ ho.toInt ∧ ho.toInt ≤ 3) (n_lw : 0 ≤ lw.toInt ∧ lw.toInt ≤ 4) (n_nb : 0 ≤ nb.toInt ∧ nb.toInt ≤ 6) (n_np : 0 ≤ np.toInt ∧ np.toInt ≤ 5) (n_qnb : 0 ≤ qnb.toInt ∧ qnb.toInt ≤ 6) (n_qnp : 0 ≤ qnp.toInt ∧ qnp.toInt ≤ 5) (n_tat : 0 ≤ tat.toInt ∧ tat.toInt ≤ 260) (n_tsz : 0 ≤ tsz.toInt ∧ tsz.toInt ≤ 240) (n_wr : (-1) ≤ wr.toInt ∧ wr.toInt ≤ 260) (hls : zLs ho fC fV fK fT fS fU) (ci_fBr_zBr_nb : zBr nb fBr) (ci_fN_zNw_np : zNw np fN) (ci_fPa_zBr_np : zBr np fPa)  : Met l yX11_most (.code yX11_most cX11_most 5 (some .int) :: wA) ({ frames := 10, cells := 0, slots := 0, locals := 245 }) (zP (dC, dI) [(cI, .int), (cJ, .long)] [.ref h0, .int p0] sz [(h0, .inr (11, [.int th, .ref tB, .int tsz, .int tat, .int wr, .int dp, .ref rC, .ref rV, .ref rD, .ref rK, .ref rT, .ref rS, .ref rU, .int lw, .int tx, .ref rL, .ref rX, .ref qR, .ref qB, .ref qP, .int qnb, .int qnp, .ref aR, .ref aB, .ref aP, .int nb, .int np, .ref aN, .ref rf, .int ho, .int br, .ref aK, .int ac, .long dw, .ref aE, .int sr, .int sf, .ref aA, .ref aH, .ref aI, .int hi])), (rC, .inl (cI, 2600, .inl fC)), (rV, .inl (cI, 2600, .inl fV)), (rK, .inl (cI, 5, .inl fK)), (rT, .inl (cI, 700, .inl fT)), (rS, .inl (cI, 700, .inl fS)), (rU, .inl (cI, 700, .inl fU)), (rL, .inl (cI, 6, .inl fL)), (rX, .inl (cI, 80, .inl fX)), (aB, .inl (cI, 24, .inl fBr)), (aP, .inl (cI, 20, .inl fPa)), (aN, .inl (cI, 97, .inl fN)), (aE, .inl (cI, 10, .inl fE))]) (va_Qi (fun (r : Int32) (u : (Nat → Int32) × (Nat → Int32) × (Nat → Int32)) => (∀ (kc : zK3) (kT : zT) (q_fR : Nat → Int32) (q_fKp : Nat → Int32) (q_frf : Nat → Int32) (kl : Option ((Int → Int) × Int)), zCn q_fR fBr fPa nb.toInt np.toInt kc → zKo nb.toInt np.toInt kc kT → zTr nb.toInt np.toInt kT fN q_fKp ac q_frf → zLwR ho fC fV fK fT fS fU kl → r = sV_mos nb.toInt np.toInt kc kT.1 kl p0)) (fun (u : (Nat → Int32) × (Nat → Int32) × (Nat → Int32)) (t : State) => va_P (dC, dI) vwCl [(h0, .inr (11, [.int th, .ref tB, .int tsz, .int tat, .int wr, .int dp, .ref rC, .ref rV, .ref rD, .ref rK, .ref rT, .ref rS, .ref rU, .int lw, .int tx, .ref rL, .ref rX, .ref qR, .ref qB, .ref qP, .int qnb, .int qnp, .ref aR, .ref aB, .ref aP, .int nb, .int np, .ref aN, .ref rf, .int ho, .int br, .ref aK, .int ac, .long dw, .ref aE, .int sr, .int sf, .ref aA, .ref aH, .ref aI, .int hi])), (rC, .inl (cI, 2600, .inl fC)), (rV, .inl (cI, 2600, .inl fV)), (rK, .inl (cI, 5, .inl fK)), (rT, .inl (cI, 700, .inl fT)), (rS, .inl (cI, 700, .inl fS)), (rU, .inl (cI, 700, .inl fU)), (rL, .inl (cI, 6, .inl u.1)), (rX, .inl (cI, 80, .inl u.2.1)), (aB, .inl (cI, 24, .inl fBr)), (aP, .inl (cI, 20, .inl fPa)), (aN, .inl (cI, 97, .inl fN)), (aE, .inl (cI, 10, .inl u.2.2))] t.heap ∧ va_D (va_A [(h0, .inr (11, [.int th, .ref tB, .int tsz, .int tat, .int wr, .int dp, .ref rC, .ref rV, .ref rD, .ref rK, .ref rT, .ref rS, .ref rU, .int lw, .int tx, .ref rL, .ref rX, .ref qR, .ref qB, .ref qP, .int qnb, .int qnp, .ref aR, .ref aB, .ref aP, .int nb, .int np, .ref aN, .ref rf, .int ho, .int br, .ref aK, .int ac, .long dw, .ref aE, .int sr, .int sf, .ref aA, .ref aH, .ref aI, .int hi])), (rC, .inl (cI, 2600, .inl fC)), (rV, .inl (cI, 2600, .inl fV)), (rK, .inl (cI, 5, .inl fK)), (rT, .inl (cI, 700, .inl fT)), (rS, .inl (cI, 700, .inl fS)), (rU, .inl (cI, 700, .inl fU)), (rL, .inl (cI, 6, .inl fL)), (rX, .inl (cI, 80, .inl fX)), (aB, .inl (cI, 24, .inl fBr)), (aP, .inl (cI, 20, .inl fPa)), (aN, .inl (cI, 97, .inl fN)), (aE, .inl (cI, 10, .inl fE))] sz) [(h0, .inr (11, [.int th, .ref tB, .int tsz, .int tat, .int wr, .int dp, .ref rC, .ref rV, .ref rD, .ref rK, .ref rT, .ref rS, .ref rU, .int lw, .int tx, .ref rL, .ref rX, .ref qR, .ref qB, .ref qP, .int qnb, .int qnp, .ref aR, .ref aB, .ref aP, .int nb, .int np, .ref aN, .ref rf, .int ho, .int br, .ref aK, .int ac, .long dw, .ref aE, .int sr, .int sf, .ref aA, .ref aH, .ref aI, .int hi])), (rC, .inl (cI, 2600, .inl fC)), (rV, .inl (cI, 2600, .inl fV)), (rK, .inl (cI, 5, .inl fK)), (rT, .inl (cI, 700, .inl fT)), (rS, .inl (cI, 700, .inl fS)), (rU, .inl (cI, 700, .inl fU)), (rL, .inl (cI, 6, .inl u.1)), (rX, .inl (cI, 80, .inl u.2.1)), (aB, .inl (cI, 24, .inl fBr)), (aP, .inl (cI, 20, .inl fPa)), (aN, .inl (cI, 97, .inl fN)), (aE, .inl (cI, 10, .inl u.2.2))]) (va_A [(h0, .inr (11, [.int th, .ref tB, .int tsz, .int tat, .int wr, .int dp, .ref rC, .ref rV, .ref rD, .ref rK, .ref rT, .ref rS, .ref rU, .int lw, .int tx, .ref rL, .ref rX, .ref qR, .ref qB, .ref qP, .int qnb, .int qnp, .ref aR, .ref aB, .ref aP, .int nb, .int np, .ref aN, .ref rf, .int ho, .int br, .ref aK, .int ac, .long dw, .ref aE, .int sr, .int sf, .ref aA, .ref aH, .ref aI, .int hi])), (rC, .inl (cI, 2600, .inl fC)), (rV, .inl (cI, 2600, .inl fV)), (rK, .inl (cI, 5, .inl fK)), (rT, .inl (cI, 700, .inl fT)), (rS, .inl (cI, 700, .inl fS)), (rU, .inl (cI, 700, .inl fU)), (rL, .inl (cI, 6, .inl fL)), (rX, .inl (cI, 80, .inl fX)), (aB, .inl (cI, 24, .inl fBr)), (aP, .inl (cI, 20, .inl fPa)), (aN, .inl (cI, 97, .inl fN)), (aE, .inl (cI, 10, .inl fE))] sz)) 0 0 (va_A [(h0, .inr (11, [.int th, .ref tB, .int tsz, .int tat, .int wr, .int dp, .ref rC, .ref rV, .ref rD, .ref rK, .ref rT, .ref rS, .ref rU, .int lw, .int tx, .ref rL, .ref rX, .ref qR, .ref qB, .ref qP, .int qnb, .int qnp, .ref aR, .ref aB, .ref aP, .int nb, .int np, .ref aN, .ref rf, .int ho, .int br, .ref aK, .int ac, .long dw, .ref aE, .int sr, .int sf, .ref aA, .ref aH, .ref aI, .int hi])), (rC, .inl (cI, 2600, .inl fC)), (rV, .inl (cI, 2600, .inl fV)), (rK, .inl (cI, 5, .inl fK)), (rT, .inl (cI, 700, .inl fT)), (rS, .inl (cI, 700, .inl fS)), (rU, .inl (cI, 700, .inl fU)), (rL, .inl (cI, 6, .inl fL)), (rX, .inl (cI, 80, .inl fX)), (aB, .inl (cI, 24, .inl fBr)), (aP, .inl (cI, 20, .inl fPa)), (aN, .inl (cI, 97, .inl fN)), (aE, .inl (cI, 10, .inl fE))] sz) := by
  refine Met.ofW (cc := cX11_most) (maxL := 5) (ret := (some .int)) (by decide) rfl ?_
  intro p e s m args below meth c s₁ B hml hv
  have y_ac : zHid (0 ≤ ac.toInt ∧ ac.toInt ≤ 40) := n_ac
  have y_hi : zHid (0 ≤ hi.toInt ∧ hi.toInt ≤ 1) := n_hi
  have y_ho : zHid ((-1) ≤ ho.toInt ∧ ho.toInt ≤ 3) := n_ho
  have y_lw : zHid (0 ≤ lw.toInt ∧ lw.toInt ≤ 4) := n_lw
  have y_qnb : zHid (0 ≤ qnb.toInt ∧ qnb.toInt ≤ 6) := n_qnb
  have y_qnp : zHid (0 ≤ qnp.toInt ∧ qnp.toInt ≤ 5) := n_qnp
  have y_tat : zHid (0 ≤ tat.toInt ∧ tat.toInt ≤ 260) := n_tat
  have y_tsz : zHid (0 ≤ tsz.toInt ∧ tsz.toInt ≤ 240) := n_tsz
  have y_wr : zHid ((-1) ≤ wr.toInt ∧ wr.toInt ≤ 260) := n_wr
  clear n_ac n_hi n_ho n_lw n_qnb n_qnp n_tat n_tsz n_wr
  obtain ⟨hargs, hsz, hP, hK, hT⟩ := hv
  have hx := B.exec
  have hb := B.bytes
  have hr := B.returns
  have hts : ∀ w ∈ wA, w.before args s = true := fun w h => atoms_spec (ws := .code yX11_most cX11_most 5 (some .int) :: wA) B.pre w (List.mem_cons_of_mem _ h)
  have hown : s.vm.findClass RX11 = some m.cls := findClass_of_methodNamed B.named
  have hlocks := B.notSynchronized
  subst hsz
  have hD := hT.self (sz := s.heap.size)
  generalize hAe : va_A [(h0, .inr (11, [.int th, .ref tB, .int tsz, .int tat, .int wr, .int dp, .ref rC, .ref rV, .ref rD, .ref rK, .ref rT, .ref rS, .ref rU, .int lw, .int tx, .ref rL, .ref rX, .ref qR, .ref qB, .ref qP, .int qnb, .int qnp, .ref aR, .ref aB, .ref aP, .int nb, .int np, .ref aN, .ref rf, .int ho, .int br, .ref aK, .int ac, .long dw, .ref aE, .int sr, .int sf, .ref aA, .ref aH, .ref aI, .int hi])), (rC, .inl (cI, 2600, .inl fC)), (rV, .inl (cI, 2600, .inl fV)), (rK, .inl (cI, 5, .inl fK)), (rT, .inl (cI, 700, .inl fT)), (rS, .inl (cI, 700, .inl fS)), (rU, .inl (cI, 700, .inl fU)), (rL, .inl (cI, 6, .inl fL)), (rX, .inl (cI, 80, .inl fX)), (aB, .inl (cI, 24, .inl fBr)), (aP, .inl (cI, 20, .inl fPa)), (aN, .inl (cI, 97, .inl fN)), (aE, .inl (cI, 10, .inl fE))] s.heap.size = A at hD ⊢
  have hA : ∀ q : Nat, s.heap.size ≤ q → A q := fun q h => by rw [← hAe]; exact Or.inr h
  have hl := lv_entry ([.ref h0, .int p0]) (n := 5) (Nat.le_of_ble_eq_true rfl)
  rw [show entryFrame m args 5 = entryFrame m ([.ref h0, .int p0] : List Value).toArray 5 by rw [hargs], lg_entry_eq]
  generalize (lg_sl ([.ref h0, .int p0]) ++ List.replicate (5 - (lg_sl ([.ref h0, .int p0])).length) Slot.unset).toArray = ls at hl ⊢
  have hl : lv_has ls 5 [(0, .ref h0), (1, .int p0)] := hl
  refine zstart (fun H hH => ?_)
  rw [← hH] at hP
  have hS : va_S A s.heap H [] := by rw [hH]; exact va_S.rf
  generalize ([] : List Loc) = locs at hS ⊢
  refine zgen (fun R Q hR hQ => ?_)
  refine lv_aload_n hx hb dX11_most_0 rfl (lv_at hl 0 rfl) ?_
  refine va_get (D := (dC, dI)) (ci := 11) (v := .int nb) (C := RX11) (T := TX11) (N := 41) hx hb hts iX11 hown hK hP 0 rfl rfl 25 (by decide) (hts _ qw1152) (fun _ h9 => h9) rfl dX11_most_1 ?_
  refine lv_if_eq (tgt := 16) hx hb dX11_most_4 (by decide) (fun c4 => ?_) (fun c4 => ?_)
  · have c4 : nb.toInt = 0 := z5 rfl (by decide) c4
    refine lv_iconst (v := (-1)) hx hb dX11_most_16 (by decide) ?_
    have zr0 : ((-1) : Int32).toInt = (-1) := by decide
    rw [hQ]
    exact W.iret (v := ((-1))) hx hb hr (fun t ht hW => ⟨⟨(-1), (fL, fX, fE), rfl, (by (try dsimp only); exact fun kc kT q_fR q_fKp q_frf kl hc hb h hL => by first | (unfold sV_mos; rw [if_pos (by omega)]) | (unfold sV_mos; rw [if_neg (by omega), if_neg (by omega), if_neg (by omega), if_neg (by omega), if_neg (by omega), if_neg (by omega)])), ⟨by rw [ht]; exact hP, hD⟩⟩, hS.F ht⟩) hS.2.2 dX11_most_17
  · have c4 : ¬ nb.toInt = 0 := z6 rfl (by decide) c4
    refine lv_iload_n hx hb dX11_most_7 rfl (lv_at hl 1 rfl) ?_
    refine lv_iconst (v := 0) hx hb dX11_most_8 (by decide) ?_
    refine lv_iconst (v := 4) hx hb dX11_most_9 (by decide) ?_
    have hPc : va_P (dC, dI) vwCl [] H := zP0
    have hDc : va_D (fun _ => True) [] := zD0
    have hFc := zfr hS hA
    refine va_calli (va_runS (As := [.int p0, .int 0, .int 4]) (rest := []) ⟨hx, hb, hml, hown, hts⟩ (g_X11_in l dC dI cI cJ p0 0 4 H.size) (cwS 3 hts (zgS qw1305 qw1306 qw108 qw1307) rfl rfl rfl hd_X11_in ⟨by rw [hR]; exact Nat.le_of_ble_eq_true rfl, by rw [hR]; exact Nat.le_of_ble_eq_true rfl⟩) (zPS hPc hK hDc) rfl rfl hl.1 rfl (lv_room (Nat.le_of_ble_eq_true rfl)) dX11_most_10 ⟨Nat.zero_le _, Nat.zero_le _⟩) hS (fun q _ h => hFc q h) hFc (fun v10 u10 t H locs ht hvm hw hB hz1 hk1 hS9 => ?_)
    replace hP := zkeep hP hk1
    replace hS := hS9
    clear hPc hDc hFc hk1 hz1 hvm hS9
    have zn10_0 : (0 : Int32).toInt = 0 := by decide
    have zn10_4 : (4 : Int32).toInt = 4 := by decide
    obtain ⟨f10_0, f10_1, f10_2, f10_3⟩ : (0 ≤ v10.toInt) ∧ (v10.toInt ≤ 1) ∧ (¬ v10.toInt = 0 → ((0 : Int32).toInt ≤ p0.toInt ∧ p0.toInt ≤ (4 : Int32).toInt)) ∧ (v10.toInt = 0 → (p0.toInt < (0 : Int32).toInt ∨ (4 : Int32).toInt < p0.toInt)) := hw
    refine lv_if_ne (tgt := 18) hx hb dX11_most_13 (by decide) (fun c13 => ?_) (fun c13 => ?_)
    · have c13 : ¬ v10.toInt = 0 := z6 rfl (by decide) c13
      refine lv_iconst (v := 0) hx hb dX11_most_18 (by decide) ?_
      refine lv_istore_n (lv' := [(2, .int 0), (0, .ref h0), (1, .int p0)]) hx hb dX11_most_19 rfl hl (by decide) rfl (fun ls hl => ?_)
      refine lv_iconst (v := 0) hx hb dX11_most_20 (by decide) ?_
      have J22 : ∀ (n : Nat) (m22_A_aE : Nat → Int32) (m22_A_rL : Nat → Int32) (m22_A_rX : Nat → Int32) (m22_L_2 : Int32) (m22_L_3 : Int32), (0 ≤ m22_L_3.toInt ∧ m22_L_3.toInt ≤ 6) → (∀ (kc : zK3) (kT : zT) (q_fR : Nat → Int32) (kl : Option ((Int → Int) × Int)), zCn q_fR fBr fPa nb.toInt np.toInt kc → zKo nb.toInt np.toInt kc kT → zSr nb.toInt np.toInt kT.1 fN → zLwR ho fC fV fK fT fS fU kl → m22_L_2 = sPl kc kT.1 kl m22_L_3.toInt.toNat) → (m22_L_3.toInt ≤ nb.toInt) → (7 - m22_L_3.toInt).toNat = n → ∀ (H : Heap) (locs : List Loc) (ls : Array Slot), va_P (dC, dI) vwCl [(h0, .inr (11, [.int th, .ref tB, .int tsz, .int tat, .int wr, .int dp, .ref rC, .ref rV, .ref rD, .ref rK, .ref rT, .ref rS, .ref rU, .int lw, .int tx, .ref rL, .ref rX, .ref qR, .ref qB, .ref qP, .int qnb, .int qnp, .ref aR, .ref aB, .ref aP, .int nb, .int np, .ref aN, .ref rf, .int ho, .int br, .ref aK, .int ac, .long dw, .ref aE, .int sr, .int sf, .ref aA, .ref aH, .ref aI, .int hi])), (rC, .inl (cI, 2600, .inl fC)), (rV, .inl (cI, 2600, .inl fV)), (rK, .inl (cI, 5, .inl fK)), (rT, .inl (cI, 700, .inl fT)), (rS, .inl (cI, 700, .inl fS)), (rU, .inl (cI, 700, .inl fU)), (rL, .inl (cI, 6, .inl m22_A_rL)), (rX, .inl (cI, 80, .inl m22_A_rX)), (aB, .inl (cI, 24, .inl fBr)), (aP, .inl (cI, 20, .inl fPa)), (aN, .inl (cI, 97, .inl fN)), (aE, .inl (cI, 10, .inl m22_A_aE))] H → va_D A [(h0, .inr (11, [.int th, .ref tB, .int tsz, .int tat, .int wr, .int dp, .ref rC, .ref rV, .ref rD, .ref rK, .ref rT, .ref rS, .ref rU, .int lw, .int tx, .ref rL, .ref rX, .ref qR, .ref qB, .ref qP, .int qnb, .int qnp, .ref aR, .ref aB, .ref aP, .int nb, .int np, .ref aN, .ref rf, .int ho, .int br, .ref aK, .int ac, .long dw, .ref aE, .int sr, .int sf, .ref aA, .ref aH, .ref aI, .int hi])), (rC, .inl (cI, 2600, .inl fC)), (rV, .inl (cI, 2600, .inl fV)), (rK, .inl (cI, 5, .inl fK)), (rT, .inl (cI, 700, .inl fT)), (rS, .inl (cI, 700, .inl fS)), (rU, .inl (cI, 700, .inl fU)), (rL, .inl (cI, 6, .inl m22_A_rL)), (rX, .inl (cI, 80, .inl m22_A_rX)), (aB, .inl (cI, 24, .inl fBr)), (aP, .inl (cI, 20, .inl fPa)), (aN, .inl (cI, 97, .inl fN)), (aE, .inl (cI, 10, .inl m22_A_aE))] → va_S A s.heap H locs → lv_has ls 5 [(3, .int m22_L_3), (2, .int m22_L_2), (0, .ref h0), (1, .int p0)] → W p l e R s m args below meth c H locs 0 0 Q (F0 m 22 ls []) := by
        intro n22
        induction n22 using Nat.strongRecOn with
        | _ n22 ih22 =>
          intro m22_A_aE m22_A_rL m22_A_rX m22_L_2 m22_L_3 jf22_0 jv22_0 jf22_2 hmu22 H locs ls hP hD hS hl
          refine lv_iload_n hx hb dX11_most_22 rfl (lv_at hl 0 rfl) ?_
          refine lv_aload_n hx hb dX11_most_23 rfl (lv_at hl 2 rfl) ?_
          refine va_get (D := (dC, dI)) (ci := 11) (v := .int nb) (C := RX11) (T := TX11) (N := 41) hx hb hts iX11 hown hK hP 0 rfl rfl 25 (by decide) (hts _ qw1152) (fun _ h9 => h9) rfl dX11_most_24 ?_
          refine lv_icmp_ge (tgt := 55) hx hb dX11_most_27 (by decide) (fun c27 => ?_) (fun c27 => ?_)
          · have c27 : nb.toInt ≤ m22_L_3.toInt := z3 rfl rfl c27
            refine lv_iconst (v := 0) hx hb dX11_most_55 (by decide) ?_
            refine lv_istore_n (lv' := [(3, .int 0), (2, .int m22_L_2), (0, .ref h0), (1, .int p0)]) hx hb dX11_most_56 rfl hl (by decide) rfl (fun ls hl => ?_)
            refine lv_iconst (v := 1) hx hb dX11_most_57 (by decide) ?_
            have J60 : ∀ (n : Nat) (m60_L_3 : Int32) (m60_L_4 : Int32), (0 ≤ m60_L_3.toInt ∧ m60_L_3.toInt ≤ 4) → (1 ≤ m60_L_4.toInt ∧ m60_L_4.toInt ≤ 5) → (m60_L_4.toInt ≤ np.toInt ∨ m60_L_4.toInt = 1) → (m60_L_3 = zAn (fun j => fPa (4 * j + 1)) (m60_L_4.toInt.toNat - 1)) → (6 - m60_L_4.toInt).toNat = n → ∀ (H : Heap) (locs : List Loc) (ls : Array Slot), va_P (dC, dI) vwCl [(h0, .inr (11, [.int th, .ref tB, .int tsz, .int tat, .int wr, .int dp, .ref rC, .ref rV, .ref rD, .ref rK, .ref rT, .ref rS, .ref rU, .int lw, .int tx, .ref rL, .ref rX, .ref qR, .ref qB, .ref qP, .int qnb, .int qnp, .ref aR, .ref aB, .ref aP, .int nb, .int np, .ref aN, .ref rf, .int ho, .int br, .ref aK, .int ac, .long dw, .ref aE, .int sr, .int sf, .ref aA, .ref aH, .ref aI, .int hi])), (rC, .inl (cI, 2600, .inl fC)), (rV, .inl (cI, 2600, .inl fV)), (rK, .inl (cI, 5, .inl fK)), (rT, .inl (cI, 700, .inl fT)), (rS, .inl (cI, 700, .inl fS)), (rU, .inl (cI, 700, .inl fU)), (rL, .inl (cI, 6, .inl m22_A_rL)), (rX, .inl (cI, 80, .inl m22_A_rX)), (aB, .inl (cI, 24, .inl fBr)), (aP, .inl (cI, 20, .inl fPa)), (aN, .inl (cI, 97, .inl fN)), (aE, .inl (cI, 10, .inl m22_A_aE))] H → va_D A [(h0, .inr (11, [.int th, .ref tB, .int tsz, .int tat, .int wr, .int dp, .ref rC, .ref rV, .ref rD, .ref rK, .ref rT, .ref rS, .ref rU, .int lw, .int tx, .ref rL, .ref rX, .ref qR, .ref qB, .ref qP, .int qnb, .int qnp, .ref aR, .ref aB, .ref aP, .int nb, .int np, .ref aN, .ref rf, .int ho, .int br, .ref aK, .int ac, .long dw, .ref aE, .int sr, .int sf, .ref aA, .ref aH, .ref aI, .int hi])), (rC, .inl (cI, 2600, .inl fC)), (rV, .inl (cI, 2600, .inl fV)), (rK, .inl (cI, 5, .inl fK)), (rT, .inl (cI, 700, .inl fT)), (rS, .inl (cI, 700, .inl fS)), (rU, .inl (cI, 700, .inl fU)), (rL, .inl (cI, 6, .inl m22_A_rL)), (rX, .inl (cI, 80, .inl m22_A_rX)), (aB, .inl (cI, 24, .inl fBr)), (aP, .inl (cI, 20, .inl fPa)), (aN, .inl (cI, 97, .inl fN)), (aE, .inl (cI, 10, .inl m22_A_aE))] → va_S A s.heap H locs → lv_has ls 5 [(4, .int m60_L_4), (3, .int m60_L_3), (2, .int m22_L_2), (0, .ref h0), (1, .int p0)] → W p l e R s m args below meth c H locs 0 0 Q (F0 m 60 ls []) := by
              intro n60
              induction n60 using Nat.strongRecOn with
              | _ n60 ih60 =>
                intro m60_L_3 m60_L_4 jf60_0 jf60_1 jf60_2 jv60_0 hmu60 H locs ls hP hD hS hl
                refine lv_iload hx hb dX11_most_60 (lv_at hl 0 rfl) ?_
                refine lv_aload_n hx hb dX11_most_62 rfl (lv_at hl 3 rfl) ?_
                refine va_get (D := (dC, dI)) (ci := 11) (v := .int np) (C := RX11) (T := TX11) (N := 41) hx hb hts iX11 hown hK hP 0 rfl rfl 26 (by decide) (hts _ qw1153) (fun _ h9 => h9) rfl dX11_most_63 ?_
                refine lv_icmp_ge (tgt := 98) hx hb dX11_most_66 (by decide) (fun c66 => ?_) (fun c66 => ?_)
                · have c66 : np.toInt ≤ m60_L_4.toInt := z3 rfl rfl c66
                  refine lv_iload_n hx hb dX11_most_98 rfl (lv_at hl 4 rfl) ?_
                  rcases (show (p0.toInt < 0 ∨ 3 < p0.toInt) ∨ p0.toInt = 0 ∨ p0.toInt = 1 ∨ p0.toInt = 2 ∨ p0.toInt = 3 by omega) with c99 | c99 | c99 | c99 | c99
                  · refine lv_tableOut (tgt := 144) hx hb dX11_most_99 c99 (by decide) ?_
                    refine lv_aload_n hx hb dX11_most_144 rfl (lv_at hl 3 rfl) ?_
                    obtain ⟨hPc, hDc⟩ := zc2 (wc := [(h0, .inr (11, [.int th, .ref tB, .int tsz, .int tat, .int wr, .int dp, .ref rC, .ref rV, .ref rD, .ref rK, .ref rT, .ref rS, .ref rU, .int lw, .int tx, .ref rL, .ref rX, .ref qR, .ref qB, .ref qP, .int qnb, .int qnp, .ref aR, .ref aB, .ref aP, .int nb, .int np, .ref aN, .ref rf, .int ho, .int br, .ref aK, .int ac, .long dw, .ref aE, .int sr, .int sf, .ref aA, .ref aH, .ref aI, .int hi])), (aB, .inl (cI, 24, .inl fBr)), (aN, .inl (cI, 97, .inl fN))]) hP hD [0, 9, 11] (by decide +kernel) rfl
                    have hFc := zfr hS hA
                    refine va_calli (va_runV (As := []) (rest := []) ⟨hx, hb, hml, hown, hts⟩ (g_X11_lies l dC dI cI cJ h0 th tB tsz tat wr dp rC rV rD rK rT rS rU lw tx rL rX qR qB qP qnb qnp aR aB aP nb np aN rf ho br aK ac dw aE sr sf aA aH aI hi fBr fN H.size y_ac y_hi y_ho y_lw n_nb n_np y_qnb y_qnp y_tat y_tsz y_wr ci_fBr_zBr_nb ci_fN_zNw_np) (cwV 0 hts (zgV qw1725 qw1727 qw96 qw108 qw1728) rfl rfl rfl hd_X11_lies ⟨by rw [hR]; exact Nat.le_of_ble_eq_true rfl, by rw [hR]; exact Nat.le_of_ble_eq_true rfl⟩) (zPV hPc hK hDc (va_recv (q := (RX11, TX11, 41)) hK hP (ci := 11) (q0 := 0) rfl rfl)) rfl rfl hl.1 rfl (lv_room (Nat.le_of_ble_eq_true rfl)) dX11_most_145 ⟨Nat.zero_le _, Nat.zero_le _⟩) hS (fun q _ h => hFc q h) hFc (fun v145 u145 t H locs ht hvm hw hB hz1 hk1 hS9 => ?_)
                    replace hP := zkeep hP hk1
                    replace hS := hS9
                    clear hPc hDc hFc hk1 hz1 hvm hS9
                    have f145_0 : (v145 = zLie fBr (fun i => fN (17 + i)) (fN 16).toInt.toNat) := hw
                    have F145 := f145_0
                    rw [hQ]
                    exact W.iret (v := v145) hx hb hr (fun t ht hW => ⟨⟨v145, (m22_A_rL, m22_A_rX, m22_A_aE), rfl, (by (try dsimp only); exact fun kc kT q_fR q_fKp q_frf kl hc hb h hL => by unfold sV_mos; rw [if_neg (by omega), if_neg (by omega), if_neg (by omega), if_neg (by omega), if_neg (by omega), if_pos (by omega)]; exact F145.trans (zLie_s (P := fun i => fN (17 + i)) hc hb.2.2.2.1 (zSr_pn h.1) (zSr_P h.1))), ⟨by rw [ht]; exact hP, hD⟩⟩, hS.F ht⟩) hS.2.2 dX11_most_148
                  · refine lv_tableIn (off := 29) (tgt := 128) hx hb dX11_most_99 (by omega) (by omega) (by rw [c99]; rfl) (by decide) ?_
                    refine lv_iload_n hx hb dX11_most_128 rfl (lv_at hl 2 rfl) ?_
                    rw [hQ]
                    exact W.iret (v := m22_L_2) hx hb hr (fun t ht hW => ⟨⟨m22_L_2, (m22_A_rL, m22_A_rX, m22_A_aE), rfl, (by (try dsimp only); exact fun kc kT q_fR q_fKp q_frf kl hc hb h hL => by unfold sV_mos; rw [if_neg (by omega), if_pos (by omega)]; exact (jv22_0 kc kT _ kl hc hb h.1 hL).trans (by rw [show m22_L_3.toInt.toNat = nb.toInt.toNat by omega])), ⟨by rw [ht]; exact hP, hD⟩⟩, hS.F ht⟩) hS.2.2 dX11_most_129
                  · refine lv_tableIn (off := 31) (tgt := 130) hx hb dX11_most_99 (by omega) (by omega) (by rw [c99]; rfl) (by decide) ?_
                    refine lv_aload_n hx hb dX11_most_130 rfl (lv_at hl 3 rfl) ?_
                    refine lv_iconst (v := 1) hx hb dX11_most_131 (by decide) ?_
                    obtain ⟨hPc, hDc⟩ := zc2 (wc := [(h0, .inr (11, [.int th, .ref tB, .int tsz, .int tat, .int wr, .int dp, .ref rC, .ref rV, .ref rD, .ref rK, .ref rT, .ref rS, .ref rU, .int lw, .int tx, .ref rL, .ref rX, .ref qR, .ref qB, .ref qP, .int qnb, .int qnp, .ref aR, .ref aB, .ref aP, .int nb, .int np, .ref aN, .ref rf, .int ho, .int br, .ref aK, .int ac, .long dw, .ref aE, .int sr, .int sf, .ref aA, .ref aH, .ref aI, .int hi])), (aB, .inl (cI, 24, .inl fBr))]) hP hD [0, 9] (by decide +kernel) rfl
                    have hFc := zfr hS hA
                    refine va_calli (va_runV (As := [.int 1]) (rest := []) ⟨hx, hb, hml, hown, hts⟩ (g_X11_mostOf l dC dI cI cJ h0 1 th tB tsz tat wr dp rC rV rD rK rT rS rU lw tx rL rX qR qB qP qnb qnp aR aB aP nb np aN rf ho br aK ac dw aE sr sf aA aH aI hi fBr H.size y_ac y_hi y_ho y_lw n_nb n_np (by decide) y_qnb y_qnp y_tat y_tsz y_wr ci_fBr_zBr_nb) (cwV 1 hts (zgV qw1721 qw1723 qw95 qw108 qw1724) rfl rfl rfl hd_X11_mostOf ⟨by rw [hR]; exact Nat.le_of_ble_eq_true rfl, by rw [hR]; exact Nat.le_of_ble_eq_true rfl⟩) (zPV hPc hK hDc (va_recv (q := (RX11, TX11, 41)) hK hP (ci := 11) (q0 := 0) rfl rfl)) rfl rfl hl.1 rfl (lv_room (Nat.le_of_ble_eq_true rfl)) dX11_most_132 ⟨Nat.zero_le _, Nat.zero_le _⟩) hS (fun q _ h => hFc q h) hFc (fun v132 u132 t H locs ht hvm hw hB hz1 hk1 hS9 => ?_)
                    replace hP := zkeep hP hk1
                    replace hS := hS9
                    clear hPc hDc hFc hk1 hz1 hvm hS9
                    have zn132_1 : (1 : Int32).toInt = 1 := by decide
                    obtain ⟨f132_0, f132_1, f132_2⟩ : (0 ≤ v132.toInt) ∧ (v132.toInt ≤ 5) ∧ (v132 = zXm (fun j => fBr (4 * j + (1 : Int32).toInt.toNat)) (nb.toInt.toNat - 1)) := hw
                    have F132 := f132_2
                    rw [hQ]
                    exact W.iret (v := v132) hx hb hr (fun t ht hW => ⟨⟨v132, (m22_A_rL, m22_A_rX, m22_A_aE), rfl, (by (try dsimp only); exact fun kc kT q_fR q_fKp q_frf kl hc hb h hL => by unfold sV_mos; rw [if_neg (by omega), if_neg (by omega), if_pos (by omega)]; exact F132.trans (zXm_c _ (by omega) (fun j hj => by (try dsimp only); rw [show (4 * j + (1 : Int32).toInt.toNat : Nat) = 4 * j + 1 by have : (1 : Int32).toInt = 1 := (by decide); omega]; exact hc.2.1 _ (by omega)))), ⟨by rw [ht]; exact hP, hD⟩⟩, hS.F ht⟩) hS.2.2 dX11_most_135
                  · refine lv_tableIn (off := 37) (tgt := 136) hx hb dX11_most_99 (by omega) (by omega) (by rw [c99]; rfl) (by decide) ?_
                    refine lv_aload_n hx hb dX11_most_136 rfl (lv_at hl 3 rfl) ?_
                    refine lv_iconst (v := 0) hx hb dX11_most_137 (by decide) ?_
                    obtain ⟨hPc, hDc⟩ := zc2 (wc := [(h0, .inr (11, [.int th, .ref tB, .int tsz, .int tat, .int wr, .int dp, .ref rC, .ref rV, .ref rD, .ref rK, .ref rT, .ref rS, .ref rU, .int lw, .int tx, .ref rL, .ref rX, .ref qR, .ref qB, .ref qP, .int qnb, .int qnp, .ref aR, .ref aB, .ref aP, .int nb, .int np, .ref aN, .ref rf, .int ho, .int br, .ref aK, .int ac, .long dw, .ref aE, .int sr, .int sf, .ref aA, .ref aH, .ref aI, .int hi])), (aB, .inl (cI, 24, .inl fBr))]) hP hD [0, 9] (by decide +kernel) rfl
                    have hFc := zfr hS hA
                    refine va_calli (va_runV (As := [.int 0]) (rest := []) ⟨hx, hb, hml, hown, hts⟩ (g_X11_mostOf l dC dI cI cJ h0 0 th tB tsz tat wr dp rC rV rD rK rT rS rU lw tx rL rX qR qB qP qnb qnp aR aB aP nb np aN rf ho br aK ac dw aE sr sf aA aH aI hi fBr H.size y_ac y_hi y_ho y_lw n_nb n_np (by decide) y_qnb y_qnp y_tat y_tsz y_wr ci_fBr_zBr_nb) (cwV 1 hts (zgV qw1721 qw1723 qw95 qw108 qw1724) rfl rfl rfl hd_X11_mostOf ⟨by rw [hR]; exact Nat.le_of_ble_eq_true rfl, by rw [hR]; exact Nat.le_of_ble_eq_true rfl⟩) (zPV hPc hK hDc (va_recv (q := (RX11, TX11, 41)) hK hP (ci := 11) (q0 := 0) rfl rfl)) rfl rfl hl.1 rfl (lv_room (Nat.le_of_ble_eq_true rfl)) dX11_most_138 ⟨Nat.zero_le _, Nat.zero_le _⟩) hS (fun q _ h => hFc q h) hFc (fun v138 u138 t H locs ht hvm hw hB hz1 hk1 hS9 => ?_)
                    replace hP := zkeep hP hk1
                    replace hS := hS9
                    clear hPc hDc hFc hk1 hz1 hvm hS9
                    have zn138_0 : (0 : Int32).toInt = 0 := by decide
                    obtain ⟨f138_0, f138_1, f138_2⟩ : (0 ≤ v138.toInt) ∧ (v138.toInt ≤ 5) ∧ (v138 = zXm (fun j => fBr (4 * j + (0 : Int32).toInt.toNat)) (nb.toInt.toNat - 1)) := hw
                    have F138 := f138_2
                    rw [hQ]
                    exact W.iret (v := v138) hx hb hr (fun t ht hW => ⟨⟨v138, (m22_A_rL, m22_A_rX, m22_A_aE), rfl, (by (try dsimp only); exact fun kc kT q_fR q_fKp q_frf kl hc hb h hL => by unfold sV_mos; rw [if_neg (by omega), if_neg (by omega), if_neg (by omega), if_pos (by omega)]; exact F138.trans (zXm_c _ (by omega) (fun j hj => by (try dsimp only); rw [show (4 * j + (0 : Int32).toInt.toNat : Nat) = 4 * j by have : (0 : Int32).toInt = 0 := (by decide); omega]; exact hc.2.1 _ (by omega)))), ⟨by rw [ht]; exact hP, hD⟩⟩, hS.F ht⟩) hS.2.2 dX11_most_141
                  · refine lv_tableIn (off := 43) (tgt := 142) hx hb dX11_most_99 (by omega) (by omega) (by rw [c99]; rfl) (by decide) ?_
                    refine lv_iload_n hx hb dX11_most_142 rfl (lv_at hl 1 rfl) ?_
                    rw [hQ]
                    exact W.iret (v := m60_L_3) hx hb hr (fun t ht hW => ⟨⟨m60_L_3, (m22_A_rL, m22_A_rX, m22_A_aE), rfl, (by (try dsimp only); exact fun kc kT q_fR q_fKp q_frf kl hc hb h hL => by unfold sV_mos; rw [if_neg (by omega), if_neg (by omega), if_neg (by omega), if_neg (by omega), if_pos (by omega)]; exact (jv60_0.trans (by rw [show m60_L_4.toInt.toNat - 1 = np.toInt.toNat - 1 by omega])).trans (zAn_c _ (by omega) (fun j hj => hc.2.2 _ (by have := hb.1.2; omega)))), ⟨by rw [ht]; exact hP, hD⟩⟩, hS.F ht⟩) hS.2.2 dX11_most_143
                · have c66 : m60_L_4.toInt < np.toInt := z4 rfl rfl c66
                  refine lv_aload_n hx hb dX11_most_69 rfl (lv_at hl 3 rfl) ?_
                  refine lv_iload hx hb dX11_most_70 (lv_at hl 0 rfl) ?_
                  refine lv_iconst (v := 1) hx hb dX11_most_72 (by decide) ?_
                  obtain ⟨hPc, hDc⟩ := zc2 (wc := [(h0, .inr (11, [.int th, .ref tB, .int tsz, .int tat, .int wr, .int dp, .ref rC, .ref rV, .ref rD, .ref rK, .ref rT, .ref rS, .ref rU, .int lw, .int tx, .ref rL, .ref rX, .ref qR, .ref qB, .ref qP, .int qnb, .int qnp, .ref aR, .ref aB, .ref aP, .int nb, .int np, .ref aN, .ref rf, .int ho, .int br, .ref aK, .int ac, .long dw, .ref aE, .int sr, .int sf, .ref aA, .ref aH, .ref aI, .int hi])), (aP, .inl (cI, 20, .inl fPa))]) hP hD [0, 10] (by decide +kernel) rfl
                  have hFc := zfr hS hA
                  refine va_calli (va_runV (As := [.int m60_L_4, .int 1]) (rest := []) ⟨hx, hb, hml, hown, hts⟩ (g_X11_by_1 l dC dI cI cJ h0 m60_L_4 th tB tsz tat wr dp rC rV rD rK rT rS rU lw tx rL rX qR qB qP qnb qnp aR aB aP nb np aN rf ho br aK ac dw aE sr sf aA aH aI hi fPa H.size y_ac y_hi y_ho y_lw n_nb n_np (by omega) y_qnb y_qnp y_tat y_tsz y_wr) (cwV 2 hts (zgV qw1390 qw1392 qw55 qw108 qw1393) rfl rfl rfl hd_X11_by ⟨by rw [hR]; exact Nat.le_of_ble_eq_true rfl, by rw [hR]; exact Nat.le_of_ble_eq_true rfl⟩) (zPV hPc hK hDc (va_recv (q := (RX11, TX11, 41)) hK hP (ci := 11) (q0 := 0) rfl rfl)) rfl rfl hl.1 rfl (lv_room (Nat.le_of_ble_eq_true rfl)) dX11_most_73 ⟨Nat.zero_le _, Nat.zero_le _⟩) hS (fun q _ h => hFc q h) hFc (fun v73 u73 t H locs ht hvm hw hB hz1 hk1 hS9 => ?_)
                  replace hP := zkeep hP hk1
                  replace hS := hS9
                  clear hPc hDc hFc hk1 hz1 hvm hS9
                  obtain ⟨f73_0, f73_1⟩ : (v73.toInt = (fPa (4 * m60_L_4.toInt.toNat + 1)).toInt) ∧ (v73 = fPa (4 * m60_L_4.toInt.toNat + 1)) := hw
                  have F73 := f73_1
                  refine lv_aload_n hx hb dX11_most_76 rfl (lv_at hl 3 rfl) ?_
                  refine lv_iload_n hx hb dX11_most_77 rfl (lv_at hl 1 rfl) ?_
                  refine lv_iconst (v := 1) hx hb dX11_most_78 (by decide) ?_
                  obtain ⟨hPc, hDc⟩ := zc2 (wc := [(h0, .inr (11, [.int th, .ref tB, .int tsz, .int tat, .int wr, .int dp, .ref rC, .ref rV, .ref rD, .ref rK, .ref rT, .ref rS, .ref rU, .int lw, .int tx, .ref rL, .ref rX, .ref qR, .ref qB, .ref qP, .int qnb, .int qnp, .ref aR, .ref aB, .ref aP, .int nb, .int np, .ref aN, .ref rf, .int ho, .int br, .ref aK, .int ac, .long dw, .ref aE, .int sr, .int sf, .ref aA, .ref aH, .ref aI, .int hi])), (aP, .inl (cI, 20, .inl fPa))]) hP hD [0, 10] (by decide +kernel) rfl
                  have hFc := zfr hS hA
                  refine va_calli (va_runV (As := [.int m60_L_3, .int 1]) (rest := [.int v73]) ⟨hx, hb, hml, hown, hts⟩ (g_X11_by_1 l dC dI cI cJ h0 m60_L_3 th tB tsz tat wr dp rC rV rD rK rT rS rU lw tx rL rX qR qB qP qnb qnp aR aB aP nb np aN rf ho br aK ac dw aE sr sf aA aH aI hi fPa H.size y_ac y_hi y_ho y_lw n_nb n_np jf60_0 y_qnb y_qnp y_tat y_tsz y_wr) (cwV 2 hts (zgV qw1390 qw1392 qw55 qw108 qw1393) rfl rfl rfl hd_X11_by ⟨by rw [hR]; exact Nat.le_of_ble_eq_true rfl, by rw [hR]; exact Nat.le_of_ble_eq_true rfl⟩) (zPV hPc hK hDc (va_recv (q := (RX11, TX11, 41)) hK hP (ci := 11) (q0 := 0) rfl rfl)) rfl rfl hl.1 rfl (lv_room (Nat.le_of_ble_eq_true rfl)) dX11_most_79 ⟨Nat.zero_le _, Nat.zero_le _⟩) hS (fun q _ h => hFc q h) hFc (fun v79 u79 t H locs ht hvm hw hB hz1 hk1 hS9 => ?_)
                  replace hP := zkeep hP hk1
                  replace hS := hS9
                  clear hPc hDc hFc hk1 hz1 hvm hS9
                  obtain ⟨f79_0, f79_1⟩ : (v79.toInt = (fPa (4 * m60_L_3.toInt.toNat + 1)).toInt) ∧ (v79 = fPa (4 * m60_L_3.toInt.toNat + 1)) := hw
                  have F79 := f79_1
                  refine lv_icmp_ge (tgt := 90) hx hb dX11_most_82 (by decide) (fun c82 => ?_) (fun c82 => ?_)
                  · have c82 : v79.toInt ≤ v73.toInt := z3 rfl rfl c82
                    refine lv_iload_n hx hb dX11_most_90 rfl (lv_at hl 1 rfl) ?_
                    refine lv_istore_n (lv' := [(3, .int m60_L_3), (4, .int m60_L_4), (2, .int m22_L_2), (0, .ref h0), (1, .int p0)]) hx hb dX11_most_91 rfl hl (by decide) rfl (fun ls hl => ?_)
                    obtain ⟨v92, e92⟩ : ∃ y : Int32, y = m60_L_4 + Int32.ofInt (1) := ⟨_, rfl⟩
                    refine lv_iinc (v := v92) (lv' := [(4, .int v92), (3, .int m60_L_3), (2, .int m22_L_2), (0, .ref h0), (1, .int p0)]) hx hb dX11_most_92 hl (k := 1) rfl e92.symm (by decide) rfl (fun ls hl => ?_)
                    have i92 : v92.toInt = m60_L_4.toInt + 1 := zaddI e92 (by decide) (by omega) (by omega)
                    refine lv_goto (tgt := 60) hx hb dX11_most_95 (by decide) ?_
                    exact ih60 _ (by omega) m60_L_3 v92 jf60_0 (by omega) (by omega) (by first | exact zAnS (B := (fun j => fPa (4 * j + 1))) jv60_0 (by omega) i92 F73 F79 (Or.inl ⟨by omega, rfl⟩) | exact zAnS (B := (fun j => fPa (4 * j + 1))) jv60_0 (by omega) i92 F73 F79 (Or.inr ⟨by omega, rfl⟩)) rfl H locs ls hP hD hS (lv_sub hl [0, 1, 2, 3, 4] rfl)
                  · have c82 : v73.toInt < v79.toInt := z4 rfl rfl c82
                    refine lv_iload hx hb dX11_most_85 (lv_at hl 0 rfl) ?_
                    refine lv_goto (tgt := 91) hx hb dX11_most_87 (by decide) ?_
                    refine lv_istore_n (lv' := [(3, .int m60_L_4), (4, .int m60_L_4), (2, .int m22_L_2), (0, .ref h0), (1, .int p0)]) hx hb dX11_most_91 rfl hl (by decide) rfl (fun ls hl => ?_)
                    obtain ⟨v92, e92⟩ : ∃ y : Int32, y = m60_L_4 + Int32.ofInt (1) := ⟨_, rfl⟩
                    refine lv_iinc (v := v92) (lv' := [(4, .int v92), (3, .int m60_L_4), (2, .int m22_L_2), (0, .ref h0), (1, .int p0)]) hx hb dX11_most_92 hl (k := 1) rfl e92.symm (by decide) rfl (fun ls hl => ?_)
                    have i92 : v92.toInt = m60_L_4.toInt + 1 := zaddI e92 (by decide) (by omega) (by omega)
                    refine lv_goto (tgt := 60) hx hb dX11_most_95 (by decide) ?_
                    exact ih60 _ (by omega) m60_L_4 v92 (by omega) (by omega) (by omega) (by first | exact zAnS (B := (fun j => fPa (4 * j + 1))) jv60_0 (by omega) i92 F73 F79 (Or.inl ⟨by omega, rfl⟩) | exact zAnS (B := (fun j => fPa (4 * j + 1))) jv60_0 (by omega) i92 F73 F79 (Or.inr ⟨by omega, rfl⟩)) rfl H locs ls hP hD hS (lv_sub hl [0, 1, 2, 3, 4] rfl)
            refine lv_istore (lv' := [(4, .int 1), (3, .int 0), (2, .int m22_L_2), (0, .ref h0), (1, .int p0)]) hx hb dX11_most_58 hl (by decide) rfl (fun ls hl => ?_)
            have zj60_m60_L_3 : (0 : Int32).toInt = 0 := by decide
            have zj60_m60_L_4 : (1 : Int32).toInt = 1 := by decide
            exact J60 _ 0 1 (by decide) (by decide) (by omega) (rfl) rfl H locs ls hP hD hS (lv_sub hl [0, 1, 2, 3, 4] rfl)
          · have c27 : m22_L_3.toInt < nb.toInt := z4 rfl rfl c27
            refine lv_iload_n hx hb dX11_most_30 rfl (lv_at hl 1 rfl) ?_
            refine lv_aload_n hx hb dX11_most_31 rfl (lv_at hl 2 rfl) ?_
            refine lv_iload_n hx hb dX11_most_32 rfl (lv_at hl 0 rfl) ?_
            obtain ⟨hPc, hDc, hFc⟩ := zc3 (wc := [(h0, .inr (11, [.int th, .ref tB, .int tsz, .int tat, .int wr, .int dp, .ref rC, .ref rV, .ref rD, .ref rK, .ref rT, .ref rS, .ref rU, .int lw, .int tx, .ref rL, .ref rX, .ref qR, .ref qB, .ref qP, .int qnb, .int qnp, .ref aR, .ref aB, .ref aP, .int nb, .int np, .ref aN, .ref rf, .int ho, .int br, .ref aK, .int ac, .long dw, .ref aE, .int sr, .int sf, .ref aA, .ref aH, .ref aI, .int hi])), (rC, .inl (cI, 2600, .inl fC)), (rV, .inl (cI, 2600, .inl fV)), (rK, .inl (cI, 5, .inl fK)), (rT, .inl (cI, 700, .inl fT)), (rS, .inl (cI, 700, .inl fS)), (rU, .inl (cI, 700, .inl fU)), (rL, .inl (cI, 6, .inl m22_A_rL)), (rX, .inl (cI, 80, .inl m22_A_rX)), (aB, .inl (cI, 24, .inl fBr)), (aP, .inl (cI, 20, .inl fPa)), (aN, .inl (cI, 97, .inl fN)), (aE, .inl (cI, 10, .inl m22_A_aE))]) hP hD hS hA [0, 1, 2, 3, 4, 5, 6, 7, 8, 9, 10, 11, 12] (by decide +kernel) rfl
            refine va_calli (va_runV (As := [.int m22_L_3]) (rest := [.int m22_L_2]) ⟨hx, hb, hml, hown, hts⟩ (g_X11_likelyOf l dC dI cI cJ h0 m22_L_3 th tB tsz tat wr dp rC rV rD rK rT rS rU lw tx rL rX qR qB qP qnb qnp aR aB aP nb np aN rf ho br aK ac dw aE sr sf aA aH aI hi fC fV fK fT fS fU m22_A_rL m22_A_rX fBr fPa fN m22_A_aE H.size y_ac y_hi y_ho y_lw n_nb n_np (by omega) y_qnb y_qnp y_tat y_tsz y_wr (hls) (by omega) ci_fBr_zBr_nb ci_fN_zNw_np ci_fPa_zBr_np) (cwV 1 hts (zgV qw1600 qw1602 qw80 qw108 qw1603) rfl rfl rfl hd_X11_likelyOf ⟨by rw [hR]; exact Nat.le_of_ble_eq_true rfl, by rw [hR]; exact Nat.le_of_ble_eq_true rfl⟩) (zPV hPc hK hDc (va_recv (q := (RX11, TX11, 41)) hK hP (ci := 11) (q0 := 0) rfl rfl)) rfl rfl hl.1 rfl (lv_room (Nat.le_of_ble_eq_true rfl)) dX11_most_33 ⟨Nat.zero_le _, Nat.zero_le _⟩) hS (fun q _ h => hFc q h) hFc (fun v33 u33 t H locs ht hvm hw hB hz1 hk1 hS9 => ?_)
            obtain ⟨u33_0, u33_1, u33_2⟩ := u33
            obtain ⟨hP9, hD9⟩ := zj2 (wX := [(h0, .inr (11, [.int th, .ref tB, .int tsz, .int tat, .int wr, .int dp, .ref rC, .ref rV, .ref rD, .ref rK, .ref rT, .ref rS, .ref rU, .int lw, .int tx, .ref rL, .ref rX, .ref qR, .ref qB, .ref qP, .int qnb, .int qnp, .ref aR, .ref aB, .ref aP, .int nb, .int np, .ref aN, .ref rf, .int ho, .int br, .ref aK, .int ac, .long dw, .ref aE, .int sr, .int sf, .ref aA, .ref aH, .ref aI, .int hi])), (rC, .inl (cI, 2600, .inl fC)), (rV, .inl (cI, 2600, .inl fV)), (rK, .inl (cI, 5, .inl fK)), (rT, .inl (cI, 700, .inl fT)), (rS, .inl (cI, 700, .inl fS)), (rU, .inl (cI, 700, .inl fU)), (rL, .inl (cI, 6, .inl u33_0)), (rX, .inl (cI, 80, .inl u33_1)), (aB, .inl (cI, 24, .inl fBr)), (aP, .inl (cI, 20, .inl fPa)), (aN, .inl (cI, 97, .inl fN)), (aE, .inl (cI, 10, .inl u33_2))]) hP hD hk1 hFc ht hB [0, 1, 2, 3, 4, 5, 6, 7, 8, 9, 10, 11, 12] [(true, 0), (true, 1), (true, 2), (true, 3), (true, 4), (true, 5), (true, 6), (true, 7), (true, 8), (true, 9), (true, 10), (true, 11), (true, 12)] rfl (by decide +kernel) (by decide +kernel) rfl
            clear hP hD hS hPc hDc hFc hB hk1 hz1 hvm
            have hP := hP9
            have hD := hD9
            have hS := hS9
            clear hP9 hD9 hS9
            obtain ⟨f33_0, f33_1, f33_2⟩ : (0 ≤ v33.toInt) ∧ (v33.toInt ≤ 9) ∧ (∀ (kc : zK3) (kT : zT) (q_fR : Nat → Int32) (kl : Option ((Int → Int) × Int)), zCn q_fR fBr fPa nb.toInt np.toInt kc → zKo nb.toInt np.toInt kc kT → zSr nb.toInt np.toInt kT.1 fN → zLwR ho fC fV fK fT fS fU kl → v33 = sLi kc kT.1 kl m22_L_3 ∧ ∀ j : Nat, j < 10 → u33_2 j = sBl kc kT.1 kl m22_L_3 j) := hw
            have F33 := f33_2
            refine lv_iconst (v := 5) hx hb dX11_most_36 (by decide) ?_
            refine lv_icmp_ge (tgt := 46) hx hb dX11_most_37 (by decide) (fun c37 => ?_) (fun c37 => ?_)
            · have c37 : 5 ≤ v33.toInt := z3 (by decide) rfl c37
              refine lv_iconst (v := 0) hx hb dX11_most_46 (by decide) ?_
              refine lv_ior hx hb dX11_most_47 ?_
              refine lv_topi (fun v47 e47 => ?_)
              refine lv_istore_n (lv' := [(2, .int v47), (3, .int m22_L_3), (0, .ref h0), (1, .int p0)]) hx hb dX11_most_48 rfl hl (by decide) rfl (fun ls hl => ?_)
              obtain ⟨v49, e49⟩ : ∃ y : Int32, y = m22_L_3 + Int32.ofInt (1) := ⟨_, rfl⟩
              refine lv_iinc (v := v49) (lv' := [(3, .int v49), (2, .int v47), (0, .ref h0), (1, .int p0)]) hx hb dX11_most_49 hl (k := 1) rfl e49.symm (by decide) rfl (fun ls hl => ?_)
              have i49 : v49.toInt = m22_L_3.toInt + 1 := zaddI e49 (by decide) (by omega) (by omega)
              refine lv_goto (tgt := 22) hx hb dX11_most_52 (by decide) ?_
              exact ih22 _ (by omega) u33_2 u33_0 u33_1 v47 v49 (by omega) (fun kc kT q_fR kl hc hb h hL => by first | exact zPlY (jv22_0 kc kT _ kl hc hb h hL) (by omega) i49 (F33 kc kT _ kl hc hb h hL).1 (by omega) e42 e47 | exact (zor0 e47 rfl).trans (zPlN (jv22_0 kc kT _ kl hc hb h hL) (by omega) i49 (F33 kc kT _ kl hc hb h hL).1 (by omega))) (by omega) rfl H locs ls hP hD hS (lv_sub hl [0, 1, 2, 3] rfl)
            · have c37 : v33.toInt < 5 := z4 (by decide) rfl c37
              refine lv_iconst (v := 1) hx hb dX11_most_40 (by decide) ?_
              refine lv_iload_n hx hb dX11_most_41 rfl (lv_at hl 0 rfl) ?_
              refine lv_ishl hx hb dX11_most_42 ?_
              refine lv_topi (fun v42 e42 => ?_)
              have i42 : 1 ≤ v42.toInt ∧ v42.toInt ≤ 32 := zshl1 e42 (by omega) (by omega)
              refine lv_goto (tgt := 47) hx hb dX11_most_43 (by decide) ?_
              refine lv_ior hx hb dX11_most_47 ?_
              refine lv_topi (fun v47 e47 => ?_)
              refine lv_istore_n (lv' := [(2, .int v47), (3, .int m22_L_3), (0, .ref h0), (1, .int p0)]) hx hb dX11_most_48 rfl hl (by decide) rfl (fun ls hl => ?_)
              obtain ⟨v49, e49⟩ : ∃ y : Int32, y = m22_L_3 + Int32.ofInt (1) := ⟨_, rfl⟩
              refine lv_iinc (v := v49) (lv' := [(3, .int v49), (2, .int v47), (0, .ref h0), (1, .int p0)]) hx hb dX11_most_49 hl (k := 1) rfl e49.symm (by decide) rfl (fun ls hl => ?_)
              have i49 : v49.toInt = m22_L_3.toInt + 1 := zaddI e49 (by decide) (by omega) (by omega)
              refine lv_goto (tgt := 22) hx hb dX11_most_52 (by decide) ?_
              exact ih22 _ (by omega) u33_2 u33_0 u33_1 v47 v49 (by omega) (fun kc kT q_fR kl hc hb h hL => by first | exact zPlY (jv22_0 kc kT _ kl hc hb h hL) (by omega) i49 (F33 kc kT _ kl hc hb h hL).1 (by omega) e42 e47 | exact (zor0 e47 rfl).trans (zPlN (jv22_0 kc kT _ kl hc hb h hL) (by omega) i49 (F33 kc kT _ kl hc hb h hL).1 (by omega))) (by omega) rfl H locs ls hP hD hS (lv_sub hl [0, 1, 2, 3] rfl)
      refine lv_istore_n (lv' := [(3, .int 0), (2, .int 0), (0, .ref h0), (1, .int p0)]) hx hb dX11_most_21 rfl hl (by decide) rfl (fun ls hl => ?_)
      have zj22_m22_L_2 : (0 : Int32).toInt = 0 := by decide
      have zj22_m22_L_3 : (0 : Int32).toInt = 0 := by decide
      exact J22 _ fE fL fX 0 0 (by decide) (fun kc kT q_fR kl hc hb h hL => rfl) (by omega) rfl H locs ls hP hD hS (lv_sub hl [0, 1, 2, 3] rfl)
    · have c13 : v10.toInt = 0 := z5 rfl (by decide) c13
      refine lv_iconst (v := (-1)) hx hb dX11_most_16 (by decide) ?_
      have zr0 : ((-1) : Int32).toInt = (-1) := by decide
      rw [hQ]
      exact W.iret (v := ((-1))) hx hb hr (fun t ht hW => ⟨⟨(-1), (fL, fX, fE), rfl, (by (try dsimp only); exact fun kc kT q_fR q_fKp q_frf kl hc hb h hL => by first | (unfold sV_mos; rw [if_pos (by omega)]) | (unfold sV_mos; rw [if_neg (by omega), if_neg (by omega), if_neg (by omega), if_neg (by omega), if_neg (by omega), if_neg (by omega)])), ⟨by rw [ht]; exact hP, hD⟩⟩, hS.F ht⟩) hS.2.2 dX11_most_17
