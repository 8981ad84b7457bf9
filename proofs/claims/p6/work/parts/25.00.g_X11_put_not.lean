set_option maxHeartbeats 4000000 in
set_option maxRecDepth 100000 in
theorem g_X11_put_num (l : Launch) (dC : Nat → ClassId) (dI : Nat → Nat → Nat) (cI cJ : ClassId) (h0 : Nat) (p1 : Int32) (th : Int32) (tB : Nat) (tsz : Int32) (tat : Int32) (wr : Int32) (dp : Int32) (rC : Nat) (rV : Nat) (rD : Nat) (rK : Nat) (rT : Nat) (rS : Nat) (rU : Nat) (lw : Int32) (tx : Int32) (rL : Nat) (rX : Nat) (qR : Nat) (qB : Nat) (qP : Nat) (qnb : Int32) (qnp : Int32) (aR : Nat) (aB : Nat) (aP : Nat) (nb : Int32) (np : Int32) (aN : Nat) (rf : Nat) (ho : Int32) (br : Int32) (aK : Nat) (ac : Int32) (dw : Int64) (aE : Nat) (sr : Int32) (sf : Int32) (aA : Nat) (aH : Nat) (aI : Nat) (hi : Int32) (fC : Nat → Int32) (fV : Nat → Int32) (fD : Nat → Int32) (gC : Nat → Int32) (gV : Nat → Int32) (fz : Nat) (k : Nat) (st : Nat) (h : Nat) (sz : Nat) (n_ac : 0 ≤ ac.toInt ∧ ac.toInt ≤ 40) (n_hi : 0 ≤ hi.toInt ∧ hi.toInt ≤ 1) (n_ho : (-1) ≤ ho.toInt ∧ ho.toInt ≤ 3) (n_lw : 0 ≤ lw.toInt ∧ lw.toInt ≤ 4) (n_nb : 0 ≤ nb.toInt ∧ nb.toInt ≤ 6) (n_np : 0 ≤ np.toInt ∧ np.toInt ≤ 5) (n_qnb : 0 ≤ qnb.toInt ∧ qnb.toInt ≤ 6) (n_qnp : 0 ≤ qnp.toInt ∧ qnp.toInt ≤ 5) (n_tat : 0 ≤ tat.toInt ∧ tat.toInt ≤ 258) (n_tsz : 0 ≤ tsz.toInt ∧ tsz.toInt ≤ 240) (n_tx : 0 ≤ tx.toInt ∧ tx.toInt ≤ 4) (n_wr : (-1) ≤ wr.toInt ∧ wr.toInt ≤ 260) (hpar : zPar wr tat fC fV fD tx gC gV fz (k + 1) st (h)) (hh : h + 1 ≤ 80)   : Met l yX11_put (.code yX11_put cX11_put 3 none :: wA) ({ frames := 0, cells := 0, slots := 0, locals := 0 }) (zP (dC, dI) [(cI, .int), (cJ, .long)] [.ref h0, .int 0, .int p1] sz [(h0, .inr (11, [.int th, .ref tB, .int tsz, .int tat, .int wr, .int dp, .ref rC, .ref rV, .ref rD, .ref rK, .ref rT, .ref rS, .ref rU, .int lw, .int tx, .ref rL, .ref rX, .ref qR, .ref qB, .ref qP, .int qnb, .int qnp, .ref aR, .ref aB, .ref aP, .int nb, .int np, .ref aN, .ref rf, .int ho, .int br, .ref aK, .int ac, .long dw, .ref aE, .int sr, .int sf, .ref aA, .ref aH, .ref aI, .int hi])), (rC, .inl (cI, 2600, .inl fC)), (rV, .inl (cI, 2600, .inl fV)), (rD, .inl (cI, 5, .inl fD))]) (va_Qv (fun (u : (Nat → Int32) × (Nat → Int32) × (Nat → Int32)) => (zEr fC fV (520 * tx.toInt.toNat) (fD tx.toInt.toNat).toInt ([(1, p1.toInt)]) u.1 u.2.1 (u.2.2 tx.toInt.toNat).toInt) ∧ (zPar wr tat u.1 u.2.1 u.2.2 tx gC gV fz (k) st (h + 1))) (fun (u : (Nat → Int32) × (Nat → Int32) × (Nat → Int32)) (t : State) => va_P (dC, dI) vwCl [(h0, .inr (11, [.int th, .ref tB, .int tsz, .int tat, .int wr, .int dp, .ref rC, .ref rV, .ref rD, .ref rK, .ref rT, .ref rS, .ref rU, .int lw, .int tx, .ref rL, .ref rX, .ref qR, .ref qB, .ref qP, .int qnb, .int qnp, .ref aR, .ref aB, .ref aP, .int nb, .int np, .ref aN, .ref rf, .int ho, .int br, .ref aK, .int ac, .long dw, .ref aE, .int sr, .int sf, .ref aA, .ref aH, .ref aI, .int hi])), (rC, .inl (cI, 2600, .inl u.1)), (rV, .inl (cI, 2600, .inl u.2.1)), (rD, .inl (cI, 5, .inl u.2.2))] t.heap ∧ va_D (va_A [(h0, .inr (11, [.int th, .ref tB, .int tsz, .int tat, .int wr, .int dp, .ref rC, .ref rV, .ref rD, .ref rK, .ref rT, .ref rS, .ref rU, .int lw, .int tx, .ref rL, .ref rX, .ref qR, .ref qB, .ref qP, .int qnb, .int qnp, .ref aR, .ref aB, .ref aP, .int nb, .int np, .ref aN, .ref rf, .int ho, .int br, .ref aK, .int ac, .long dw, .ref aE, .int sr, .int sf, .ref aA, .ref aH, .ref aI, .int hi])), (rC, .inl (cI, 2600, .inl fC)), (rV, .inl (cI, 2600, .inl fV)), (rD, .inl (cI, 5, .inl fD))] sz) [(h0, .inr (11, [.int th, .ref tB, .int tsz, .int tat, .int wr, .int dp, .ref rC, .ref rV, .ref rD, .ref rK, .ref rT, .ref rS, .ref rU, .int lw, .int tx, .ref rL, .ref rX, .ref qR, .ref qB, .ref qP, .int qnb, .int qnp, .ref aR, .ref aB, .ref aP, .int nb, .int np, .ref aN, .ref rf, .int ho, .int br, .ref aK, .int ac, .long dw, .ref aE, .int sr, .int sf, .ref aA, .ref aH, .ref aI, .int hi])), (rC, .inl (cI, 2600, .inl u.1)), (rV, .inl (cI, 2600, .inl u.2.1)), (rD, .inl (cI, 5, .inl u.2.2))]) (va_A [(h0, .inr (11, [.int th, .ref tB, .int tsz, .int tat, .int wr, .int dp, .ref rC, .ref rV, .ref rD, .ref rK, .ref rT, .ref rS, .ref rU, .int lw, .int tx, .ref rL, .ref rX, .ref qR, .ref qB, .ref qP, .int qnb, .int qnp, .ref aR, .ref aB, .ref aP, .int nb, .int np, .ref aN, .ref rf, .int ho, .int br, .ref aK, .int ac, .long dw, .ref aE, .int sr, .int sf, .ref aA, .ref aH, .ref aI, .int hi])), (rC, .inl (cI, 2600, .inl fC)), (rV, .inl (cI, 2600, .inl fV)), (rD, .inl (cI, 5, .inl fD))] sz)) 0 0 (va_A [(h0, .inr (11, [.int th, .ref tB, .int tsz, .int tat, .int wr, .int dp, .ref rC, .ref rV, .ref rD, .ref rK, .ref rT, .ref rS, .ref rU, .int lw, .int tx, .ref rL, .ref rX, .ref qR, .ref qB, .ref qP, .int qnb, .int qnp, .ref aR, .ref aB, .ref aP, .int nb, .int np, .ref aN, .ref rf, .int ho, .int br, .ref aK, .int ac, .long dw, .ref aE, .int sr, .int sf, .ref aA, .ref aH, .ref aI, .int hi])), (rC, .inl (cI, 2600, .inl fC)), (rV, .inl (cI, 2600, .inl fV)), (rD, .inl (cI, 5, .inl fD))] sz) := by
  refine Met.ofW (cc := cX11_put) (maxL := 3) (ret := none) (by decide) rfl ?_
  intro p e s m args below meth c s₁ B hml hv
  obtain ⟨hargs, hsz, hP, hK, hT⟩ := hv
  have hx := B.exec
  have hb := B.bytes
  have hr := B.returns
  have hts : ∀ w ∈ wA, w.before args s = true := fun w h => atoms_spec (ws := .code yX11_put cX11_put 3 none :: wA) B.pre w (List.mem_cons_of_mem _ h)
  have hown : s.vm.findClass RX11 = some m.cls := findClass_of_methodNamed B.named
  have hlocks := B.notSynchronized
  subst hsz
  have hD := hT.self (sz := s.heap.size)
  generalize hAe : va_A [(h0, .inr (11, [.int th, .ref tB, .int tsz, .int tat, .int wr, .int dp, .ref rC, .ref rV, .ref rD, .ref rK, .ref rT, .ref rS, .ref rU, .int lw, .int tx, .ref rL, .ref rX, .ref qR, .ref qB, .ref qP, .int qnb, .int qnp, .ref aR, .ref aB, .ref aP, .int nb, .int np, .ref aN, .ref rf, .int ho, .int br, .ref aK, .int ac, .long dw, .ref aE, .int sr, .int sf, .ref aA, .ref aH, .ref aI, .int hi])), (rC, .inl (cI, 2600, .inl fC)), (rV, .inl (cI, 2600, .inl fV)), (rD, .inl (cI, 5, .inl fD))] s.heap.size = A at hD ⊢
  have hA : ∀ q : Nat, s.heap.size ≤ q → A q := fun q h => by rw [← hAe]; exact Or.inr h
  have hl := lv_entry ([.ref h0, .int 0, .int p1]) (n := 3) (Nat.le_of_ble_eq_true rfl)
  rw [show entryFrame m args 3 = entryFrame m ([.ref h0, .int 0, .int p1] : List Value).toArray 3 by rw [hargs], lg_entry_eq]
  generalize (lg_sl ([.ref h0, .int 0, .int p1]) ++ List.replicate (3 - (lg_sl ([.ref h0, .int 0, .int p1])).length) Slot.unset).toArray = ls at hl ⊢
  have hl : lv_has ls 3 [(0, .ref h0), (1, .int 0), (2, .int p1)] := hl
  refine zstart (fun H hH => ?_)
  rw [← hH] at hP
  have hS : va_S A s.heap H [] := by rw [hH]; exact va_S.rf
  generalize ([] : List Loc) = locs at hS ⊢
  refine zgen (fun R Q hR hQ => ?_)
  have zm1 : (-1 : Int32).toInt = -1 := by decide
  refine lv_aload_n hx hb dX11_put_0 rfl (lv_at hl 0 rfl) ?_
  refine va_get (D := (dC, dI)) (ci := 11) (v := .ref rC) (C := RX11) (T := TX11) (N := 41) hx hb hts iX11 hown hK hP 0 rfl rfl 6 (by decide) (hts _ qw1133) (fun _ h9 => h9) rfl dX11_put_1 ?_
  refine lv_sipush (v := 520) hx hb dX11_put_4 (by decide) ?_
  refine lv_aload_n hx hb dX11_put_7 rfl (lv_at hl 0 rfl) ?_
  refine va_get (D := (dC, dI)) (ci := 11) (v := .int tx) (C := RX11) (T := TX11) (N := 41) hx hb hts iX11 hown hK hP 0 rfl rfl 14 (by decide) (hts _ qw1141) (fun _ h9 => h9) rfl dX11_put_8 ?_
  refine lv_imul hx hb dX11_put_11 ?_
  refine lv_topi (fun v11 e11 => ?_)
  have i11 : v11.toInt = 520 * tx.toInt := zmul e11 (by decide) rfl (by omega) (by omega)
  refine lv_aload_n hx hb dX11_put_12 rfl (lv_at hl 0 rfl) ?_
  refine va_get (D := (dC, dI)) (ci := 11) (v := .ref rD) (C := RX11) (T := TX11) (N := 41) hx hb hts iX11 hown hK hP 0 rfl rfl 8 (by decide) (hts _ qw1135) (fun _ h9 => h9) rfl dX11_put_13 ?_
  refine lv_aload_n hx hb dX11_put_16 rfl (lv_at hl 0 rfl) ?_
  refine va_get (D := (dC, dI)) (ci := 11) (v := .int tx) (C := RX11) (T := TX11) (N := 41) hx hb hts iX11 hown hK hP 0 rfl rfl 14 (by decide) (hts _ qw1141) (fun _ h9 => h9) rfl dX11_put_17 ?_
  refine va_iald hx hb hK hP 3 0 rfl rfl (vp_in_iff.mpr ⟨by omega, by omega⟩) dX11_put_20 ?_
  refine lv_topi (fun v20 e20 => ?_)
  have i20 : v20.toInt = (fD tx.toInt.toNat).toInt ∧ 0 ≤ v20.toInt ∧ v20.toInt ≤ 518 := zPar_d hpar e20 rfl (by omega)
  refine lv_iadd hx hb dX11_put_21 ?_
  refine lv_topi (fun v21 e21 => ?_)
  have i21 : v21.toInt = v11.toInt + v20.toInt := zadd e21 rfl rfl (by omega) (by omega)
  refine lv_iload_n hx hb dX11_put_22 rfl (lv_at hl 1 rfl) ?_
  refine va_iast hx hb hK hP hD hS 1 0 rfl rfl (vp_in_iff.mpr ⟨by omega, by omega⟩) dX11_put_23 (fun H locs hP hD hS => ?_)
  obtain ⟨v23_f, e23⟩ : ∃ g : Nat → Int32, g = upd fC (v21).toNatClampNeg 0 := ⟨_, rfl⟩
  rw [← e23] at hP hD
  have hP : va_P (dC, dI) vwCl [(h0, .inr (11, [.int th, .ref tB, .int tsz, .int tat, .int wr, .int dp, .ref rC, .ref rV, .ref rD, .ref rK, .ref rT, .ref rS, .ref rU, .int lw, .int tx, .ref rL, .ref rX, .ref qR, .ref qB, .ref qP, .int qnb, .int qnp, .ref aR, .ref aB, .ref aP, .int nb, .int np, .ref aN, .ref rf, .int ho, .int br, .ref aK, .int ac, .long dw, .ref aE, .int sr, .int sf, .ref aA, .ref aH, .ref aI, .int hi])), (rC, .inl (cI, 2600, .inl v23_f)), (rV, .inl (cI, 2600, .inl fV)), (rD, .inl (cI, 5, .inl fD))] H := hP
  have hD : va_D A [(h0, .inr (11, [.int th, .ref tB, .int tsz, .int tat, .int wr, .int dp, .ref rC, .ref rV, .ref rD, .ref rK, .ref rT, .ref rS, .ref rU, .int lw, .int tx, .ref rL, .ref rX, .ref qR, .ref qB, .ref qP, .int qnb, .int qnp, .ref aR, .ref aB, .ref aP, .int nb, .int np, .ref aN, .ref rf, .int ho, .int br, .ref aK, .int ac, .long dw, .ref aE, .int sr, .int sf, .ref aA, .ref aH, .ref aI, .int hi])), (rC, .inl (cI, 2600, .inl v23_f)), (rV, .inl (cI, 2600, .inl fV)), (rD, .inl (cI, 5, .inl fD))] := hD
  refine lv_aload_n hx hb dX11_put_24 rfl (lv_at hl 0 rfl) ?_
  refine va_get (D := (dC, dI)) (ci := 11) (v := .ref rV) (C := RX11) (T := TX11) (N := 41) hx hb hts iX11 hown hK hP 0 rfl rfl 7 (by decide) (hts _ qw1134) (fun _ h9 => h9) rfl dX11_put_25 ?_
  refine lv_sipush (v := 520) hx hb dX11_put_28 (by decide) ?_
  refine lv_aload_n hx hb dX11_put_31 rfl (lv_at hl 0 rfl) ?_
  refine va_get (D := (dC, dI)) (ci := 11) (v := .int tx) (C := RX11) (T := TX11) (N := 41) hx hb hts iX11 hown hK hP 0 rfl rfl 14 (by decide) (hts _ qw1141) (fun _ h9 => h9) rfl dX11_put_32 ?_
  refine lv_imul hx hb dX11_put_35 ?_
  refine lv_topi (fun v35 e35 => ?_)
  have i35 : v35.toInt = 520 * tx.toInt := zmul e35 (by decide) rfl (by omega) (by omega)
  refine lv_aload_n hx hb dX11_put_36 rfl (lv_at hl 0 rfl) ?_
  refine va_get (D := (dC, dI)) (ci := 11) (v := .ref rD) (C := RX11) (T := TX11) (N := 41) hx hb hts iX11 hown hK hP 0 rfl rfl 8 (by decide) (hts _ qw1135) (fun _ h9 => h9) rfl dX11_put_37 ?_
  refine lv_aload_n hx hb dX11_put_40 rfl (lv_at hl 0 rfl) ?_
  refine va_get (D := (dC, dI)) (ci := 11) (v := .int tx) (C := RX11) (T := TX11) (N := 41) hx hb hts iX11 hown hK hP 0 rfl rfl 14 (by decide) (hts _ qw1141) (fun _ h9 => h9) rfl dX11_put_41 ?_
  refine va_iald hx hb hK hP 3 0 rfl rfl (vp_in_iff.mpr ⟨by omega, by omega⟩) dX11_put_44 ?_
  refine lv_topi (fun v44 e44 => ?_)
  have i44 : v44.toInt = (fD tx.toInt.toNat).toInt ∧ 0 ≤ v44.toInt ∧ v44.toInt ≤ 518 := zPar_d hpar e44 rfl (by omega)
  refine lv_iadd hx hb dX11_put_45 ?_
  refine lv_topi (fun v45 e45 => ?_)
  have i45 : v45.toInt = v35.toInt + v44.toInt := zadd e45 rfl rfl (by omega) (by omega)
  refine lv_iload_n hx hb dX11_put_46 rfl (lv_at hl 2 rfl) ?_
  refine va_iast hx hb hK hP hD hS 2 0 rfl rfl (vp_in_iff.mpr ⟨by omega, by omega⟩) dX11_put_47 (fun H locs hP hD hS => ?_)
  obtain ⟨v47_f, e47⟩ : ∃ g : Nat → Int32, g = upd fV (v45).toNatClampNeg p1 := ⟨_, rfl⟩
  rw [← e47] at hP hD
  have hP : va_P (dC, dI) vwCl [(h0, .inr (11, [.int th, .ref tB, .int tsz, .int tat, .int wr, .int dp, .ref rC, .ref rV, .ref rD, .ref rK, .ref rT, .ref rS, .ref rU, .int lw, .int tx, .ref rL, .ref rX, .ref qR, .ref qB, .ref qP, .int qnb, .int qnp, .ref aR, .ref aB, .ref aP, .int nb, .int np, .ref aN, .ref rf, .int ho, .int br, .ref aK, .int ac, .long dw, .ref aE, .int sr, .int sf, .ref aA, .ref aH, .ref aI, .int hi])), (rC, .inl (cI, 2600, .inl v23_f)), (rV, .inl (cI, 2600, .inl v47_f)), (rD, .inl (cI, 5, .inl fD))] H := hP
  have hD : va_D A [(h0, .inr (11, [.int th, .ref tB, .int tsz, .int tat, .int wr, .int dp, .ref rC, .ref rV, .ref rD, .ref rK, .ref rT, .ref rS, .ref rU, .int lw, .int tx, .ref rL, .ref rX, .ref qR, .ref qB, .ref qP, .int qnb, .int qnp, .ref aR, .ref aB, .ref aP, .int nb, .int np, .ref aN, .ref rf, .int ho, .int br, .ref aK, .int ac, .long dw, .ref aE, .int sr, .int sf, .ref aA, .ref aH, .ref aI, .int hi])), (rC, .inl (cI, 2600, .inl v23_f)), (rV, .inl (cI, 2600, .inl v47_f)), (rD, .inl (cI, 5, .inl fD))] := hD
  refine lv_aload_n hx hb dX11_put_48 rfl (lv_at hl 0 rfl) ?_
  refine va_get (D := (dC, dI)) (ci := 11) (v := .ref rD) (C := RX11) (T := TX11) (N := 41) hx hb hts iX11 hown hK hP 0 rfl rfl 8 (by decide) (hts _ qw1135) (fun _ h9 => h9) rfl dX11_put_49 ?_
  refine lv_aload_n hx hb dX11_put_52 rfl (lv_at hl 0 rfl) ?_
  refine va_get (D := (dC, dI)) (ci := 11) (v := .int tx) (C := RX11) (T := TX11) (N := 41) hx hb hts iX11 hown hK hP 0 rfl rfl 14 (by decide) (hts _ qw1141) (fun _ h9 => h9) rfl dX11_put_53 ?_
  refine lv_dup2_11 hx hb dX11_put_56 rfl rfl ?_
  refine va_iald hx hb hK hP 3 0 rfl rfl (vp_in_iff.mpr ⟨by omega, by omega⟩) dX11_put_57 ?_
  refine lv_topi (fun v57 e57 => ?_)
  have i57 : v57.toInt = (fD tx.toInt.toNat).toInt ∧ 0 ≤ v57.toInt ∧ v57.toInt ≤ 518 := zPar_d hpar e57 rfl (by omega)
  refine lv_iconst (v := 1) hx hb dX11_put_58 (by decide) ?_
  refine lv_iadd hx hb dX11_put_59 ?_
  refine lv_topi (fun v59 e59 => ?_)
  have i59 : v59.toInt = v57.toInt + 1 := zadd e59 rfl (by decide) (by omega) (by omega)
  refine va_iast hx hb hK hP hD hS 3 0 rfl rfl (vp_in_iff.mpr ⟨by omega, by omega⟩) dX11_put_60 (fun H locs hP hD hS => ?_)
  obtain ⟨v60_f, e60⟩ : ∃ g : Nat → Int32, g = upd fD (tx).toNatClampNeg v59 := ⟨_, rfl⟩
  rw [← e60] at hP hD
  have hP : va_P (dC, dI) vwCl [(h0, .inr (11, [.int th, .ref tB, .int tsz, .int tat, .int wr, .int dp, .ref rC, .ref rV, .ref rD, .ref rK, .ref rT, .ref rS, .ref rU, .int lw, .int tx, .ref rL, .ref rX, .ref qR, .ref qB, .ref qP, .int qnb, .int qnp, .ref aR, .ref aB, .ref aP, .int nb, .int np, .ref aN, .ref rf, .int ho, .int br, .ref aK, .int ac, .long dw, .ref aE, .int sr, .int sf, .ref aA, .ref aH, .ref aI, .int hi])), (rC, .inl (cI, 2600, .inl v23_f)), (rV, .inl (cI, 2600, .inl v47_f)), (rD, .inl (cI, 5, .inl v60_f))] H := hP
  have hD : va_D A [(h0, .inr (11, [.int th, .ref tB, .int tsz, .int tat, .int wr, .int dp, .ref rC, .ref rV, .ref rD, .ref rK, .ref rT, .ref rS, .ref rU, .int lw, .int tx, .ref rL, .ref rX, .ref qR, .ref qB, .ref qP, .int qnb, .int qnp, .ref aR, .ref aB, .ref aP, .int nb, .int np, .ref aN, .ref rf, .int ho, .int br, .ref aK, .int ac, .long dw, .ref aE, .int sr, .int sf, .ref aA, .ref aH, .ref aI, .int hi])), (rC, .inl (cI, 2600, .inl v23_f)), (rV, .inl (cI, 2600, .inl v47_f)), (rD, .inl (cI, 5, .inl v60_f))] := hD
  rw [hQ]
  exact W.vret hx hb hr (fun t ht hW => ⟨⟨(v23_f, v47_f, v60_f), rfl, ⟨by (try dsimp only); exact zEr_one (t := (1, p1.toInt)) e23 e47 (by omega) (by omega) (show (0 : Int32).toInt = eRc 1 by decide) (fun _ => rfl) (zfd1 e60 (by omega)) (by omega), zPar_put hpar e23 e47 e60 (by omega) (by omega) (by omega) (fun q => absurd q (by decide)) (zStep_y (Or.inl (by decide)) (by omega))⟩, ⟨by rw [ht]; exact hP, hD⟩⟩, hS.F ht⟩) hS.2.2 dX11_put_61
set_option maxHeartbeats 4000000 in
set_option maxRecDepth 100000 in
theorem g_X11_put_let (l : Launch) (dC : Nat → ClassId) (dI : Nat → Nat → Nat) (cI cJ : ClassId) (h0 : Nat) (p1 : Int32) (th : Int32) (tB : Nat) (tsz : Int32) (tat : Int32) (wr : Int32) (dp : Int32) (rC : Nat) (rV : Nat) (rD : Nat) (rK : Nat) (rT : Nat) (rS : Nat) (rU : Nat) (lw : Int32) (tx : Int32) (rL : Nat) (rX : Nat) (qR : Nat) (qB : Nat) (qP : Nat) (qnb : Int32) (qnp : Int32) (aR : Nat) (aB : Nat) (aP : Nat) (nb : Int32) (np : Int32) (aN : Nat) (rf : Nat) (ho : Int32) (br : Int32) (aK : Nat) (ac : Int32) (dw : Int64) (aE : Nat) (sr : Int32) (sf : Int32) (aA : Nat) (aH : Nat) (aI : Nat) (hi : Int32) (fC : Nat → Int32) (fV : Nat → Int32) (fD : Nat → Int32) (gC : Nat → Int32) (gV : Nat → Int32) (fz : Nat) (k : Nat) (st : Nat) (h : Nat) (sz : Nat) (n_ac : 0 ≤ ac.toInt ∧ ac.toInt ≤ 40) (n_hi : 0 ≤ hi.toInt ∧ hi.toInt ≤ 1) (n_ho : (-1) ≤ ho.toInt ∧ ho.toInt ≤ 3) (n_lw : 0 ≤ lw.toInt ∧ lw.toInt ≤ 4) (n_nb : 0 ≤ nb.toInt ∧ nb.toInt ≤ 6) (n_np : 0 ≤ np.toInt ∧ np.toInt ≤ 5) (n_p1 : 0 ≤ p1.toInt ∧ p1.toInt ≤ 5) (n_qnb : 0 ≤ qnb.toInt ∧ qnb.toInt ≤ 6) (n_qnp : 0 ≤ qnp.toInt ∧ qnp.toInt ≤ 5) (n_tat : 0 ≤ tat.toInt ∧ tat.toInt ≤ 258) (n_tsz : 0 ≤ tsz.toInt ∧ tsz.toInt ≤ 240) (n_tx : 0 ≤ tx.toInt ∧ tx.toInt ≤ 4) (n_wr : (-1) ≤ wr.toInt ∧ wr.toInt ≤ 260) (hpar : zPar wr tat fC fV fD tx gC gV fz (k + 1) st (h)) (hh : h + 1 ≤ 80)   : Met l yX11_put (.code yX11_put cX11_put 3 none :: wA) ({ frames := 0, cells := 0, slots := 0, locals := 0 }) (zP (dC, dI) [(cI, .int), (cJ, .long)] [.ref h0, .int 1, .int p1] sz [(h0, .inr (11, [.int th, .ref tB, .int tsz, .int tat, .int wr, .int dp, .ref rC, .ref rV, .ref rD, .ref rK, .ref rT, .ref rS, .ref rU, .int lw, .int tx, .ref rL, .ref rX, .ref qR, .ref qB, .ref qP, .int qnb, .int qnp, .ref aR, .ref aB, .ref aP, .int nb, .int np, .ref aN, .ref rf, .int ho, .int br, .ref aK, .int ac, .long dw, .ref aE, .int sr, .int sf, .ref aA, .ref aH, .ref aI, .int hi])), (rC, .inl (cI, 2600, .inl fC)), (rV, .inl (cI, 2600, .inl fV)), (rD, .inl (cI, 5, .inl fD))]) (va_Qv (fun (u : (Nat → Int32) × (Nat → Int32) × (Nat → Int32)) => (zEr fC fV (520 * tx.toInt.toNat) (fD tx.toInt.toNat).toInt ([(2, p1.toInt)]) u.1 u.2.1 (u.2.2 tx.toInt.toNat).toInt) ∧ (zPar wr tat u.1 u.2.1 u.2.2 tx gC gV fz (k) st (h + 1))) (fun (u : (Nat → Int32) × (Nat → Int32) × (Nat → Int32)) (t : State) => va_P (dC, dI) vwCl [(h0, .inr (11, [.int th, .ref tB, .int tsz, .int tat, .int wr, .int dp, .ref rC, .ref rV, .ref rD, .ref rK, .ref rT, .ref rS, .ref rU, .int lw, .int tx, .ref rL, .ref rX, .ref qR, .ref qB, .ref qP, .int qnb, .int qnp, .ref aR, .ref aB, .ref aP, .int nb, .int np, .ref aN, .ref rf, .int ho, .int br, .ref aK, .int ac, .long dw, .ref aE, .int sr, .int sf, .ref aA, .ref aH, .ref aI, .int hi])), (rC, .inl (cI, 2600, .inl u.1)), (rV, .inl (cI, 2600, .inl u.2.1)), (rD, .inl (cI, 5, .inl u.2.2))] t.heap ∧ va_D (va_A [(h0, .inr (11, [.int th, .ref tB, .int tsz, .int tat, .int wr, .int dp, .ref rC, .ref rV, .ref rD, .ref rK, .ref rT, .ref rS, .ref rU, .int lw, .int tx, .ref rL, .ref rX, .ref qR, .ref qB, .ref qP, .int qnb, .int qnp, .ref aR, .ref aB, .ref aP, .int nb, .int np, .ref aN, .ref rf, .int ho, .int br, .ref aK, .int ac, .long dw, .ref aE, .int sr, .int sf, .ref aA, .ref aH, .ref aI, .int hi])), (rC, .inl (cI, 2600, .inl fC)), (rV, .inl (cI, 2600, .inl fV)), (rD, .inl (cI, 5, .inl fD))] sz) [(h0, .inr (11, [.int th, .ref tB, .int tsz, .int tat, .int wr, .int dp, .ref rC, .ref rV, .ref rD, .ref rK, .ref rT, .ref rS, .ref rU, .int lw, .int tx, .ref rL, .ref rX, .ref qR, .ref qB, .ref qP, .int qnb, .int qnp, .ref aR, .ref aB, .ref aP, .int nb, .int np, .ref aN, .ref rf, .int ho, .int br, .ref aK, .int ac, .long dw, .ref aE, .int sr, .int sf, .ref aA, .ref aH, .ref aI, .int hi])), (rC, .inl (cI, 2600, .inl u.1)), (rV, .inl (cI, 2600, .inl u.2.1)), (rD, .inl (cI, 5, .inl u.2.2))]) (va_A [(h0, .inr (11, [.int th, .ref tB, .int tsz, .int tat, .int wr, .int dp, .ref rC, .ref rV, .ref rD, .ref rK, .ref rT, .ref rS, .ref rU, .int lw, .int tx, .ref rL, .ref rX, .ref qR, .ref qB, .ref qP, .int qnb, .int qnp, .ref aR, .ref aB, .ref aP, .int nb, .int np, .ref aN, .ref rf, .int ho, .int br, .ref aK, .int ac, .long dw, .ref aE, .int sr, .int sf, .ref aA, .ref aH, .ref aI, .int hi])), (rC, .inl (cI, 2600, .inl fC)), (rV, .inl (cI, 2600, .inl fV)), (rD, .inl (cI, 5, .inl fD))] sz)) 0 0 (va_A [(h0, .inr (11, [.int th, .ref tB, .int tsz, .int tat, .int wr, .int dp, .ref rC, .ref rV, .ref rD, .ref rK, .ref rT, .ref rS, .ref rU, .int lw, .int tx, .ref rL, .ref rX, .ref qR, .ref qB, .ref qP, .int qnb, .int qnp, .ref aR, .ref aB, .ref aP, .int nb, .int np, .ref aN, .ref rf, .int ho, .int br, .ref aK, .int ac, .long dw, .ref aE, .int sr, .int sf, .ref aA, .ref aH, .ref aI, .int hi])), (rC, .inl (cI, 2600, .inl fC)), (rV, .inl (cI, 2600, .inl fV)), (rD, .inl (cI, 5, .inl fD))] sz) := by
  refine Met.ofW (cc := cX11_put) (maxL := 3) (ret := none) (by decide) rfl ?_
  intro p e s m args below meth c s₁ B hml hv
  obtain ⟨hargs, hsz, hP, hK, hT⟩ := hv
  have hx := B.exec
  have hb := B.bytes
  have hr := B.returns
  have hts : ∀ w ∈ wA, w.before args s = true := fun w h => atoms_spec (ws := .code yX11_put cX11_put 3 none :: wA) B.pre w (List.mem_cons_of_mem _ h)
  have hown : s.vm.findClass RX11 = some m.cls := findClass_of_methodNamed B.named
  have hlocks := B.notSynchronized
  subst hsz
  have hD := hT.self (sz := s.heap.size)
  generalize hAe : va_A [(h0, .inr (11, [.int th, .ref tB, .int tsz, .int tat, .int wr, .int dp, .ref rC, .ref rV, .ref rD, .ref rK, .ref rT, .ref rS, .ref rU, .int lw, .int tx, .ref rL, .ref rX, .ref qR, .ref qB, .ref qP, .int qnb, .int qnp, .ref aR, .ref aB, .ref aP, .int nb, .int np, .ref aN, .ref rf, .int ho, .int br, .ref aK, .int ac, .long dw, .ref aE, .int sr, .int sf, .ref aA, .ref aH, .ref aI, .int hi])), (rC, .inl (cI, 2600, .inl fC)), (rV, .inl (cI, 2600, .inl fV)), (rD, .inl (cI, 5, .inl fD))] s.heap.size = A at hD ⊢
  have hA : ∀ q : Nat, s.heap.size ≤ q → A q := fun q h => by rw [← hAe]; exact Or.inr h
  have hl := lv_entry ([.ref h0, .int 1, .int p1]) (n := 3) (Nat.le_of_ble_eq_true rfl)
  rw [show entryFrame m args 3 = entryFrame m ([.ref h0, .int 1, .int p1] : List Value).toArray 3 by rw [hargs], lg_entry_eq]
  generalize (lg_sl ([.ref h0, .int 1, .int p1]) ++ List.replicate (3 - (lg_sl ([.ref h0, .int 1, .int p1])).length) Slot.unset).toArray = ls at hl ⊢
  have hl : lv_has ls 3 [(0, .ref h0), (1, .int 1), (2, .int p1)] := hl
  refine zstart (fun H hH => ?_)
  rw [← hH] at hP
  have hS : va_S A s.heap H [] := by rw [hH]; exact va_S.rf
  generalize ([] : List Loc) = locs at hS ⊢
  refine zgen (fun R Q hR hQ => ?_)
  have zm1 : (-1 : Int32).toInt = -1 := by decide
  refine lv_aload_n hx hb dX11_put_0 rfl (lv_at hl 0 rfl) ?_
  refine va_get (D := (dC, dI)) (ci := 11) (v := .ref rC) (C := RX11) (T := TX11) (N := 41) hx hb hts iX11 hown hK hP 0 rfl rfl 6 (by decide) (hts _ qw1133) (fun _ h9 => h9) rfl dX11_put_1 ?_
  refine lv_sipush (v := 520) hx hb dX11_put_4 (by decide) ?_
  refine lv_aload_n hx hb dX11_put_7 rfl (lv_at hl 0 rfl) ?_
  refine va_get (D := (dC, dI)) (ci := 11) (v := .int tx) (C := RX11) (T := TX11) (N := 41) hx hb hts iX11 hown hK hP 0 rfl rfl 14 (by decide) (hts _ qw1141) (fun _ h9 => h9) rfl dX11_put_8 ?_
  refine lv_imul hx hb dX11_put_11 ?_
  refine lv_topi (fun v11 e11 => ?_)
  have i11 : v11.toInt = 520 * tx.toInt := zmul e11 (by decide) rfl (by omega) (by omega)
  refine lv_aload_n hx hb dX11_put_12 rfl (lv_at hl 0 rfl) ?_
  refine va_get (D := (dC, dI)) (ci := 11) (v := .ref rD) (C := RX11) (T := TX11) (N := 41) hx hb hts iX11 hown hK hP 0 rfl rfl 8 (by decide) (hts _ qw1135) (fun _ h9 => h9) rfl dX11_put_13 ?_
  refine lv_aload_n hx hb dX11_put_16 rfl (lv_at hl 0 rfl) ?_
  refine va_get (D := (dC, dI)) (ci := 11) (v := .int tx) (C := RX11) (T := TX11) (N := 41) hx hb hts iX11 hown hK hP 0 rfl rfl 14 (by decide) (hts _ qw1141) (fun _ h9 => h9) rfl dX11_put_17 ?_
  refine va_iald hx hb hK hP 3 0 rfl rfl (vp_in_iff.mpr ⟨by omega, by omega⟩) dX11_put_20 ?_
  refine lv_topi (fun v20 e20 => ?_)
  have i20 : v20.toInt = (fD tx.toInt.toNat).toInt ∧ 0 ≤ v20.toInt ∧ v20.toInt ≤ 518 := zPar_d hpar e20 rfl (by omega)
  refine lv_iadd hx hb dX11_put_21 ?_
  refine lv_topi (fun v21 e21 => ?_)
  have i21 : v21.toInt = v11.toInt + v20.toInt := zadd e21 rfl rfl (by omega) (by omega)
  refine lv_iload_n hx hb dX11_put_22 rfl (lv_at hl 1 rfl) ?_
  refine va_iast hx hb hK hP hD hS 1 0 rfl rfl (vp_in_iff.mpr ⟨by omega, by omega⟩) dX11_put_23 (fun H locs hP hD hS => ?_)
  obtain ⟨v23_f, e23⟩ : ∃ g : Nat → Int32, g = upd fC (v21).toNatClampNeg 1 := ⟨_, rfl⟩
  rw [← e23] at hP hD
  have hP : va_P (dC, dI) vwCl [(h0, .inr (11, [.int th, .ref tB, .int tsz, .int tat, .int wr, .int dp, .ref rC, .ref rV, .ref rD, .ref rK, .ref rT, .ref rS, .ref rU, .int lw, .int tx, .ref rL, .ref rX, .ref qR, .ref qB, .ref qP, .int qnb, .int qnp, .ref aR, .ref aB, .ref aP, .int nb, .int np, .ref aN, .ref rf, .int ho, .int br, .ref aK, .int ac, .long dw, .ref aE, .int sr, .int sf, .ref aA, .ref aH, .ref aI, .int hi])), (rC, .inl (cI, 2600, .inl v23_f)), (rV, .inl (cI, 2600, .inl fV)), (rD, .inl (cI, 5, .inl fD))] H := hP
  have hD : va_D A [(h0, .inr (11, [.int th, .ref tB, .int tsz, .int tat, .int wr, .int dp, .ref rC, .ref rV, .ref rD, .ref rK, .ref rT, .ref rS, .ref rU, .int lw, .int tx, .ref rL, .ref rX, .ref qR, .ref qB, .ref qP, .int qnb, .int qnp, .ref aR, .ref aB, .ref aP, .int nb, .int np, .ref aN, .ref rf, .int ho, .int br, .ref aK, .int ac, .long dw, .ref aE, .int sr, .int sf, .ref aA, .ref aH, .ref aI, .int hi])), (rC, .inl (cI, 2600, .inl v23_f)), (rV, .inl (cI, 2600, .inl fV)), (rD, .inl (cI, 5, .inl fD))] := hD
  refine lv_aload_n hx hb dX11_put_24 rfl (lv_at hl 0 rfl) ?_
  refine va_get (D := (dC, dI)) (ci := 11) (v := .ref rV) (C := RX11) (T := TX11) (N := 41) hx hb hts iX11 hown hK hP 0 rfl rfl 7 (by decide) (hts _ qw1134) (fun _ h9 => h9) rfl dX11_put_25 ?_
  refine lv_sipush (v := 520) hx hb dX11_put_28 (by decide) ?_
  refine lv_aload_n hx hb dX11_put_31 rfl (lv_at hl 0 rfl) ?_
  refine va_get (D := (dC, dI)) (ci := 11) (v := .int tx) (C := RX11) (T := TX11) (N := 41) hx hb hts iX11 hown hK hP 0 rfl rfl 14 (by decide) (hts _ qw1141) (fun _ h9 => h9) rfl dX11_put_32 ?_
  refine lv_imul hx hb dX11_put_35 ?_
  refine lv_topi (fun v35 e35 => ?_)
  have i35 : v35.toInt = 520 * tx.toInt := zmul e35 (by decide) rfl (by omega) (by omega)
  refine lv_aload_n hx hb dX11_put_36 rfl (lv_at hl 0 rfl) ?_
  refine va_get (D := (dC, dI)) (ci := 11) (v := .ref rD) (C := RX11) (T := TX11) (N := 41) hx hb hts iX11 hown hK hP 0 rfl rfl 8 (by decide) (hts _ qw1135) (fun _ h9 => h9) rfl dX11_put_37 ?_
  refine lv_aload_n hx hb dX11_put_40 rfl (lv_at hl 0 rfl) ?_
  refine va_get (D := (dC, dI)) (ci := 11) (v := .int tx) (C := RX11) (T := TX11) (N := 41) hx hb hts iX11 hown hK hP 0 rfl rfl 14 (by decide) (hts _ qw1141) (fun _ h9 => h9) rfl dX11_put_41 ?_
  refine va_iald hx hb hK hP 3 0 rfl rfl (vp_in_iff.mpr ⟨by omega, by omega⟩) dX11_put_44 ?_
  refine lv_topi (fun v44 e44 => ?_)
  have i44 : v44.toInt = (fD tx.toInt.toNat).toInt ∧ 0 ≤ v44.toInt ∧ v44.toInt ≤ 518 := zPar_d hpar e44 rfl (by omega)
  refine lv_iadd hx hb dX11_put_45 ?_
  refine lv_topi (fun v45 e45 => ?_)
  have i45 : v45.toInt = v35.toInt + v44.toInt := zadd e45 rfl rfl (by omega) (by omega)
  refine lv_iload_n hx hb dX11_put_46 rfl (lv_at hl 2 rfl) ?_
  refine va_iast hx hb hK hP hD hS 2 0 rfl rfl (vp_in_iff.mpr ⟨by omega, by omega⟩) dX11_put_47 (fun H locs hP hD hS => ?_)
  obtain ⟨v47_f, e47⟩ : ∃ g : Nat → Int32, g = upd fV (v45).toNatClampNeg p1 := ⟨_, rfl⟩
  rw [← e47] at hP hD
  have hP : va_P (dC, dI) vwCl [(h0, .inr (11, [.int th, .ref tB, .int tsz, .int tat, .int wr, .int dp, .ref rC, .ref rV, .ref rD, .ref rK, .ref rT, .ref rS, .ref rU, .int lw, .int tx, .ref rL, .ref rX, .ref qR, .ref qB, .ref qP, .int qnb, .int qnp, .ref aR, .ref aB, .ref aP, .int nb, .int np, .ref aN, .ref rf, .int ho, .int br, .ref aK, .int ac, .long dw, .ref aE, .int sr, .int sf, .ref aA, .ref aH, .ref aI, .int hi])), (rC, .inl (cI, 2600, .inl v23_f)), (rV, .inl (cI, 2600, .inl v47_f)), (rD, .inl (cI, 5, .inl fD))] H := hP
  have hD : va_D A [(h0, .inr (11, [.int th, .ref tB, .int tsz, .int tat, .int wr, .int dp, .ref rC, .ref rV, .ref rD, .ref rK, .ref rT, .ref rS, .ref rU, .int lw, .int tx, .ref rL, .ref rX, .ref qR, .ref qB, .ref qP, .int qnb, .int qnp, .ref aR, .ref aB, .ref aP, .int nb, .int np, .ref aN, .ref rf, .int ho, .int br, .ref aK, .int ac, .long dw, .ref aE, .int sr, .int sf, .ref aA, .ref aH, .ref aI, .int hi])), (rC, .inl (cI, 2600, .inl v23_f)), (rV, .inl (cI, 2600, .inl v47_f)), (rD, .inl (cI, 5, .inl fD))] := hD
  refine lv_aload_n hx hb dX11_put_48 rfl (lv_at hl 0 rfl) ?_
  refine va_get (D := (dC, dI)) (ci := 11) (v := .ref rD) (C := RX11) (T := TX11) (N := 41) hx hb hts iX11 hown hK hP 0 rfl rfl 8 (by decide) (hts _ qw1135) (fun _ h9 => h9) rfl dX11_put_49 ?_
  refine lv_aload_n hx hb dX11_put_52 rfl (lv_at hl 0 rfl) ?_
  refine va_get (D := (dC, dI)) (ci := 11) (v := .int tx) (C := RX11) (T := TX11) (N := 41) hx hb hts iX11 hown hK hP 0 rfl rfl 14 (by decide) (hts _ qw1141) (fun _ h9 => h9) rfl dX11_put_53 ?_
  refine lv_dup2_11 hx hb dX11_put_56 rfl rfl ?_
  refine va_iald hx hb hK hP 3 0 rfl rfl (vp_in_iff.mpr ⟨by omega, by omega⟩) dX11_put_57 ?_
  refine lv_topi (fun v57 e57 => ?_)
  have i57 : v57.toInt = (fD tx.toInt.toNat).toInt ∧ 0 ≤ v57.toInt ∧ v57.toInt ≤ 518 := zPar_d hpar e57 rfl (by omega)
  refine lv_iconst (v := 1) hx hb dX11_put_58 (by decide) ?_
  refine lv_iadd hx hb dX11_put_59 ?_
  refine lv_topi (fun v59 e59 => ?_)
  have i59 : v59.toInt = v57.toInt + 1 := zadd e59 rfl (by decide) (by omega) (by omega)
  refine va_iast hx hb hK hP hD hS 3 0 rfl rfl (vp_in_iff.mpr ⟨by omega, by omega⟩) dX11_put_60 (fun H locs hP hD hS => ?_)
  obtain ⟨v60_f, e60⟩ : ∃ g : Nat → Int32, g = upd fD (tx).toNatClampNeg v59 := ⟨_, rfl⟩
  rw [← e60] at hP hD
  have hP : va_P (dC, dI) vwCl [(h0, .inr (11, [.int th, .ref tB, .int tsz, .int tat, .int wr, .int dp, .ref rC, .ref rV, .ref rD, .ref rK, .ref rT, .ref rS, .ref rU, .int lw, .int tx, .ref rL, .ref rX, .ref qR, .ref qB, .ref qP, .int qnb, .int qnp, .ref aR, .ref aB, .ref aP, .int nb, .int np, .ref aN, .ref rf, .int ho, .int br, .ref aK, .int ac, .long dw, .ref aE, .int sr, .int sf, .ref aA, .ref aH, .ref aI, .int hi])), (rC, .inl (cI, 2600, .inl v23_f)), (rV, .inl (cI, 2600, .inl v47_f)), (rD, .inl (cI, 5, .inl v60_f))] H := hP
  have hD : va_D A [(h0, .inr (11, [.int th, .ref tB, .int tsz, .int tat, .int wr, .int dp, .ref rC, .ref rV, .ref rD, .ref rK, .ref rT, .ref rS, .ref rU, .int lw, .int tx, .ref rL, .ref rX, .ref qR, .ref qB, .ref qP, .int qnb, .int qnp, .ref aR, .ref aB, .ref aP, .int nb, .int np, .ref aN, .ref rf, .int ho, .int br, .ref aK, .int ac, .long dw, .ref aE, .int sr, .int sf, .ref aA, .ref aH, .ref aI, .int hi])), (rC, .inl (cI, 2600, .inl v23_f)), (rV, .inl (cI, 2600, .inl v47_f)), (rD, .inl (cI, 5, .inl v60_f))] := hD
  rw [hQ]
  exact W.vret hx hb hr (fun t ht hW => ⟨⟨(v23_f, v47_f, v60_f), rfl, ⟨by (try dsimp only); exact zEr_one (t := (2, p1.toInt)) e23 e47 (by omega) (by omega) (show (1 : Int32).toInt = eRc 2 by decide) (fun _ => rfl) (zfd1 e60 (by omega)) (by omega), zPar_put hpar e23 e47 e60 (by omega) (by omega) (by omega) (fun _ => by omega) (zStep_y (Or.inr (by decide)) (by omega))⟩, ⟨by rw [ht]; exact hP, hD⟩⟩, hS.F ht⟩) hS.2.2 dX11_put_61
set_option maxHeartbeats 4000000 in
set_option maxRecDepth 100000 in
theorem g_X11_put_not (l : Launch) (dC : Nat → ClassId) (dI : Nat → Nat → Nat) (cI cJ : ClassId) (h0 : Nat) (p1 : Int32) (th : Int32) (tB : Nat) (tsz : Int32) (tat : Int32) (wr : Int32) (dp : Int32) (rC : Nat) (rV : Nat) (rD : Nat) (rK : Nat) (rT : Nat) (rS : Nat) (rU : Nat) (lw : Int32) (tx : Int32) (rL : Nat) (rX : Nat) (qR : Nat) (qB : Nat) (qP : Nat) (qnb : Int32) (qnp : Int32) (aR : Nat) (aB : Nat) (aP : Nat) (nb : Int32) (np : Int32) (aN : Nat) (rf : Nat) (ho : Int32) (br : Int32) (aK : Nat) (ac : Int32) (dw : Int64) (aE : Nat) (sr : Int32) (sf : Int32) (aA : Nat) (aH : Nat) (aI : Nat) (hi : Int32) (fC : Nat → Int32) (fV : Nat → Int32) (fD : Nat → Int32) (gC : Nat → Int32) (gV : Nat → Int32) (fz : Nat) (k : Nat) (st : Nat) (h : Nat) (sz : Nat) (n_ac : 0 ≤ ac.toInt ∧ ac.toInt ≤ 40) (n_hi : 0 ≤ hi.toInt ∧ hi.toInt ≤ 1) (n_ho : (-1) ≤ ho.toInt ∧ ho.toInt ≤ 3) (n_lw : 0 ≤ lw.toInt ∧ lw.toInt ≤ 4) (n_nb : 0 ≤ nb.toInt ∧ nb.toInt ≤ 6) (n_np : 0 ≤ np.toInt ∧ np.toInt ≤ 5) (n_qnb : 0 ≤ qnb.toInt ∧ qnb.toInt ≤ 6) (n_qnp : 0 ≤ qnp.toInt ∧ qnp.toInt ≤ 5) (n_tat : 0 ≤ tat.toInt ∧ tat.toInt ≤ 258) (n_tsz : 0 ≤ tsz.toInt ∧ tsz.toInt ≤ 240) (n_tx : 0 ≤ tx.toInt ∧ tx.toInt ≤ 4) (n_wr : (-1) ≤ wr.toInt ∧ wr.toInt ≤ 260) (hpar : zPar wr tat fC fV fD tx gC gV fz (k + 1) st (h + 1))   : Met l yX11_put (.code yX11_put cX11_put 3 none :: wA) ({ frames := 0, cells := 0, slots := 0, locals := 0 }) (zP (dC, dI) [(cI, .int), (cJ, .long)] [.ref h0, .int 9, .int p1] sz [(h0, .inr (11, [.int th, .ref tB, .int tsz, .int tat, .int wr, .int dp, .ref rC, .ref rV, .ref rD, .ref rK, .ref rT, .ref rS, .ref rU, .int lw, .int tx, .ref rL, .ref rX, .ref qR, .ref qB, .ref qP, .int qnb, .int qnp, .ref aR, .ref aB, .ref aP, .int nb, .int np, .ref aN, .ref rf, .int ho, .int br, .ref aK, .int ac, .long dw, .ref aE, .int sr, .int sf, .ref aA, .ref aH, .ref aI, .int hi])), (rC, .inl (cI, 2600, .inl fC)), (rV, .inl (cI, 2600, .inl fV)), (rD, .inl (cI, 5, .inl fD))]) (va_Qv (fun (u : (Nat → Int32) × (Nat → Int32) × (Nat → Int32)) => (zEr fC fV (520 * tx.toInt.toNat) (fD tx.toInt.toNat).toInt ([(33, 0)]) u.1 u.2.1 (u.2.2 tx.toInt.toNat).toInt) ∧ (zPar wr tat u.1 u.2.1 u.2.2 tx gC gV fz (k) st (h + 1))) (fun (u : (Nat → Int32) × (Nat → Int32) × (Nat → Int32)) (t : State) => va_P (dC, dI) vwCl [(h0, .inr (11, [.int th, .ref tB, .int tsz, .int tat, .int wr, .int dp, .ref rC, .ref rV, .ref rD, .ref rK, .ref rT, .ref rS, .ref rU, .int lw, .int tx, .ref rL, .ref rX, .ref qR, .ref qB, .ref qP, .int qnb, .int qnp, .ref aR, .ref aB, .ref aP, .int nb, .int np, .ref aN, .ref rf, .int ho, .int br, .ref aK, .int ac, .long dw, .ref aE, .int sr, .int sf, .ref aA, .ref aH, .ref aI, .int hi])), (rC, .inl (cI, 2600, .inl u.1)), (rV, .inl (cI, 2600, .inl u.2.1)), (rD, .inl (cI, 5, .inl u.2.2))] t.heap ∧ va_D (va_A [(h0, .inr (11, [.int th, .ref tB, .int tsz, .int tat, .int wr, .int dp, .ref rC, .ref rV, .ref rD, .ref rK, .ref rT, .ref rS, .ref rU, .int lw, .int tx, .ref rL, .ref rX, .ref qR, .ref qB, .ref qP, .int qnb, .int qnp, .ref aR, .ref aB, .ref aP, .int nb, .int np, .ref aN, .ref rf, .int ho, .int br, .ref aK, .int ac, .long dw, .ref aE, .int sr, .int sf, .ref aA, .ref aH, .ref aI, .int hi])), (rC, .inl (cI, 2600, .inl fC)), (rV, .inl (cI, 2600, .inl fV)), (rD, .inl (cI, 5, .inl fD))] sz) [(h0, .inr (11, [.int th, .ref tB, .int tsz, .int tat, .int wr, .int dp, .ref rC, .ref rV, .ref rD, .ref rK, .ref rT, .ref rS, .ref rU, .int lw, .int tx, .ref rL, .ref rX, .ref qR, .ref qB, .ref qP, .int qnb, .int qnp, .ref aR, .ref aB, .ref aP, .int nb, .int np, .ref aN, .ref rf, .int ho, .int br, .ref aK, .int ac, .long dw, .ref aE, .int sr, .int sf, .ref aA, .ref aH, .ref aI, .int hi])), (rC, .inl (cI, 2600, .inl u.1)), (rV, .inl (cI, 2600, .inl u.2.1)), (rD, .inl (cI, 5, .inl u.2.2))]) (va_A [(h0, .inr (11, [.int th, .ref tB, .int tsz, .int tat, .int wr, .int dp, .ref rC, .ref rV, .ref rD, .ref rK, .ref rT, .ref rS, .ref rU, .int lw, .int tx, .ref rL, .ref rX, .ref qR, .ref qB, .ref qP, .int qnb, .int qnp, .ref aR, .ref aB, .ref aP, .int nb, .int np, .ref aN, .ref rf, .int ho, .int br, .ref aK, .int ac, .long dw, .ref aE, .int sr, .int sf, .ref aA, .ref aH, .ref aI, .int hi])), (rC, .inl (cI, 2600, .inl fC)), (rV, .inl (cI, 2600, .inl fV)), (rD, .inl (cI, 5, .inl fD))] sz)) 0 0 (va_A [(h0, .inr (11, [.int th, .ref tB, .int tsz, .int tat, .int wr, .int dp, .ref rC, .ref rV, .ref rD, .ref rK, .ref rT, .ref rS, .ref rU, .int lw, .int tx, .ref rL, .ref rX, .ref qR, .ref qB, .ref qP, .int qnb, .int qnp, .ref aR, .ref aB, .ref aP, .int nb, .int np, .ref aN, .ref rf, .int ho, .int br, .ref aK, .int ac, .long dw, .ref aE, .int sr, .int sf, .ref aA, .ref aH, .ref aI, .int hi])), (rC, .inl (cI, 2600, .inl fC)), (rV, .inl (cI, 2600, .inl fV)), (rD, .inl (cI, 5, .inl fD))] sz) := by
  refine Met.ofW (cc := cX11_put) (maxL := 3) (ret := none) (by decide) rfl ?_
  intro p e s m args below meth c s₁ B hml hv
  obtain ⟨hargs, hsz, hP, hK, hT⟩ := hv
  have hx := B.exec
  have hb := B.bytes
  have hr := B.returns
  have hts : ∀ w ∈ wA, w.before args s = true := fun w h => atoms_spec (ws := .code yX11_put cX11_put 3 none :: wA) B.pre w (List.mem_cons_of_mem _ h)
  have hown : s.vm.findClass RX11 = some m.cls := findClass_of_methodNamed B.named
  have hlocks := B.notSynchronized
  subst hsz
  have hD := hT.self (sz := s.heap.size)
  generalize hAe : va_A [(h0, .inr (11, [.int th, .ref tB, .int tsz, .int tat, .int wr, .int dp, .ref rC, .ref rV, .ref rD, .ref rK, .ref rT, .ref rS, .ref rU, .int lw, .int tx, .ref rL, .ref rX, .ref qR, .ref qB, .ref qP, .int qnb, .int qnp, .ref aR, .ref aB, .ref aP, .int nb, .int np, .ref aN, .ref rf, .int ho, .int br, .ref aK, .int ac, .long dw, .ref aE, .int sr, .int sf, .ref aA, .ref aH, .ref aI, .int hi])), (rC, .inl (cI, 2600, .inl fC)), (rV, .inl (cI, 2600, .inl fV)), (rD, .inl (cI, 5, .inl fD))] s.heap.size = A at hD ⊢
  have hA : ∀ q : Nat, s.heap.size ≤ q → A q := fun q h => by rw [← hAe]; exact Or.inr h
  have hl := lv_entry ([.ref h0, .int 9, .int p1]) (n := 3) (Nat.le_of_ble_eq_true rfl)
  rw [show entryFrame m args 3 = entryFrame m ([.ref h0, .int 9, .int p1] : List Value).toArray 3 by rw [hargs], lg_entry_eq]
  generalize (lg_sl ([.ref h0, .int 9, .int p1]) ++ List.replicate (3 - (lg_sl ([.ref h0, .int 9, .int p1])).length) Slot.unset).toArray = ls at hl ⊢
  have hl : lv_has ls 3 [(0, .ref h0), (1, .int 9), (2, .int p1)] := hl
  refine zstart (fun H hH => ?_)
  rw [← hH] at hP
  have hS : va_S A s.heap H [] := by rw [hH]; exact va_S.rf
  generalize ([] : List Loc) = locs at hS ⊢
  refine zgen (fun R Q hR hQ => ?_)
  have zm1 : (-1 : Int32).toInt = -1 := by decide
  refine lv_aload_n hx hb dX11_put_0 rfl (lv_at hl 0 rfl) ?_
  refine va_get (D := (dC, dI)) (ci := 11) (v := .ref rC) (C := RX11) (T := TX11) (N := 41) hx hb hts iX11 hown hK hP 0 rfl rfl 6 (by decide) (hts _ qw1133) (fun _ h9 => h9) rfl dX11_put_1 ?_
  refine lv_sipush (v := 520) hx hb dX11_put_4 (by decide) ?_
  refine lv_aload_n hx hb dX11_put_7 rfl (lv_at hl 0 rfl) ?_
  refine va_get (D := (dC, dI)) (ci := 11) (v := .int tx) (C := RX11) (T := TX11) (N := 41) hx hb hts iX11 hown hK hP 0 rfl rfl 14 (by decide) (hts _ qw1141) (fun _ h9 => h9) rfl dX11_put_8 ?_
  refine lv_imul hx hb dX11_put_11 ?_
  refine lv_topi (fun v11 e11 => ?_)
  have i11 : v11.toInt = 520 * tx.toInt := zmul e11 (by decide) rfl (by omega) (by omega)
  refine lv_aload_n hx hb dX11_put_12 rfl (lv_at hl 0 rfl) ?_
  refine va_get (D := (dC, dI)) (ci := 11) (v := .ref rD) (C := RX11) (T := TX11) (N := 41) hx hb hts iX11 hown hK hP 0 rfl rfl 8 (by decide) (hts _ qw1135) (fun _ h9 => h9) rfl dX11_put_13 ?_
  refine lv_aload_n hx hb dX11_put_16 rfl (lv_at hl 0 rfl) ?_
  refine va_get (D := (dC, dI)) (ci := 11) (v := .int tx) (C := RX11) (T := TX11) (N := 41) hx hb hts iX11 hown hK hP 0 rfl rfl 14 (by decide) (hts _ qw1141) (fun _ h9 => h9) rfl dX11_put_17 ?_
  refine va_iald hx hb hK hP 3 0 rfl rfl (vp_in_iff.mpr ⟨by omega, by omega⟩) dX11_put_20 ?_
  refine lv_topi (fun v20 e20 => ?_)
  have i20 : v20.toInt = (fD tx.toInt.toNat).toInt ∧ 0 ≤ v20.toInt ∧ v20.toInt ≤ 518 := zPar_d hpar e20 rfl (by omega)
  refine lv_iadd hx hb dX11_put_21 ?_
  refine lv_topi (fun v21 e21 => ?_)
  have i21 : v21.toInt = v11.toInt + v20.toInt := zadd e21 rfl rfl (by omega) (by omega)
  refine lv_iload_n hx hb dX11_put_22 rfl (lv_at hl 1 rfl) ?_
  refine va_iast hx hb hK hP hD hS 1 0 rfl rfl (vp_in_iff.mpr ⟨by omega, by omega⟩) dX11_put_23 (fun H locs hP hD hS => ?_)
  obtain ⟨v23_f, e23⟩ : ∃ g : Nat → Int32, g = upd fC (v21).toNatClampNeg 9 := ⟨_, rfl⟩
  rw [← e23] at hP hD
  have hP : va_P (dC, dI) vwCl [(h0, .inr (11, [.int th, .ref tB, .int tsz, .int tat, .int wr, .int dp, .ref rC, .ref rV, .ref rD, .ref rK, .ref rT, .ref rS, .ref rU, .int lw, .int tx, .ref rL, .ref rX, .ref qR, .ref qB, .ref qP, .int qnb, .int qnp, .ref aR, .ref aB, .ref aP, .int nb, .int np, .ref aN, .ref rf, .int ho, .int br, .ref aK, .int ac, .long dw, .ref aE, .int sr, .int sf, .ref aA, .ref aH, .ref aI, .int hi])), (rC, .inl (cI, 2600, .inl v23_f)), (rV, .inl (cI, 2600, .inl fV)), (rD, .inl (cI, 5, .inl fD))] H := hP
  have hD : va_D A [(h0, .inr (11, [.int th, .ref tB, .int tsz, .int tat, .int wr, .int dp, .ref rC, .ref rV, .ref rD, .ref rK, .ref rT, .ref rS, .ref rU, .int lw, .int tx, .ref rL, .ref rX, .ref qR, .ref qB, .ref qP, .int qnb, .int qnp, .ref aR, .ref aB, .ref aP, .int nb, .int np, .ref aN, .ref rf, .int ho, .int br, .ref aK, .int ac, .long dw, .ref aE, .int sr, .int sf, .ref aA, .ref aH, .ref aI, .int hi])), (rC, .inl (cI, 2600, .inl v23_f)), (rV, .inl (cI, 2600, .inl fV)), (rD, .inl (cI, 5, .inl fD))] := hD
  refine lv_aload_n hx hb dX11_put_24 rfl (lv_at hl 0 rfl) ?_
  refine va_get (D := (dC, dI)) (ci := 11) (v := .ref rV) (C := RX11) (T := TX11) (N := 41) hx hb hts iX11 hown hK hP 0 rfl rfl 7 (by decide) (hts _ qw1134) (fun _ h9 => h9) rfl dX11_put_25 ?_
  refine lv_sipush (v := 520) hx hb dX11_put_28 (by decide) ?_
  refine lv_aload_n hx hb dX11_put_31 rfl (lv_at hl 0 rfl) ?_
  refine va_get (D := (dC, dI)) (ci := 11) (v := .int tx) (C := RX11) (T := TX11) (N := 41) hx hb hts iX11 hown hK hP 0 rfl rfl 14 (by decide) (hts _ qw1141) (fun _ h9 => h9) rfl dX11_put_32 ?_
  refine lv_imul hx hb dX11_put_35 ?_
  refine lv_topi (fun v35 e35 => ?_)
  have i35 : v35.toInt = 520 * tx.toInt := zmul e35 (by decide) rfl (by omega) (by omega)
  refine lv_aload_n hx hb dX11_put_36 rfl (lv_at hl 0 rfl) ?_
  refine va_get (D := (dC, dI)) (ci := 11) (v := .ref rD) (C := RX11) (T := TX11) (N := 41) hx hb hts iX11 hown hK hP 0 rfl rfl 8 (by decide) (hts _ qw1135) (fun _ h9 => h9) rfl dX11_put_37 ?_
  refine lv_aload_n hx hb dX11_put_40 rfl (lv_at hl 0 rfl) ?_
  refine va_get (D := (dC, dI)) (ci := 11) (v := .int tx) (C := RX11) (T := TX11) (N := 41) hx hb hts iX11 hown hK hP 0 rfl rfl 14 (by decide) (hts _ qw1141) (fun _ h9 => h9) rfl dX11_put_41 ?_
  refine va_iald hx hb hK hP 3 0 rfl rfl (vp_in_iff.mpr ⟨by omega, by omega⟩) dX11_put_44 ?_
  refine lv_topi (fun v44 e44 => ?_)
  have i44 : v44.toInt = (fD tx.toInt.toNat).toInt ∧ 0 ≤ v44.toInt ∧ v44.toInt ≤ 518 := zPar_d hpar e44 rfl (by omega)
  refine lv_iadd hx hb dX11_put_45 ?_
  refine lv_topi (fun v45 e45 => ?_)
  have i45 : v45.toInt = v35.toInt + v44.toInt := zadd e45 rfl rfl (by omega) (by omega)
  refine lv_iload_n hx hb dX11_put_46 rfl (lv_at hl 2 rfl) ?_
  refine va_iast hx hb hK hP hD hS 2 0 rfl rfl (vp_in_iff.mpr ⟨by omega, by omega⟩) dX11_put_47 (fun H locs hP hD hS => ?_)
  obtain ⟨v47_f, e47⟩ : ∃ g : Nat → Int32, g = upd fV (v45).toNatClampNeg p1 := ⟨_, rfl⟩
  rw [← e47] at hP hD
  have hP : va_P (dC, dI) vwCl [(h0, .inr (11, [.int th, .ref tB, .int tsz, .int tat, .int wr, .int dp, .ref rC, .ref rV, .ref rD, .ref rK, .ref rT, .ref rS, .ref rU, .int lw, .int tx, .ref rL, .ref rX, .ref qR, .ref qB, .ref qP, .int qnb, .int qnp, .ref aR, .ref aB, .ref aP, .int nb, .int np, .ref aN, .ref rf, .int ho, .int br, .ref aK, .int ac, .long dw, .ref aE, .int sr, .int sf, .ref aA, .ref aH, .ref aI, .int hi])), (rC, .inl (cI, 2600, .inl v23_f)), (rV, .inl (cI, 2600, .inl v47_f)), (rD, .inl (cI, 5, .inl fD))] H := hP
  have hD : va_D A [(h0, .inr (11, [.int th, .ref tB, .int tsz, .int tat, .int wr, .int dp, .ref rC, .ref rV, .ref rD, .ref rK, .ref rT, .ref rS, .ref rU, .int lw, .int tx, .ref rL, .ref rX, .ref qR, .ref qB, .ref qP, .int qnb, .int qnp, .ref aR, .ref aB, .ref aP, .int nb, .int np, .ref aN, .ref rf, .int ho, .int br, .ref aK, .int ac, .long dw, .ref aE, .int sr, .int sf, .ref aA, .ref aH, .ref aI, .int hi])), (rC, .inl (cI, 2600, .inl v23_f)), (rV, .inl (cI, 2600, .inl v47_f)), (rD, .inl (cI, 5, .inl fD))] := hD
  refine lv_aload_n hx hb dX11_put_48 rfl (lv_at hl 0 rfl) ?_
  refine va_get (D := (dC, dI)) (ci := 11) (v := .ref rD) (C := RX11) (T := TX11) (N := 41) hx hb hts iX11 hown hK hP 0 rfl rfl 8 (by decide) (hts _ qw1135) (fun _ h9 => h9) rfl dX11_put_49 ?_
  refine lv_aload_n hx hb dX11_put_52 rfl (lv_at hl 0 rfl) ?_
  refine va_get (D := (dC, dI)) (ci := 11) (v := .int tx) (C := RX11) (T := TX11) (N := 41) hx hb hts iX11 hown hK hP 0 rfl rfl 14 (by decide) (hts _ qw1141) (fun _ h9 => h9) rfl dX11_put_53 ?_
  refine lv_dup2_11 hx hb dX11_put_56 rfl rfl ?_
  refine va_iald hx hb hK hP 3 0 rfl rfl (vp_in_iff.mpr ⟨by omega, by omega⟩) dX11_put_57 ?_
  refine lv_topi (fun v57 e57 => ?_)
  have i57 : v57.toInt = (fD tx.toInt.toNat).toInt ∧ 0 ≤ v57.toInt ∧ v57.toInt ≤ 518 := zPar_d hpar e57 rfl (by omega)
  refine lv_iconst (v := 1) hx hb dX11_put_58 (by decide) ?_
  refine lv_iadd hx hb dX11_put_59 ?_
  refine lv_topi (fun v59 e59 => ?_)
  have i59 : v59.toInt = v57.toInt + 1 := zadd e59 rfl (by decide) (by omega) (by omega)
  refine va_iast hx hb hK hP hD hS 3 0 rfl rfl (vp_in_iff.mpr ⟨by omega, by omega⟩) dX11_put_60 (fun H locs hP hD hS => ?_)
  obtain ⟨v60_f, e60⟩ : ∃ g : Nat → Int32, g = upd fD (tx).toNatClampNeg v59 := ⟨_, rfl⟩
  rw [← e60] at hP hD
  have hP : va_P (dC, dI) vwCl [(h0, .inr (11, [.int th, .ref tB, .int tsz, .int tat, .int wr, .int dp, .ref rC, .ref rV, .ref rD, .ref rK, .ref rT, .ref rS, .ref rU, .int lw, .int tx, .ref rL, .ref rX, .ref qR, .ref qB, .ref qP, .int qnb, .int qnp, .ref aR, .ref aB, .ref aP, .int nb, .int np, .ref aN, .ref rf, .int ho, .int br, .ref aK, .int ac, .long dw, .ref aE, .int sr, .int sf, .ref aA, .ref aH, .ref aI, .int hi])), (rC, .inl (cI, 2600, .inl v23_f)), (rV, .inl (cI, 2600, .inl v47_f)), (rD, .inl (cI, 5, .inl v60_f))] H := hP
  have hD : va_D A [(h0, .inr (11, [.int th, .ref tB, .int tsz, .int tat, .int wr, .int dp, .ref rC, .ref rV, .ref rD, .ref rK, .ref rT, .ref rS, .ref rU, .int lw, .int tx, .ref rL, .ref rX, .ref qR, .ref qB, .ref qP, .int qnb, .int qnp, .ref aR, .ref aB, .ref aP, .int nb, .int np, .ref aN, .ref rf, .int ho, .int br, .ref aK, .int ac, .long dw, .ref aE, .int sr, .int sf, .ref aA, .ref aH, .ref aI, .int hi])), (rC, .inl (cI, 2600, .inl v23_f)), (rV, .inl (cI, 2600, .inl v47_f)), (rD, .inl (cI, 5, .inl v60_f))] := hD
  rw [hQ]
  exact W.vret hx hb hr (fun t ht hW => ⟨⟨(v23_f, v47_f, v60_f), rfl, ⟨by (try dsimp only); exact zEr_one (t := (33, 0)) e23 e47 (by omega) (by omega) (by decide) (fun z => absurd z (by decide)) (zfd1 e60 (by omega)) (by omega), zPar_put hpar e23 e47 e60 (by omega) (by omega) (by omega) (fun q => absurd q (by decide)) (zStep_n (by decide))⟩, ⟨by rw [ht]; exact hP, hD⟩⟩, hS.F ht⟩) hS.2.2 dX11_put_61
