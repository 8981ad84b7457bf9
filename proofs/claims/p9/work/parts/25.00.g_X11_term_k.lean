set_option maxHeartbeats 4000000 in
set_option maxRecDepth 100000 in
theorem g_X11_put_num (l : Launch) (dC : Nat → ClassId) (dI : Nat → Nat → Nat) (cI cJ : ClassId) (h0 : Nat) (p1 : Int32) (th : Int32) (tB : Nat) (tsz : Int32) (tat : Int32) (wr : Int32) (dp : Int32) (rC : Nat) (rV : Nat) (rD : Nat) (rK : Nat) (rT : Nat) (rS : Nat) (rU : Nat) (lw : Int32) (tx : Int32) (rL : Nat) (rX : Nat) (qR : Nat) (qB : Nat) (qP : Nat) (qnb : Int32) (qnp : Int32) (aR : Nat) (aB : Nat) (aP : Nat) (nb : Int32) (np : Int32) (aN : Nat) (rf : Nat) (ho : Int32) (br : Int32) (aK : Nat) (ac : Int32) (dw : Int64) (aE : Nat) (sr : Int32) (sf : Int32) (aA : Nat) (aH : Nat) (aI : Nat) (hi : Int32) (fC : Nat → Int32) (fV : Nat → Int32) (fD : Nat → Int32) (gC : Nat → Int32) (gV : Nat → Int32) (fz : Nat) (k : Nat) (st : Nat) (h : Nat) (sz : Nat) (n_ac : 0 ≤ ac.toInt ∧ ac.toInt ≤ 40) (n_hi : 0 ≤ hi.toInt ∧ hi.toInt ≤ 1) (n_ho : (-1) ≤ ho.toInt ∧ ho.toInt ≤ 3) (n_lw : 0 ≤ lw.toInt ∧ lw.toInt ≤ 4) (n_nb : 0 ≤ nb.toInt ∧ nb.toInt ≤ 6) (n_np : 0 ≤ np.toInt ∧ np.toInt ≤ 5) (n_qnb : 0 ≤ qnb.toInt ∧ qnb.toInt ≤ 6) (n_qnp : 0 ≤ qnp.toInt ∧ qnp.toInt ≤ 5) (n_tat : 0 ≤ tat.toInt ∧ tat.toInt ≤ 258) (n_tsz : 0 ≤ tsz.toInt ∧ tsz.toInt ≤ 240) (n_tx : 0 ≤ tx.toInt ∧ tx.toInt ≤ 4) (n_wr : (-1) ≤ wr.toInt ∧ wr.toInt ≤ 260) (hpar : zPar wr tat fC fV fD tx gC gV fz (k + 1) st (h)) (hh : h + 1 ≤ 80)   : Met l yX11_put (.code yX11_put cX11_put 3 none :: wA) ({ frames := 0, cells := 0, slots := 0, locals := 0 }) (zP (dC, dI) [(cI, .int), (cJ, .long)] [.ref h0, .int 0, .int p1] sz [(h0, .inr (11, [.int th, .ref tB, .int tsz, .int tat, .int wr, .int dp, .ref rC, .ref rV, .ref rD, .ref rK, .ref rT, .ref rS, .ref rU, .int lw, .int tx, .ref rL, .ref rX, .ref qR, .ref qB, .ref qP, .int qnb, .int qnp, .ref aR, .ref aB, .ref aP, .int nb, .int np, .ref aN, .ref rf, .int ho, .int br, .ref aK, .int ac, .long dw, .ref aE, .int sr, .int sf, .ref aA, .ref aH, .ref aI, .int hi])), (rC, .inl (cI, 2600, .inl fC)), (rV, .inl (cI, 2600, .inl fV)), (rD, .inl (cI, 5, .inl fD))]) (va_Qv (fun (u : (Nat → Int32) × (Nat → Int32) × (Nat → Int32)) => (zEr fC fV (520 * tx.toInt.toNat) (fD tx.toInt.toNat).toInt ([(1, p1.toInt)]) u.1 u.2.1 (u.2.2 tx.toInt.toNat).toInt) ∧ (zPar wr tat u.1 u.2.1 u.2.2 tx gC gV fz (k) st (h + 1))) (fun (u : (Nat → Int32) × (Nat → Int32) × (Nat → Int32)) (t : State) => va_P (dC, dI) vwCl [(h0, .inr (11, [.int th, .ref tB, .int tsz, .int tat, .int wr, .int dp, .ref rC, .ref rV, .ref rD, .ref rK, .ref rT, .ref rS, .ref rU, .int lw, .int tx, .ref rL, .ref rX, .ref qR, .ref qB, .ref qP, .int qnb, .int qnp, .ref aR, .ref aB, .ref aP, .int nb, .int np, .ref aN, .ref rf, .int ho, .int br, .ref aK, .int ac, .long dw, .ref aE, .int sr, .int sf, .ref aA, .ref aH, .ref aI, .int hi])), (rC, .inl (cI, 2600, .inl u.1)), (rV, .inl (cI, 2600, .inl u.2.1)), (rD, .inl (cI, 5, .inl u.2.2))] t.heap ∧ va_D (va_A [(h0, .inr (11, [.int th, .ref tB, .int tsz, .int tat, .int wr, .int dp, .ref rC, .ref rV, .ref rD, .ref rK, .ref rT, .ref rS, .ref rU, .int lw, .int tx, .ref rL, .ref rX, .ref qR, .ref qB, .ref qP, .int qnb, .int qnp, .ref aR, .ref aB, .ref aP, .int nb, .int np, .ref aN, .ref rf, .int ho, .int br, .ref aK, .int ac, .long dw, .ref aE, .int sr, .int sf, .ref aA, .ref aH, .ref aI, .int hi])), (rC, .inl (cI, 2600, .inl fC)), (rV, .inl (cI, 2600, .inl fV)), (rD, .inl (cI, 5, .inl fD))] sz) [(h0, .inr (11, [.int th, .ref tB, .int tsz, .int tat, .int wr, .int dp, .ref rC, .ref rV, .ref rD, .ref rK, .ref rT, .ref rS, .ref rU, .int lw, .int tx, .ref rL, .ref rX, .ref qR, .ref qB, .ref qP, .int qnb, .int qnp, .ref aR, .ref aB, .ref aP, .int nb, .int np, .ref aN, .ref rf, .int ho, .int br, .ref aK, .int ac, .long dw, .ref aE, .int sr, .int sf, .ref aA, .ref aH, .ref aI, .int hi])), (rC, .inl (cI, 2600, .inl u.1)), (rV, .inl (cI, 2600, .inl u.2.1)), (rD, .inl (cI, 5, .inl u.2.2))]) (va_A [(h0, .inr (11, [.int th, .ref tB, .int tsz, .int tat, .int wr, .int dp, .ref rC, .ref rV, .ref rD, .ref rK, .ref rT, .ref rS, .ref rU, .int lw, .int tx, .ref rL, .ref rX, .ref qR, .ref qB, .ref qP, .int qnb, .int qnp, .ref aR, .ref aB, .ref aP, .int nb, .int np, .ref aN, .ref rf, .int ho, .int br, .ref aK, .int ac, .long dw, .ref aE, .int sr, .int sf, .ref aA, .ref aH, .ref aI, .int hi])), (rC, .inl (cI, 2600, .inl fC)), (rV, .inl (cI, 2600, .inl fV)), (rD, .inl (cI, 5, .inl fD))] sz)) 0 0 (va_A [(h0, .inr (11, [.int th, .ref tB, .int tsz, .int tat, .int wr, .int dp, .ref rC, .ref rV, .ref rD, .ref rK, .ref rT, .ref rS, .ref rU, .int lw, .int tx, .ref rL, .ref rX, .ref qR, .ref qB, .ref qP, .int qnb, .int qnp, .ref aR, .ref aB, .ref aP, .int nb, .int np, .ref aN, .ref rf, .int ho, .int br, .ref aK, .int ac, .long dw, .ref aE, .int sr, .int sf, .ref aA, .ref aH, .ref aI, .int hi])), (rC, .inl (cI, 2600, .inl fC)), (rV, .inl (cI, 2600, .inl fV)), (rD, .inl (cI, 5, .inl fD))] sz) := by
  refine Met.ofW (cc := cX11_put) (maxL := 3) (ret := none) (by decide) rfl ?_
  intro p e s m args below meth c s₁ B hml hv
  have y_ac : zHid (0 ≤ ac.toInt ∧ ac.toInt ≤ 40) := n_ac
  have y_hi : zHid (0 ≤ hi.toInt ∧ hi.toInt ≤ 1) := n_hi
  have y_ho : zHid ((-1) ≤ ho.toInt ∧ ho.toInt ≤ 3) := n_ho
  have y_lw : zHid (0 ≤ lw.toInt ∧ lw.toInt ≤ 4) := n_lw
  have y_nb : zHid (0 ≤ nb.toInt ∧ nb.toInt ≤ 6) := n_nb
  have y_np : zHid (0 ≤ np.toInt ∧ np.toInt ≤ 5) := n_np
  have y_qnb : zHid (0 ≤ qnb.toInt ∧ qnb.toInt ≤ 6) := n_qnb
  have y_qnp : zHid (0 ≤ qnp.toInt ∧ qnp.toInt ≤ 5) := n_qnp
  have y_tsz : zHid (0 ≤ tsz.toInt ∧ tsz.toInt ≤ 240) := n_tsz
  clear n_ac n_hi n_ho n_lw n_nb n_np n_qnb n_qnp n_tsz
  obtain ⟨hargs, hsz, hP, hK, hT⟩ := hv
  have hx := B.exec
  have hb := B.bytes
  have hr := B.returns
  have hts : ∀ w ∈ wA, w.before args s = true := fun w h => atoms_spec (ws := .code yX11_put cX11_put 3 none :: wA) B.pre w (List.mem_cons_of_mem _ h)
  have hown : s.vm.findClass RX11 = some m.cls := findClass_of_methodNamed B.named
  have hlocks := B.notSynchronized
  subst hsz
  have hD := hT.self (sz := s.heap.size)
  generalize hAe : va_A [(h0, .inr (11, [.int th, .ref tB, .int tsz, .int tat, .int wr, .int dp, .ref rC, .ref rV, .ref rD, .ref rK, .ref rT, .ref rS, .ref rU, .int lw, .int tx, .ref rL, .ref rX, .ref qR, .ref qB, .ref qP, .int qnb, .int qnp, .ref aR, .ref aB, .ref aP, .int nb, .int np, .ref aN, .ref rf, .int ho, .int br, .ref aK, .int ac, .long dw, .ref aE, .int sr, .int sf, .ref aA, .ref aH, .ref aI, .int hi])), (rC, .inl (cI, 2600, .inl fC)), (rV, .inl (cI, 2600, .inl fV)), (rD, .inl (cI, 5, .inl fD))] s.heap.size = A at hD ⊢
  have hA : ∀ q : Nat, s.heap.size ≤ q → A q := fun q h => by rw [← hAe]; exact Or.inr h
  have hl := lv_entry ([.ref h0, .int 0, .int p1]) (n := 3) (Nat.le_of_ble_eq_true rfl)
  rw [show entryFrame m args 3 = entryFrame m ([.ref h0, .int 0, .int p1] : List Value).toArray 3 by rw [hargs], lg_entry_eq]
  generalize (lg_sl ([.ref h0, .int 0, .int p1]) ++ List.replicate (3 - (lg_sl ([.ref h0, .int 0, .int p1])).length) Slot.unset).toArray = ls at hl ⊢
  have hl : lv_has ls 3 [(0, .ref h0), (1, .int 0), (2, .int p1)] := hl
  refine zstart (fun H hH => ?_)
  rw [← hH] at hP
  have hS : va_S A s.heap H [] := by rw [hH]; exact va_S.rf
  generalize ([] : List Loc) = locs at hS ⊢
  refine zgen (fun R Q hR hQ => ?_)
  have zm1 : (-1 : Int32).toInt = -1 := by decide
  refine lv_aload_n hx hb dX11_put_0 rfl (lv_at hl 0 rfl) ?_
  refine va_get (D := (dC, dI)) (ci := 11) (v := .ref rC) (C := RX11) (T := TX11) (N := 41) hx hb hts iX11 hown hK hP 0 rfl rfl 6 (by decide) (hts _ qw1133) (fun _ h9 => h9) rfl dX11_put_1 ?_
  refine lv_sipush (v := 520) hx hb dX11_put_4 (by decide) ?_
  refine lv_aload_n hx hb dX11_put_7 rfl (lv_at hl 0 rfl) ?_
  refine va_get (D := (dC, dI)) (ci := 11) (v := .int tx) (C := RX11) (T := TX11) (N := 41) hx hb hts iX11 hown hK hP 0 rfl rfl 14 (by decide) (hts _ qw1141) (fun _ h9 => h9) rfl dX11_put_8 ?_
  refine lv_imul hx hb dX11_put_11 ?_
  refine lv_topi (fun v11 e11 => ?_)
  have i11 : v11.toInt = 520 * tx.toInt := zmul e11 (by decide) rfl (by omega) (by omega)
  refine lv_aload_n hx hb dX11_put_12 rfl (lv_at hl 0 rfl) ?_
  refine va_get (D := (dC, dI)) (ci := 11) (v := .ref rD) (C := RX11) (T := TX11) (N := 41) hx hb hts iX11 hown hK hP 0 rfl rfl 8 (by decide) (hts _ qw1135) (fun _ h9 => h9) rfl dX11_put_13 ?_
  refine lv_aload_n hx hb dX11_put_16 rfl (lv_at hl 0 rfl) ?_
  refine va_get (D := (dC, dI)) (ci := 11) (v := .int tx) (C := RX11) (T := TX11) (N := 41) hx hb hts iX11 hown hK hP 0 rfl rfl 14 (by decide) (hts _ qw1141) (fun _ h9 => h9) rfl dX11_put_17 ?_
  refine va_iald hx hb hK hP 3 0 rfl rfl (vp_in_iff.mpr ⟨by omega, by omega⟩) dX11_put_20 ?_
  refine lv_topi (fun v20 e20 => ?_)
  have i20 : v20.toInt = (fD tx.toInt.toNat).toInt ∧ 0 ≤ v20.toInt ∧ v20.toInt ≤ 518 := zPar_d hpar e20 rfl (by omega)
  refine lv_iadd hx hb dX11_put_21 ?_
  refine lv_topi (fun v21 e21 => ?_)
  have i21 : v21.toInt = v11.toInt + v20.toInt := zadd e21 rfl rfl (by omega) (by omega)
  refine lv_iload_n hx hb dX11_put_22 rfl (lv_at hl 1 rfl) ?_
  refine va_iast hx hb hK hP hD hS 1 0 rfl rfl (vp_in_iff.mpr ⟨by omega, by omega⟩) dX11_put_23 (fun H locs hP9 hD9 hS9 => ?_)
  clear hP hD hS
  obtain ⟨v23_f, e23⟩ : ∃ g : Nat → Int32, g = upd fC (v21).toNatClampNeg 0 := ⟨_, rfl⟩
  rw [← e23] at hP9 hD9
  obtain ⟨hP, hD⟩ := zst (wX := [(h0, .inr (11, [.int th, .ref tB, .int tsz, .int tat, .int wr, .int dp, .ref rC, .ref rV, .ref rD, .ref rK, .ref rT, .ref rS, .ref rU, .int lw, .int tx, .ref rL, .ref rX, .ref qR, .ref qB, .ref qP, .int qnb, .int qnp, .ref aR, .ref aB, .ref aP, .int nb, .int np, .ref aN, .ref rf, .int ho, .int br, .ref aK, .int ac, .long dw, .ref aE, .int sr, .int sf, .ref aA, .ref aH, .ref aI, .int hi])), (rC, .inl (cI, 2600, .inl v23_f)), (rV, .inl (cI, 2600, .inl fV)), (rD, .inl (cI, 5, .inl fD))]) hP9 hD9 rfl
  have hS := hS9
  clear hP9 hD9 hS9
  refine lv_aload_n hx hb dX11_put_24 rfl (lv_at hl 0 rfl) ?_
  refine va_get (D := (dC, dI)) (ci := 11) (v := .ref rV) (C := RX11) (T := TX11) (N := 41) hx hb hts iX11 hown hK hP 0 rfl rfl 7 (by decide) (hts _ qw1134) (fun _ h9 => h9) rfl dX11_put_25 ?_
  refine lv_sipush (v := 520) hx hb dX11_put_28 (by decide) ?_
  refine lv_aload_n hx hb dX11_put_31 rfl (lv_at hl 0 rfl) ?_
  refine va_get (D := (dC, dI)) (ci := 11) (v := .int tx) (C := RX11) (T := TX11) (N := 41) hx hb hts iX11 hown hK hP 0 rfl rfl 14 (by decide) (hts _ qw1141) (fun _ h9 => h9) rfl dX11_put_32 ?_
  refine lv_imul hx hb dX11_put_35 ?_
  refine lv_topi (fun v35 e35 => ?_)
  have i35 : v35.toInt = 520 * tx.toInt := zmul e35 (by decide) rfl (by omega) (by omega)
  refine lv_aload_n hx hb dX11_put_36 rfl (lv_at hl 0 rfl) ?_
  refine va_get (D := (dC, dI)) (ci := 11) (v := .ref rD) (C := RX11) (T := TX11) (N := 41) hx hb hts iX11 hown hK hP 0 rfl rfl 8 (by decide) (hts _ qw1135) (fun _ h9 => h9) rfl dX11_put_37 ?_
  refine lv_aload_n hx hb dX11_put_40 rfl (lv_at hl 0 rfl) ?_
  refine va_get (D := (dC, dI)) (ci := 11) (v := .int tx) (C := RX11) (T := TX11) (N := 41) hx hb hts iX11 hown hK hP 0 rfl rfl 14 (by decide) (hts _ qw1141) (fun _ h9 => h9) rfl dX11_put_41 ?_
  refine va_iald hx hb hK hP 3 0 rfl rfl (vp_in_iff.mpr ⟨by omega, by omega⟩) dX11_put_44 ?_
  refine lv_topi (fun v44 e44 => ?_)
  have i44 : v44.toInt = (fD tx.toInt.toNat).toInt ∧ 0 ≤ v44.toInt ∧ v44.toInt ≤ 518 := zPar_d hpar e44 rfl (by omega)
  refine lv_iadd hx hb dX11_put_45 ?_
  refine lv_topi (fun v45 e45 => ?_)
  have i45 : v45.toInt = v35.toInt + v44.toInt := zadd e45 rfl rfl (by omega) (by omega)
  refine lv_iload_n hx hb dX11_put_46 rfl (lv_at hl 2 rfl) ?_
  refine va_iast hx hb hK hP hD hS 2 0 rfl rfl (vp_in_iff.mpr ⟨by omega, by omega⟩) dX11_put_47 (fun H locs hP9 hD9 hS9 => ?_)
  clear hP hD hS
  obtain ⟨v47_f, e47⟩ : ∃ g : Nat → Int32, g = upd fV (v45).toNatClampNeg p1 := ⟨_, rfl⟩
  rw [← e47] at hP9 hD9
  obtain ⟨hP, hD⟩ := zst (wX := [(h0, .inr (11, [.int th, .ref tB, .int tsz, .int tat, .int wr, .int dp, .ref rC, .ref rV, .ref rD, .ref rK, .ref rT, .ref rS, .ref rU, .int lw, .int tx, .ref rL, .ref rX, .ref qR, .ref qB, .ref qP, .int qnb, .int qnp, .ref aR, .ref aB, .ref aP, .int nb, .int np, .ref aN, .ref rf, .int ho, .int br, .ref aK, .int ac, .long dw, .ref aE, .int sr, .int sf, .ref aA, .ref aH, .ref aI, .int hi])), (rC, .inl (cI, 2600, .inl v23_f)), (rV, .inl (cI, 2600, .inl v47_f)), (rD, .inl (cI, 5, .inl fD))]) hP9 hD9 rfl
  have hS := hS9
  clear hP9 hD9 hS9
  refine lv_aload_n hx hb dX11_put_48 rfl (lv_at hl 0 rfl) ?_
  refine va_get (D := (dC, dI)) (ci := 11) (v := .ref rD) (C := RX11) (T := TX11) (N := 41) hx hb hts iX11 hown hK hP 0 rfl rfl 8 (by decide) (hts _ qw1135) (fun _ h9 => h9) rfl dX11_put_49 ?_
  refine lv_aload_n hx hb dX11_put_52 rfl (lv_at hl 0 rfl) ?_
  refine va_get (D := (dC, dI)) (ci := 11) (v := .int tx) (C := RX11) (T := TX11) (N := 41) hx hb hts iX11 hown hK hP 0 rfl rfl 14 (by decide) (hts _ qw1141) (fun _ h9 => h9) rfl dX11_put_53 ?_
  refine lv_dup2_11 hx hb dX11_put_56 rfl rfl ?_
  refine va_iald hx hb hK hP 3 0 rfl rfl (vp_in_iff.mpr ⟨by omega, by omega⟩) dX11_put_57 ?_
  refine lv_topi (fun v57 e57 => ?_)
  have i57 : v57.toInt = (fD tx.toInt.toNat).toInt ∧ 0 ≤ v57.toInt ∧ v57.toInt ≤ 518 := zPar_d hpar e57 rfl (by omega)
  refine lv_iconst (v := 1) hx hb dX11_put_58 (by decide) ?_
  refine lv_iadd hx hb dX11_put_59 ?_
  refine lv_topi (fun v59 e59 => ?_)
  have i59 : v59.toInt = v57.toInt + 1 := zadd e59 rfl (by decide) (by omega) (by omega)
  refine va_iast hx hb hK hP hD hS 3 0 rfl rfl (vp_in_iff.mpr ⟨by omega, by omega⟩) dX11_put_60 (fun H locs hP9 hD9 hS9 => ?_)
  clear hP hD hS
  obtain ⟨v60_f, e60⟩ : ∃ g : Nat → Int32, g = upd fD (tx).toNatClampNeg v59 := ⟨_, rfl⟩
  rw [← e60] at hP9 hD9
  obtain ⟨hP, hD⟩ := zst (wX := [(h0, .inr (11, [.int th, .ref tB, .int tsz, .int tat, .int wr, .int dp, .ref rC, .ref rV, .ref rD, .ref rK, .ref rT, .ref rS, .ref rU, .int lw, .int tx, .ref rL, .ref rX, .ref qR, .ref qB, .ref qP, .int qnb, .int qnp, .ref aR, .ref aB, .ref aP, .int nb, .int np, .ref aN, .ref rf, .int ho, .int br, .ref aK, .int ac, .long dw, .ref aE, .int sr, .int sf, .ref aA, .ref aH, .ref aI, .int hi])), (rC, .inl (cI, 2600, .inl v23_f)), (rV, .inl (cI, 2600, .inl v47_f)), (rD, .inl (cI, 5, .inl v60_f))]) hP9 hD9 rfl
  have hS := hS9
  clear hP9 hD9 hS9
  rw [hQ]
  exact W.vret hx hb hr (fun t ht hW => ⟨⟨(v23_f, v47_f, v60_f), rfl, ⟨by (try dsimp only); exact zEr_one (t := (1, p1.toInt)) e23 e47 (by omega) (by omega) (show (0 : Int32).toInt = eRc 1 by decide) (fun _ => rfl) (zfd1 e60 (by omega)) (by omega), zPar_put hpar e23 e47 e60 (by omega) (by omega) (by omega) (fun q => absurd q (by decide)) (zStep_y (Or.inl (by decide)) (by omega))⟩, ⟨by rw [ht]; exact hP, hD⟩⟩, hS.F ht⟩) hS.2.2 dX11_put_61
set_option maxHeartbeats 4000000 in
set_option maxRecDepth 100000 in
theorem g_X11_put_let (l : Launch) (dC : Nat → ClassId) (dI : Nat → Nat → Nat) (cI cJ : ClassId) (h0 : Nat) (p1 : Int32) (th : Int32) (tB : Nat) (tsz : Int32) (tat : Int32) (wr : Int32) (dp : Int32) (rC : Nat) (rV : Nat) (rD : Nat) (rK : Nat) (rT : Nat) (rS : Nat) (rU : Nat) (lw : Int32) (tx : Int32) (rL : Nat) (rX : Nat) (qR : Nat) (qB : Nat) (qP : Nat) (qnb : Int32) (qnp : Int32) (aR : Nat) (aB : Nat) (aP : Nat) (nb : Int32) (np : Int32) (aN : Nat) (rf : Nat) (ho : Int32) (br : Int32) (aK : Nat) (ac : Int32) (dw : Int64) (aE : Nat) (sr : Int32) (sf : Int32) (aA : Nat) (aH : Nat) (aI : Nat) (hi : Int32) (fC : Nat → Int32) (fV : Nat → Int32) (fD : Nat → Int32) (gC : Nat → Int32) (gV : Nat → Int32) (fz : Nat) (k : Nat) (st : Nat) (h : Nat) (sz : Nat) (n_ac : 0 ≤ ac.toInt ∧ ac.toInt ≤ 40) (n_hi : 0 ≤ hi.toInt ∧ hi.toInt ≤ 1) (n_ho : (-1) ≤ ho.toInt ∧ ho.toInt ≤ 3) (n_lw : 0 ≤ lw.toInt ∧ lw.toInt ≤ 4) (n_nb : 0 ≤ nb.toInt ∧ nb.toInt ≤ 6) (n_np : 0 ≤ np.toInt ∧ np.toInt ≤ 5) (n_p1 : 0 ≤ p1.toInt ∧ p1.toInt ≤ 5) (n_qnb : 0 ≤ qnb.toInt ∧ qnb.toInt ≤ 6) (n_qnp : 0 ≤ qnp.toInt ∧ qnp.toInt ≤ 5) (n_tat : 0 ≤ tat.toInt ∧ tat.toInt ≤ 258) (n_tsz : 0 ≤ tsz.toInt ∧ tsz.toInt ≤ 240) (n_tx : 0 ≤ tx.toInt ∧ tx.toInt ≤ 4) (n_wr : (-1) ≤ wr.toInt ∧ wr.toInt ≤ 260) (hpar : zPar wr tat fC fV fD tx gC gV fz (k + 1) st (h)) (hh : h + 1 ≤ 80)   : Met l yX11_put (.code yX11_put cX11_put 3 none :: wA) ({ frames := 0, cells := 0, slots := 0, locals := 0 }) (zP (dC, dI) [(cI, .int), (cJ, .long)] [.ref h0, .int 1, .int p1] sz [(h0, .inr (11, [.int th, .ref tB, .int tsz, .int tat, .int wr, .int dp, .ref rC, .ref rV, .ref rD, .ref rK, .ref rT, .ref rS, .ref rU, .int lw, .int tx, .ref rL, .ref rX, .ref qR, .ref qB, .ref qP, .int qnb, .int qnp, .ref aR, .ref aB, .ref aP, .int nb, .int np, .ref aN, .ref rf, .int ho, .int br, .ref aK, .int ac, .long dw, .ref aE, .int sr, .int sf, .ref aA, .ref aH, .ref aI, .int hi])), (rC, .inl (cI, 2600, .inl fC)), (rV, .inl (cI, 2600, .inl fV)), (rD, .inl (cI, 5, .inl fD))]) (va_Qv (fun (u : (Nat → Int32) × (Nat → Int32) × (Nat → Int32)) => (zEr fC fV (520 * tx.toInt.toNat) (fD tx.toInt.toNat).toInt ([(2, p1.toInt)]) u.1 u.2.1 (u.2.2 tx.toInt.toNat).toInt) ∧ (zPar wr tat u.1 u.2.1 u.2.2 tx gC gV fz (k) st (h + 1))) (fun (u : (Nat → Int32) × (Nat → Int32) × (Nat → Int32)) (t : State) => va_P (dC, dI) vwCl [(h0, .inr (11, [.int th, .ref tB, .int tsz, .int tat, .int wr, .int dp, .ref rC, .ref rV, .ref rD, .ref rK, .ref rT, .ref rS, .ref rU, .int lw, .int tx, .ref rL, .ref rX, .ref qR, .ref qB, .ref qP, .int qnb, .int qnp, .ref aR, .ref aB, .ref aP, .int nb, .int np, .ref aN, .ref rf, .int ho, .int br, .ref aK, .int ac, .long dw, .ref aE, .int sr, .int sf, .ref aA, .ref aH, .ref aI, .int hi])), (rC, .inl (cI, 2600, .inl u.1)), (rV, .inl (cI, 2600, .inl u.2.1)), (rD, .inl (cI, 5, .inl u.2.2))] t.heap ∧ va_D (va_A [(h0, .inr (11, [.int th, .ref tB, .int tsz, .int tat, .int wr, .int dp, .ref rC, .ref rV, .ref rD, .ref rK, .ref rT, .ref rS, .ref rU, .int lw, .int tx, .ref rL, .ref rX, .ref qR, .ref qB, .ref qP, .int qnb, .int qnp, .ref aR, .ref aB, .ref aP, .int nb, .int np, .ref aN, .ref rf, .int ho, .int br, .ref aK, .int ac, .long dw, .ref aE, .int sr, .int sf, .ref aA, .ref aH, .ref aI, .int hi])), (rC, .inl (cI, 2600, .inl fC)), (rV, .inl (cI, 2600, .inl fV)), (rD, .inl (cI, 5, .inl fD))] sz) [(h0, .inr (11, [.int th, .ref tB, .int tsz, .int tat, .int wr, .int dp, .ref rC, .ref rV, .ref rD, .ref rK, .ref rT, .ref rS, .ref rU, .int lw, .int tx, .ref rL, .ref rX, .ref qR, .ref qB, .ref qP, .int qnb, .int qnp, .ref aR, .ref aB, .ref aP, .int nb, .int np, .ref aN, .ref rf, .int ho, .int br, .ref aK, .int ac, .long dw, .ref aE, .int sr, .int sf, .ref aA, .ref aH, .ref aI, .int hi])), (rC, .inl (cI, 2600, .inl u.1)), (rV, .inl (cI, 2600, .inl u.2.1)), (rD, .inl (cI, 5, .inl u.2.2))]) (va_A [(h0, .inr (11, [.int th, .ref tB, .int tsz, .int tat, .int wr, .int dp, .ref rC, .ref rV, .ref rD, .ref rK, .ref rT, .ref rS, .ref rU, .int lw, .int tx, .ref rL, .ref rX, .ref qR, .ref qB, .ref qP, .int qnb, .int qnp, .ref aR, .ref aB, .ref aP, .int nb, .int np, .ref aN, .ref rf, .int ho, .int br, .ref aK, .int ac, .long dw, .ref aE, .int sr, .int sf, .ref aA, .ref aH, .ref aI, .int hi])), (rC, .inl (cI, 2600, .inl fC)), (rV, .inl (cI, 2600, .inl fV)), (rD, .inl (cI, 5, .inl fD))] sz)) 0 0 (va_A [(h0, .inr (11, [.int th, .ref tB, .int tsz, .int tat, .int wr, .int dp, .ref rC, .ref rV, .ref rD, .ref rK, .ref rT, .ref rS, .ref rU, .int lw, .int tx, .ref rL, .ref rX, .ref qR, .ref qB, .ref qP, .int qnb, .int qnp, .ref aR, .ref aB, .ref aP, .int nb, .int np, .ref aN, .ref rf, .int ho, .int br, .ref aK, .int ac, .long dw, .ref aE, .int sr, .int sf, .ref aA, .ref aH, .ref aI, .int hi])), (rC, .inl (cI, 2600, .inl fC)), (rV, .inl (cI, 2600, .inl fV)), (rD, .inl (cI, 5, .inl fD))] sz) := by
  refine Met.ofW (cc := cX11_put) (maxL := 3) (ret := none) (by decide) rfl ?_
  intro p e s m args below meth c s₁ B hml hv
  have y_ac : zHid (0 ≤ ac.toInt ∧ ac.toInt ≤ 40) := n_ac
  have y_hi : zHid (0 ≤ hi.toInt ∧ hi.toInt ≤ 1) := n_hi
  have y_ho : zHid ((-1) ≤ ho.toInt ∧ ho.toInt ≤ 3) := n_ho
  have y_lw : zHid (0 ≤ lw.toInt ∧ lw.toInt ≤ 4) := n_lw
  have y_nb : zHid (0 ≤ nb.toInt ∧ nb.toInt ≤ 6) := n_nb
  have y_np : zHid (0 ≤ np.toInt ∧ np.toInt ≤ 5) := n_np
  have y_qnb : zHid (0 ≤ qnb.toInt ∧ qnb.toInt ≤ 6) := n_qnb
  have y_qnp : zHid (0 ≤ qnp.toInt ∧ qnp.toInt ≤ 5) := n_qnp
  have y_tsz : zHid (0 ≤ tsz.toInt ∧ tsz.toInt ≤ 240) := n_tsz
  clear n_ac n_hi n_ho n_lw n_nb n_np n_qnb n_qnp n_tsz
  obtain ⟨hargs, hsz, hP, hK, hT⟩ := hv
  have hx := B.exec
  have hb := B.bytes
  have hr := B.returns
  have hts : ∀ w ∈ wA, w.before args s = true := fun w h => atoms_spec (ws := .code yX11_put cX11_put 3 none :: wA) B.pre w (List.mem_cons_of_mem _ h)
  have hown : s.vm.findClass RX11 = some m.cls := findClass_of_methodNamed B.named
  have hlocks := B.notSynchronized
  subst hsz
  have hD := hT.self (sz := s.heap.size)
  generalize hAe : va_A [(h0, .inr (11, [.int th, .ref tB, .int tsz, .int tat, .int wr, .int dp, .ref rC, .ref rV, .ref rD, .ref rK, .ref rT, .ref rS, .ref rU, .int lw, .int tx, .ref rL, .ref rX, .ref qR, .ref qB, .ref qP, .int qnb, .int qnp, .ref aR, .ref aB, .ref aP, .int nb, .int np, .ref aN, .ref rf, .int ho, .int br, .ref aK, .int ac, .long dw, .ref aE, .int sr, .int sf, .ref aA, .ref aH, .ref aI, .int hi])), (rC, .inl (cI, 2600, .inl fC)), (rV, .inl (cI, 2600, .inl fV)), (rD, .inl (cI, 5, .inl fD))] s.heap.size = A at hD ⊢
  have hA : ∀ q : Nat, s.heap.size ≤ q → A q := fun q h => by rw [← hAe]; exact Or.inr h
  have hl := lv_entry ([.ref h0, .int 1, .int p1]) (n := 3) (Nat.le_of_ble_eq_true rfl)
  rw [show entryFrame m args 3 = entryFrame m ([.ref h0, .int 1, .int p1] : List Value).toArray 3 by rw [hargs], lg_entry_eq]
  generalize (lg_sl ([.ref h0, .int 1, .int p1]) ++ List.replicate (3 - (lg_sl ([.ref h0, .int 1, .int p1])).length) Slot.unset).toArray = ls at hl ⊢
  have hl : lv_has ls 3 [(0, .ref h0), (1, .int 1), (2, .int p1)] := hl
  refine zstart (fun H hH => ?_)
  rw [← hH] at hP
  have hS : va_S A s.heap H [] := by rw [hH]; exact va_S.rf
  generalize ([] : List Loc) = locs at hS ⊢
  refine zgen (fun R Q hR hQ => ?_)
  have zm1 : (-1 : Int32).toInt = -1 := by decide
  refine lv_aload_n hx hb dX11_put_0 rfl (lv_at hl 0 rfl) ?_
  refine va_get (D := (dC, dI)) (ci := 11) (v := .ref rC) (C := RX11) (T := TX11) (N := 41) hx hb hts iX11 hown hK hP 0 rfl rfl 6 (by decide) (hts _ qw1133) (fun _ h9 => h9) rfl dX11_put_1 ?_
  refine lv_sipush (v := 520) hx hb dX11_put_4 (by decide) ?_
  refine lv_aload_n hx hb dX11_put_7 rfl (lv_at hl 0 rfl) ?_
  refine va_get (D := (dC, dI)) (ci := 11) (v := .int tx) (C := RX11) (T := TX11) (N := 41) hx hb hts iX11 hown hK hP 0 rfl rfl 14 (by decide) (hts _ qw1141) (fun _ h9 => h9) rfl dX11_put_8 ?_
  refine lv_imul hx hb dX11_put_11 ?_
  refine lv_topi (fun v11 e11 => ?_)
  have i11 : v11.toInt = 520 * tx.toInt := zmul e11 (by decide) rfl (by omega) (by omega)
  refine lv_aload_n hx hb dX11_put_12 rfl (lv_at hl 0 rfl) ?_
  refine va_get (D := (dC, dI)) (ci := 11) (v := .ref rD) (C := RX11) (T := TX11) (N := 41) hx hb hts iX11 hown hK hP 0 rfl rfl 8 (by decide) (hts _ qw1135) (fun _ h9 => h9) rfl dX11_put_13 ?_
  refine lv_aload_n hx hb dX11_put_16 rfl (lv_at hl 0 rfl) ?_
  refine va_get (D := (dC, dI)) (ci := 11) (v := .int tx) (C := RX11) (T := TX11) (N := 41) hx hb hts iX11 hown hK hP 0 rfl rfl 14 (by decide) (hts _ qw1141) (fun _ h9 => h9) rfl dX11_put_17 ?_
  refine va_iald hx hb hK hP 3 0 rfl rfl (vp_in_iff.mpr ⟨by omega, by omega⟩) dX11_put_20 ?_
  refine lv_topi (fun v20 e20 => ?_)
  have i20 : v20.toInt = (fD tx.toInt.toNat).toInt ∧ 0 ≤ v20.toInt ∧ v20.toInt ≤ 518 := zPar_d hpar e20 rfl (by omega)
  refine lv_iadd hx hb dX11_put_21 ?_
  refine lv_topi (fun v21 e21 => ?_)
  have i21 : v21.toInt = v11.toInt + v20.toInt := zadd e21 rfl rfl (by omega) (by omega)
  refine lv_iload_n hx hb dX11_put_22 rfl (lv_at hl 1 rfl) ?_
  refine va_iast hx hb hK hP hD hS 1 0 rfl rfl (vp_in_iff.mpr ⟨by omega, by omega⟩) dX11_put_23 (fun H locs hP9 hD9 hS9 => ?_)
  clear hP hD hS
  obtain ⟨v23_f, e23⟩ : ∃ g : Nat → Int32, g = upd fC (v21).toNatClampNeg 1 := ⟨_, rfl⟩
  rw [← e23] at hP9 hD9
  obtain ⟨hP, hD⟩ := zst (wX := [(h0, .inr (11, [.int th, .ref tB, .int tsz, .int tat, .int wr, .int dp, .ref rC, .ref rV, .ref rD, .ref rK, .ref rT, .ref rS, .ref rU, .int lw, .int tx, .ref rL, .ref rX, .ref qR, .ref qB, .ref qP, .int qnb, .int qnp, .ref aR, .ref aB, .ref aP, .int nb, .int np, .ref aN, .ref rf, .int ho, .int br, .ref aK, .int ac, .long dw, .ref aE, .int sr, .int sf, .ref aA, .ref aH, .ref aI, .int hi])), (rC, .inl (cI, 2600, .inl v23_f)), (rV, .inl (cI, 2600, .inl fV)), (rD, .inl (cI, 5, .inl fD))]) hP9 hD9 rfl
  have hS := hS9
  clear hP9 hD9 hS9
  refine lv_aload_n hx hb dX11_put_24 rfl (lv_at hl 0 rfl) ?_
  refine va_get (D := (dC, dI)) (ci := 11) (v := .ref rV) (C := RX11) (T := TX11) (N := 41) hx hb hts iX11 hown hK hP 0 rfl rfl 7 (by decide) (hts _ qw1134) (fun _ h9 => h9) rfl dX11_put_25 ?_
  refine lv_sipush (v := 520) hx hb dX11_put_28 (by decide) ?_
  refine lv_aload_n hx hb dX11_put_31 rfl (lv_at hl 0 rfl) ?_
  refine va_get (D := (dC, dI)) (ci := 11) (v := .int tx) (C := RX11) (T := TX11) (N := 41) hx hb hts iX11 hown hK hP 0 rfl rfl 14 (by decide) (hts _ qw1141) (fun _ h9 => h9) rfl dX11_put_32 ?_
  refine lv_imul hx hb dX11_put_35 ?_
  refine lv_topi (fun v35 e35 => ?_)
  have i35 : v35.toInt = 520 * tx.toInt := zmul e35 (by decide) rfl (by omega) (by omega)
  refine lv_aload_n hx hb dX11_put_36 rfl (lv_at hl 0 rfl) ?_
  refine va_get (D := (dC, dI)) (ci := 11) (v := .ref rD) (C := RX11) (T := TX11) (N := 41) hx hb hts iX11 hown hK hP 0 rfl rfl 8 (by decide) (hts _ qw1135) (fun _ h9 => h9) rfl dX11_put_37 ?_
  refine lv_aload_n hx hb dX11_put_40 rfl (lv_at hl 0 rfl) ?_
  refine va_get (D := (dC, dI)) (ci := 11) (v := .int tx) (C := RX11) (T := TX11) (N := 41) hx hb hts iX11 hown hK hP 0 rfl rfl 14 (by decide) (hts _ qw1141) (fun _ h9 => h9) rfl dX11_put_41 ?_
  refine va_iald hx hb hK hP 3 0 rfl rfl (vp_in_iff.mpr ⟨by omega, by omega⟩) dX11_put_44 ?_
  refine lv_topi (fun v44 e44 => ?_)
  have i44 : v44.toInt = (fD tx.toInt.toNat).toInt ∧ 0 ≤ v44.toInt ∧ v44.toInt ≤ 518 := zPar_d hpar e44 rfl (by omega)
  refine lv_iadd hx hb dX11_put_45 ?_
  refine lv_topi (fun v45 e45 => ?_)
  have i45 : v45.toInt = v35.toInt + v44.toInt := zadd e45 rfl rfl (by omega) (by omega)
  refine lv_iload_n hx hb dX11_put_46 rfl (lv_at hl 2 rfl) ?_
  refine va_iast hx hb hK hP hD hS 2 0 rfl rfl (vp_in_iff.mpr ⟨by omega, by omega⟩) dX11_put_47 (fun H locs hP9 hD9 hS9 => ?_)
  clear hP hD hS
  obtain ⟨v47_f, e47⟩ : ∃ g : Nat → Int32, g = upd fV (v45).toNatClampNeg p1 := ⟨_, rfl⟩
  rw [← e47] at hP9 hD9
  obtain ⟨hP, hD⟩ := zst (wX := [(h0, .inr (11, [.int th, .ref tB, .int tsz, .int tat, .int wr, .int dp, .ref rC, .ref rV, .ref rD, .ref rK, .ref rT, .ref rS, .ref rU, .int lw, .int tx, .ref rL, .ref rX, .ref qR, .ref qB, .ref qP, .int qnb, .int qnp, .ref aR, .ref aB, .ref aP, .int nb, .int np, .ref aN, .ref rf, .int ho, .int br, .ref aK, .int ac, .long dw, .ref aE, .int sr, .int sf, .ref aA, .ref aH, .ref aI, .int hi])), (rC, .inl (cI, 2600, .inl v23_f)), (rV, .inl (cI, 2600, .inl v47_f)), (rD, .inl (cI, 5, .inl fD))]) hP9 hD9 rfl
  have hS := hS9
  clear hP9 hD9 hS9
  refine lv_aload_n hx hb dX11_put_48 rfl (lv_at hl 0 rfl) ?_
  refine va_get (D := (dC, dI)) (ci := 11) (v := .ref rD) (C := RX11) (T := TX11) (N := 41) hx hb hts iX11 hown hK hP 0 rfl rfl 8 (by decide) (hts _ qw1135) (fun _ h9 => h9) rfl dX11_put_49 ?_
  refine lv_aload_n hx hb dX11_put_52 rfl (lv_at hl 0 rfl) ?_
  refine va_get (D := (dC, dI)) (ci := 11) (v := .int tx) (C := RX11) (T := TX11) (N := 41) hx hb hts iX11 hown hK hP 0 rfl rfl 14 (by decide) (hts _ qw1141) (fun _ h9 => h9) rfl dX11_put_53 ?_
  refine lv_dup2_11 hx hb dX11_put_56 rfl rfl ?_
  refine va_iald hx hb hK hP 3 0 rfl rfl (vp_in_iff.mpr ⟨by omega, by omega⟩) dX11_put_57 ?_
  refine lv_topi (fun v57 e57 => ?_)
  have i57 : v57.toInt = (fD tx.toInt.toNat).toInt ∧ 0 ≤ v57.toInt ∧ v57.toInt ≤ 518 := zPar_d hpar e57 rfl (by omega)
  refine lv_iconst (v := 1) hx hb dX11_put_58 (by decide) ?_
  refine lv_iadd hx hb dX11_put_59 ?_
  refine lv_topi (fun v59 e59 => ?_)
  have i59 : v59.toInt = v57.toInt + 1 := zadd e59 rfl (by decide) (by omega) (by omega)
  refine va_iast hx hb hK hP hD hS 3 0 rfl rfl (vp_in_iff.mpr ⟨by omega, by omega⟩) dX11_put_60 (fun H locs hP9 hD9 hS9 => ?_)
  clear hP hD hS
  obtain ⟨v60_f, e60⟩ : ∃ g : Nat → Int32, g = upd fD (tx).toNatClampNeg v59 := ⟨_, rfl⟩
  rw [← e60] at hP9 hD9
  obtain ⟨hP, hD⟩ := zst (wX := [(h0, .inr (11, [.int th, .ref tB, .int tsz, .int tat, .int wr, .int dp, .ref rC, .ref rV, .ref rD, .ref rK, .ref rT, .ref rS, .ref rU, .int lw, .int tx, .ref rL, .ref rX, .ref qR, .ref qB, .ref qP, .int qnb, .int qnp, .ref aR, .ref aB, .ref aP, .int nb, .int np, .ref aN, .ref rf, .int ho, .int br, .ref aK, .int ac, .long dw, .ref aE, .int sr, .int sf, .ref aA, .ref aH, .ref aI, .int hi])), (rC, .inl (cI, 2600, .inl v23_f)), (rV, .inl (cI, 2600, .inl v47_f)), (rD, .inl (cI, 5, .inl v60_f))]) hP9 hD9 rfl
  have hS := hS9
  clear hP9 hD9 hS9
  rw [hQ]
  exact W.vret hx hb hr (fun t ht hW => ⟨⟨(v23_f, v47_f, v60_f), rfl, ⟨by (try dsimp only); exact zEr_one (t := (2, p1.toInt)) e23 e47 (by omega) (by omega) (show (1 : Int32).toInt = eRc 2 by decide) (fun _ => rfl) (zfd1 e60 (by omega)) (by omega), zPar_put hpar e23 e47 e60 (by omega) (by omega) (by omega) (fun _ => by omega) (zStep_y (Or.inr (by decide)) (by omega))⟩, ⟨by rw [ht]; exact hP, hD⟩⟩, hS.F ht⟩) hS.2.2 dX11_put_61
set_option maxHeartbeats 4000000 in
set_option maxRecDepth 100000 in
theorem g_X11_put_not (l : Launch) (dC : Nat → ClassId) (dI : Nat → Nat → Nat) (cI cJ : ClassId) (h0 : Nat) (p1 : Int32) (th : Int32) (tB : Nat) (tsz : Int32) (tat : Int32) (wr : Int32) (dp : Int32) (rC : Nat) (rV : Nat) (rD : Nat) (rK : Nat) (rT : Nat) (rS : Nat) (rU : Nat) (lw : Int32) (tx : Int32) (rL : Nat) (rX : Nat) (qR : Nat) (qB : Nat) (qP : Nat) (qnb : Int32) (qnp : Int32) (aR : Nat) (aB : Nat) (aP : Nat) (nb : Int32) (np : Int32) (aN : Nat) (rf : Nat) (ho : Int32) (br : Int32) (aK : Nat) (ac : Int32) (dw : Int64) (aE : Nat) (sr : Int32) (sf : Int32) (aA : Nat) (aH : Nat) (aI : Nat) (hi : Int32) (fC : Nat → Int32) (fV : Nat → Int32) (fD : Nat → Int32) (gC : Nat → Int32) (gV : Nat → Int32) (fz : Nat) (k : Nat) (st : Nat) (h : Nat) (sz : Nat) (n_ac : 0 ≤ ac.toInt ∧ ac.toInt ≤ 40) (n_hi : 0 ≤ hi.toInt ∧ hi.toInt ≤ 1) (n_ho : (-1) ≤ ho.toInt ∧ ho.toInt ≤ 3) (n_lw : 0 ≤ lw.toInt ∧ lw.toInt ≤ 4) (n_nb : 0 ≤ nb.toInt ∧ nb.toInt ≤ 6) (n_np : 0 ≤ np.toInt ∧ np.toInt ≤ 5) (n_qnb : 0 ≤ qnb.toInt ∧ qnb.toInt ≤ 6) (n_qnp : 0 ≤ qnp.toInt ∧ qnp.toInt ≤ 5) (n_tat : 0 ≤ tat.toInt ∧ tat.toInt ≤ 258) (n_tsz : 0 ≤ tsz.toInt ∧ tsz.toInt ≤ 240) (n_tx : 0 ≤ tx.toInt ∧ tx.toInt ≤ 4) (n_wr : (-1) ≤ wr.toInt ∧ wr.toInt ≤ 260) (hpar : zPar wr tat fC fV fD tx gC gV fz (k + 1) st (h + 1))   : Met l yX11_put (.code yX11_put cX11_put 3 none :: wA) ({ frames := 0, cells := 0, slots := 0, locals := 0 }) (zP (dC, dI) [(cI, .int), (cJ, .long)] [.ref h0, .int 9, .int p1] sz [(h0, .inr (11, [.int th, .ref tB, .int tsz, .int tat, .int wr, .int dp, .ref rC, .ref rV, .ref rD, .ref rK, .ref rT, .ref rS, .ref rU, .int lw, .int tx, .ref rL, .ref rX, .ref qR, .ref qB, .ref qP, .int qnb, .int qnp, .ref aR, .ref aB, .ref aP, .int nb, .int np, .ref aN, .ref rf, .int ho, .int br, .ref aK, .int ac, .long dw, .ref aE, .int sr, .int sf, .ref aA, .ref aH, .ref aI, .int hi])), (rC, .inl (cI, 2600, .inl fC)), (rV, .inl (cI, 2600, .inl fV)), (rD, .inl (cI, 5, .inl fD))]) (va_Qv (fun (u : (Nat → Int32) × (Nat → Int32) × (Nat → Int32)) => (zEr fC fV (520 * tx.toInt.toNat) (fD tx.toInt.toNat).toInt ([(33, 0)]) u.1 u.2.1 (u.2.2 tx.toInt.toNat).toInt) ∧ (zPar wr tat u.1 u.2.1 u.2.2 tx gC gV fz (k) st (h + 1))) (fun (u : (Nat → Int32) × (Nat → Int32) × (Nat → Int32)) (t : State) => va_P (dC, dI) vwCl [(h0, .inr (11, [.int th, .ref tB, .int tsz, .int tat, .int wr, .int dp, .ref rC, .ref rV, .ref rD, .ref rK, .ref rT, .ref rS, .ref rU, .int lw, .int tx, .ref rL, .ref rX, .ref qR, .ref qB, .ref qP, .int qnb, .int qnp, .ref aR, .ref aB, .ref aP, .int nb, .int np, .ref aN, .ref rf, .int ho, .int br, .ref aK, .int ac, .long dw, .ref aE, .int sr, .int sf, .ref aA, .ref aH, .ref aI, .int hi])), (rC, .inl (cI, 2600, .inl u.1)), (rV, .inl (cI, 2600, .inl u.2.1)), (rD, .inl (cI, 5, .inl u.2.2))] t.heap ∧ va_D (va_A [(h0, .inr (11, [.int th, .ref tB, .int tsz, .int tat, .int wr, .int dp, .ref rC, .ref rV, .ref rD, .ref rK, .ref rT, .ref rS, .ref rU, .int lw, .int tx, .ref rL, .ref rX, .ref qR, .ref qB, .ref qP, .int qnb, .int qnp, .ref aR, .ref aB, .ref aP, .int nb, .int np, .ref aN, .ref rf, .int ho, .int br, .ref aK, .int ac, .long dw, .ref aE, .int sr, .int sf, .ref aA, .ref aH, .ref aI, .int hi])), (rC, .inl (cI, 2600, .inl fC)), (rV, .inl (cI, 2600, .inl fV)), (rD, .inl (cI, 5, .inl fD))] sz) [(h0, .inr (11, [.int th, .ref tB, .int tsz, .int tat, .int wr, .int dp, .ref rC, .ref rV, .ref rD, .ref rK, .ref rT, .ref rS, .ref rU, .int lw, .int tx, .ref rL, .ref rX, .ref qR, .ref qB, .ref qP, .int qnb, .int qnp, .ref aR, .ref aB, .ref aP, .int nb, .int np, .ref aN, .ref rf, .int ho, .int br, .ref aK, .int ac, .long dw, .ref aE, .int sr, .int sf, .ref aA, .ref aH, .ref aI, .int hi])), (rC, .inl (cI, 2600, .inl u.1)), (rV, .inl (cI, 2600, .inl u.2.1)), (rD, .inl (cI, 5, .inl u.2.2))]) (va_A [(h0, .inr (11, [.int th, .ref tB, .int tsz, .int tat, .int wr, .int dp, .ref rC, .ref rV, .ref rD, .ref rK, .ref rT, .ref rS, .ref rU, .int lw, .int tx, .ref rL, .ref rX, .ref qR, .ref qB, .ref qP, .int qnb, .int qnp, .ref aR, .ref aB, .ref aP, .int nb, .int np, .ref aN, .ref rf, .int ho, .int br, .ref aK, .int ac, .long dw, .ref aE, .int sr, .int sf, .ref aA, .ref aH, .ref aI, .int hi])), (rC, .inl (cI, 2600, .inl fC)), (rV, .inl (cI, 2600, .inl fV)), (rD, .inl (cI, 5, .inl fD))] sz)) 0 0 (va_A [(h0, .inr (11, [.int th, .ref tB, .int tsz, .int tat, .int wr, .int dp, .ref rC, .ref rV, .ref rD, .ref rK, .ref rT, .ref rS, .ref rU, .int lw, .int tx, .ref rL, .ref rX, .ref qR, .ref qB, .ref qP, .int qnb, .int qnp, .ref aR, .ref aB, .ref aP, .int nb, .int np, .ref aN, .ref rf, .int ho, .int br, .ref aK, .int ac, .long dw, .ref aE, .int sr, .int sf, .ref aA, .ref aH, .ref aI, .int hi])), (rC, .inl (cI, 2600, .inl fC)), (rV, .inl (cI, 2600, .inl fV)), (rD, .inl (cI, 5, .inl fD))] sz) := by
  refine Met.ofW (cc := cX11_put) (maxL := 3) (ret := none) (by decide) rfl ?_
  intro p e s m args below meth c s₁ B hml hv
  have y_ac : zHid (0 ≤ ac.toInt ∧ ac.toInt ≤ 40) := n_ac
  have y_hi : zHid (0 ≤ hi.toInt ∧ hi.toInt ≤ 1) := n_hi
  have y_ho : zHid ((-1) ≤ ho.toInt ∧ ho.toInt ≤ 3) := n_ho
  have y_lw : zHid (0 ≤ lw.toInt ∧ lw.toInt ≤ 4) := n_lw
  have y_nb : zHid (0 ≤ nb.toInt ∧ nb.toInt ≤ 6) := n_nb
  have y_np : zHid (0 ≤ np.toInt ∧ np.toInt ≤ 5) := n_np
  have y_qnb : zHid (0 ≤ qnb.toInt ∧ qnb.toInt ≤ 6) := n_qnb
  have y_qnp : zHid (0 ≤ qnp.toInt ∧ qnp.toInt ≤ 5) := n_qnp
  have y_tsz : zHid (0 ≤ tsz.toInt ∧ tsz.toInt ≤ 240) := n_tsz
  clear n_ac n_hi n_ho n_lw n_nb n_np n_qnb n_qnp n_tsz
  obtain ⟨hargs, hsz, hP, hK, hT⟩ := hv
  have hx := B.exec
  have hb := B.bytes
  have hr := B.returns
  have hts : ∀ w ∈ wA, w.before args s = true := fun w h => atoms_spec (ws := .code yX11_put cX11_put 3 none :: wA) B.pre w (List.mem_cons_of_mem _ h)
  have hown : s.vm.findClass RX11 = some m.cls := findClass_of_methodNamed B.named
  have hlocks := B.notSynchronized
  subst hsz
  have hD := hT.self (sz := s.heap.size)
  generalize hAe : va_A [(h0, .inr (11, [.int th, .ref tB, .int tsz, .int tat, .int wr, .int dp, .ref rC, .ref rV, .ref rD, .ref rK, .ref rT, .ref rS, .ref rU, .int lw, .int tx, .ref rL, .ref rX, .ref qR, .ref qB, .ref qP, .int qnb, .int qnp, .ref aR, .ref aB, .ref aP, .int nb, .int np, .ref aN, .ref rf, .int ho, .int br, .ref aK, .int ac, .long dw, .ref aE, .int sr, .int sf, .ref aA, .ref aH, .ref aI, .int hi])), (rC, .inl (cI, 2600, .inl fC)), (rV, .inl (cI, 2600, .inl fV)), (rD, .inl (cI, 5, .inl fD))] s.heap.size = A at hD ⊢
  have hA : ∀ q : Nat, s.heap.size ≤ q → A q := fun q h => by rw [← hAe]; exact Or.inr h
  have hl := lv_entry ([.ref h0, .int 9, .int p1]) (n := 3) (Nat.le_of_ble_eq_true rfl)
  rw [show entryFrame m args 3 = entryFrame m ([.ref h0, .int 9, .int p1] : List Value).toArray 3 by rw [hargs], lg_entry_eq]
  generalize (lg_sl ([.ref h0, .int 9, .int p1]) ++ List.replicate (3 - (lg_sl ([.ref h0, .int 9, .int p1])).length) Slot.unset).toArray = ls at hl ⊢
  have hl : lv_has ls 3 [(0, .ref h0), (1, .int 9), (2, .int p1)] := hl
  refine zstart (fun H hH => ?_)
  rw [← hH] at hP
  have hS : va_S A s.heap H [] := by rw [hH]; exact va_S.rf
  generalize ([] : List Loc) = locs at hS ⊢
  refine zgen (fun R Q hR hQ => ?_)
  have zm1 : (-1 : Int32).toInt = -1 := by decide
  refine lv_aload_n hx hb dX11_put_0 rfl (lv_at hl 0 rfl) ?_
  refine va_get (D := (dC, dI)) (ci := 11) (v := .ref rC) (C := RX11) (T := TX11) (N := 41) hx hb hts iX11 hown hK hP 0 rfl rfl 6 (by decide) (hts _ qw1133) (fun _ h9 => h9) rfl dX11_put_1 ?_
  refine lv_sipush (v := 520) hx hb dX11_put_4 (by decide) ?_
  refine lv_aload_n hx hb dX11_put_7 rfl (lv_at hl 0 rfl) ?_
  refine va_get (D := (dC, dI)) (ci := 11) (v := .int tx) (C := RX11) (T := TX11) (N := 41) hx hb hts iX11 hown hK hP 0 rfl rfl 14 (by decide) (hts _ qw1141) (fun _ h9 => h9) rfl dX11_put_8 ?_
  refine lv_imul hx hb dX11_put_11 ?_
  refine lv_topi (fun v11 e11 => ?_)
  have i11 : v11.toInt = 520 * tx.toInt := zmul e11 (by decide) rfl (by omega) (by omega)
  refine lv_aload_n hx hb dX11_put_12 rfl (lv_at hl 0 rfl) ?_
  refine va_get (D := (dC, dI)) (ci := 11) (v := .ref rD) (C := RX11) (T := TX11) (N := 41) hx hb hts iX11 hown hK hP 0 rfl rfl 8 (by decide) (hts _ qw1135) (fun _ h9 => h9) rfl dX11_put_13 ?_
  refine lv_aload_n hx hb dX11_put_16 rfl (lv_at hl 0 rfl) ?_
  refine va_get (D := (dC, dI)) (ci := 11) (v := .int tx) (C := RX11) (T := TX11) (N := 41) hx hb hts iX11 hown hK hP 0 rfl rfl 14 (by decide) (hts _ qw1141) (fun _ h9 => h9) rfl dX11_put_17 ?_
  refine va_iald hx hb hK hP 3 0 rfl rfl (vp_in_iff.mpr ⟨by omega, by omega⟩) dX11_put_20 ?_
  refine lv_topi (fun v20 e20 => ?_)
  have i20 : v20.toInt = (fD tx.toInt.toNat).toInt ∧ 0 ≤ v20.toInt ∧ v20.toInt ≤ 518 := zPar_d hpar e20 rfl (by omega)
  refine lv_iadd hx hb dX11_put_21 ?_
  refine lv_topi (fun v21 e21 => ?_)
  have i21 : v21.toInt = v11.toInt + v20.toInt := zadd e21 rfl rfl (by omega) (by omega)
  refine lv_iload_n hx hb dX11_put_22 rfl (lv_at hl 1 rfl) ?_
  refine va_iast hx hb hK hP hD hS 1 0 rfl rfl (vp_in_iff.mpr ⟨by omega, by omega⟩) dX11_put_23 (fun H locs hP9 hD9 hS9 => ?_)
  clear hP hD hS
  obtain ⟨v23_f, e23⟩ : ∃ g : Nat → Int32, g = upd fC (v21).toNatClampNeg 9 := ⟨_, rfl⟩
  rw [← e23] at hP9 hD9
  obtain ⟨hP, hD⟩ := zst (wX := [(h0, .inr (11, [.int th, .ref tB, .int tsz, .int tat, .int wr, .int dp, .ref rC, .ref rV, .ref rD, .ref rK, .ref rT, .ref rS, .ref rU, .int lw, .int tx, .ref rL, .ref rX, .ref qR, .ref qB, .ref qP, .int qnb, .int qnp, .ref aR, .ref aB, .ref aP, .int nb, .int np, .ref aN, .ref rf, .int ho, .int br, .ref aK, .int ac, .long dw, .ref aE, .int sr, .int sf, .ref aA, .ref aH, .ref aI, .int hi])), (rC, .inl (cI, 2600, .inl v23_f)), (rV, .inl (cI, 2600, .inl fV)), (rD, .inl (cI, 5, .inl fD))]) hP9 hD9 rfl
  have hS := hS9
  clear hP9 hD9 hS9
  refine lv_aload_n hx hb dX11_put_24 rfl (lv_at hl 0 rfl) ?_
  refine va_get (D := (dC, dI)) (ci := 11) (v := .ref rV) (C := RX11) (T := TX11) (N := 41) hx hb hts iX11 hown hK hP 0 rfl rfl 7 (by decide) (hts _ qw1134) (fun _ h9 => h9) rfl dX11_put_25 ?_
  refine lv_sipush (v := 520) hx hb dX11_put_28 (by decide) ?_
  refine lv_aload_n hx hb dX11_put_31 rfl (lv_at hl 0 rfl) ?_
  refine va_get (D := (dC, dI)) (ci := 11) (v := .int tx) (C := RX11) (T := TX11) (N := 41) hx hb hts iX11 hown hK hP 0 rfl rfl 14 (by decide) (hts _ qw1141) (fun _ h9 => h9) rfl dX11_put_32 ?_
  refine lv_imul hx hb dX11_put_35 ?_
  refine lv_topi (fun v35 e35 => ?_)
  have i35 : v35.toInt = 520 * tx.toInt := zmul e35 (by decide) rfl (by omega) (by omega)
  refine lv_aload_n hx hb dX11_put_36 rfl (lv_at hl 0 rfl) ?_
  refine va_get (D := (dC, dI)) (ci := 11) (v := .ref rD) (C := RX11) (T := TX11) (N := 41) hx hb hts iX11 hown hK hP 0 rfl rfl 8 (by decide) (hts _ qw1135) (fun _ h9 => h9) rfl dX11_put_37 ?_
  refine lv_aload_n hx hb dX11_put_40 rfl (lv_at hl 0 rfl) ?_
  refine va_get (D := (dC, dI)) (ci := 11) (v := .int tx) (C := RX11) (T := TX11) (N := 41) hx hb hts iX11 hown hK hP 0 rfl rfl 14 (by decide) (hts _ qw1141) (fun _ h9 => h9) rfl dX11_put_41 ?_
  refine va_iald hx hb hK hP 3 0 rfl rfl (vp_in_iff.mpr ⟨by omega, by omega⟩) dX11_put_44 ?_
  refine lv_topi (fun v44 e44 => ?_)
  have i44 : v44.toInt = (fD tx.toInt.toNat).toInt ∧ 0 ≤ v44.toInt ∧ v44.toInt ≤ 518 := zPar_d hpar e44 rfl (by omega)
  refine lv_iadd hx hb dX11_put_45 ?_
  refine lv_topi (fun v45 e45 => ?_)
  have i45 : v45.toInt = v35.toInt + v44.toInt := zadd e45 rfl rfl (by omega) (by omega)
  refine lv_iload_n hx hb dX11_put_46 rfl (lv_at hl 2 rfl) ?_
  refine va_iast hx hb hK hP hD hS 2 0 rfl rfl (vp_in_iff.mpr ⟨by omega, by omega⟩) dX11_put_47 (fun H locs hP9 hD9 hS9 => ?_)
  clear hP hD hS
  obtain ⟨v47_f, e47⟩ : ∃ g : Nat → Int32, g = upd fV (v45).toNatClampNeg p1 := ⟨_, rfl⟩
  rw [← e47] at hP9 hD9
  obtain ⟨hP, hD⟩ := zst (wX := [(h0, .inr (11, [.int th, .ref tB, .int tsz, .int tat, .int wr, .int dp, .ref rC, .ref rV, .ref rD, .ref rK, .ref rT, .ref rS, .ref rU, .int lw, .int tx, .ref rL, .ref rX, .ref qR, .ref qB, .ref qP, .int qnb, .int qnp, .ref aR, .ref aB, .ref aP, .int nb, .int np, .ref aN, .ref rf, .int ho, .int br, .ref aK, .int ac, .long dw, .ref aE, .int sr, .int sf, .ref aA, .ref aH, .ref aI, .int hi])), (rC, .inl (cI, 2600, .inl v23_f)), (rV, .inl (cI, 2600, .inl v47_f)), (rD, .inl (cI, 5, .inl fD))]) hP9 hD9 rfl
  have hS := hS9
  clear hP9 hD9 hS9
  refine lv_aload_n hx hb dX11_put_48 rfl (lv_at hl 0 rfl) ?_
  refine va_get (D := (dC, dI)) (ci := 11) (v := .ref rD) (C := RX11) (T := TX11) (N := 41) hx hb hts iX11 hown hK hP 0 rfl rfl 8 (by decide) (hts _ qw1135) (fun _ h9 => h9) rfl dX11_put_49 ?_
  refine lv_aload_n hx hb dX11_put_52 rfl (lv_at hl 0 rfl) ?_
  refine va_get (D := (dC, dI)) (ci := 11) (v := .int tx) (C := RX11) (T := TX11) (N := 41) hx hb hts iX11 hown hK hP 0 rfl rfl 14 (by decide) (hts _ qw1141) (fun _ h9 => h9) rfl dX11_put_53 ?_
  refine lv_dup2_11 hx hb dX11_put_56 rfl rfl ?_
  refine va_iald hx hb hK hP 3 0 rfl rfl (vp_in_iff.mpr ⟨by omega, by omega⟩) dX11_put_57 ?_
  refine lv_topi (fun v57 e57 => ?_)
  have i57 : v57.toInt = (fD tx.toInt.toNat).toInt ∧ 0 ≤ v57.toInt ∧ v57.toInt ≤ 518 := zPar_d hpar e57 rfl (by omega)
  refine lv_iconst (v := 1) hx hb dX11_put_58 (by decide) ?_
  refine lv_iadd hx hb dX11_put_59 ?_
  refine lv_topi (fun v59 e59 => ?_)
  have i59 : v59.toInt = v57.toInt + 1 := zadd e59 rfl (by decide) (by omega) (by omega)
  refine va_iast hx hb hK hP hD hS 3 0 rfl rfl (vp_in_iff.mpr ⟨by omega, by omega⟩) dX11_put_60 (fun H locs hP9 hD9 hS9 => ?_)
  clear hP hD hS
  obtain ⟨v60_f, e60⟩ : ∃ g : Nat → Int32, g = upd fD (tx).toNatClampNeg v59 := ⟨_, rfl⟩
  rw [← e60] at hP9 hD9
  obtain ⟨hP, hD⟩ := zst (wX := [(h0, .inr (11, [.int th, .ref tB, .int tsz, .int tat, .int wr, .int dp, .ref rC, .ref rV, .ref rD, .ref rK, .ref rT, .ref rS, .ref rU, .int lw, .int tx, .ref rL, .ref rX, .ref qR, .ref qB, .ref qP, .int qnb, .int qnp, .ref aR, .ref aB, .ref aP, .int nb, .int np, .ref aN, .ref rf, .int ho, .int br, .ref aK, .int ac, .long dw, .ref aE, .int sr, .int sf, .ref aA, .ref aH, .ref aI, .int hi])), (rC, .inl (cI, 2600, .inl v23_f)), (rV, .inl (cI, 2600, .inl v47_f)), (rD, .inl (cI, 5, .inl v60_f))]) hP9 hD9 rfl
  have hS := hS9
  clear hP9 hD9 hS9
  rw [hQ]
  exact W.vret hx hb hr (fun t ht hW => ⟨⟨(v23_f, v47_f, v60_f), rfl, ⟨by (try dsimp only); exact zEr_one (t := (33, 0)) e23 e47 (by omega) (by omega) (by decide) (fun z => absurd z (by decide)) (zfd1 e60 (by omega)) (by omega), zPar_put hpar e23 e47 e60 (by omega) (by omega) (by omega) (fun q => absurd q (by decide)) (zStep_n (by decide))⟩, ⟨by rw [ht]; exact hP, hD⟩⟩, hS.F ht⟩) hS.2.2 dX11_put_61
set_option maxHeartbeats 4000000 in
set_option maxRecDepth 100000 in
theorem g_X11_put_op (l : Launch) (dC : Nat → ClassId) (dI : Nat → Nat → Nat) (cI cJ : ClassId) (h0 : Nat) (p0 : Int32) (p1 : Int32) (th : Int32) (tB : Nat) (tsz : Int32) (tat : Int32) (wr : Int32) (dp : Int32) (rC : Nat) (rV : Nat) (rD : Nat) (rK : Nat) (rT : Nat) (rS : Nat) (rU : Nat) (lw : Int32) (tx : Int32) (rL : Nat) (rX : Nat) (qR : Nat) (qB : Nat) (qP : Nat) (qnb : Int32) (qnp : Int32) (aR : Nat) (aB : Nat) (aP : Nat) (nb : Int32) (np : Int32) (aN : Nat) (rf : Nat) (ho : Int32) (br : Int32) (aK : Nat) (ac : Int32) (dw : Int64) (aE : Nat) (sr : Int32) (sf : Int32) (aA : Nat) (aH : Nat) (aI : Nat) (hi : Int32) (fC : Nat → Int32) (fV : Nat → Int32) (fD : Nat → Int32) (gC : Nat → Int32) (gV : Nat → Int32) (fz : Nat) (k : Nat) (st : Nat) (h : Nat) (sz : Nat) (n_ac : 0 ≤ ac.toInt ∧ ac.toInt ≤ 40) (n_hi : 0 ≤ hi.toInt ∧ hi.toInt ≤ 1) (n_ho : (-1) ≤ ho.toInt ∧ ho.toInt ≤ 3) (n_lw : 0 ≤ lw.toInt ∧ lw.toInt ≤ 4) (n_nb : 0 ≤ nb.toInt ∧ nb.toInt ≤ 6) (n_np : 0 ≤ np.toInt ∧ np.toInt ≤ 5) (n_p0 : 2 ≤ p0.toInt ∧ p0.toInt ≤ 11) (n_qnb : 0 ≤ qnb.toInt ∧ qnb.toInt ≤ 6) (n_qnp : 0 ≤ qnp.toInt ∧ qnp.toInt ≤ 5) (n_tat : 0 ≤ tat.toInt ∧ tat.toInt ≤ 258) (n_tsz : 0 ≤ tsz.toInt ∧ tsz.toInt ≤ 240) (n_tx : 0 ≤ tx.toInt ∧ tx.toInt ≤ 4) (n_wr : (-1) ≤ wr.toInt ∧ wr.toInt ≤ 260) (hpar : zPar wr tat fC fV fD tx gC gV fz (k + 1) st (h + 1 + 1)) (hn9 : ¬ p0.toInt = 9)   : Met l yX11_put (.code yX11_put cX11_put 3 none :: wA) ({ frames := 0, cells := 0, slots := 0, locals := 0 }) (zP (dC, dI) [(cI, .int), (cJ, .long)] [.ref h0, .int p0, .int p1] sz [(h0, .inr (11, [.int th, .ref tB, .int tsz, .int tat, .int wr, .int dp, .ref rC, .ref rV, .ref rD, .ref rK, .ref rT, .ref rS, .ref rU, .int lw, .int tx, .ref rL, .ref rX, .ref qR, .ref qB, .ref qP, .int qnb, .int qnp, .ref aR, .ref aB, .ref aP, .int nb, .int np, .ref aN, .ref rf, .int ho, .int br, .ref aK, .int ac, .long dw, .ref aE, .int sr, .int sf, .ref aA, .ref aH, .ref aI, .int hi])), (rC, .inl (cI, 2600, .inl fC)), (rV, .inl (cI, 2600, .inl fV)), (rD, .inl (cI, 5, .inl fD))]) (va_Qv (fun (u : (Nat → Int32) × (Nat → Int32) × (Nat → Int32)) => (∀ x : Int, eRc x = p0.toInt → ¬ x = 1 → ¬ x = 2 → zEr fC fV (520 * tx.toInt.toNat) (fD tx.toInt.toNat).toInt ([(x, 0)]) u.1 u.2.1 (u.2.2 tx.toInt.toNat).toInt) ∧ (zPar wr tat u.1 u.2.1 u.2.2 tx gC gV fz (k) st (h + 1))) (fun (u : (Nat → Int32) × (Nat → Int32) × (Nat → Int32)) (t : State) => va_P (dC, dI) vwCl [(h0, .inr (11, [.int th, .ref tB, .int tsz, .int tat, .int wr, .int dp, .ref rC, .ref rV, .ref rD, .ref rK, .ref rT, .ref rS, .ref rU, .int lw, .int tx, .ref rL, .ref rX, .ref qR, .ref qB, .ref qP, .int qnb, .int qnp, .ref aR, .ref aB, .ref aP, .int nb, .int np, .ref aN, .ref rf, .int ho, .int br, .ref aK, .int ac, .long dw, .ref aE, .int sr, .int sf, .ref aA, .ref aH, .ref aI, .int hi])), (rC, .inl (cI, 2600, .inl u.1)), (rV, .inl (cI, 2600, .inl u.2.1)), (rD, .inl (cI, 5, .inl u.2.2))] t.heap ∧ va_D (va_A [(h0, .inr (11, [.int th, .ref tB, .int tsz, .int tat, .int wr, .int dp, .ref rC, .ref rV, .ref rD, .ref rK, .ref rT, .ref rS, .ref rU, .int lw, .int tx, .ref rL, .ref rX, .ref qR, .ref qB, .ref qP, .int qnb, .int qnp, .ref aR, .ref aB, .ref aP, .int nb, .int np, .ref aN, .ref rf, .int ho, .int br, .ref aK, .int ac, .long dw, .ref aE, .int sr, .int sf, .ref aA, .ref aH, .ref aI, .int hi])), (rC, .inl (cI, 2600, .inl fC)), (rV, .inl (cI, 2600, .inl fV)), (rD, .inl (cI, 5, .inl fD))] sz) [(h0, .inr (11, [.int th, .ref tB, .int tsz, .int tat, .int wr, .int dp, .ref rC, .ref rV, .ref rD, .ref rK, .ref rT, .ref rS, .ref rU, .int lw, .int tx, .ref rL, .ref rX, .ref qR, .ref qB, .ref qP, .int qnb, .int qnp, .ref aR, .ref aB, .ref aP, .int nb, .int np, .ref aN, .ref rf, .int ho, .int br, .ref aK, .int ac, .long dw, .ref aE, .int sr, .int sf, .ref aA, .ref aH, .ref aI, .int hi])), (rC, .inl (cI, 2600, .inl u.1)), (rV, .inl (cI, 2600, .inl u.2.1)), (rD, .inl (cI, 5, .inl u.2.2))]) (va_A [(h0, .inr (11, [.int th, .ref tB, .int tsz, .int tat, .int wr, .int dp, .ref rC, .ref rV, .ref rD, .ref rK, .ref rT, .ref rS, .ref rU, .int lw, .int tx, .ref rL, .ref rX, .ref qR, .ref qB, .ref qP, .int qnb, .int qnp, .ref aR, .ref aB, .ref aP, .int nb, .int np, .ref aN, .ref rf, .int ho, .int br, .ref aK, .int ac, .long dw, .ref aE, .int sr, .int sf, .ref aA, .ref aH, .ref aI, .int hi])), (rC, .inl (cI, 2600, .inl fC)), (rV, .inl (cI, 2600, .inl fV)), (rD, .inl (cI, 5, .inl fD))] sz)) 0 0 (va_A [(h0, .inr (11, [.int th, .ref tB, .int tsz, .int tat, .int wr, .int dp, .ref rC, .ref rV, .ref rD, .ref rK, .ref rT, .ref rS, .ref rU, .int lw, .int tx, .ref rL, .ref rX, .ref qR, .ref qB, .ref qP, .int qnb, .int qnp, .ref aR, .ref aB, .ref aP, .int nb, .int np, .ref aN, .ref rf, .int ho, .int br, .ref aK, .int ac, .long dw, .ref aE, .int sr, .int sf, .ref aA, .ref aH, .ref aI, .int hi])), (rC, .inl (cI, 2600, .inl fC)), (rV, .inl (cI, 2600, .inl fV)), (rD, .inl (cI, 5, .inl fD))] sz) := by
  refine Met.ofW (cc := cX11_put) (maxL := 3) (ret := none) (by decide) rfl ?_
  intro p e s m args below meth c s₁ B hml hv
  have y_ac : zHid (0 ≤ ac.toInt ∧ ac.toInt ≤ 40) := n_ac
  have y_hi : zHid (0 ≤ hi.toInt ∧ hi.toInt ≤ 1) := n_hi
  have y_ho : zHid ((-1) ≤ ho.toInt ∧ ho.toInt ≤ 3) := n_ho
  have y_lw : zHid (0 ≤ lw.toInt ∧ lw.toInt ≤ 4) := n_lw
  have y_nb : zHid (0 ≤ nb.toInt ∧ nb.toInt ≤ 6) := n_nb
  have y_np : zHid (0 ≤ np.toInt ∧ np.toInt ≤ 5) := n_np
  have y_qnb : zHid (0 ≤ qnb.toInt ∧ qnb.toInt ≤ 6) := n_qnb
  have y_qnp : zHid (0 ≤ qnp.toInt ∧ qnp.toInt ≤ 5) := n_qnp
  have y_tsz : zHid (0 ≤ tsz.toInt ∧ tsz.toInt ≤ 240) := n_tsz
  clear n_ac n_hi n_ho n_lw n_nb n_np n_qnb n_qnp n_tsz
  obtain ⟨hargs, hsz, hP, hK, hT⟩ := hv
  have hx := B.exec
  have hb := B.bytes
  have hr := B.returns
  have hts : ∀ w ∈ wA, w.before args s = true := fun w h => atoms_spec (ws := .code yX11_put cX11_put 3 none :: wA) B.pre w (List.mem_cons_of_mem _ h)
  have hown : s.vm.findClass RX11 = some m.cls := findClass_of_methodNamed B.named
  have hlocks := B.notSynchronized
  subst hsz
  have hD := hT.self (sz := s.heap.size)
  generalize hAe : va_A [(h0, .inr (11, [.int th, .ref tB, .int tsz, .int tat, .int wr, .int dp, .ref rC, .ref rV, .ref rD, .ref rK, .ref rT, .ref rS, .ref rU, .int lw, .int tx, .ref rL, .ref rX, .ref qR, .ref qB, .ref qP, .int qnb, .int qnp, .ref aR, .ref aB, .ref aP, .int nb, .int np, .ref aN, .ref rf, .int ho, .int br, .ref aK, .int ac, .long dw, .ref aE, .int sr, .int sf, .ref aA, .ref aH, .ref aI, .int hi])), (rC, .inl (cI, 2600, .inl fC)), (rV, .inl (cI, 2600, .inl fV)), (rD, .inl (cI, 5, .inl fD))] s.heap.size = A at hD ⊢
  have hA : ∀ q : Nat, s.heap.size ≤ q → A q := fun q h => by rw [← hAe]; exact Or.inr h
  have hl := lv_entry ([.ref h0, .int p0, .int p1]) (n := 3) (Nat.le_of_ble_eq_true rfl)
  rw [show entryFrame m args 3 = entryFrame m ([.ref h0, .int p0, .int p1] : List Value).toArray 3 by rw [hargs], lg_entry_eq]
  generalize (lg_sl ([.ref h0, .int p0, .int p1]) ++ List.replicate (3 - (lg_sl ([.ref h0, .int p0, .int p1])).length) Slot.unset).toArray = ls at hl ⊢
  have hl : lv_has ls 3 [(0, .ref h0), (1, .int p0), (2, .int p1)] := hl
  refine zstart (fun H hH => ?_)
  rw [← hH] at hP
  have hS : va_S A s.heap H [] := by rw [hH]; exact va_S.rf
  generalize ([] : List Loc) = locs at hS ⊢
  refine zgen (fun R Q hR hQ => ?_)
  have zm1 : (-1 : Int32).toInt = -1 := by decide
  refine lv_aload_n hx hb dX11_put_0 rfl (lv_at hl 0 rfl) ?_
  refine va_get (D := (dC, dI)) (ci := 11) (v := .ref rC) (C := RX11) (T := TX11) (N := 41) hx hb hts iX11 hown hK hP 0 rfl rfl 6 (by decide) (hts _ qw1133) (fun _ h9 => h9) rfl dX11_put_1 ?_
  refine lv_sipush (v := 520) hx hb dX11_put_4 (by decide) ?_
  refine lv_aload_n hx hb dX11_put_7 rfl (lv_at hl 0 rfl) ?_
  refine va_get (D := (dC, dI)) (ci := 11) (v := .int tx) (C := RX11) (T := TX11) (N := 41) hx hb hts iX11 hown hK hP 0 rfl rfl 14 (by decide) (hts _ qw1141) (fun _ h9 => h9) rfl dX11_put_8 ?_
  refine lv_imul hx hb dX11_put_11 ?_
  refine lv_topi (fun v11 e11 => ?_)
  have i11 : v11.toInt = 520 * tx.toInt := zmul e11 (by decide) rfl (by omega) (by omega)
  refine lv_aload_n hx hb dX11_put_12 rfl (lv_at hl 0 rfl) ?_
  refine va_get (D := (dC, dI)) (ci := 11) (v := .ref rD) (C := RX11) (T := TX11) (N := 41) hx hb hts iX11 hown hK hP 0 rfl rfl 8 (by decide) (hts _ qw1135) (fun _ h9 => h9) rfl dX11_put_13 ?_
  refine lv_aload_n hx hb dX11_put_16 rfl (lv_at hl 0 rfl) ?_
  refine va_get (D := (dC, dI)) (ci := 11) (v := .int tx) (C := RX11) (T := TX11) (N := 41) hx hb hts iX11 hown hK hP 0 rfl rfl 14 (by decide) (hts _ qw1141) (fun _ h9 => h9) rfl dX11_put_17 ?_
  refine va_iald hx hb hK hP 3 0 rfl rfl (vp_in_iff.mpr ⟨by omega, by omega⟩) dX11_put_20 ?_
  refine lv_topi (fun v20 e20 => ?_)
  have i20 : v20.toInt = (fD tx.toInt.toNat).toInt ∧ 0 ≤ v20.toInt ∧ v20.toInt ≤ 518 := zPar_d hpar e20 rfl (by omega)
  refine lv_iadd hx hb dX11_put_21 ?_
  refine lv_topi (fun v21 e21 => ?_)
  have i21 : v21.toInt = v11.toInt + v20.toInt := zadd e21 rfl rfl (by omega) (by omega)
  refine lv_iload_n hx hb dX11_put_22 rfl (lv_at hl 1 rfl) ?_
  refine va_iast hx hb hK hP hD hS 1 0 rfl rfl (vp_in_iff.mpr ⟨by omega, by omega⟩) dX11_put_23 (fun H locs hP9 hD9 hS9 => ?_)
  clear hP hD hS
  obtain ⟨v23_f, e23⟩ : ∃ g : Nat → Int32, g = upd fC (v21).toNatClampNeg p0 := ⟨_, rfl⟩
  rw [← e23] at hP9 hD9
  obtain ⟨hP, hD⟩ := zst (wX := [(h0, .inr (11, [.int th, .ref tB, .int tsz, .int tat, .int wr, .int dp, .ref rC, .ref rV, .ref rD, .ref rK, .ref rT, .ref rS, .ref rU, .int lw, .int tx, .ref rL, .ref rX, .ref qR, .ref qB, .ref qP, .int qnb, .int qnp, .ref aR, .ref aB, .ref aP, .int nb, .int np, .ref aN, .ref rf, .int ho, .int br, .ref aK, .int ac, .long dw, .ref aE, .int sr, .int sf, .ref aA, .ref aH, .ref aI, .int hi])), (rC, .inl (cI, 2600, .inl v23_f)), (rV, .inl (cI, 2600, .inl fV)), (rD, .inl (cI, 5, .inl fD))]) hP9 hD9 rfl
  have hS := hS9
  clear hP9 hD9 hS9
  refine lv_aload_n hx hb dX11_put_24 rfl (lv_at hl 0 rfl) ?_
  refine va_get (D := (dC, dI)) (ci := 11) (v := .ref rV) (C := RX11) (T := TX11) (N := 41) hx hb hts iX11 hown hK hP 0 rfl rfl 7 (by decide) (hts _ qw1134) (fun _ h9 => h9) rfl dX11_put_25 ?_
  refine lv_sipush (v := 520) hx hb dX11_put_28 (by decide) ?_
  refine lv_aload_n hx hb dX11_put_31 rfl (lv_at hl 0 rfl) ?_
  refine va_get (D := (dC, dI)) (ci := 11) (v := .int tx) (C := RX11) (T := TX11) (N := 41) hx hb hts iX11 hown hK hP 0 rfl rfl 14 (by decide) (hts _ qw1141) (fun _ h9 => h9) rfl dX11_put_32 ?_
  refine lv_imul hx hb dX11_put_35 ?_
  refine lv_topi (fun v35 e35 => ?_)
  have i35 : v35.toInt = 520 * tx.toInt := zmul e35 (by decide) rfl (by omega) (by omega)
  refine lv_aload_n hx hb dX11_put_36 rfl (lv_at hl 0 rfl) ?_
  refine va_get (D := (dC, dI)) (ci := 11) (v := .ref rD) (C := RX11) (T := TX11) (N := 41) hx hb hts iX11 hown hK hP 0 rfl rfl 8 (by decide) (hts _ qw1135) (fun _ h9 => h9) rfl dX11_put_37 ?_
  refine lv_aload_n hx hb dX11_put_40 rfl (lv_at hl 0 rfl) ?_
  refine va_get (D := (dC, dI)) (ci := 11) (v := .int tx) (C := RX11) (T := TX11) (N := 41) hx hb hts iX11 hown hK hP 0 rfl rfl 14 (by decide) (hts _ qw1141) (fun _ h9 => h9) rfl dX11_put_41 ?_
  refine va_iald hx hb hK hP 3 0 rfl rfl (vp_in_iff.mpr ⟨by omega, by omega⟩) dX11_put_44 ?_
  refine lv_topi (fun v44 e44 => ?_)
  have i44 : v44.toInt = (fD tx.toInt.toNat).toInt ∧ 0 ≤ v44.toInt ∧ v44.toInt ≤ 518 := zPar_d hpar e44 rfl (by omega)
  refine lv_iadd hx hb dX11_put_45 ?_
  refine lv_topi (fun v45 e45 => ?_)
  have i45 : v45.toInt = v35.toInt + v44.toInt := zadd e45 rfl rfl (by omega) (by omega)
  refine lv_iload_n hx hb dX11_put_46 rfl (lv_at hl 2 rfl) ?_
  refine va_iast hx hb hK hP hD hS 2 0 rfl rfl (vp_in_iff.mpr ⟨by omega, by omega⟩) dX11_put_47 (fun H locs hP9 hD9 hS9 => ?_)
  clear hP hD hS
  obtain ⟨v47_f, e47⟩ : ∃ g : Nat → Int32, g = upd fV (v45).toNatClampNeg p1 := ⟨_, rfl⟩
  rw [← e47] at hP9 hD9
  obtain ⟨hP, hD⟩ := zst (wX := [(h0, .inr (11, [.int th, .ref tB, .int tsz, .int tat, .int wr, .int dp, .ref rC, .ref rV, .ref rD, .ref rK, .ref rT, .ref rS, .ref rU, .int lw, .int tx, .ref rL, .ref rX, .ref qR, .ref qB, .ref qP, .int qnb, .int qnp, .ref aR, .ref aB, .ref aP, .int nb, .int np, .ref aN, .ref rf, .int ho, .int br, .ref aK, .int ac, .long dw, .ref aE, .int sr, .int sf, .ref aA, .ref aH, .ref aI, .int hi])), (rC, .inl (cI, 2600, .inl v23_f)), (rV, .inl (cI, 2600, .inl v47_f)), (rD, .inl (cI, 5, .inl fD))]) hP9 hD9 rfl
  have hS := hS9
  clear hP9 hD9 hS9
  refine lv_aload_n hx hb dX11_put_48 rfl (lv_at hl 0 rfl) ?_
  refine va_get (D := (dC, dI)) (ci := 11) (v := .ref rD) (C := RX11) (T := TX11) (N := 41) hx hb hts iX11 hown hK hP 0 rfl rfl 8 (by decide) (hts _ qw1135) (fun _ h9 => h9) rfl dX11_put_49 ?_
  refine lv_aload_n hx hb dX11_put_52 rfl (lv_at hl 0 rfl) ?_
  refine va_get (D := (dC, dI)) (ci := 11) (v := .int tx) (C := RX11) (T := TX11) (N := 41) hx hb hts iX11 hown hK hP 0 rfl rfl 14 (by decide) (hts _ qw1141) (fun _ h9 => h9) rfl dX11_put_53 ?_
  refine lv_dup2_11 hx hb dX11_put_56 rfl rfl ?_
  refine va_iald hx hb hK hP 3 0 rfl rfl (vp_in_iff.mpr ⟨by omega, by omega⟩) dX11_put_57 ?_
  refine lv_topi (fun v57 e57 => ?_)
  have i57 : v57.toInt = (fD tx.toInt.toNat).toInt ∧ 0 ≤ v57.toInt ∧ v57.toInt ≤ 518 := zPar_d hpar e57 rfl (by omega)
  refine lv_iconst (v := 1) hx hb dX11_put_58 (by decide) ?_
  refine lv_iadd hx hb dX11_put_59 ?_
  refine lv_topi (fun v59 e59 => ?_)
  have i59 : v59.toInt = v57.toInt + 1 := zadd e59 rfl (by decide) (by omega) (by omega)
  refine va_iast hx hb hK hP hD hS 3 0 rfl rfl (vp_in_iff.mpr ⟨by omega, by omega⟩) dX11_put_60 (fun H locs hP9 hD9 hS9 => ?_)
  clear hP hD hS
  obtain ⟨v60_f, e60⟩ : ∃ g : Nat → Int32, g = upd fD (tx).toNatClampNeg v59 := ⟨_, rfl⟩
  rw [← e60] at hP9 hD9
  obtain ⟨hP, hD⟩ := zst (wX := [(h0, .inr (11, [.int th, .ref tB, .int tsz, .int tat, .int wr, .int dp, .ref rC, .ref rV, .ref rD, .ref rK, .ref rT, .ref rS, .ref rU, .int lw, .int tx, .ref rL, .ref rX, .ref qR, .ref qB, .ref qP, .int qnb, .int qnp, .ref aR, .ref aB, .ref aP, .int nb, .int np, .ref aN, .ref rf, .int ho, .int br, .ref aK, .int ac, .long dw, .ref aE, .int sr, .int sf, .ref aA, .ref aH, .ref aI, .int hi])), (rC, .inl (cI, 2600, .inl v23_f)), (rV, .inl (cI, 2600, .inl v47_f)), (rD, .inl (cI, 5, .inl v60_f))]) hP9 hD9 rfl
  have hS := hS9
  clear hP9 hD9 hS9
  rw [hQ]
  exact W.vret hx hb hr (fun t ht hW => ⟨⟨(v23_f, v47_f, v60_f), rfl, ⟨by (try dsimp only); exact fun x hx h1 h2 => zEr_one (t := (x, 0)) e23 e47 (by omega) (by omega) hx.symm (fun z => absurd z (by rintro (y | y); exact h1 y; exact h2 y)) (zfd1 e60 (by omega)) (by omega), zPar_put hpar e23 e47 e60 (by omega) (by omega) (by omega) (fun q => by omega) (zStep_o (by omega) (by omega))⟩, ⟨by rw [ht]; exact hP, hD⟩⟩, hS.F ht⟩) hS.2.2 dX11_put_61
set_option maxHeartbeats 4000000 in
set_option maxRecDepth 100000 in
theorem g_X11_look_t (l : Launch) (dC : Nat → ClassId) (dI : Nat → Nat → Nat) (cI cJ : ClassId) (h0 : Nat) (th : Int32) (tB : Nat) (tsz : Int32) (tat : Int32) (wr : Int32) (dp : Int32) (rC : Nat) (rV : Nat) (rD : Nat) (rK : Nat) (rT : Nat) (rS : Nat) (rU : Nat) (lw : Int32) (tx : Int32) (rL : Nat) (rX : Nat) (qR : Nat) (qB : Nat) (qP : Nat) (qnb : Int32) (qnp : Int32) (aR : Nat) (aB : Nat) (aP : Nat) (nb : Int32) (np : Int32) (aN : Nat) (rf : Nat) (ho : Int32) (br : Int32) (aK : Nat) (ac : Int32) (dw : Int64) (aE : Nat) (sr : Int32) (sf : Int32) (aA : Nat) (aH : Nat) (aI : Nat) (hi : Int32) (fB : Nat → Int32) (sz : Nat) (n_ac : 0 ≤ ac.toInt ∧ ac.toInt ≤ 40) (n_hi : 0 ≤ hi.toInt ∧ hi.toInt ≤ 1) (n_ho : (-1) ≤ ho.toInt ∧ ho.toInt ≤ 3) (n_lw : 0 ≤ lw.toInt ∧ lw.toInt ≤ 4) (n_nb : 0 ≤ nb.toInt ∧ nb.toInt ≤ 6) (n_np : 0 ≤ np.toInt ∧ np.toInt ≤ 5) (n_qnb : 0 ≤ qnb.toInt ∧ qnb.toInt ≤ 6) (n_qnp : 0 ≤ qnp.toInt ∧ qnp.toInt ≤ 5) (n_tat : 0 ≤ tat.toInt ∧ tat.toInt ≤ 240) (n_tsz : 0 ≤ tsz.toInt ∧ tsz.toInt ≤ 240) (n_wr : (-1) ≤ wr.toInt ∧ wr.toInt ≤ 260)    : Met l yX11_look (.code yX11_look cX11_look 1 (some .int) :: wA) ({ frames := 1, cells := 0, slots := 0, locals := 20 }) (zP (dC, dI) [(cI, .int), (cJ, .long)] [.ref h0] sz [(h0, .inr (11, [.int th, .ref tB, .int tsz, .int tat, .int wr, .int dp, .ref rC, .ref rV, .ref rD, .ref rK, .ref rT, .ref rS, .ref rU, .int lw, .int tx, .ref rL, .ref rX, .ref qR, .ref qB, .ref qP, .int qnb, .int qnp, .ref aR, .ref aB, .ref aP, .int nb, .int np, .ref aN, .ref rf, .int ho, .int br, .ref aK, .int ac, .long dw, .ref aE, .int sr, .int sf, .ref aA, .ref aH, .ref aI, .int hi])), (tB, .inl (cI, 240, .inl fB))]) (va_Qi (fun (r : Int32) (u : Int32) => (0 ≤ u.toInt) ∧ (u.toInt ≤ 240) ∧ (¬ r.toInt = -1 → u.toInt < tsz.toInt) ∧ (tat.toInt ≤ u.toInt) ∧ (u.toInt ≤ tsz.toInt ∨ u.toInt = tat.toInt) ∧ (zLk fB tsz tat r u)) (fun (u : Int32) (t : State) => va_P (dC, dI) vwCl [(h0, .inr (11, [.int th, .ref tB, .int tsz, .int u, .int wr, .int dp, .ref rC, .ref rV, .ref rD, .ref rK, .ref rT, .ref rS, .ref rU, .int lw, .int tx, .ref rL, .ref rX, .ref qR, .ref qB, .ref qP, .int qnb, .int qnp, .ref aR, .ref aB, .ref aP, .int nb, .int np, .ref aN, .ref rf, .int ho, .int br, .ref aK, .int ac, .long dw, .ref aE, .int sr, .int sf, .ref aA, .ref aH, .ref aI, .int hi])), (tB, .inl (cI, 240, .inl fB))] t.heap ∧ va_D (va_A [(h0, .inr (11, [.int th, .ref tB, .int tsz, .int tat, .int wr, .int dp, .ref rC, .ref rV, .ref rD, .ref rK, .ref rT, .ref rS, .ref rU, .int lw, .int tx, .ref rL, .ref rX, .ref qR, .ref qB, .ref qP, .int qnb, .int qnp, .ref aR, .ref aB, .ref aP, .int nb, .int np, .ref aN, .ref rf, .int ho, .int br, .ref aK, .int ac, .long dw, .ref aE, .int sr, .int sf, .ref aA, .ref aH, .ref aI, .int hi])), (tB, .inl (cI, 240, .inl fB))] sz) [(h0, .inr (11, [.int th, .ref tB, .int tsz, .int u, .int wr, .int dp, .ref rC, .ref rV, .ref rD, .ref rK, .ref rT, .ref rS, .ref rU, .int lw, .int tx, .ref rL, .ref rX, .ref qR, .ref qB, .ref qP, .int qnb, .int qnp, .ref aR, .ref aB, .ref aP, .int nb, .int np, .ref aN, .ref rf, .int ho, .int br, .ref aK, .int ac, .long dw, .ref aE, .int sr, .int sf, .ref aA, .ref aH, .ref aI, .int hi])), (tB, .inl (cI, 240, .inl fB))]) (va_A [(h0, .inr (11, [.int th, .ref tB, .int tsz, .int tat, .int wr, .int dp, .ref rC, .ref rV, .ref rD, .ref rK, .ref rT, .ref rS, .ref rU, .int lw, .int tx, .ref rL, .ref rX, .ref qR, .ref qB, .ref qP, .int qnb, .int qnp, .ref aR, .ref aB, .ref aP, .int nb, .int np, .ref aN, .ref rf, .int ho, .int br, .ref aK, .int ac, .long dw, .ref aE, .int sr, .int sf, .ref aA, .ref aH, .ref aI, .int hi])), (tB, .inl (cI, 240, .inl fB))] sz)) 0 0 (va_A [(h0, .inr (11, [.int th, .ref tB, .int tsz, .int tat, .int wr, .int dp, .ref rC, .ref rV, .ref rD, .ref rK, .ref rT, .ref rS, .ref rU, .int lw, .int tx, .ref rL, .ref rX, .ref qR, .ref qB, .ref qP, .int qnb, .int qnp, .ref aR, .ref aB, .ref aP, .int nb, .int np, .ref aN, .ref rf, .int ho, .int br, .ref aK, .int ac, .long dw, .ref aE, .int sr, .int sf, .ref aA, .ref aH, .ref aI, .int hi])), (tB, .inl (cI, 240, .inl fB))] sz) := by
  refine Met.ofW (cc := cX11_look) (maxL := 1) (ret := (some .int)) (by decide) rfl ?_
  intro p e s m args below meth c s₁ B hml hv
  have y_ac : zHid (0 ≤ ac.toInt ∧ ac.toInt ≤ 40) := n_ac
  have y_hi : zHid (0 ≤ hi.toInt ∧ hi.toInt ≤ 1) := n_hi
  have y_ho : zHid ((-1) ≤ ho.toInt ∧ ho.toInt ≤ 3) := n_ho
  have y_lw : zHid (0 ≤ lw.toInt ∧ lw.toInt ≤ 4) := n_lw
  have y_nb : zHid (0 ≤ nb.toInt ∧ nb.toInt ≤ 6) := n_nb
  have y_np : zHid (0 ≤ np.toInt ∧ np.toInt ≤ 5) := n_np
  have y_qnb : zHid (0 ≤ qnb.toInt ∧ qnb.toInt ≤ 6) := n_qnb
  have y_qnp : zHid (0 ≤ qnp.toInt ∧ qnp.toInt ≤ 5) := n_qnp
  have y_wr : zHid ((-1) ≤ wr.toInt ∧ wr.toInt ≤ 260) := n_wr
  clear n_ac n_hi n_ho n_lw n_nb n_np n_qnb n_qnp n_wr
  obtain ⟨hargs, hsz, hP, hK, hT⟩ := hv
  have hx := B.exec
  have hb := B.bytes
  have hr := B.returns
  have hts : ∀ w ∈ wA, w.before args s = true := fun w h => atoms_spec (ws := .code yX11_look cX11_look 1 (some .int) :: wA) B.pre w (List.mem_cons_of_mem _ h)
  have hown : s.vm.findClass RX11 = some m.cls := findClass_of_methodNamed B.named
  have hlocks := B.notSynchronized
  subst hsz
  have hD := hT.self (sz := s.heap.size)
  generalize hAe : va_A [(h0, .inr (11, [.int th, .ref tB, .int tsz, .int tat, .int wr, .int dp, .ref rC, .ref rV, .ref rD, .ref rK, .ref rT, .ref rS, .ref rU, .int lw, .int tx, .ref rL, .ref rX, .ref qR, .ref qB, .ref qP, .int qnb, .int qnp, .ref aR, .ref aB, .ref aP, .int nb, .int np, .ref aN, .ref rf, .int ho, .int br, .ref aK, .int ac, .long dw, .ref aE, .int sr, .int sf, .ref aA, .ref aH, .ref aI, .int hi])), (tB, .inl (cI, 240, .inl fB))] s.heap.size = A at hD ⊢
  have hA : ∀ q : Nat, s.heap.size ≤ q → A q := fun q h => by rw [← hAe]; exact Or.inr h
  have hl := lv_entry ([.ref h0]) (n := 1) (Nat.le_of_ble_eq_true rfl)
  rw [show entryFrame m args 1 = entryFrame m ([.ref h0] : List Value).toArray 1 by rw [hargs], lg_entry_eq]
  generalize (lg_sl ([.ref h0]) ++ List.replicate (1 - (lg_sl ([.ref h0])).length) Slot.unset).toArray = ls at hl ⊢
  have hl : lv_has ls 1 [(0, .ref h0)] := hl
  refine zstart (fun H hH => ?_)
  rw [← hH] at hP
  have hS : va_S A s.heap H [] := by rw [hH]; exact va_S.rf
  generalize ([] : List Loc) = locs at hS ⊢
  refine zgen (fun R Q hR hQ => ?_)
  have J0 : ∀ (n : Nat) (m0_F_h0_3 : Int32), (0 ≤ m0_F_h0_3.toInt ∧ m0_F_h0_3.toInt ≤ 240) → (tat.toInt ≤ m0_F_h0_3.toInt ∧ (m0_F_h0_3.toInt ≤ tsz.toInt ∨ m0_F_h0_3.toInt = tat.toInt)) → (sk (sB fB tsz.toInt) tsz.toInt tat.toInt = sk (sB fB tsz.toInt) tsz.toInt m0_F_h0_3.toInt) → (261 - m0_F_h0_3.toInt).toNat = n → ∀ (H : Heap) (locs : List Loc) (ls : Array Slot), va_P (dC, dI) vwCl [(h0, .inr (11, [.int th, .ref tB, .int tsz, .int m0_F_h0_3, .int wr, .int dp, .ref rC, .ref rV, .ref rD, .ref rK, .ref rT, .ref rS, .ref rU, .int lw, .int tx, .ref rL, .ref rX, .ref qR, .ref qB, .ref qP, .int qnb, .int qnp, .ref aR, .ref aB, .ref aP, .int nb, .int np, .ref aN, .ref rf, .int ho, .int br, .ref aK, .int ac, .long dw, .ref aE, .int sr, .int sf, .ref aA, .ref aH, .ref aI, .int hi])), (tB, .inl (cI, 240, .inl fB))] H → va_D A [(h0, .inr (11, [.int th, .ref tB, .int tsz, .int m0_F_h0_3, .int wr, .int dp, .ref rC, .ref rV, .ref rD, .ref rK, .ref rT, .ref rS, .ref rU, .int lw, .int tx, .ref rL, .ref rX, .ref qR, .ref qB, .ref qP, .int qnb, .int qnp, .ref aR, .ref aB, .ref aP, .int nb, .int np, .ref aN, .ref rf, .int ho, .int br, .ref aK, .int ac, .long dw, .ref aE, .int sr, .int sf, .ref aA, .ref aH, .ref aI, .int hi])), (tB, .inl (cI, 240, .inl fB))] → va_S A s.heap H locs → lv_has ls 1 [(0, .ref h0)] → W p l e R s m args below meth c H locs 0 0 Q (F0 m 0 ls []) := by
    intro n0
    induction n0 using Nat.strongRecOn with
    | _ n0 ih0 =>
      intro m0_F_h0_3 jf0_0 jf0_1 jv0_0 hmu0 H locs ls hP hD hS hl
      refine lv_aload_n hx hb dX11_look_0 rfl (lv_at hl 0 rfl) ?_
      obtain ⟨hPc, hDc⟩ := zc2 (wc := [(h0, .inr (11, [.int th, .ref tB, .int tsz, .int m0_F_h0_3, .int wr, .int dp, .ref rC, .ref rV, .ref rD, .ref rK, .ref rT, .ref rS, .ref rU, .int lw, .int tx, .ref rL, .ref rX, .ref qR, .ref qB, .ref qP, .int qnb, .int qnp, .ref aR, .ref aB, .ref aP, .int nb, .int np, .ref aN, .ref rf, .int ho, .int br, .ref aK, .int ac, .long dw, .ref aE, .int sr, .int sf, .ref aA, .ref aH, .ref aI, .int hi])), (tB, .inl (cI, 240, .inl fB))]) hP hD [0, 1] (by decide +kernel) rfl
      have hFc := zfr hS hA
      refine va_calli (va_runV (As := []) (rest := []) ⟨hx, hb, hml, hown, hts⟩ (g_X11_here l dC dI cI cJ h0 th tB tsz m0_F_h0_3 wr dp rC rV rD rK rT rS rU lw tx rL rX qR qB qP qnb qnp aR aB aP nb np aN rf ho br aK ac dw aE sr sf aA aH aI hi fB H.size y_ac y_hi y_ho y_lw y_nb y_np y_qnb y_qnp (by omega) n_tsz y_wr) (cwV 0 hts (zgV qw1277 qw1279 qw33 qw108 qw1280) rfl rfl rfl hd_X11_here ⟨by rw [hR]; exact Nat.le_of_ble_eq_true rfl, by rw [hR]; exact Nat.le_of_ble_eq_true rfl⟩) (zPV hPc hK hDc (va_recv (q := (RX11, TX11, 41)) hK hP (ci := 11) (q0 := 0) rfl rfl)) rfl rfl hl.1 rfl (lv_room (Nat.le_of_ble_eq_true rfl)) dX11_look_1 ⟨Nat.zero_le _, Nat.zero_le _⟩) hS (fun q _ h => hFc q h) hFc (fun v1 u1 t H locs ht hvm hw hB hz1 hk1 hS9 => ?_)
      replace hP := zkeep hP hk1
      replace hS := hS9
      clear hPc hDc hFc hk1 hz1 hvm hS9
      obtain ⟨f1_0, f1_1⟩ : (¬ v1.toInt = -1 → m0_F_h0_3.toInt < tsz.toInt) ∧ (v1.toInt = sB fB tsz.toInt m0_F_h0_3.toInt) := hw
      have F1 := f1_1
      refine lv_bipush (v := 32) hx hb dX11_look_4 (by decide) ?_
      refine lv_icmp_ne (tgt := 22) hx hb dX11_look_6 (by decide) (fun c6 => ?_) (fun c6 => ?_)
      · have c6 : ¬ v1.toInt = 32 := z6 rfl (by decide) c6
        refine lv_aload_n hx hb dX11_look_22 rfl (lv_at hl 0 rfl) ?_
        obtain ⟨hPc, hDc⟩ := zc2 (wc := [(h0, .inr (11, [.int th, .ref tB, .int tsz, .int m0_F_h0_3, .int wr, .int dp, .ref rC, .ref rV, .ref rD, .ref rK, .ref rT, .ref rS, .ref rU, .int lw, .int tx, .ref rL, .ref rX, .ref qR, .ref qB, .ref qP, .int qnb, .int qnp, .ref aR, .ref aB, .ref aP, .int nb, .int np, .ref aN, .ref rf, .int ho, .int br, .ref aK, .int ac, .long dw, .ref aE, .int sr, .int sf, .ref aA, .ref aH, .ref aI, .int hi])), (tB, .inl (cI, 240, .inl fB))]) hP hD [0, 1] (by decide +kernel) rfl
        have hFc := zfr hS hA
        refine va_calli (va_runV (As := []) (rest := []) ⟨hx, hb, hml, hown, hts⟩ (g_X11_here l dC dI cI cJ h0 th tB tsz m0_F_h0_3 wr dp rC rV rD rK rT rS rU lw tx rL rX qR qB qP qnb qnp aR aB aP nb np aN rf ho br aK ac dw aE sr sf aA aH aI hi fB H.size y_ac y_hi y_ho y_lw y_nb y_np y_qnb y_qnp (by omega) n_tsz y_wr) (cwV 0 hts (zgV qw1277 qw1279 qw33 qw108 qw1280) rfl rfl rfl hd_X11_here ⟨by rw [hR]; exact Nat.le_of_ble_eq_true rfl, by rw [hR]; exact Nat.le_of_ble_eq_true rfl⟩) (zPV hPc hK hDc (va_recv (q := (RX11, TX11, 41)) hK hP (ci := 11) (q0 := 0) rfl rfl)) rfl rfl hl.1 rfl (lv_room (Nat.le_of_ble_eq_true rfl)) dX11_look_23 ⟨Nat.zero_le _, Nat.zero_le _⟩) hS (fun q _ h => hFc q h) hFc (fun v23 u23 t H locs ht hvm hw hB hz1 hk1 hS9 => ?_)
        replace hP := zkeep hP hk1
        replace hS := hS9
        clear hPc hDc hFc hk1 hz1 hvm hS9
        obtain ⟨f23_0, f23_1⟩ : (¬ v23.toInt = -1 → m0_F_h0_3.toInt < tsz.toInt) ∧ (v23.toInt = sB fB tsz.toInt m0_F_h0_3.toInt) := hw
        have F23 := f23_1
        rw [hQ]
        exact W.iret (v := v23) hx hb hr (fun t ht hW => ⟨⟨v23, m0_F_h0_3, rfl, ⟨by (try dsimp only); omega, by (try dsimp only); omega, by (try dsimp only); omega, by (try dsimp only); omega, by (try dsimp only); omega, by (try dsimp only); exact zlkE jv0_0 F1 (by omega) F23⟩, ⟨by rw [ht]; exact hP, hD⟩⟩, hS.F ht⟩) hS.2.2 dX11_look_26
      · have c6 : v1.toInt = 32 := z5 rfl (by decide) c6
        refine lv_aload_n hx hb dX11_look_9 rfl (lv_at hl 0 rfl) ?_
        refine lv_dup hx hb dX11_look_10 rfl ?_
        refine va_get (D := (dC, dI)) (ci := 11) (v := .int m0_F_h0_3) (C := RX11) (T := TX11) (N := 41) hx hb hts iX11 hown hK hP 0 rfl rfl 3 (by decide) (hts _ qw1130) (fun _ h9 => h9) rfl dX11_look_11 ?_
        refine lv_iconst (v := 1) hx hb dX11_look_14 (by decide) ?_
        refine lv_iadd hx hb dX11_look_15 ?_
        refine lv_topi (fun v15 e15 => ?_)
        have i15 : v15.toInt = m0_F_h0_3.toInt + 1 := zadd e15 rfl (by decide) (by omega) (by omega)
        refine va_put (D := (dC, dI)) (ci := 11) (v := .int v15) (ty := .int) (C := RX11) (T := TX11) (N := 41) hx hb hts iX11 tyX11 tyX11_ok nmX11 hown hK hP hD hS 0 rfl rfl 3 (by decide) (hts _ qw1130) (fun _ h9 => h9) rfl (by decide +kernel) rfl rfl (Nat.le_of_ble_eq_true rfl) dX11_look_16 (fun H locs hP9 hD9 hS9 => ?_)
        clear hP hD hS
        obtain ⟨hP, hD⟩ := zst (wX := [(h0, .inr (11, [.int th, .ref tB, .int tsz, .int v15, .int wr, .int dp, .ref rC, .ref rV, .ref rD, .ref rK, .ref rT, .ref rS, .ref rU, .int lw, .int tx, .ref rL, .ref rX, .ref qR, .ref qB, .ref qP, .int qnb, .int qnp, .ref aR, .ref aB, .ref aP, .int nb, .int np, .ref aN, .ref rf, .int ho, .int br, .ref aK, .int ac, .long dw, .ref aE, .int sr, .int sf, .ref aA, .ref aH, .ref aI, .int hi])), (tB, .inl (cI, 240, .inl fB))]) hP9 hD9 rfl
        have hS := hS9
        clear hP9 hD9 hS9
        refine lv_goto (tgt := 0) hx hb dX11_look_19 (by decide) ?_
        exact ih0 _ (by omega) v15 (by omega) (by omega) (zlkS jv0_0 F1 (by omega) i15) rfl H locs ls hP hD hS (lv_sub hl [0] rfl)
  exact J0 _ tat n_tat (by omega) (rfl) rfl H locs ls hP hD hS (lv_sub hl [0] rfl)
set_option maxHeartbeats 4000000 in
set_option maxRecDepth 100000 in
theorem g_X11_plainNumber (l : Launch) (dC : Nat → ClassId) (dI : Nat → Nat → Nat) (cI cJ : ClassId) (h0 : Nat) (th : Int32) (tB : Nat) (tsz : Int32) (tat : Int32) (dp : Int32) (rC : Nat) (rV : Nat) (rD : Nat) (rK : Nat) (rT : Nat) (rS : Nat) (rU : Nat) (lw : Int32) (tx : Int32) (rL : Nat) (rX : Nat) (qR : Nat) (qB : Nat) (qP : Nat) (qnb : Int32) (qnp : Int32) (aR : Nat) (aB : Nat) (aP : Nat) (nb : Int32) (np : Int32) (aN : Nat) (rf : Nat) (ho : Int32) (br : Int32) (aK : Nat) (ac : Int32) (dw : Int64) (aE : Nat) (sr : Int32) (sf : Int32) (aA : Nat) (aH : Nat) (aI : Nat) (hi : Int32) (fB : Nat → Int32) (sz : Nat) (n_ac : 0 ≤ ac.toInt ∧ ac.toInt ≤ 40) (n_hi : 0 ≤ hi.toInt ∧ hi.toInt ≤ 1) (n_ho : (-1) ≤ ho.toInt ∧ ho.toInt ≤ 3) (n_lw : 0 ≤ lw.toInt ∧ lw.toInt ≤ 4) (n_nb : 0 ≤ nb.toInt ∧ nb.toInt ≤ 6) (n_np : 0 ≤ np.toInt ∧ np.toInt ≤ 5) (n_qnb : 0 ≤ qnb.toInt ∧ qnb.toInt ≤ 6) (n_qnp : 0 ≤ qnp.toInt ∧ qnp.toInt ≤ 5) (n_tat : 0 ≤ tat.toInt ∧ tat.toInt ≤ 240) (n_tsz : 0 ≤ tsz.toInt ∧ tsz.toInt ≤ 240) (hat : tat.toInt ≤ tsz.toInt) (hd0 : 48 ≤ sB fB tsz.toInt tat.toInt ∧ sB fB tsz.toInt tat.toInt ≤ 57)   : Met l yX11_plainNumber (.code yX11_plainNumber cX11_plainNumber 3 (some .int) :: wA) ({ frames := 1, cells := 0, slots := 0, locals := 20 }) (zP (dC, dI) [(cI, .int), (cJ, .long)] [.ref h0] sz [(h0, .inr (11, [.int th, .ref tB, .int tsz, .int tat, .int (-1), .int dp, .ref rC, .ref rV, .ref rD, .ref rK, .ref rT, .ref rS, .ref rU, .int lw, .int tx, .ref rL, .ref rX, .ref qR, .ref qB, .ref qP, .int qnb, .int qnp, .ref aR, .ref aB, .ref aP, .int nb, .int np, .ref aN, .ref rf, .int ho, .int br, .ref aK, .int ac, .long dw, .ref aE, .int sr, .int sf, .ref aA, .ref aH, .ref aI, .int hi])), (tB, .inl (cI, 240, .inl fB))]) (va_Qi (fun (r : Int32) (u : Int32 × Int32) => (0 ≤ r.toInt) ∧ (r.toInt ≤ 99999) ∧ (0 ≤ u.1.toInt) ∧ (u.1.toInt ≤ 240) ∧ ((-1) ≤ u.2.toInt) ∧ (u.2.toInt ≤ 239) ∧ (tat.toInt ≤ u.1.toInt) ∧ (u.1.toInt ≤ tsz.toInt) ∧ (zW (sNum (sB fB tsz.toInt) tat.toInt) u.2 u.1) ∧ (u.2.toInt = -1 → r.toInt = sNv (sB fB tsz.toInt) tat.toInt)) (fun (u : Int32 × Int32) (t : State) => va_P (dC, dI) vwCl [(h0, .inr (11, [.int th, .ref tB, .int tsz, .int u.1, .int u.2, .int dp, .ref rC, .ref rV, .ref rD, .ref rK, .ref rT, .ref rS, .ref rU, .int lw, .int tx, .ref rL, .ref rX, .ref qR, .ref qB, .ref qP, .int qnb, .int qnp, .ref aR, .ref aB, .ref aP, .int nb, .int np, .ref aN, .ref rf, .int ho, .int br, .ref aK, .int ac, .long dw, .ref aE, .int sr, .int sf, .ref aA, .ref aH, .ref aI, .int hi])), (tB, .inl (cI, 240, .inl fB))] t.heap ∧ va_D (va_A [(h0, .inr (11, [.int th, .ref tB, .int tsz, .int tat, .int (-1), .int dp, .ref rC, .ref rV, .ref rD, .ref rK, .ref rT, .ref rS, .ref rU, .int lw, .int tx, .ref rL, .ref rX, .ref qR, .ref qB, .ref qP, .int qnb, .int qnp, .ref aR, .ref aB, .ref aP, .int nb, .int np, .ref aN, .ref rf, .int ho, .int br, .ref aK, .int ac, .long dw, .ref aE, .int sr, .int sf, .ref aA, .ref aH, .ref aI, .int hi])), (tB, .inl (cI, 240, .inl fB))] sz) [(h0, .inr (11, [.int th, .ref tB, .int tsz, .int u.1, .int u.2, .int dp, .ref rC, .ref rV, .ref rD, .ref rK, .ref rT, .ref rS, .ref rU, .int lw, .int tx, .ref rL, .ref rX, .ref qR, .ref qB, .ref qP, .int qnb, .int qnp, .ref aR, .ref aB, .ref aP, .int nb, .int np, .ref aN, .ref rf, .int ho, .int br, .ref aK, .int ac, .long dw, .ref aE, .int sr, .int sf, .ref aA, .ref aH, .ref aI, .int hi])), (tB, .inl (cI, 240, .inl fB))]) (va_A [(h0, .inr (11, [.int th, .ref tB, .int tsz, .int tat, .int (-1), .int dp, .ref rC, .ref rV, .ref rD, .ref rK, .ref rT, .ref rS, .ref rU, .int lw, .int tx, .ref rL, .ref rX, .ref qR, .ref qB, .ref qP, .int qnb, .int qnp, .ref aR, .ref aB, .ref aP, .int nb, .int np, .ref aN, .ref rf, .int ho, .int br, .ref aK, .int ac, .long dw, .ref aE, .int sr, .int sf, .ref aA, .ref aH, .ref aI, .int hi])), (tB, .inl (cI, 240, .inl fB))] sz)) 0 0 (va_A [(h0, .inr (11, [.int th, .ref tB, .int tsz, .int tat, .int (-1), .int dp, .ref rC, .ref rV, .ref rD, .ref rK, .ref rT, .ref rS, .ref rU, .int lw, .int tx, .ref rL, .ref rX, .ref qR, .ref qB, .ref qP, .int qnb, .int qnp, .ref aR, .ref aB, .ref aP, .int nb, .int np, .ref aN, .ref rf, .int ho, .int br, .ref aK, .int ac, .long dw, .ref aE, .int sr, .int sf, .ref aA, .ref aH, .ref aI, .int hi])), (tB, .inl (cI, 240, .inl fB))] sz) := by
  refine Met.ofW (cc := cX11_plainNumber) (maxL := 3) (ret := (some .int)) (by decide) rfl ?_
  intro p e s m args below meth c s₁ B hml hv
  have y_ac : zHid (0 ≤ ac.toInt ∧ ac.toInt ≤ 40) := n_ac
  have y_hi : zHid (0 ≤ hi.toInt ∧ hi.toInt ≤ 1) := n_hi
  have y_ho : zHid ((-1) ≤ ho.toInt ∧ ho.toInt ≤ 3) := n_ho
  have y_lw : zHid (0 ≤ lw.toInt ∧ lw.toInt ≤ 4) := n_lw
  have y_nb : zHid (0 ≤ nb.toInt ∧ nb.toInt ≤ 6) := n_nb
  have y_np : zHid (0 ≤ np.toInt ∧ np.toInt ≤ 5) := n_np
  have y_qnb : zHid (0 ≤ qnb.toInt ∧ qnb.toInt ≤ 6) := n_qnb
  have y_qnp : zHid (0 ≤ qnp.toInt ∧ qnp.toInt ≤ 5) := n_qnp
  clear n_ac n_hi n_ho n_lw n_nb n_np n_qnb n_qnp
  obtain ⟨hargs, hsz, hP, hK, hT⟩ := hv
  have hx := B.exec
  have hb := B.bytes
  have hr := B.returns
  have hts : ∀ w ∈ wA, w.before args s = true := fun w h => atoms_spec (ws := .code yX11_plainNumber cX11_plainNumber 3 (some .int) :: wA) B.pre w (List.mem_cons_of_mem _ h)
  have hown : s.vm.findClass RX11 = some m.cls := findClass_of_methodNamed B.named
  have hlocks := B.notSynchronized
  subst hsz
  have hD := hT.self (sz := s.heap.size)
  generalize hAe : va_A [(h0, .inr (11, [.int th, .ref tB, .int tsz, .int tat, .int (-1), .int dp, .ref rC, .ref rV, .ref rD, .ref rK, .ref rT, .ref rS, .ref rU, .int lw, .int tx, .ref rL, .ref rX, .ref qR, .ref qB, .ref qP, .int qnb, .int qnp, .ref aR, .ref aB, .ref aP, .int nb, .int np, .ref aN, .ref rf, .int ho, .int br, .ref aK, .int ac, .long dw, .ref aE, .int sr, .int sf, .ref aA, .ref aH, .ref aI, .int hi])), (tB, .inl (cI, 240, .inl fB))] s.heap.size = A at hD ⊢
  have hA : ∀ q : Nat, s.heap.size ≤ q → A q := fun q h => by rw [← hAe]; exact Or.inr h
  have hl := lv_entry ([.ref h0]) (n := 3) (Nat.le_of_ble_eq_true rfl)
  rw [show entryFrame m args 3 = entryFrame m ([.ref h0] : List Value).toArray 3 by rw [hargs], lg_entry_eq]
  generalize (lg_sl ([.ref h0]) ++ List.replicate (3 - (lg_sl ([.ref h0])).length) Slot.unset).toArray = ls at hl ⊢
  have hl : lv_has ls 3 [(0, .ref h0)] := hl
  refine zstart (fun H hH => ?_)
  rw [← hH] at hP
  have hS : va_S A s.heap H [] := by rw [hH]; exact va_S.rf
  generalize ([] : List Loc) = locs at hS ⊢
  refine zgen (fun R Q hR hQ => ?_)
  have zm1 : (-1 : Int32).toInt = -1 := by decide
  refine lv_iconst (v := 0) hx hb dX11_plainNumber_0 (by decide) ?_
  refine lv_istore_n (lv' := [(1, .int 0), (0, .ref h0)]) hx hb dX11_plainNumber_1 rfl hl (by decide) rfl (fun ls hl => ?_)
  refine lv_iconst (v := 0) hx hb dX11_plainNumber_2 (by decide) ?_
  have J4 : ∀ (n : Nat) (m4_F_h0_3 : Int32) (m4_L_1 : Int32) (m4_L_2 : Int32), (0 ≤ m4_F_h0_3.toInt ∧ m4_F_h0_3.toInt ≤ 240) → (0 ≤ m4_L_1.toInt ∧ m4_L_1.toInt ≤ 99999) → (0 ≤ m4_L_2.toInt ∧ m4_L_2.toInt ≤ 4) → (tat.toInt ≤ m4_F_h0_3.toInt ∧ m4_F_h0_3.toInt ≤ tsz.toInt) → (m4_F_h0_3.toInt = tat.toInt + m4_L_2.toInt ∧ 0 ≤ m4_L_2.toInt ∧ m4_L_2.toInt ≤ 4) → (zDg fB tsz tat m4_F_h0_3) → (zVd fB tsz tat m4_L_2 m4_L_1) → (zB4 m4_L_2 m4_L_1) → (0 ≤ m4_L_1.toInt ∧ m4_L_1.toInt ≤ 9999) → (5 - m4_L_2.toInt).toNat = n → ∀ (H : Heap) (locs : List Loc) (ls : Array Slot), va_P (dC, dI) vwCl [(h0, .inr (11, [.int th, .ref tB, .int tsz, .int m4_F_h0_3, .int (-1), .int dp, .ref rC, .ref rV, .ref rD, .ref rK, .ref rT, .ref rS, .ref rU, .int lw, .int tx, .ref rL, .ref rX, .ref qR, .ref qB, .ref qP, .int qnb, .int qnp, .ref aR, .ref aB, .ref aP, .int nb, .int np, .ref aN, .ref rf, .int ho, .int br, .ref aK, .int ac, .long dw, .ref aE, .int sr, .int sf, .ref aA, .ref aH, .ref aI, .int hi])), (tB, .inl (cI, 240, .inl fB))] H → va_D A [(h0, .inr (11, [.int th, .ref tB, .int tsz, .int m4_F_h0_3, .int (-1), .int dp, .ref rC, .ref rV, .ref rD, .ref rK, .ref rT, .ref rS, .ref rU, .int lw, .int tx, .ref rL, .ref rX, .ref qR, .ref qB, .ref qP, .int qnb, .int qnp, .ref aR, .ref aB, .ref aP, .int nb, .int np, .ref aN, .ref rf, .int ho, .int br, .ref aK, .int ac, .long dw, .ref aE, .int sr, .int sf, .ref aA, .ref aH, .ref aI, .int hi])), (tB, .inl (cI, 240, .inl fB))] → va_S A s.heap H locs → lv_has ls 3 [(2, .int m4_L_2), (1, .int m4_L_1), (0, .ref h0)] → W p l e R s m args below meth c H locs 0 0 Q (F0 m 4 ls []) := by
    intro n4
    induction n4 using Nat.strongRecOn with
    | _ n4 ih4 =>
      intro m4_F_h0_3 m4_L_1 m4_L_2 jf4_0 jf4_1 jf4_2 jf4_3 jf4_4 jv4_0 jv4_1 jv4_2 jv4_3 hmu4 H locs ls hP hD hS hl
      refine lv_iload_n hx hb dX11_plainNumber_4 rfl (lv_at hl 0 rfl) ?_
      refine lv_iconst (v := 4) hx hb dX11_plainNumber_5 (by decide) ?_
      refine lv_icmp_ge (tgt := 48) hx hb dX11_plainNumber_6 (by decide) (fun c6 => ?_) (fun c6 => ?_)
      · have c6 : 4 ≤ m4_L_2.toInt := z3 (by decide) rfl c6
        refine lv_aload_n hx hb dX11_plainNumber_48 rfl (lv_at hl 2 rfl) ?_
        obtain ⟨hPc, hDc⟩ := zc2 (wc := [(h0, .inr (11, [.int th, .ref tB, .int tsz, .int m4_F_h0_3, .int (-1), .int dp, .ref rC, .ref rV, .ref rD, .ref rK, .ref rT, .ref rS, .ref rU, .int lw, .int tx, .ref rL, .ref rX, .ref qR, .ref qB, .ref qP, .int qnb, .int qnp, .ref aR, .ref aB, .ref aP, .int nb, .int np, .ref aN, .ref rf, .int ho, .int br, .ref aK, .int ac, .long dw, .ref aE, .int sr, .int sf, .ref aA, .ref aH, .ref aI, .int hi])), (tB, .inl (cI, 240, .inl fB))]) hP hD [0, 1] (by decide +kernel) rfl
        have hFc := zfr hS hA
        refine va_calli (va_runV (As := []) (rest := []) ⟨hx, hb, hml, hown, hts⟩ (g_X11_here l dC dI cI cJ h0 th tB tsz m4_F_h0_3 ((-1)) dp rC rV rD rK rT rS rU lw tx rL rX qR qB qP qnb qnp aR aB aP nb np aN rf ho br aK ac dw aE sr sf aA aH aI hi fB H.size y_ac y_hi y_ho y_lw y_nb y_np y_qnb y_qnp (by omega) n_tsz (by decide)) (cwV 0 hts (zgV qw1277 qw1279 qw33 qw108 qw1280) rfl rfl rfl hd_X11_here ⟨by rw [hR]; exact Nat.le_of_ble_eq_true rfl, by rw [hR]; exact Nat.le_of_ble_eq_true rfl⟩) (zPV hPc hK hDc (va_recv (q := (RX11, TX11, 41)) hK hP (ci := 11) (q0 := 0) rfl rfl)) rfl rfl hl.1 rfl (lv_room (Nat.le_of_ble_eq_true rfl)) dX11_plainNumber_49 ⟨Nat.zero_le _, Nat.zero_le _⟩) hS (fun q _ h => hFc q h) hFc (fun v49 u49 t H locs ht hvm hw hB hz1 hk1 hS9 => ?_)
        replace hP := zkeep hP hk1
        replace hS := hS9
        clear hPc hDc hFc hk1 hz1 hvm hS9
        obtain ⟨f49_0, f49_1⟩ : (¬ v49.toInt = -1 → m4_F_h0_3.toInt < tsz.toInt) ∧ (v49.toInt = sB fB tsz.toInt m4_F_h0_3.toInt) := hw
        have F49 := f49_1
        have hPc : va_P (dC, dI) vwCl [] H := zP0
        have hDc : va_D (fun _ => True) [] := zD0
        have hFc := zfr hS hA
        refine va_calli (va_runS (As := [.int v49]) (rest := []) ⟨hx, hb, hml, hown, hts⟩ (g_X11_isDigit l dC dI cI cJ v49 H.size) (cwS 1 hts (zgS qw1298 qw1299 qw108 qw1300) rfl rfl rfl hd_X11_isDigit ⟨by rw [hR]; exact Nat.le_of_ble_eq_true rfl, by rw [hR]; exact Nat.le_of_ble_eq_true rfl⟩) (zPS hPc hK hDc) rfl rfl hl.1 rfl (lv_room (Nat.le_of_ble_eq_true rfl)) dX11_plainNumber_52 ⟨Nat.zero_le _, Nat.zero_le _⟩) hS (fun q _ h => hFc q h) hFc (fun v52 u52 t H locs ht hvm hw hB hz1 hk1 hS9 => ?_)
        replace hP := zkeep hP hk1
        replace hS := hS9
        clear hPc hDc hFc hk1 hz1 hvm hS9
        obtain ⟨f52_0, f52_1, f52_2, f52_3⟩ : (0 ≤ v52.toInt) ∧ (v52.toInt ≤ 1) ∧ (¬ v52.toInt = 0 → (48 ≤ v49.toInt ∧ v49.toInt ≤ 57)) ∧ (zIs (oG v49.toInt) v52) := hw
        have F52 := f52_3
        refine lv_if_eq (tgt := 62) hx hb dX11_plainNumber_55 (by decide) (fun c55 => ?_) (fun c55 => ?_)
        · have c55 : v52.toInt = 0 := z5 rfl (by decide) c55
          refine lv_iload_n hx hb dX11_plainNumber_62 rfl (lv_at hl 1 rfl) ?_
          have zr2 : ((-1) : Int32).toInt = (-1) := by decide
          rw [hQ]
          exact W.iret (v := m4_L_1) hx hb hr (fun t ht hW => ⟨⟨m4_L_1, (m4_F_h0_3, (-1)), rfl, ⟨by (try dsimp only); omega, by (try dsimp only); omega, by (try dsimp only); omega, by (try dsimp only); omega, by (try dsimp only); omega, by (try dsimp only); omega, by (try dsimp only); omega, by (try dsimp only); omega, by (try dsimp only); exact zpnB jv4_0 (show m4_F_h0_3.toInt = tat.toInt + m4_L_2.toInt by omega) (by omega) (by omega) hd0 F49 F52 (by omega) (by decide), by (try dsimp only); exact fun _ => zVdE jv4_1 (u := m4_F_h0_3) (by omega) (zW_1 (wr := -1) (a := m4_F_h0_3) (zpnB jv4_0 (show m4_F_h0_3.toInt = tat.toInt + m4_L_2.toInt by omega) (by omega) (by omega) hd0 F49 F52 (by omega) (by decide)) (by decide))⟩, ⟨by rw [ht]; exact hP, hD⟩⟩, hS.F ht⟩) hS.2.2 dX11_plainNumber_63
        · have c55 : ¬ v52.toInt = 0 := z6 rfl (by decide) c55
          refine lv_aload_n hx hb dX11_plainNumber_58 rfl (lv_at hl 2 rfl) ?_
          obtain ⟨hPc, hDc, hFc⟩ := zc3 (wc := [(h0, .inr (11, [.int th, .ref tB, .int tsz, .int m4_F_h0_3, .int (-1), .int dp, .ref rC, .ref rV, .ref rD, .ref rK, .ref rT, .ref rS, .ref rU, .int lw, .int tx, .ref rL, .ref rX, .ref qR, .ref qB, .ref qP, .int qnb, .int qnp, .ref aR, .ref aB, .ref aP, .int nb, .int np, .ref aN, .ref rf, .int ho, .int br, .ref aK, .int ac, .long dw, .ref aE, .int sr, .int sf, .ref aA, .ref aH, .ref aI, .int hi]))]) hP hD hS hA [0] (by decide +kernel) rfl
          refine va_callv (va_runV (As := []) (rest := []) ⟨hx, hb, hml, hown, hts⟩ (g_X11_bad_m l dC dI cI cJ h0 th tB tsz m4_F_h0_3 dp rC rV rD rK rT rS rU lw tx rL rX qR qB qP qnb qnp aR aB aP nb np aN rf ho br aK ac dw aE sr sf aA aH aI hi H.size y_ac y_hi y_ho y_lw y_nb y_np y_qnb y_qnp (by omega) n_tsz) (cwV 0 hts (zgV qw1301 qw1303 qw36 qw108 qw1304) rfl rfl rfl hd_X11_bad ⟨by rw [hR]; exact Nat.le_of_ble_eq_true rfl, by rw [hR]; exact Nat.le_of_ble_eq_true rfl⟩) (zPV hPc hK hDc (va_recv (q := (RX11, TX11, 41)) hK hP (ci := 11) (q0 := 0) rfl rfl)) rfl rfl hl.1 rfl (lv_room (Nat.le_of_ble_eq_true rfl)) dX11_plainNumber_59 ⟨Nat.zero_le _, Nat.zero_le _⟩) hS (fun q _ h => hFc q h) hFc (fun u59 t H locs ht hvm hw hB hz1 hk1 hS9 => ?_)
          obtain ⟨hP9, hD9⟩ := zj2 (wX := [(h0, .inr (11, [.int th, .ref tB, .int tsz, .int m4_F_h0_3, .int m4_F_h0_3, .int dp, .ref rC, .ref rV, .ref rD, .ref rK, .ref rT, .ref rS, .ref rU, .int lw, .int tx, .ref rL, .ref rX, .ref qR, .ref qB, .ref qP, .int qnb, .int qnp, .ref aR, .ref aB, .ref aP, .int nb, .int np, .ref aN, .ref rf, .int ho, .int br, .ref aK, .int ac, .long dw, .ref aE, .int sr, .int sf, .ref aA, .ref aH, .ref aI, .int hi])), (tB, .inl (cI, 240, .inl fB))]) hP hD hk1 hFc ht hB [0] [(true, 0), (false, 1)] rfl (by decide +kernel) (by decide +kernel) rfl
          clear hP hD hS hPc hDc hFc hB hk1 hz1 hvm
          have hP := hP9
          have hD := hD9
          have hS := hS9
          clear hP9 hD9 hS9
          refine lv_iload_n hx hb dX11_plainNumber_62 rfl (lv_at hl 1 rfl) ?_
          rw [hQ]
          exact W.iret (v := m4_L_1) hx hb hr (fun t ht hW => ⟨⟨m4_L_1, (m4_F_h0_3, m4_F_h0_3), rfl, ⟨by (try dsimp only); omega, by (try dsimp only); omega, by (try dsimp only); omega, by (try dsimp only); omega, by (try dsimp only); omega, by (try dsimp only); omega, by (try dsimp only); omega, by (try dsimp only); omega, by (try dsimp only); exact zpnA jv4_0 (by omega) (by omega) F49 F52 (by omega) (by omega), by (try dsimp only); exact fun z => absurd z (by omega)⟩, ⟨by rw [ht]; exact hP, hD⟩⟩, hS.F ht⟩) hS.2.2 dX11_plainNumber_63
      · have c6 : m4_L_2.toInt < 4 := z4 (by decide) rfl c6
        refine lv_aload_n hx hb dX11_plainNumber_9 rfl (lv_at hl 2 rfl) ?_
        obtain ⟨hPc, hDc⟩ := zc2 (wc := [(h0, .inr (11, [.int th, .ref tB, .int tsz, .int m4_F_h0_3, .int (-1), .int dp, .ref rC, .ref rV, .ref rD, .ref rK, .ref rT, .ref rS, .ref rU, .int lw, .int tx, .ref rL, .ref rX, .ref qR, .ref qB, .ref qP, .int qnb, .int qnp, .ref aR, .ref aB, .ref aP, .int nb, .int np, .ref aN, .ref rf, .int ho, .int br, .ref aK, .int ac, .long dw, .ref aE, .int sr, .int sf, .ref aA, .ref aH, .ref aI, .int hi])), (tB, .inl (cI, 240, .inl fB))]) hP hD [0, 1] (by decide +kernel) rfl
        have hFc := zfr hS hA
        refine va_calli (va_runV (As := []) (rest := []) ⟨hx, hb, hml, hown, hts⟩ (g_X11_here l dC dI cI cJ h0 th tB tsz m4_F_h0_3 ((-1)) dp rC rV rD rK rT rS rU lw tx rL rX qR qB qP qnb qnp aR aB aP nb np aN rf ho br aK ac dw aE sr sf aA aH aI hi fB H.size y_ac y_hi y_ho y_lw y_nb y_np y_qnb y_qnp (by omega) n_tsz (by decide)) (cwV 0 hts (zgV qw1277 qw1279 qw33 qw108 qw1280) rfl rfl rfl hd_X11_here ⟨by rw [hR]; exact Nat.le_of_ble_eq_true rfl, by rw [hR]; exact Nat.le_of_ble_eq_true rfl⟩) (zPV hPc hK hDc (va_recv (q := (RX11, TX11, 41)) hK hP (ci := 11) (q0 := 0) rfl rfl)) rfl rfl hl.1 rfl (lv_room (Nat.le_of_ble_eq_true rfl)) dX11_plainNumber_10 ⟨Nat.zero_le _, Nat.zero_le _⟩) hS (fun q _ h => hFc q h) hFc (fun v10 u10 t H locs ht hvm hw hB hz1 hk1 hS9 => ?_)
        replace hP := zkeep hP hk1
        replace hS := hS9
        clear hPc hDc hFc hk1 hz1 hvm hS9
        obtain ⟨f10_0, f10_1⟩ : (¬ v10.toInt = -1 → m4_F_h0_3.toInt < tsz.toInt) ∧ (v10.toInt = sB fB tsz.toInt m4_F_h0_3.toInt) := hw
        have F10 := f10_1
        have hPc : va_P (dC, dI) vwCl [] H := zP0
        have hDc : va_D (fun _ => True) [] := zD0
        have hFc := zfr hS hA
        refine va_calli (va_runS (As := [.int v10]) (rest := []) ⟨hx, hb, hml, hown, hts⟩ (g_X11_isDigit l dC dI cI cJ v10 H.size) (cwS 1 hts (zgS qw1298 qw1299 qw108 qw1300) rfl rfl rfl hd_X11_isDigit ⟨by rw [hR]; exact Nat.le_of_ble_eq_true rfl, by rw [hR]; exact Nat.le_of_ble_eq_true rfl⟩) (zPS hPc hK hDc) rfl rfl hl.1 rfl (lv_room (Nat.le_of_ble_eq_true rfl)) dX11_plainNumber_13 ⟨Nat.zero_le _, Nat.zero_le _⟩) hS (fun q _ h => hFc q h) hFc (fun v13 u13 t H locs ht hvm hw hB hz1 hk1 hS9 => ?_)
        replace hP := zkeep hP hk1
        replace hS := hS9
        clear hPc hDc hFc hk1 hz1 hvm hS9
        obtain ⟨f13_0, f13_1, f13_2, f13_3⟩ : (0 ≤ v13.toInt) ∧ (v13.toInt ≤ 1) ∧ (¬ v13.toInt = 0 → (48 ≤ v10.toInt ∧ v10.toInt ≤ 57)) ∧ (zIs (oG v10.toInt) v13) := hw
        have F13 := f13_3
        refine lv_if_eq (tgt := 48) hx hb dX11_plainNumber_16 (by decide) (fun c16 => ?_) (fun c16 => ?_)
        · have c16 : v13.toInt = 0 := z5 rfl (by decide) c16
          refine lv_aload_n hx hb dX11_plainNumber_48 rfl (lv_at hl 2 rfl) ?_
          obtain ⟨hPc, hDc⟩ := zc2 (wc := [(h0, .inr (11, [.int th, .ref tB, .int tsz, .int m4_F_h0_3, .int (-1), .int dp, .ref rC, .ref rV, .ref rD, .ref rK, .ref rT, .ref rS, .ref rU, .int lw, .int tx, .ref rL, .ref rX, .ref qR, .ref qB, .ref qP, .int qnb, .int qnp, .ref aR, .ref aB, .ref aP, .int nb, .int np, .ref aN, .ref rf, .int ho, .int br, .ref aK, .int ac, .long dw, .ref aE, .int sr, .int sf, .ref aA, .ref aH, .ref aI, .int hi])), (tB, .inl (cI, 240, .inl fB))]) hP hD [0, 1] (by decide +kernel) rfl
          have hFc := zfr hS hA
          refine va_calli (va_runV (As := []) (rest := []) ⟨hx, hb, hml, hown, hts⟩ (g_X11_here l dC dI cI cJ h0 th tB tsz m4_F_h0_3 ((-1)) dp rC rV rD rK rT rS rU lw tx rL rX qR qB qP qnb qnp aR aB aP nb np aN rf ho br aK ac dw aE sr sf aA aH aI hi fB H.size y_ac y_hi y_ho y_lw y_nb y_np y_qnb y_qnp (by omega) n_tsz (by decide)) (cwV 0 hts (zgV qw1277 qw1279 qw33 qw108 qw1280) rfl rfl rfl hd_X11_here ⟨by rw [hR]; exact Nat.le_of_ble_eq_true rfl, by rw [hR]; exact Nat.le_of_ble_eq_true rfl⟩) (zPV hPc hK hDc (va_recv (q := (RX11, TX11, 41)) hK hP (ci := 11) (q0 := 0) rfl rfl)) rfl rfl hl.1 rfl (lv_room (Nat.le_of_ble_eq_true rfl)) dX11_plainNumber_49 ⟨Nat.zero_le _, Nat.zero_le _⟩) hS (fun q _ h => hFc q h) hFc (fun v49 u49 t H locs ht hvm hw hB hz1 hk1 hS9 => ?_)
          replace hP := zkeep hP hk1
          replace hS := hS9
          clear hPc hDc hFc hk1 hz1 hvm hS9
          obtain ⟨f49_0, f49_1⟩ : (¬ v49.toInt = -1 → m4_F_h0_3.toInt < tsz.toInt) ∧ (v49.toInt = sB fB tsz.toInt m4_F_h0_3.toInt) := hw
          have F49 := f49_1
          have hPc : va_P (dC, dI) vwCl [] H := zP0
          have hDc : va_D (fun _ => True) [] := zD0
          have hFc := zfr hS hA
          refine va_calli (va_runS (As := [.int v49]) (rest := []) ⟨hx, hb, hml, hown, hts⟩ (g_X11_isDigit l dC dI cI cJ v49 H.size) (cwS 1 hts (zgS qw1298 qw1299 qw108 qw1300) rfl rfl rfl hd_X11_isDigit ⟨by rw [hR]; exact Nat.le_of_ble_eq_true rfl, by rw [hR]; exact Nat.le_of_ble_eq_true rfl⟩) (zPS hPc hK hDc) rfl rfl hl.1 rfl (lv_room (Nat.le_of_ble_eq_true rfl)) dX11_plainNumber_52 ⟨Nat.zero_le _, Nat.zero_le _⟩) hS (fun q _ h => hFc q h) hFc (fun v52 u52 t H locs ht hvm hw hB hz1 hk1 hS9 => ?_)
          replace hP := zkeep hP hk1
          replace hS := hS9
          clear hPc hDc hFc hk1 hz1 hvm hS9
          obtain ⟨f52_0, f52_1, f52_2, f52_3⟩ : (0 ≤ v52.toInt) ∧ (v52.toInt ≤ 1) ∧ (¬ v52.toInt = 0 → (48 ≤ v49.toInt ∧ v49.toInt ≤ 57)) ∧ (zIs (oG v49.toInt) v52) := hw
          have F52 := f52_3
          refine lv_if_eq (tgt := 62) hx hb dX11_plainNumber_55 (by decide) (fun c55 => ?_) (fun c55 => ?_)
          · have c55 : v52.toInt = 0 := z5 rfl (by decide) c55
            refine lv_iload_n hx hb dX11_plainNumber_62 rfl (lv_at hl 1 rfl) ?_
            have zr2 : ((-1) : Int32).toInt = (-1) := by decide
            rw [hQ]
            exact W.iret (v := m4_L_1) hx hb hr (fun t ht hW => ⟨⟨m4_L_1, (m4_F_h0_3, (-1)), rfl, ⟨by (try dsimp only); omega, by (try dsimp only); omega, by (try dsimp only); omega, by (try dsimp only); omega, by (try dsimp only); omega, by (try dsimp only); omega, by (try dsimp only); omega, by (try dsimp only); omega, by (try dsimp only); exact zpnB jv4_0 (show m4_F_h0_3.toInt = tat.toInt + m4_L_2.toInt by omega) (by omega) (by omega) hd0 F49 F52 (by omega) (by decide), by (try dsimp only); exact fun _ => zVdE jv4_1 (u := m4_F_h0_3) (by omega) (zW_1 (wr := -1) (a := m4_F_h0_3) (zpnB jv4_0 (show m4_F_h0_3.toInt = tat.toInt + m4_L_2.toInt by omega) (by omega) (by omega) hd0 F49 F52 (by omega) (by decide)) (by decide))⟩, ⟨by rw [ht]; exact hP, hD⟩⟩, hS.F ht⟩) hS.2.2 dX11_plainNumber_63
          · have c55 : ¬ v52.toInt = 0 := z6 rfl (by decide) c55
            refine lv_aload_n hx hb dX11_plainNumber_58 rfl (lv_at hl 2 rfl) ?_
            obtain ⟨hPc, hDc, hFc⟩ := zc3 (wc := [(h0, .inr (11, [.int th, .ref tB, .int tsz, .int m4_F_h0_3, .int (-1), .int dp, .ref rC, .ref rV, .ref rD, .ref rK, .ref rT, .ref rS, .ref rU, .int lw, .int tx, .ref rL, .ref rX, .ref qR, .ref qB, .ref qP, .int qnb, .int qnp, .ref aR, .ref aB, .ref aP, .int nb, .int np, .ref aN, .ref rf, .int ho, .int br, .ref aK, .int ac, .long dw, .ref aE, .int sr, .int sf, .ref aA, .ref aH, .ref aI, .int hi]))]) hP hD hS hA [0] (by decide +kernel) rfl
            refine va_callv (va_runV (As := []) (rest := []) ⟨hx, hb, hml, hown, hts⟩ (g_X11_bad_m l dC dI cI cJ h0 th tB tsz m4_F_h0_3 dp rC rV rD rK rT rS rU lw tx rL rX qR qB qP qnb qnp aR aB aP nb np aN rf ho br aK ac dw aE sr sf aA aH aI hi H.size y_ac y_hi y_ho y_lw y_nb y_np y_qnb y_qnp (by omega) n_tsz) (cwV 0 hts (zgV qw1301 qw1303 qw36 qw108 qw1304) rfl rfl rfl hd_X11_bad ⟨by rw [hR]; exact Nat.le_of_ble_eq_true rfl, by rw [hR]; exact Nat.le_of_ble_eq_true rfl⟩) (zPV hPc hK hDc (va_recv (q := (RX11, TX11, 41)) hK hP (ci := 11) (q0 := 0) rfl rfl)) rfl rfl hl.1 rfl (lv_room (Nat.le_of_ble_eq_true rfl)) dX11_plainNumber_59 ⟨Nat.zero_le _, Nat.zero_le _⟩) hS (fun q _ h => hFc q h) hFc (fun u59 t H locs ht hvm hw hB hz1 hk1 hS9 => ?_)
            obtain ⟨hP9, hD9⟩ := zj2 (wX := [(h0, .inr (11, [.int th, .ref tB, .int tsz, .int m4_F_h0_3, .int m4_F_h0_3, .int dp, .ref rC, .ref rV, .ref rD, .ref rK, .ref rT, .ref rS, .ref rU, .int lw, .int tx, .ref rL, .ref rX, .ref qR, .ref qB, .ref qP, .int qnb, .int qnp, .ref aR, .ref aB, .ref aP, .int nb, .int np, .ref aN, .ref rf, .int ho, .int br, .ref aK, .int ac, .long dw, .ref aE, .int sr, .int sf, .ref aA, .ref aH, .ref aI, .int hi])), (tB, .inl (cI, 240, .inl fB))]) hP hD hk1 hFc ht hB [0] [(true, 0), (false, 1)] rfl (by decide +kernel) (by decide +kernel) rfl
            clear hP hD hS hPc hDc hFc hB hk1 hz1 hvm
            have hP := hP9
            have hD := hD9
            have hS := hS9
            clear hP9 hD9 hS9
            refine lv_iload_n hx hb dX11_plainNumber_62 rfl (lv_at hl 1 rfl) ?_
            rw [hQ]
            exact W.iret (v := m4_L_1) hx hb hr (fun t ht hW => ⟨⟨m4_L_1, (m4_F_h0_3, m4_F_h0_3), rfl, ⟨by (try dsimp only); omega, by (try dsimp only); omega, by (try dsimp only); omega, by (try dsimp only); omega, by (try dsimp only); omega, by (try dsimp only); omega, by (try dsimp only); omega, by (try dsimp only); omega, by (try dsimp only); exact zpnX F10 F13 (by omega) F49 F52 (by omega), by (try dsimp only); exact fun z => absurd z (by omega)⟩, ⟨by rw [ht]; exact hP, hD⟩⟩, hS.F ht⟩) hS.2.2 dX11_plainNumber_63
        · have c16 : ¬ v13.toInt = 0 := z6 rfl (by decide) c16
          refine lv_bipush (v := 10) hx hb dX11_plainNumber_19 (by decide) ?_
          refine lv_iload_n hx hb dX11_plainNumber_21 rfl (lv_at hl 1 rfl) ?_
          refine lv_imul hx hb dX11_plainNumber_22 ?_
          refine lv_topi (fun v22 e22 => ?_)
          have i22 : v22.toInt = 10 * m4_L_1.toInt := zmul e22 (by decide) rfl (by omega) (by omega)
          refine lv_aload_n hx hb dX11_plainNumber_23 rfl (lv_at hl 2 rfl) ?_
          obtain ⟨hPc, hDc⟩ := zc2 (wc := [(h0, .inr (11, [.int th, .ref tB, .int tsz, .int m4_F_h0_3, .int (-1), .int dp, .ref rC, .ref rV, .ref rD, .ref rK, .ref rT, .ref rS, .ref rU, .int lw, .int tx, .ref rL, .ref rX, .ref qR, .ref qB, .ref qP, .int qnb, .int qnp, .ref aR, .ref aB, .ref aP, .int nb, .int np, .ref aN, .ref rf, .int ho, .int br, .ref aK, .int ac, .long dw, .ref aE, .int sr, .int sf, .ref aA, .ref aH, .ref aI, .int hi])), (tB, .inl (cI, 240, .inl fB))]) hP hD [0, 1] (by decide +kernel) rfl
          have hFc := zfr hS hA
          refine va_calli (va_runV (As := []) (rest := [.int v22]) ⟨hx, hb, hml, hown, hts⟩ (g_X11_here l dC dI cI cJ h0 th tB tsz m4_F_h0_3 ((-1)) dp rC rV rD rK rT rS rU lw tx rL rX qR qB qP qnb qnp aR aB aP nb np aN rf ho br aK ac dw aE sr sf aA aH aI hi fB H.size y_ac y_hi y_ho y_lw y_nb y_np y_qnb y_qnp (by omega) n_tsz (by decide)) (cwV 0 hts (zgV qw1277 qw1279 qw33 qw108 qw1280) rfl rfl rfl hd_X11_here ⟨by rw [hR]; exact Nat.le_of_ble_eq_true rfl, by rw [hR]; exact Nat.le_of_ble_eq_true rfl⟩) (zPV hPc hK hDc (va_recv (q := (RX11, TX11, 41)) hK hP (ci := 11) (q0 := 0) rfl rfl)) rfl rfl hl.1 rfl (lv_room (Nat.le_of_ble_eq_true rfl)) dX11_plainNumber_24 ⟨Nat.zero_le _, Nat.zero_le _⟩) hS (fun q _ h => hFc q h) hFc (fun v24 u24 t H locs ht hvm hw hB hz1 hk1 hS9 => ?_)
          replace hP := zkeep hP hk1
          replace hS := hS9
          clear hPc hDc hFc hk1 hz1 hvm hS9
          obtain ⟨f24_0, f24_1⟩ : (¬ v24.toInt = -1 → m4_F_h0_3.toInt < tsz.toInt) ∧ (v24.toInt = sB fB tsz.toInt m4_F_h0_3.toInt) := hw
          have F24 := f24_1
          have y24 : 48 ≤ v24.toInt ∧ v24.toInt ≤ 57 := by omega
          refine lv_iadd hx hb dX11_plainNumber_27 ?_
          refine lv_topi (fun v27 e27 => ?_)
          have i27 : v27.toInt = v22.toInt + v24.toInt := zadd e27 rfl rfl (by omega) (by omega)
          refine lv_bipush (v := 48) hx hb dX11_plainNumber_28 (by decide) ?_
          refine lv_isub hx hb dX11_plainNumber_30 ?_
          refine lv_topi (fun v30 e30 => ?_)
          have i30 : v30.toInt = v27.toInt - 48 := zsub e30 rfl (by decide) (by omega) (by omega)
          refine lv_istore_n (lv' := [(1, .int v30), (2, .int m4_L_2), (0, .ref h0)]) hx hb dX11_plainNumber_31 rfl hl (by decide) rfl (fun ls hl => ?_)
          refine lv_aload_n hx hb dX11_plainNumber_32 rfl (lv_at hl 2 rfl) ?_
          refine lv_dup hx hb dX11_plainNumber_33 rfl ?_
          refine va_get (D := (dC, dI)) (ci := 11) (v := .int m4_F_h0_3) (C := RX11) (T := TX11) (N := 41) hx hb hts iX11 hown hK hP 0 rfl rfl 3 (by decide) (hts _ qw1130) (fun _ h9 => h9) rfl dX11_plainNumber_34 ?_
          refine lv_iconst (v := 1) hx hb dX11_plainNumber_37 (by decide) ?_
          refine lv_iadd hx hb dX11_plainNumber_38 ?_
          refine lv_topi (fun v38 e38 => ?_)
          have i38 : v38.toInt = m4_F_h0_3.toInt + 1 := zadd e38 rfl (by decide) (by omega) (by omega)
          refine va_put (D := (dC, dI)) (ci := 11) (v := .int v38) (ty := .int) (C := RX11) (T := TX11) (N := 41) hx hb hts iX11 tyX11 tyX11_ok nmX11 hown hK hP hD hS 0 rfl rfl 3 (by decide) (hts _ qw1130) (fun _ h9 => h9) rfl (by decide +kernel) rfl rfl (Nat.le_of_ble_eq_true rfl) dX11_plainNumber_39 (fun H locs hP9 hD9 hS9 => ?_)
          clear hP hD hS
          obtain ⟨hP, hD⟩ := zst (wX := [(h0, .inr (11, [.int th, .ref tB, .int tsz, .int v38, .int (-1), .int dp, .ref rC, .ref rV, .ref rD, .ref rK, .ref rT, .ref rS, .ref rU, .int lw, .int tx, .ref rL, .ref rX, .ref qR, .ref qB, .ref qP, .int qnb, .int qnp, .ref aR, .ref aB, .ref aP, .int nb, .int np, .ref aN, .ref rf, .int ho, .int br, .ref aK, .int ac, .long dw, .ref aE, .int sr, .int sf, .ref aA, .ref aH, .ref aI, .int hi])), (tB, .inl (cI, 240, .inl fB))]) hP9 hD9 rfl
          have hS := hS9
          clear hP9 hD9 hS9
          obtain ⟨v42, e42⟩ : ∃ y : Int32, y = m4_L_2 + Int32.ofInt (1) := ⟨_, rfl⟩
          refine lv_iinc (v := v42) (lv' := [(2, .int v42), (1, .int v30), (0, .ref h0)]) hx hb dX11_plainNumber_42 hl (k := 1) rfl e42.symm (by decide) rfl (fun ls hl => ?_)
          have i42 : v42.toInt = m4_L_2.toInt + 1 := zaddI e42 (by decide) (by omega) (by omega)
          refine lv_goto (tgt := 4) hx hb dX11_plainNumber_45 (by decide) ?_
          exact ih4 _ (by omega) v38 v30 v42 (by omega) (by omega) (by omega) (by omega) (by omega) (zDgI jv4_0 F10 F13 (by omega) i38) (zVdR jv4_1 (by omega) (by omega) F24 (by omega) (by omega)) (zB4S (x := v24) jv4_2 (by omega) (by omega) (by omega) (by omega) i42 (by omega)) (zB4b (zB4S (x := v24) jv4_2 (by omega) (by omega) (by omega) (by omega) i42 (by omega))) rfl H locs ls hP hD hS (lv_sub hl [0, 1, 2] rfl)
  refine lv_istore_n (lv' := [(2, .int 0), (1, .int 0), (0, .ref h0)]) hx hb dX11_plainNumber_3 rfl hl (by decide) rfl (fun ls hl => ?_)
  have zj4_m4_L_1 : (0 : Int32).toInt = 0 := by decide
  have zj4_m4_L_2 : (0 : Int32).toInt = 0 := by decide
  exact J4 _ tat 0 0 n_tat (by decide) (by decide) (by omega) (by omega) (zDg0) (zVd0) (zB40) (⟨by decide, by decide⟩) rfl H locs ls hP hD hS (lv_sub hl [0, 1, 2] rfl)
set_option maxHeartbeats 4000000 in
set_option maxRecDepth 100000 in
theorem g_X11_letterOf_f (l : Launch) (dC : Nat → ClassId) (dI : Nat → Nat → Nat) (cI cJ : ClassId) (p0 : Int32) (sz : Nat)     : Met l yX11_letterOf (.code yX11_letterOf cX11_letterOf 1 (some .int) :: wA) ({ frames := 0, cells := 0, slots := 0, locals := 0 }) (zP (dC, dI) [(cI, .int), (cJ, .long)] [.int p0] sz []) (va_Qi (fun (r : Int32) (u : Unit) => ((-1) ≤ r.toInt) ∧ (r.toInt ≤ 5) ∧ (0 ≤ r.toInt → (p0.toInt = 102 ∨ p0.toInt = 119 ∨ p0.toInt = 121 ∨ p0.toInt = 115 ∨ p0.toInt = 97 ∨ p0.toInt = 109)) ∧ (r.toInt = -1 → ¬ (p0.toInt = 102 ∨ p0.toInt = 119 ∨ p0.toInt = 121 ∨ p0.toInt = 115 ∨ p0.toInt = 97 ∨ p0.toInt = 109)) ∧ (0 ≤ r.toInt → r.toInt = eLt p0.toInt)) (fun (_ : Unit) (_ : State) => True) (va_A [] sz)) 0 0 (va_A [] sz) := by
  refine Met.ofW (cc := cX11_letterOf) (maxL := 1) (ret := (some .int)) (by decide) rfl ?_
  intro p e s m args below meth c s₁ B hml hv
  obtain ⟨hargs, hsz, hP, hK, hT⟩ := hv
  have hx := B.exec
  have hb := B.bytes
  have hr := B.returns
  have hts : ∀ w ∈ wA, w.before args s = true := fun w h => atoms_spec (ws := .code yX11_letterOf cX11_letterOf 1 (some .int) :: wA) B.pre w (List.mem_cons_of_mem _ h)
  have hown : s.vm.findClass RX11 = some m.cls := findClass_of_methodNamed B.named
  have hlocks := B.notSynchronized
  subst hsz
  have hD : va_D (va_A [] s.heap.size) [] := zD0
  generalize hAe : va_A [] s.heap.size = A at hD ⊢
  have hA : ∀ q : Nat, s.heap.size ≤ q → A q := fun q h => by rw [← hAe]; exact Or.inr h
  have hl := lv_entry ([.int p0]) (n := 1) (Nat.le_of_ble_eq_true rfl)
  rw [show entryFrame m args 1 = entryFrame m ([.int p0] : List Value).toArray 1 by rw [hargs], lg_entry_eq]
  generalize (lg_sl ([.int p0]) ++ List.replicate (1 - (lg_sl ([.int p0])).length) Slot.unset).toArray = ls at hl ⊢
  have hl : lv_has ls 1 [(0, .int p0)] := hl
  refine zstart (fun H hH => ?_)
  rw [← hH] at hP
  have hS : va_S A s.heap H [] := by rw [hH]; exact va_S.rf
  generalize ([] : List Loc) = locs at hS ⊢
  refine zgen (fun R Q hR hQ => ?_)
  refine lv_iload_n hx hb dX11_letterOf_0 rfl (lv_at hl 0 rfl) ?_
  refine lv_bipush (v := 102) hx hb dX11_letterOf_1 (by decide) ?_
  refine lv_icmp_ne (tgt := 10) hx hb dX11_letterOf_3 (by decide) (fun c3 => ?_) (fun c3 => ?_)
  · have c3 : ¬ p0.toInt = 102 := z6 rfl (by decide) c3
    refine lv_iload_n hx hb dX11_letterOf_10 rfl (lv_at hl 0 rfl) ?_
    refine lv_bipush (v := 119) hx hb dX11_letterOf_11 (by decide) ?_
    refine lv_icmp_ne (tgt := 20) hx hb dX11_letterOf_13 (by decide) (fun c13 => ?_) (fun c13 => ?_)
    · have c13 : ¬ p0.toInt = 119 := z6 rfl (by decide) c13
      refine lv_iload_n hx hb dX11_letterOf_20 rfl (lv_at hl 0 rfl) ?_
      refine lv_bipush (v := 121) hx hb dX11_letterOf_21 (by decide) ?_
      refine lv_icmp_ne (tgt := 30) hx hb dX11_letterOf_23 (by decide) (fun c23 => ?_) (fun c23 => ?_)
      · have c23 : ¬ p0.toInt = 121 := z6 rfl (by decide) c23
        refine lv_iload_n hx hb dX11_letterOf_30 rfl (lv_at hl 0 rfl) ?_
        refine lv_bipush (v := 115) hx hb dX11_letterOf_31 (by decide) ?_
        refine lv_icmp_ne (tgt := 40) hx hb dX11_letterOf_33 (by decide) (fun c33 => ?_) (fun c33 => ?_)
        · have c33 : ¬ p0.toInt = 115 := z6 rfl (by decide) c33
          refine lv_iload_n hx hb dX11_letterOf_40 rfl (lv_at hl 0 rfl) ?_
          refine lv_bipush (v := 97) hx hb dX11_letterOf_41 (by decide) ?_
          refine lv_icmp_ne (tgt := 50) hx hb dX11_letterOf_43 (by decide) (fun c43 => ?_) (fun c43 => ?_)
          · have c43 : ¬ p0.toInt = 97 := z6 rfl (by decide) c43
            refine lv_iload_n hx hb dX11_letterOf_50 rfl (lv_at hl 0 rfl) ?_
            refine lv_bipush (v := 109) hx hb dX11_letterOf_51 (by decide) ?_
            refine lv_icmp_ne (tgt := 60) hx hb dX11_letterOf_53 (by decide) (fun c53 => ?_) (fun c53 => ?_)
            · have c53 : ¬ p0.toInt = 109 := z6 rfl (by decide) c53
              refine lv_iconst (v := (-1)) hx hb dX11_letterOf_60 (by decide) ?_
              have zr0 : ((-1) : Int32).toInt = (-1) := by decide
              rw [hQ]
              exact W.iret (v := ((-1))) hx hb hr (fun t ht hW => ⟨⟨(-1), (), rfl, ⟨by (try dsimp only); omega, by (try dsimp only); omega, by (try dsimp only); omega, by (try dsimp only); omega, by (try dsimp only); exact fun z => absurd z (by decide)⟩, trivial⟩, hS.F ht⟩) hS.2.2 dX11_letterOf_61
            · have c53 : p0.toInt = 109 := z5 rfl (by decide) c53
              refine lv_iconst (v := 5) hx hb dX11_letterOf_56 (by decide) ?_
              refine lv_goto (tgt := 61) hx hb dX11_letterOf_57 (by decide) ?_
              have zr0 : (5 : Int32).toInt = 5 := by decide
              rw [hQ]
              exact W.iret (v := 5) hx hb hr (fun t ht hW => ⟨⟨5, (), rfl, ⟨by (try dsimp only); omega, by (try dsimp only); omega, by (try dsimp only); omega, by (try dsimp only); omega, by (try dsimp only); exact fun _ => by rw [show p0.toInt = 109 by omega]; decide⟩, trivial⟩, hS.F ht⟩) hS.2.2 dX11_letterOf_61
          · have c43 : p0.toInt = 97 := z5 rfl (by decide) c43
            refine lv_iconst (v := 4) hx hb dX11_letterOf_46 (by decide) ?_
            refine lv_goto (tgt := 61) hx hb dX11_letterOf_47 (by decide) ?_
            have zr0 : (4 : Int32).toInt = 4 := by decide
            rw [hQ]
            exact W.iret (v := 4) hx hb hr (fun t ht hW => ⟨⟨4, (), rfl, ⟨by (try dsimp only); omega, by (try dsimp only); omega, by (try dsimp only); omega, by (try dsimp only); omega, by (try dsimp only); exact fun _ => by rw [show p0.toInt = 97 by omega]; decide⟩, trivial⟩, hS.F ht⟩) hS.2.2 dX11_letterOf_61
        · have c33 : p0.toInt = 115 := z5 rfl (by decide) c33
          refine lv_iconst (v := 3) hx hb dX11_letterOf_36 (by decide) ?_
          refine lv_goto (tgt := 61) hx hb dX11_letterOf_37 (by decide) ?_
          have zr0 : (3 : Int32).toInt = 3 := by decide
          rw [hQ]
          exact W.iret (v := 3) hx hb hr (fun t ht hW => ⟨⟨3, (), rfl, ⟨by (try dsimp only); omega, by (try dsimp only); omega, by (try dsimp only); omega, by (try dsimp only); omega, by (try dsimp only); exact fun _ => by rw [show p0.toInt = 115 by omega]; decide⟩, trivial⟩, hS.F ht⟩) hS.2.2 dX11_letterOf_61
      · have c23 : p0.toInt = 121 := z5 rfl (by decide) c23
        refine lv_iconst (v := 2) hx hb dX11_letterOf_26 (by decide) ?_
        refine lv_goto (tgt := 61) hx hb dX11_letterOf_27 (by decide) ?_
        have zr0 : (2 : Int32).toInt = 2 := by decide
        rw [hQ]
        exact W.iret (v := 2) hx hb hr (fun t ht hW => ⟨⟨2, (), rfl, ⟨by (try dsimp only); omega, by (try dsimp only); omega, by (try dsimp only); omega, by (try dsimp only); omega, by (try dsimp only); exact fun _ => by rw [show p0.toInt = 121 by omega]; decide⟩, trivial⟩, hS.F ht⟩) hS.2.2 dX11_letterOf_61
    · have c13 : p0.toInt = 119 := z5 rfl (by decide) c13
      refine lv_iconst (v := 1) hx hb dX11_letterOf_16 (by decide) ?_
      refine lv_goto (tgt := 61) hx hb dX11_letterOf_17 (by decide) ?_
      have zr0 : (1 : Int32).toInt = 1 := by decide
      rw [hQ]
      exact W.iret (v := 1) hx hb hr (fun t ht hW => ⟨⟨1, (), rfl, ⟨by (try dsimp only); omega, by (try dsimp only); omega, by (try dsimp only); omega, by (try dsimp only); omega, by (try dsimp only); exact fun _ => by rw [show p0.toInt = 119 by omega]; decide⟩, trivial⟩, hS.F ht⟩) hS.2.2 dX11_letterOf_61
  · have c3 : p0.toInt = 102 := z5 rfl (by decide) c3
    refine lv_iconst (v := 0) hx hb dX11_letterOf_6 (by decide) ?_
    refine lv_goto (tgt := 61) hx hb dX11_letterOf_7 (by decide) ?_
    have zr0 : (0 : Int32).toInt = 0 := by decide
    rw [hQ]
    exact W.iret (v := 0) hx hb hr (fun t ht hW => ⟨⟨0, (), rfl, ⟨by (try dsimp only); omega, by (try dsimp only); omega, by (try dsimp only); omega, by (try dsimp only); omega, by (try dsimp only); exact fun _ => by rw [show p0.toInt = 102 by omega]; decide⟩, trivial⟩, hS.F ht⟩) hS.2.2 dX11_letterOf_61
set_option maxHeartbeats 4000000 in
set_option maxRecDepth 100000 in
theorem g_X11_opens_6 (l : Launch) (dC : Nat → ClassId) (dI : Nat → Nat → Nat) (cI cJ : ClassId) (h0 : Nat) (th : Int32) (tB : Nat) (tsz : Int32) (tat : Int32) (rC : Nat) (rV : Nat) (rD : Nat) (rK : Nat) (rT : Nat) (rS : Nat) (rU : Nat) (lw : Int32) (tx : Int32) (rL : Nat) (rX : Nat) (qR : Nat) (qB : Nat) (qP : Nat) (qnb : Int32) (qnp : Int32) (aR : Nat) (aB : Nat) (aP : Nat) (nb : Int32) (np : Int32) (aN : Nat) (rf : Nat) (ho : Int32) (br : Int32) (aK : Nat) (ac : Int32) (dw : Int64) (aE : Nat) (sr : Int32) (sf : Int32) (aA : Nat) (aH : Nat) (aI : Nat) (hi : Int32) (sz : Nat) (n_ac : 0 ≤ ac.toInt ∧ ac.toInt ≤ 40) (n_hi : 0 ≤ hi.toInt ∧ hi.toInt ≤ 1) (n_ho : (-1) ≤ ho.toInt ∧ ho.toInt ≤ 3) (n_lw : 0 ≤ lw.toInt ∧ lw.toInt ≤ 4) (n_nb : 0 ≤ nb.toInt ∧ nb.toInt ≤ 6) (n_np : 0 ≤ np.toInt ∧ np.toInt ≤ 5) (n_qnb : 0 ≤ qnb.toInt ∧ qnb.toInt ≤ 6) (n_qnp : 0 ≤ qnp.toInt ∧ qnp.toInt ≤ 5) (n_tat : 0 ≤ tat.toInt ∧ tat.toInt ≤ 239) (n_tsz : 0 ≤ tsz.toInt ∧ tsz.toInt ≤ 240) (ha1 : tat.toInt < tsz.toInt)   : Met l yX11_opens (.code yX11_opens cX11_opens 1 none :: wA) ({ frames := 1, cells := 0, slots := 0, locals := 20 }) (zP (dC, dI) [(cI, .int), (cJ, .long)] [.ref h0] sz [(h0, .inr (11, [.int th, .ref tB, .int tsz, .int tat, .int (-1), .int 6, .ref rC, .ref rV, .ref rD, .ref rK, .ref rT, .ref rS, .ref rU, .int lw, .int tx, .ref rL, .ref rX, .ref qR, .ref qB, .ref qP, .int qnb, .int qnp, .ref aR, .ref aB, .ref aP, .int nb, .int np, .ref aN, .ref rf, .int ho, .int br, .ref aK, .int ac, .long dw, .ref aE, .int sr, .int sf, .ref aA, .ref aH, .ref aI, .int hi]))]) (va_Qv (fun (u : Int32) => (1 ≤ u.toInt) ∧ (u.toInt ≤ 240) ∧ (u.toInt = tat.toInt + 1)) (fun (u : Int32) (t : State) => va_P (dC, dI) vwCl [(h0, .inr (11, [.int th, .ref tB, .int tsz, .int u, .int tat, .int 7, .ref rC, .ref rV, .ref rD, .ref rK, .ref rT, .ref rS, .ref rU, .int lw, .int tx, .ref rL, .ref rX, .ref qR, .ref qB, .ref qP, .int qnb, .int qnp, .ref aR, .ref aB, .ref aP, .int nb, .int np, .ref aN, .ref rf, .int ho, .int br, .ref aK, .int ac, .long dw, .ref aE, .int sr, .int sf, .ref aA, .ref aH, .ref aI, .int hi]))] t.heap ∧ va_D (va_A [(h0, .inr (11, [.int th, .ref tB, .int tsz, .int tat, .int (-1), .int 6, .ref rC, .ref rV, .ref rD, .ref rK, .ref rT, .ref rS, .ref rU, .int lw, .int tx, .ref rL, .ref rX, .ref qR, .ref qB, .ref qP, .int qnb, .int qnp, .ref aR, .ref aB, .ref aP, .int nb, .int np, .ref aN, .ref rf, .int ho, .int br, .ref aK, .int ac, .long dw, .ref aE, .int sr, .int sf, .ref aA, .ref aH, .ref aI, .int hi]))] sz) [(h0, .inr (11, [.int th, .ref tB, .int tsz, .int u, .int tat, .int 7, .ref rC, .ref rV, .ref rD, .ref rK, .ref rT, .ref rS, .ref rU, .int lw, .int tx, .ref rL, .ref rX, .ref qR, .ref qB, .ref qP, .int qnb, .int qnp, .ref aR, .ref aB, .ref aP, .int nb, .int np, .ref aN, .ref rf, .int ho, .int br, .ref aK, .int ac, .long dw, .ref aE, .int sr, .int sf, .ref aA, .ref aH, .ref aI, .int hi]))]) (va_A [(h0, .inr (11, [.int th, .ref tB, .int tsz, .int tat, .int (-1), .int 6, .ref rC, .ref rV, .ref rD, .ref rK, .ref rT, .ref rS, .ref rU, .int lw, .int tx, .ref rL, .ref rX, .ref qR, .ref qB, .ref qP, .int qnb, .int qnp, .ref aR, .ref aB, .ref aP, .int nb, .int np, .ref aN, .ref rf, .int ho, .int br, .ref aK, .int ac, .long dw, .ref aE, .int sr, .int sf, .ref aA, .ref aH, .ref aI, .int hi]))] sz)) 0 0 (va_A [(h0, .inr (11, [.int th, .ref tB, .int tsz, .int tat, .int (-1), .int 6, .ref rC, .ref rV, .ref rD, .ref rK, .ref rT, .ref rS, .ref rU, .int lw, .int tx, .ref rL, .ref rX, .ref qR, .ref qB, .ref qP, .int qnb, .int qnp, .ref aR, .ref aB, .ref aP, .int nb, .int np, .ref aN, .ref rf, .int ho, .int br, .ref aK, .int ac, .long dw, .ref aE, .int sr, .int sf, .ref aA, .ref aH, .ref aI, .int hi]))] sz) := by
  refine Met.ofW (cc := cX11_opens) (maxL := 1) (ret := none) (by decide) rfl ?_
  intro p e s m args below meth c s₁ B hml hv
  have y_ac : zHid (0 ≤ ac.toInt ∧ ac.toInt ≤ 40) := n_ac
  have y_hi : zHid (0 ≤ hi.toInt ∧ hi.toInt ≤ 1) := n_hi
  have y_ho : zHid ((-1) ≤ ho.toInt ∧ ho.toInt ≤ 3) := n_ho
  have y_lw : zHid (0 ≤ lw.toInt ∧ lw.toInt ≤ 4) := n_lw
  have y_nb : zHid (0 ≤ nb.toInt ∧ nb.toInt ≤ 6) := n_nb
  have y_np : zHid (0 ≤ np.toInt ∧ np.toInt ≤ 5) := n_np
  have y_qnb : zHid (0 ≤ qnb.toInt ∧ qnb.toInt ≤ 6) := n_qnb
  have y_qnp : zHid (0 ≤ qnp.toInt ∧ qnp.toInt ≤ 5) := n_qnp
  clear n_ac n_hi n_ho n_lw n_nb n_np n_qnb n_qnp
  obtain ⟨hargs, hsz, hP, hK, hT⟩ := hv
  have hx := B.exec
  have hb := B.bytes
  have hr := B.returns
  have hts : ∀ w ∈ wA, w.before args s = true := fun w h => atoms_spec (ws := .code yX11_opens cX11_opens 1 none :: wA) B.pre w (List.mem_cons_of_mem _ h)
  have hown : s.vm.findClass RX11 = some m.cls := findClass_of_methodNamed B.named
  have hlocks := B.notSynchronized
  subst hsz
  have hD := hT.self (sz := s.heap.size)
  generalize hAe : va_A [(h0, .inr (11, [.int th, .ref tB, .int tsz, .int tat, .int (-1), .int 6, .ref rC, .ref rV, .ref rD, .ref rK, .ref rT, .ref rS, .ref rU, .int lw, .int tx, .ref rL, .ref rX, .ref qR, .ref qB, .ref qP, .int qnb, .int qnp, .ref aR, .ref aB, .ref aP, .int nb, .int np, .ref aN, .ref rf, .int ho, .int br, .ref aK, .int ac, .long dw, .ref aE, .int sr, .int sf, .ref aA, .ref aH, .ref aI, .int hi]))] s.heap.size = A at hD ⊢
  have hA : ∀ q : Nat, s.heap.size ≤ q → A q := fun q h => by rw [← hAe]; exact Or.inr h
  have hl := lv_entry ([.ref h0]) (n := 1) (Nat.le_of_ble_eq_true rfl)
  rw [show entryFrame m args 1 = entryFrame m ([.ref h0] : List Value).toArray 1 by rw [hargs], lg_entry_eq]
  generalize (lg_sl ([.ref h0]) ++ List.replicate (1 - (lg_sl ([.ref h0])).length) Slot.unset).toArray = ls at hl ⊢
  have hl : lv_has ls 1 [(0, .ref h0)] := hl
  refine zstart (fun H hH => ?_)
  rw [← hH] at hP
  have hS : va_S A s.heap H [] := by rw [hH]; exact va_S.rf
  generalize ([] : List Loc) = locs at hS ⊢
  refine zgen (fun R Q hR hQ => ?_)
  have zm1 : (-1 : Int32).toInt = -1 := by decide
  refine lv_aload_n hx hb dX11_opens_0 rfl (lv_at hl 0 rfl) ?_
  refine va_get (D := (dC, dI)) (ci := 11) (v := .int 6) (C := RX11) (T := TX11) (N := 41) hx hb hts iX11 hown hK hP 0 rfl rfl 5 (by decide) (hts _ qw1132) (fun _ h9 => h9) rfl dX11_opens_1 ?_
  refine lv_bipush (v := 6) hx hb dX11_opens_4 (by decide) ?_
  refine lv_icmp_ne (tgt := 13) hx hb dX11_opens_6 (by decide) (fun c => absurd (by decide) c) (fun _ => ?_)
  refine lv_aload_n hx hb dX11_opens_9 rfl (lv_at hl 0 rfl) ?_
  obtain ⟨hPc, hDc, hFc⟩ := zc3 (wc := [(h0, .inr (11, [.int th, .ref tB, .int tsz, .int tat, .int (-1), .int 6, .ref rC, .ref rV, .ref rD, .ref rK, .ref rT, .ref rS, .ref rU, .int lw, .int tx, .ref rL, .ref rX, .ref qR, .ref qB, .ref qP, .int qnb, .int qnp, .ref aR, .ref aB, .ref aP, .int nb, .int np, .ref aN, .ref rf, .int ho, .int br, .ref aK, .int ac, .long dw, .ref aE, .int sr, .int sf, .ref aA, .ref aH, .ref aI, .int hi]))]) hP hD hS hA [0] (by decide +kernel) rfl
  refine va_callv (va_runV (As := []) (rest := []) ⟨hx, hb, hml, hown, hts⟩ (g_X11_bad_m l dC dI cI cJ h0 th tB tsz tat 6 rC rV rD rK rT rS rU lw tx rL rX qR qB qP qnb qnp aR aB aP nb np aN rf ho br aK ac dw aE sr sf aA aH aI hi H.size y_ac y_hi y_ho y_lw y_nb y_np y_qnb y_qnp (by omega) n_tsz) (cwV 0 hts (zgV qw1301 qw1303 qw36 qw108 qw1304) rfl rfl rfl hd_X11_bad ⟨by rw [hR]; exact Nat.le_of_ble_eq_true rfl, by rw [hR]; exact Nat.le_of_ble_eq_true rfl⟩) (zPV hPc hK hDc (va_recv (q := (RX11, TX11, 41)) hK hP (ci := 11) (q0 := 0) rfl rfl)) rfl rfl hl.1 rfl (lv_room (Nat.le_of_ble_eq_true rfl)) dX11_opens_10 ⟨Nat.zero_le _, Nat.zero_le _⟩) hS (fun q _ h => hFc q h) hFc (fun u10 t H locs ht hvm hw hB hz1 hk1 hS9 => ?_)
  obtain ⟨hP9, hD9⟩ := zj2 (wX := [(h0, .inr (11, [.int th, .ref tB, .int tsz, .int tat, .int tat, .int 6, .ref rC, .ref rV, .ref rD, .ref rK, .ref rT, .ref rS, .ref rU, .int lw, .int tx, .ref rL, .ref rX, .ref qR, .ref qB, .ref qP, .int qnb, .int qnp, .ref aR, .ref aB, .ref aP, .int nb, .int np, .ref aN, .ref rf, .int ho, .int br, .ref aK, .int ac, .long dw, .ref aE, .int sr, .int sf, .ref aA, .ref aH, .ref aI, .int hi]))]) hP hD hk1 hFc ht hB [0] [(true, 0)] rfl (by decide +kernel) (by decide +kernel) rfl
  clear hP hD hS hPc hDc hFc hB hk1 hz1 hvm
  have hP := hP9
  have hD := hD9
  have hS := hS9
  clear hP9 hD9 hS9
  refine lv_aload_n hx hb dX11_opens_13 rfl (lv_at hl 0 rfl) ?_
  refine lv_dup hx hb dX11_opens_14 rfl ?_
  refine va_get (D := (dC, dI)) (ci := 11) (v := .int 6) (C := RX11) (T := TX11) (N := 41) hx hb hts iX11 hown hK hP 0 rfl rfl 5 (by decide) (hts _ qw1132) (fun _ h9 => h9) rfl dX11_opens_15 ?_
  refine lv_iconst (v := 1) hx hb dX11_opens_18 (by decide) ?_
  refine lv_iadd hx hb dX11_opens_19 ?_
  refine lv_topi (fun v19 e19 => ?_)
  obtain rfl : v19 = 7 := e19.trans (by decide)
  refine va_put (D := (dC, dI)) (ci := 11) (v := .int 7) (ty := .int) (C := RX11) (T := TX11) (N := 41) hx hb hts iX11 tyX11 tyX11_ok nmX11 hown hK hP hD hS 0 rfl rfl 5 (by decide) (hts _ qw1132) (fun _ h9 => h9) rfl (by decide +kernel) rfl rfl (Nat.le_of_ble_eq_true rfl) dX11_opens_20 (fun H locs hP9 hD9 hS9 => ?_)
  clear hP hD hS
  obtain ⟨hP, hD⟩ := zst (wX := [(h0, .inr (11, [.int th, .ref tB, .int tsz, .int tat, .int tat, .int 7, .ref rC, .ref rV, .ref rD, .ref rK, .ref rT, .ref rS, .ref rU, .int lw, .int tx, .ref rL, .ref rX, .ref qR, .ref qB, .ref qP, .int qnb, .int qnp, .ref aR, .ref aB, .ref aP, .int nb, .int np, .ref aN, .ref rf, .int ho, .int br, .ref aK, .int ac, .long dw, .ref aE, .int sr, .int sf, .ref aA, .ref aH, .ref aI, .int hi]))]) hP9 hD9 rfl
  have hS := hS9
  clear hP9 hD9 hS9
  refine lv_aload_n hx hb dX11_opens_23 rfl (lv_at hl 0 rfl) ?_
  refine lv_dup hx hb dX11_opens_24 rfl ?_
  refine va_get (D := (dC, dI)) (ci := 11) (v := .int tat) (C := RX11) (T := TX11) (N := 41) hx hb hts iX11 hown hK hP 0 rfl rfl 3 (by decide) (hts _ qw1130) (fun _ h9 => h9) rfl dX11_opens_25 ?_
  refine lv_iconst (v := 1) hx hb dX11_opens_28 (by decide) ?_
  refine lv_iadd hx hb dX11_opens_29 ?_
  refine lv_topi (fun v29 e29 => ?_)
  have i29 : v29.toInt = tat.toInt + 1 := zadd e29 rfl (by decide) (by omega) (by omega)
  refine va_put (D := (dC, dI)) (ci := 11) (v := .int v29) (ty := .int) (C := RX11) (T := TX11) (N := 41) hx hb hts iX11 tyX11 tyX11_ok nmX11 hown hK hP hD hS 0 rfl rfl 3 (by decide) (hts _ qw1130) (fun _ h9 => h9) rfl (by decide +kernel) rfl rfl (Nat.le_of_ble_eq_true rfl) dX11_opens_30 (fun H locs hP9 hD9 hS9 => ?_)
  clear hP hD hS
  obtain ⟨hP, hD⟩ := zst (wX := [(h0, .inr (11, [.int th, .ref tB, .int tsz, .int v29, .int tat, .int 7, .ref rC, .ref rV, .ref rD, .ref rK, .ref rT, .ref rS, .ref rU, .int lw, .int tx, .ref rL, .ref rX, .ref qR, .ref qB, .ref qP, .int qnb, .int qnp, .ref aR, .ref aB, .ref aP, .int nb, .int np, .ref aN, .ref rf, .int ho, .int br, .ref aK, .int ac, .long dw, .ref aE, .int sr, .int sf, .ref aA, .ref aH, .ref aI, .int hi]))]) hP9 hD9 rfl
  have hS := hS9
  clear hP9 hD9 hS9
  rw [hQ]
  exact W.vret hx hb hr (fun t ht hW => ⟨⟨v29, rfl, ⟨by (try dsimp only); omega, by (try dsimp only); omega, by (try dsimp only); omega⟩, ⟨by rw [ht]; exact hP, hD⟩⟩, hS.F ht⟩) hS.2.2 dX11_opens_33
set_option maxHeartbeats 4000000 in
set_option maxRecDepth 100000 in
theorem g_X11_opens_s (l : Launch) (dC : Nat → ClassId) (dI : Nat → Nat → Nat) (cI cJ : ClassId) (h0 : Nat) (th : Int32) (tB : Nat) (tsz : Int32) (tat : Int32) (dp : Int32) (rC : Nat) (rV : Nat) (rD : Nat) (rK : Nat) (rT : Nat) (rS : Nat) (rU : Nat) (lw : Int32) (tx : Int32) (rL : Nat) (rX : Nat) (qR : Nat) (qB : Nat) (qP : Nat) (qnb : Int32) (qnp : Int32) (aR : Nat) (aB : Nat) (aP : Nat) (nb : Int32) (np : Int32) (aN : Nat) (rf : Nat) (ho : Int32) (br : Int32) (aK : Nat) (ac : Int32) (dw : Int64) (aE : Nat) (sr : Int32) (sf : Int32) (aA : Nat) (aH : Nat) (aI : Nat) (hi : Int32) (sz : Nat) (n_ac : 0 ≤ ac.toInt ∧ ac.toInt ≤ 40) (n_dp : 0 ≤ dp.toInt ∧ dp.toInt ≤ 5) (n_hi : 0 ≤ hi.toInt ∧ hi.toInt ≤ 1) (n_ho : (-1) ≤ ho.toInt ∧ ho.toInt ≤ 3) (n_lw : 0 ≤ lw.toInt ∧ lw.toInt ≤ 4) (n_nb : 0 ≤ nb.toInt ∧ nb.toInt ≤ 6) (n_np : 0 ≤ np.toInt ∧ np.toInt ≤ 5) (n_qnb : 0 ≤ qnb.toInt ∧ qnb.toInt ≤ 6) (n_qnp : 0 ≤ qnp.toInt ∧ qnp.toInt ≤ 5) (n_tat : 0 ≤ tat.toInt ∧ tat.toInt ≤ 239) (n_tsz : 0 ≤ tsz.toInt ∧ tsz.toInt ≤ 240) (ha1 : tat.toInt < tsz.toInt)   : Met l yX11_opens (.code yX11_opens cX11_opens 1 none :: wA) ({ frames := 0, cells := 0, slots := 0, locals := 0 }) (zP (dC, dI) [(cI, .int), (cJ, .long)] [.ref h0] sz [(h0, .inr (11, [.int th, .ref tB, .int tsz, .int tat, .int (-1), .int dp, .ref rC, .ref rV, .ref rD, .ref rK, .ref rT, .ref rS, .ref rU, .int lw, .int tx, .ref rL, .ref rX, .ref qR, .ref qB, .ref qP, .int qnb, .int qnp, .ref aR, .ref aB, .ref aP, .int nb, .int np, .ref aN, .ref rf, .int ho, .int br, .ref aK, .int ac, .long dw, .ref aE, .int sr, .int sf, .ref aA, .ref aH, .ref aI, .int hi]))]) (va_Qv (fun (u : Int32 × Int32) => (1 ≤ u.1.toInt) ∧ (u.1.toInt ≤ 240) ∧ (1 ≤ u.2.toInt) ∧ (u.2.toInt ≤ 6) ∧ (u.1.toInt = tat.toInt + 1) ∧ (u.2.toInt = dp.toInt + 1)) (fun (u : Int32 × Int32) (t : State) => va_P (dC, dI) vwCl [(h0, .inr (11, [.int th, .ref tB, .int tsz, .int u.1, .int (-1), .int u.2, .ref rC, .ref rV, .ref rD, .ref rK, .ref rT, .ref rS, .ref rU, .int lw, .int tx, .ref rL, .ref rX, .ref qR, .ref qB, .ref qP, .int qnb, .int qnp, .ref aR, .ref aB, .ref aP, .int nb, .int np, .ref aN, .ref rf, .int ho, .int br, .ref aK, .int ac, .long dw, .ref aE, .int sr, .int sf, .ref aA, .ref aH, .ref aI, .int hi]))] t.heap ∧ va_D (va_A [(h0, .inr (11, [.int th, .ref tB, .int tsz, .int tat, .int (-1), .int dp, .ref rC, .ref rV, .ref rD, .ref rK, .ref rT, .ref rS, .ref rU, .int lw, .int tx, .ref rL, .ref rX, .ref qR, .ref qB, .ref qP, .int qnb, .int qnp, .ref aR, .ref aB, .ref aP, .int nb, .int np, .ref aN, .ref rf, .int ho, .int br, .ref aK, .int ac, .long dw, .ref aE, .int sr, .int sf, .ref aA, .ref aH, .ref aI, .int hi]))] sz) [(h0, .inr (11, [.int th, .ref tB, .int tsz, .int u.1, .int (-1), .int u.2, .ref rC, .ref rV, .ref rD, .ref rK, .ref rT, .ref rS, .ref rU, .int lw, .int tx, .ref rL, .ref rX, .ref qR, .ref qB, .ref qP, .int qnb, .int qnp, .ref aR, .ref aB, .ref aP, .int nb, .int np, .ref aN, .ref rf, .int ho, .int br, .ref aK, .int ac, .long dw, .ref aE, .int sr, .int sf, .ref aA, .ref aH, .ref aI, .int hi]))]) (va_A [(h0, .inr (11, [.int th, .ref tB, .int tsz, .int tat, .int (-1), .int dp, .ref rC, .ref rV, .ref rD, .ref rK, .ref rT, .ref rS, .ref rU, .int lw, .int tx, .ref rL, .ref rX, .ref qR, .ref qB, .ref qP, .int qnb, .int qnp, .ref aR, .ref aB, .ref aP, .int nb, .int np, .ref aN, .ref rf, .int ho, .int br, .ref aK, .int ac, .long dw, .ref aE, .int sr, .int sf, .ref aA, .ref aH, .ref aI, .int hi]))] sz)) 0 0 (va_A [(h0, .inr (11, [.int th, .ref tB, .int tsz, .int tat, .int (-1), .int dp, .ref rC, .ref rV, .ref rD, .ref rK, .ref rT, .ref rS, .ref rU, .int lw, .int tx, .ref rL, .ref rX, .ref qR, .ref qB, .ref qP, .int qnb, .int qnp, .ref aR, .ref aB, .ref aP, .int nb, .int np, .ref aN, .ref rf, .int ho, .int br, .ref aK, .int ac, .long dw, .ref aE, .int sr, .int sf, .ref aA, .ref aH, .ref aI, .int hi]))] sz) := by
  refine Met.ofW (cc := cX11_opens) (maxL := 1) (ret := none) (by decide) rfl ?_
  intro p e s m args below meth c s₁ B hml hv
  have y_ac : zHid (0 ≤ ac.toInt ∧ ac.toInt ≤ 40) := n_ac
  have y_hi : zHid (0 ≤ hi.toInt ∧ hi.toInt ≤ 1) := n_hi
  have y_ho : zHid ((-1) ≤ ho.toInt ∧ ho.toInt ≤ 3) := n_ho
  have y_lw : zHid (0 ≤ lw.toInt ∧ lw.toInt ≤ 4) := n_lw
  have y_nb : zHid (0 ≤ nb.toInt ∧ nb.toInt ≤ 6) := n_nb
  have y_np : zHid (0 ≤ np.toInt ∧ np.toInt ≤ 5) := n_np
  have y_qnb : zHid (0 ≤ qnb.toInt ∧ qnb.toInt ≤ 6) := n_qnb
  have y_qnp : zHid (0 ≤ qnp.toInt ∧ qnp.toInt ≤ 5) := n_qnp
  clear n_ac n_hi n_ho n_lw n_nb n_np n_qnb n_qnp
  obtain ⟨hargs, hsz, hP, hK, hT⟩ := hv
  have hx := B.exec
  have hb := B.bytes
  have hr := B.returns
  have hts : ∀ w ∈ wA, w.before args s = true := fun w h => atoms_spec (ws := .code yX11_opens cX11_opens 1 none :: wA) B.pre w (List.mem_cons_of_mem _ h)
  have hown : s.vm.findClass RX11 = some m.cls := findClass_of_methodNamed B.named
  have hlocks := B.notSynchronized
  subst hsz
  have hD := hT.self (sz := s.heap.size)
  generalize hAe : va_A [(h0, .inr (11, [.int th, .ref tB, .int tsz, .int tat, .int (-1), .int dp, .ref rC, .ref rV, .ref rD, .ref rK, .ref rT, .ref rS, .ref rU, .int lw, .int tx, .ref rL, .ref rX, .ref qR, .ref qB, .ref qP, .int qnb, .int qnp, .ref aR, .ref aB, .ref aP, .int nb, .int np, .ref aN, .ref rf, .int ho, .int br, .ref aK, .int ac, .long dw, .ref aE, .int sr, .int sf, .ref aA, .ref aH, .ref aI, .int hi]))] s.heap.size = A at hD ⊢
  have hA : ∀ q : Nat, s.heap.size ≤ q → A q := fun q h => by rw [← hAe]; exact Or.inr h
  have hl := lv_entry ([.ref h0]) (n := 1) (Nat.le_of_ble_eq_true rfl)
  rw [show entryFrame m args 1 = entryFrame m ([.ref h0] : List Value).toArray 1 by rw [hargs], lg_entry_eq]
  generalize (lg_sl ([.ref h0]) ++ List.replicate (1 - (lg_sl ([.ref h0])).length) Slot.unset).toArray = ls at hl ⊢
  have hl : lv_has ls 1 [(0, .ref h0)] := hl
  refine zstart (fun H hH => ?_)
  rw [← hH] at hP
  have hS : va_S A s.heap H [] := by rw [hH]; exact va_S.rf
  generalize ([] : List Loc) = locs at hS ⊢
  refine zgen (fun R Q hR hQ => ?_)
  have zm1 : (-1 : Int32).toInt = -1 := by decide
  refine lv_aload_n hx hb dX11_opens_0 rfl (lv_at hl 0 rfl) ?_
  refine va_get (D := (dC, dI)) (ci := 11) (v := .int dp) (C := RX11) (T := TX11) (N := 41) hx hb hts iX11 hown hK hP 0 rfl rfl 5 (by decide) (hts _ qw1132) (fun _ h9 => h9) rfl dX11_opens_1 ?_
  refine lv_bipush (v := 6) hx hb dX11_opens_4 (by decide) ?_
  refine lv_icmp_ne (tgt := 13) hx hb dX11_opens_6 (by decide) (fun c6 => ?_) (fun c6 => by exfalso; have c6 : dp.toInt = 6 := z5 rfl (by decide) c6; omega)
  have c6 : ¬ dp.toInt = 6 := z6 rfl (by decide) c6
  refine lv_aload_n hx hb dX11_opens_13 rfl (lv_at hl 0 rfl) ?_
  refine lv_dup hx hb dX11_opens_14 rfl ?_
  refine va_get (D := (dC, dI)) (ci := 11) (v := .int dp) (C := RX11) (T := TX11) (N := 41) hx hb hts iX11 hown hK hP 0 rfl rfl 5 (by decide) (hts _ qw1132) (fun _ h9 => h9) rfl dX11_opens_15 ?_
  refine lv_iconst (v := 1) hx hb dX11_opens_18 (by decide) ?_
  refine lv_iadd hx hb dX11_opens_19 ?_
  refine lv_topi (fun v19 e19 => ?_)
  have i19 : v19.toInt = dp.toInt + 1 := zadd e19 rfl (by decide) (by omega) (by omega)
  refine va_put (D := (dC, dI)) (ci := 11) (v := .int v19) (ty := .int) (C := RX11) (T := TX11) (N := 41) hx hb hts iX11 tyX11 tyX11_ok nmX11 hown hK hP hD hS 0 rfl rfl 5 (by decide) (hts _ qw1132) (fun _ h9 => h9) rfl (by decide +kernel) rfl rfl (Nat.le_of_ble_eq_true rfl) dX11_opens_20 (fun H locs hP9 hD9 hS9 => ?_)
  clear hP hD hS
  obtain ⟨hP, hD⟩ := zst (wX := [(h0, .inr (11, [.int th, .ref tB, .int tsz, .int tat, .int (-1), .int v19, .ref rC, .ref rV, .ref rD, .ref rK, .ref rT, .ref rS, .ref rU, .int lw, .int tx, .ref rL, .ref rX, .ref qR, .ref qB, .ref qP, .int qnb, .int qnp, .ref aR, .ref aB, .ref aP, .int nb, .int np, .ref aN, .ref rf, .int ho, .int br, .ref aK, .int ac, .long dw, .ref aE, .int sr, .int sf, .ref aA, .ref aH, .ref aI, .int hi]))]) hP9 hD9 rfl
  have hS := hS9
  clear hP9 hD9 hS9
  refine lv_aload_n hx hb dX11_opens_23 rfl (lv_at hl 0 rfl) ?_
  refine lv_dup hx hb dX11_opens_24 rfl ?_
  refine va_get (D := (dC, dI)) (ci := 11) (v := .int tat) (C := RX11) (T := TX11) (N := 41) hx hb hts iX11 hown hK hP 0 rfl rfl 3 (by decide) (hts _ qw1130) (fun _ h9 => h9) rfl dX11_opens_25 ?_
  refine lv_iconst (v := 1) hx hb dX11_opens_28 (by decide) ?_
  refine lv_iadd hx hb dX11_opens_29 ?_
  refine lv_topi (fun v29 e29 => ?_)
  have i29 : v29.toInt = tat.toInt + 1 := zadd e29 rfl (by decide) (by omega) (by omega)
  refine va_put (D := (dC, dI)) (ci := 11) (v := .int v29) (ty := .int) (C := RX11) (T := TX11) (N := 41) hx hb hts iX11 tyX11 tyX11_ok nmX11 hown hK hP hD hS 0 rfl rfl 3 (by decide) (hts _ qw1130) (fun _ h9 => h9) rfl (by decide +kernel) rfl rfl (Nat.le_of_ble_eq_true rfl) dX11_opens_30 (fun H locs hP9 hD9 hS9 => ?_)
  clear hP hD hS
  obtain ⟨hP, hD⟩ := zst (wX := [(h0, .inr (11, [.int th, .ref tB, .int tsz, .int v29, .int (-1), .int v19, .ref rC, .ref rV, .ref rD, .ref rK, .ref rT, .ref rS, .ref rU, .int lw, .int tx, .ref rL, .ref rX, .ref qR, .ref qB, .ref qP, .int qnb, .int qnp, .ref aR, .ref aB, .ref aP, .int nb, .int np, .ref aN, .ref rf, .int ho, .int br, .ref aK, .int ac, .long dw, .ref aE, .int sr, .int sf, .ref aA, .ref aH, .ref aI, .int hi]))]) hP9 hD9 rfl
  have hS := hS9
  clear hP9 hD9 hS9
  rw [hQ]
  exact W.vret hx hb hr (fun t ht hW => ⟨⟨(v29, v19), rfl, ⟨by (try dsimp only); omega, by (try dsimp only); omega, by (try dsimp only); omega, by (try dsimp only); omega, by (try dsimp only); omega, by (try dsimp only); omega⟩, ⟨by rw [ht]; exact hP, hD⟩⟩, hS.F ht⟩) hS.2.2 dX11_opens_33
set_option maxHeartbeats 4000000 in
set_option maxRecDepth 100000 in
theorem g_X11_closes_s (l : Launch) (dC : Nat → ClassId) (dI : Nat → Nat → Nat) (cI cJ : ClassId) (h0 : Nat) (p0 : Int32) (th : Int32) (tB : Nat) (tsz : Int32) (tat : Int32) (wr : Int32) (dp : Int32) (rC : Nat) (rV : Nat) (rD : Nat) (rK : Nat) (rT : Nat) (rS : Nat) (rU : Nat) (lw : Int32) (tx : Int32) (rL : Nat) (rX : Nat) (qR : Nat) (qB : Nat) (qP : Nat) (qnb : Int32) (qnp : Int32) (aR : Nat) (aB : Nat) (aP : Nat) (nb : Int32) (np : Int32) (aN : Nat) (rf : Nat) (ho : Int32) (br : Int32) (aK : Nat) (ac : Int32) (dw : Int64) (aE : Nat) (sr : Int32) (sf : Int32) (aA : Nat) (aH : Nat) (aI : Nat) (hi : Int32) (fB : Nat → Int32) (sz : Nat) (n_ac : 0 ≤ ac.toInt ∧ ac.toInt ≤ 40) (n_dp : 0 ≤ dp.toInt ∧ dp.toInt ≤ 7) (n_hi : 0 ≤ hi.toInt ∧ hi.toInt ≤ 1) (n_ho : (-1) ≤ ho.toInt ∧ ho.toInt ≤ 3) (n_lw : 0 ≤ lw.toInt ∧ lw.toInt ≤ 4) (n_nb : 0 ≤ nb.toInt ∧ nb.toInt ≤ 6) (n_np : 0 ≤ np.toInt ∧ np.toInt ≤ 5) (n_p0 : 41 ≤ p0.toInt ∧ p0.toInt ≤ 93) (n_qnb : 0 ≤ qnb.toInt ∧ qnb.toInt ≤ 6) (n_qnp : 0 ≤ qnp.toInt ∧ qnp.toInt ≤ 5) (n_tat : 0 ≤ tat.toInt ∧ tat.toInt ≤ 246) (n_tsz : 0 ≤ tsz.toInt ∧ tsz.toInt ≤ 240) (n_wr : (-1) ≤ wr.toInt ∧ wr.toInt ≤ 260) (hcl : wr.toInt = -1 → tat.toInt ≤ tsz.toInt)   : Met l yX11_closes (.code yX11_closes cX11_closes 2 none :: wA) ({ frames := 2, cells := 0, slots := 0, locals := 40 }) (zP (dC, dI) [(cI, .int), (cJ, .long)] [.ref h0, .int p0] sz [(h0, .inr (11, [.int th, .ref tB, .int tsz, .int tat, .int wr, .int dp, .ref rC, .ref rV, .ref rD, .ref rK, .ref rT, .ref rS, .ref rU, .int lw, .int tx, .ref rL, .ref rX, .ref qR, .ref qB, .ref qP, .int qnb, .int qnp, .ref aR, .ref aB, .ref aP, .int nb, .int np, .ref aN, .ref rf, .int ho, .int br, .ref aK, .int ac, .long dw, .ref aE, .int sr, .int sf, .ref aA, .ref aH, .ref aI, .int hi])), (tB, .inl (cI, 240, .inl fB))]) (va_Qv (fun (u : Int32 × Int32 × Int32) => (1 ≤ u.1.toInt) ∧ (u.1.toInt ≤ 247) ∧ ((-1) ≤ u.2.1.toInt) ∧ (u.2.1.toInt ≤ 260) ∧ ((-1) ≤ u.2.2.toInt) ∧ (u.2.2.toInt ≤ 6) ∧ (u.2.1.toInt = -1 → (wr.toInt = -1 ∧ u.1.toInt ≤ tsz.toInt)) ∧ (tat.toInt ≤ u.1.toInt) ∧ (u.2.2.toInt = dp.toInt - 1) ∧ (u.1.toInt ≤ tat.toInt + 1 ∨ u.1.toInt ≤ 241) ∧ (∀ x : Int × Int, zW x wr tat → zW (sEnd (sB fB tsz.toInt) tsz.toInt p0.toInt x) u.2.1 u.1)) (fun (u : Int32 × Int32 × Int32) (t : State) => va_P (dC, dI) vwCl [(h0, .inr (11, [.int th, .ref tB, .int tsz, .int u.1, .int u.2.1, .int u.2.2, .ref rC, .ref rV, .ref rD, .ref rK, .ref rT, .ref rS, .ref rU, .int lw, .int tx, .ref rL, .ref rX, .ref qR, .ref qB, .ref qP, .int qnb, .int qnp, .ref aR, .ref aB, .ref aP, .int nb, .int np, .ref aN, .ref rf, .int ho, .int br, .ref aK, .int ac, .long dw, .ref aE, .int sr, .int sf, .ref aA, .ref aH, .ref aI, .int hi])), (tB, .inl (cI, 240, .inl fB))] t.heap ∧ va_D (va_A [(h0, .inr (11, [.int th, .ref tB, .int tsz, .int tat, .int wr, .int dp, .ref rC, .ref rV, .ref rD, .ref rK, .ref rT, .ref rS, .ref rU, .int lw, .int tx, .ref rL, .ref rX, .ref qR, .ref qB, .ref qP, .int qnb, .int qnp, .ref aR, .ref aB, .ref aP, .int nb, .int np, .ref aN, .ref rf, .int ho, .int br, .ref aK, .int ac, .long dw, .ref aE, .int sr, .int sf, .ref aA, .ref aH, .ref aI, .int hi])), (tB, .inl (cI, 240, .inl fB))] sz) [(h0, .inr (11, [.int th, .ref tB, .int tsz, .int u.1, .int u.2.1, .int u.2.2, .ref rC, .ref rV, .ref rD, .ref rK, .ref rT, .ref rS, .ref rU, .int lw, .int tx, .ref rL, .ref rX, .ref qR, .ref qB, .ref qP, .int qnb, .int qnp, .ref aR, .ref aB, .ref aP, .int nb, .int np, .ref aN, .ref rf, .int ho, .int br, .ref aK, .int ac, .long dw, .ref aE, .int sr, .int sf, .ref aA, .ref aH, .ref aI, .int hi])), (tB, .inl (cI, 240, .inl fB))]) (va_A [(h0, .inr (11, [.int th, .ref tB, .int tsz, .int tat, .int wr, .int dp, .ref rC, .ref rV, .ref rD, .ref rK, .ref rT, .ref rS, .ref rU, .int lw, .int tx, .ref rL, .ref rX, .ref qR, .ref qB, .ref qP, .int qnb, .int qnp, .ref aR, .ref aB, .ref aP, .int nb, .int np, .ref aN, .ref rf, .int ho, .int br, .ref aK, .int ac, .long dw, .ref aE, .int sr, .int sf, .ref aA, .ref aH, .ref aI, .int hi])), (tB, .inl (cI, 240, .inl fB))] sz)) 0 0 (va_A [(h0, .inr (11, [.int th, .ref tB, .int tsz, .int tat, .int wr, .int dp, .ref rC, .ref rV, .ref rD, .ref rK, .ref rT, .ref rS, .ref rU, .int lw, .int tx, .ref rL, .ref rX, .ref qR, .ref qB, .ref qP, .int qnb, .int qnp, .ref aR, .ref aB, .ref aP, .int nb, .int np, .ref aN, .ref rf, .int ho, .int br, .ref aK, .int ac, .long dw, .ref aE, .int sr, .int sf, .ref aA, .ref aH, .ref aI, .int hi])), (tB, .inl (cI, 240, .inl fB))] sz) := by
  refine Met.ofW (cc := cX11_closes) (maxL := 2) (ret := none) (by decide) rfl ?_
  intro p e s m args below meth c s₁ B hml hv
  have y_ac : zHid (0 ≤ ac.toInt ∧ ac.toInt ≤ 40) := n_ac
  have y_hi : zHid (0 ≤ hi.toInt ∧ hi.toInt ≤ 1) := n_hi
  have y_ho : zHid ((-1) ≤ ho.toInt ∧ ho.toInt ≤ 3) := n_ho
  have y_lw : zHid (0 ≤ lw.toInt ∧ lw.toInt ≤ 4) := n_lw
  have y_nb : zHid (0 ≤ nb.toInt ∧ nb.toInt ≤ 6) := n_nb
  have y_np : zHid (0 ≤ np.toInt ∧ np.toInt ≤ 5) := n_np
  have y_qnb : zHid (0 ≤ qnb.toInt ∧ qnb.toInt ≤ 6) := n_qnb
  have y_qnp : zHid (0 ≤ qnp.toInt ∧ qnp.toInt ≤ 5) := n_qnp
  clear n_ac n_hi n_ho n_lw n_nb n_np n_qnb n_qnp
  obtain ⟨hargs, hsz, hP, hK, hT⟩ := hv
  have hx := B.exec
  have hb := B.bytes
  have hr := B.returns
  have hts : ∀ w ∈ wA, w.before args s = true := fun w h => atoms_spec (ws := .code yX11_closes cX11_closes 2 none :: wA) B.pre w (List.mem_cons_of_mem _ h)
  have hown : s.vm.findClass RX11 = some m.cls := findClass_of_methodNamed B.named
  have hlocks := B.notSynchronized
  subst hsz
  have hD := hT.self (sz := s.heap.size)
  generalize hAe : va_A [(h0, .inr (11, [.int th, .ref tB, .int tsz, .int tat, .int wr, .int dp, .ref rC, .ref rV, .ref rD, .ref rK, .ref rT, .ref rS, .ref rU, .int lw, .int tx, .ref rL, .ref rX, .ref qR, .ref qB, .ref qP, .int qnb, .int qnp, .ref aR, .ref aB, .ref aP, .int nb, .int np, .ref aN, .ref rf, .int ho, .int br, .ref aK, .int ac, .long dw, .ref aE, .int sr, .int sf, .ref aA, .ref aH, .ref aI, .int hi])), (tB, .inl (cI, 240, .inl fB))] s.heap.size = A at hD ⊢
  have hA : ∀ q : Nat, s.heap.size ≤ q → A q := fun q h => by rw [← hAe]; exact Or.inr h
  have hl := lv_entry ([.ref h0, .int p0]) (n := 2) (Nat.le_of_ble_eq_true rfl)
  rw [show entryFrame m args 2 = entryFrame m ([.ref h0, .int p0] : List Value).toArray 2 by rw [hargs], lg_entry_eq]
  generalize (lg_sl ([.ref h0, .int p0]) ++ List.replicate (2 - (lg_sl ([.ref h0, .int p0])).length) Slot.unset).toArray = ls at hl ⊢
  have hl : lv_has ls 2 [(0, .ref h0), (1, .int p0)] := hl
  refine zstart (fun H hH => ?_)
  rw [← hH] at hP
  have hS : va_S A s.heap H [] := by rw [hH]; exact va_S.rf
  generalize ([] : List Loc) = locs at hS ⊢
  refine zgen (fun R Q hR hQ => ?_)
  have zm1 : (-1 : Int32).toInt = -1 := by decide
  refine lv_aload_n hx hb dX11_closes_0 rfl (lv_at hl 0 rfl) ?_
  refine va_get (D := (dC, dI)) (ci := 11) (v := .int wr) (C := RX11) (T := TX11) (N := 41) hx hb hts iX11 hown hK hP 0 rfl rfl 4 (by decide) (hts _ qw1131) (fun _ h9 => h9) rfl dX11_closes_1 ?_
  refine lv_iconst (v := (-1)) hx hb dX11_closes_4 (by decide) ?_
  refine lv_icmp_ne (tgt := 20) hx hb dX11_closes_5 (by decide) (fun c5 => ?_) (fun c5 => ?_)
  · have c5 : ¬ wr.toInt = (-1) := z6 rfl (by decide) c5
    refine lv_aload_n hx hb dX11_closes_20 rfl (lv_at hl 0 rfl) ?_
    refine lv_dup hx hb dX11_closes_21 rfl ?_
    refine va_get (D := (dC, dI)) (ci := 11) (v := .int tat) (C := RX11) (T := TX11) (N := 41) hx hb hts iX11 hown hK hP 0 rfl rfl 3 (by decide) (hts _ qw1130) (fun _ h9 => h9) rfl dX11_closes_22 ?_
    refine lv_iconst (v := 1) hx hb dX11_closes_25 (by decide) ?_
    refine lv_iadd hx hb dX11_closes_26 ?_
    refine lv_topi (fun v26 e26 => ?_)
    have i26 : v26.toInt = tat.toInt + 1 := zadd e26 rfl (by decide) (by omega) (by omega)
    refine va_put (D := (dC, dI)) (ci := 11) (v := .int v26) (ty := .int) (C := RX11) (T := TX11) (N := 41) hx hb hts iX11 tyX11 tyX11_ok nmX11 hown hK hP hD hS 0 rfl rfl 3 (by decide) (hts _ qw1130) (fun _ h9 => h9) rfl (by decide +kernel) rfl rfl (Nat.le_of_ble_eq_true rfl) dX11_closes_27 (fun H locs hP9 hD9 hS9 => ?_)
    clear hP hD hS
    obtain ⟨hP, hD⟩ := zst (wX := [(h0, .inr (11, [.int th, .ref tB, .int tsz, .int v26, .int wr, .int dp, .ref rC, .ref rV, .ref rD, .ref rK, .ref rT, .ref rS, .ref rU, .int lw, .int tx, .ref rL, .ref rX, .ref qR, .ref qB, .ref qP, .int qnb, .int qnp, .ref aR, .ref aB, .ref aP, .int nb, .int np, .ref aN, .ref rf, .int ho, .int br, .ref aK, .int ac, .long dw, .ref aE, .int sr, .int sf, .ref aA, .ref aH, .ref aI, .int hi])), (tB, .inl (cI, 240, .inl fB))]) hP9 hD9 rfl
    have hS := hS9
    clear hP9 hD9 hS9
    refine lv_aload_n hx hb dX11_closes_30 rfl (lv_at hl 0 rfl) ?_
    refine lv_dup hx hb dX11_closes_31 rfl ?_
    refine va_get (D := (dC, dI)) (ci := 11) (v := .int dp) (C := RX11) (T := TX11) (N := 41) hx hb hts iX11 hown hK hP 0 rfl rfl 5 (by decide) (hts _ qw1132) (fun _ h9 => h9) rfl dX11_closes_32 ?_
    refine lv_iconst (v := 1) hx hb dX11_closes_35 (by decide) ?_
    refine lv_isub hx hb dX11_closes_36 ?_
    refine lv_topi (fun v36 e36 => ?_)
    have i36 : v36.toInt = dp.toInt - 1 := zsub e36 rfl (by decide) (by omega) (by omega)
    refine va_put (D := (dC, dI)) (ci := 11) (v := .int v36) (ty := .int) (C := RX11) (T := TX11) (N := 41) hx hb hts iX11 tyX11 tyX11_ok nmX11 hown hK hP hD hS 0 rfl rfl 5 (by decide) (hts _ qw1132) (fun _ h9 => h9) rfl (by decide +kernel) rfl rfl (Nat.le_of_ble_eq_true rfl) dX11_closes_37 (fun H locs hP9 hD9 hS9 => ?_)
    clear hP hD hS
    obtain ⟨hP, hD⟩ := zst (wX := [(h0, .inr (11, [.int th, .ref tB, .int tsz, .int v26, .int wr, .int v36, .ref rC, .ref rV, .ref rD, .ref rK, .ref rT, .ref rS, .ref rU, .int lw, .int tx, .ref rL, .ref rX, .ref qR, .ref qB, .ref qP, .int qnb, .int qnp, .ref aR, .ref aB, .ref aP, .int nb, .int np, .ref aN, .ref rf, .int ho, .int br, .ref aK, .int ac, .long dw, .ref aE, .int sr, .int sf, .ref aA, .ref aH, .ref aI, .int hi])), (tB, .inl (cI, 240, .inl fB))]) hP9 hD9 rfl
    have hS := hS9
    clear hP9 hD9 hS9
    rw [hQ]
    exact W.vret hx hb hr (fun t ht hW => ⟨⟨(v26, wr, v36), rfl, ⟨by (try dsimp only); omega, by (try dsimp only); omega, by (try dsimp only); omega, by (try dsimp only); omega, by (try dsimp only); omega, by (try dsimp only); omega, by (try dsimp only); omega, by (try dsimp only); omega, by (try dsimp only); omega, by (try dsimp only); omega, by (try dsimp only); exact fun x hx => zclA hx (by omega)⟩, ⟨by rw [ht]; exact hP, hD⟩⟩, hS.F ht⟩) hS.2.2 dX11_closes_40
  · have c5 : wr.toInt = (-1) := z5 rfl (by decide) c5
    refine lv_aload_n hx hb dX11_closes_8 rfl (lv_at hl 0 rfl) ?_
    obtain ⟨hPc, hDc, hFc⟩ := zc3 (wc := [(h0, .inr (11, [.int th, .ref tB, .int tsz, .int tat, .int wr, .int dp, .ref rC, .ref rV, .ref rD, .ref rK, .ref rT, .ref rS, .ref rU, .int lw, .int tx, .ref rL, .ref rX, .ref qR, .ref qB, .ref qP, .int qnb, .int qnp, .ref aR, .ref aB, .ref aP, .int nb, .int np, .ref aN, .ref rf, .int ho, .int br, .ref aK, .int ac, .long dw, .ref aE, .int sr, .int sf, .ref aA, .ref aH, .ref aI, .int hi])), (tB, .inl (cI, 240, .inl fB))]) hP hD hS hA [0, 1] (by decide +kernel) rfl
    refine va_calli (va_runV (As := []) (rest := []) ⟨hx, hb, hml, hown, hts⟩ (g_X11_look_t l dC dI cI cJ h0 th tB tsz tat wr dp rC rV rD rK rT rS rU lw tx rL rX qR qB qP qnb qnp aR aB aP nb np aN rf ho br aK ac dw aE sr sf aA aH aI hi fB H.size y_ac y_hi y_ho y_lw y_nb y_np y_qnb y_qnp (by omega) n_tsz n_wr) (cwV 0 hts (zgV qw1273 qw1275 qw32 qw108 qw1276) rfl rfl rfl hd_X11_look ⟨by rw [hR]; exact Nat.le_of_ble_eq_true rfl, by rw [hR]; exact Nat.le_of_ble_eq_true rfl⟩) (zPV hPc hK hDc (va_recv (q := (RX11, TX11, 41)) hK hP (ci := 11) (q0 := 0) rfl rfl)) rfl rfl hl.1 rfl (lv_room (Nat.le_of_ble_eq_true rfl)) dX11_closes_9 ⟨Nat.zero_le _, Nat.zero_le _⟩) hS (fun q _ h => hFc q h) hFc (fun v9 u9 t H locs ht hvm hw hB hz1 hk1 hS9 => ?_)
    obtain ⟨u9_0, rfl⟩ : ∃ z, z = u9 := ⟨_, rfl⟩
    obtain ⟨hP9, hD9⟩ := zj2 (wX := [(h0, .inr (11, [.int th, .ref tB, .int tsz, .int u9_0, .int wr, .int dp, .ref rC, .ref rV, .ref rD, .ref rK, .ref rT, .ref rS, .ref rU, .int lw, .int tx, .ref rL, .ref rX, .ref qR, .ref qB, .ref qP, .int qnb, .int qnp, .ref aR, .ref aB, .ref aP, .int nb, .int np, .ref aN, .ref rf, .int ho, .int br, .ref aK, .int ac, .long dw, .ref aE, .int sr, .int sf, .ref aA, .ref aH, .ref aI, .int hi])), (tB, .inl (cI, 240, .inl fB))]) hP hD hk1 hFc ht hB [0, 1] [(true, 0), (true, 1)] rfl (by decide +kernel) (by decide +kernel) rfl
    clear hP hD hS hPc hDc hFc hB hk1 hz1 hvm
    have hP := hP9
    have hD := hD9
    have hS := hS9
    clear hP9 hD9 hS9
    obtain ⟨f9_0, f9_1, f9_2, f9_3, f9_4, f9_5⟩ : (0 ≤ u9_0.toInt) ∧ (u9_0.toInt ≤ 240) ∧ (¬ v9.toInt = -1 → u9_0.toInt < tsz.toInt) ∧ (tat.toInt ≤ u9_0.toInt) ∧ (u9_0.toInt ≤ tsz.toInt ∨ u9_0.toInt = tat.toInt) ∧ (zLk fB tsz tat v9 u9_0) := hw
    have F9 := f9_5
    refine lv_iload_n hx hb dX11_closes_12 rfl (lv_at hl 1 rfl) ?_
    refine lv_icmp_eq (tgt := 20) hx hb dX11_closes_13 (by decide) (fun c13 => ?_) (fun c13 => ?_)
    · have c13 : v9.toInt = p0.toInt := z5 rfl rfl c13
      refine lv_aload_n hx hb dX11_closes_20 rfl (lv_at hl 0 rfl) ?_
      refine lv_dup hx hb dX11_closes_21 rfl ?_
      refine va_get (D := (dC, dI)) (ci := 11) (v := .int u9_0) (C := RX11) (T := TX11) (N := 41) hx hb hts iX11 hown hK hP 0 rfl rfl 3 (by decide) (hts _ qw1130) (fun _ h9 => h9) rfl dX11_closes_22 ?_
      refine lv_iconst (v := 1) hx hb dX11_closes_25 (by decide) ?_
      refine lv_iadd hx hb dX11_closes_26 ?_
      refine lv_topi (fun v26 e26 => ?_)
      have i26 : v26.toInt = u9_0.toInt + 1 := zadd e26 rfl (by decide) (by omega) (by omega)
      refine va_put (D := (dC, dI)) (ci := 11) (v := .int v26) (ty := .int) (C := RX11) (T := TX11) (N := 41) hx hb hts iX11 tyX11 tyX11_ok nmX11 hown hK hP hD hS 0 rfl rfl 3 (by decide) (hts _ qw1130) (fun _ h9 => h9) rfl (by decide +kernel) rfl rfl (Nat.le_of_ble_eq_true rfl) dX11_closes_27 (fun H locs hP9 hD9 hS9 => ?_)
      clear hP hD hS
      obtain ⟨hP, hD⟩ := zst (wX := [(h0, .inr (11, [.int th, .ref tB, .int tsz, .int v26, .int wr, .int dp, .ref rC, .ref rV, .ref rD, .ref rK, .ref rT, .ref rS, .ref rU, .int lw, .int tx, .ref rL, .ref rX, .ref qR, .ref qB, .ref qP, .int qnb, .int qnp, .ref aR, .ref aB, .ref aP, .int nb, .int np, .ref aN, .ref rf, .int ho, .int br, .ref aK, .int ac, .long dw, .ref aE, .int sr, .int sf, .ref aA, .ref aH, .ref aI, .int hi])), (tB, .inl (cI, 240, .inl fB))]) hP9 hD9 rfl
      have hS := hS9
      clear hP9 hD9 hS9
      refine lv_aload_n hx hb dX11_closes_30 rfl (lv_at hl 0 rfl) ?_
      refine lv_dup hx hb dX11_closes_31 rfl ?_
      refine va_get (D := (dC, dI)) (ci := 11) (v := .int dp) (C := RX11) (T := TX11) (N := 41) hx hb hts iX11 hown hK hP 0 rfl rfl 5 (by decide) (hts _ qw1132) (fun _ h9 => h9) rfl dX11_closes_32 ?_
      refine lv_iconst (v := 1) hx hb dX11_closes_35 (by decide) ?_
      refine lv_isub hx hb dX11_closes_36 ?_
      refine lv_topi (fun v36 e36 => ?_)
      have i36 : v36.toInt = dp.toInt - 1 := zsub e36 rfl (by decide) (by omega) (by omega)
      refine va_put (D := (dC, dI)) (ci := 11) (v := .int v36) (ty := .int) (C := RX11) (T := TX11) (N := 41) hx hb hts iX11 tyX11 tyX11_ok nmX11 hown hK hP hD hS 0 rfl rfl 5 (by decide) (hts _ qw1132) (fun _ h9 => h9) rfl (by decide +kernel) rfl rfl (Nat.le_of_ble_eq_true rfl) dX11_closes_37 (fun H locs hP9 hD9 hS9 => ?_)
      clear hP hD hS
      obtain ⟨hP, hD⟩ := zst (wX := [(h0, .inr (11, [.int th, .ref tB, .int tsz, .int v26, .int wr, .int v36, .ref rC, .ref rV, .ref rD, .ref rK, .ref rT, .ref rS, .ref rU, .int lw, .int tx, .ref rL, .ref rX, .ref qR, .ref qB, .ref qP, .int qnb, .int qnp, .ref aR, .ref aB, .ref aP, .int nb, .int np, .ref aN, .ref rf, .int ho, .int br, .ref aK, .int ac, .long dw, .ref aE, .int sr, .int sf, .ref aA, .ref aH, .ref aI, .int hi])), (tB, .inl (cI, 240, .inl fB))]) hP9 hD9 rfl
      have hS := hS9
      clear hP9 hD9 hS9
      rw [hQ]
      exact W.vret hx hb hr (fun t ht hW => ⟨⟨(v26, wr, v36), rfl, ⟨by (try dsimp only); omega, by (try dsimp only); omega, by (try dsimp only); omega, by (try dsimp only); omega, by (try dsimp only); omega, by (try dsimp only); omega, by (try dsimp only); omega, by (try dsimp only); omega, by (try dsimp only); omega, by (try dsimp only); omega, by (try dsimp only); exact fun x hx => zclB hx (by omega) F9 (by omega) (by omega)⟩, ⟨by rw [ht]; exact hP, hD⟩⟩, hS.F ht⟩) hS.2.2 dX11_closes_40
    · have c13 : ¬ v9.toInt = p0.toInt := z6 rfl rfl c13
      refine lv_aload_n hx hb dX11_closes_16 rfl (lv_at hl 0 rfl) ?_
      obtain ⟨hPc, hDc, hFc⟩ := zc3 (wc := [(h0, .inr (11, [.int th, .ref tB, .int tsz, .int u9_0, .int wr, .int dp, .ref rC, .ref rV, .ref rD, .ref rK, .ref rT, .ref rS, .ref rU, .int lw, .int tx, .ref rL, .ref rX, .ref qR, .ref qB, .ref qP, .int qnb, .int qnp, .ref aR, .ref aB, .ref aP, .int nb, .int np, .ref aN, .ref rf, .int ho, .int br, .ref aK, .int ac, .long dw, .ref aE, .int sr, .int sf, .ref aA, .ref aH, .ref aI, .int hi]))]) hP hD hS hA [0] (by decide +kernel) rfl
      refine va_callv (va_runV (As := []) (rest := []) ⟨hx, hb, hml, hown, hts⟩ (g_X11_bad l dC dI cI cJ h0 th tB tsz u9_0 wr dp rC rV rD rK rT rS rU lw tx rL rX qR qB qP qnb qnp aR aB aP nb np aN rf ho br aK ac dw aE sr sf aA aH aI hi H.size y_ac y_hi y_ho y_lw y_nb y_np y_qnb y_qnp (by omega) n_tsz n_wr) (cwV 0 hts (zgV qw1301 qw1303 qw36 qw108 qw1304) rfl rfl rfl hd_X11_bad ⟨by rw [hR]; exact Nat.le_of_ble_eq_true rfl, by rw [hR]; exact Nat.le_of_ble_eq_true rfl⟩) (zPV hPc hK hDc (va_recv (q := (RX11, TX11, 41)) hK hP (ci := 11) (q0 := 0) rfl rfl)) rfl rfl hl.1 rfl (lv_room (Nat.le_of_ble_eq_true rfl)) dX11_closes_17 ⟨Nat.zero_le _, Nat.zero_le _⟩) hS (fun q _ h => hFc q h) hFc (fun u17 t H locs ht hvm hw hB hz1 hk1 hS9 => ?_)
      obtain ⟨u17_0, rfl⟩ : ∃ z, z = u17 := ⟨_, rfl⟩
      obtain ⟨hP9, hD9⟩ := zj2 (wX := [(h0, .inr (11, [.int th, .ref tB, .int tsz, .int u9_0, .int u17_0, .int dp, .ref rC, .ref rV, .ref rD, .ref rK, .ref rT, .ref rS, .ref rU, .int lw, .int tx, .ref rL, .ref rX, .ref qR, .ref qB, .ref qP, .int qnb, .int qnp, .ref aR, .ref aB, .ref aP, .int nb, .int np, .ref aN, .ref rf, .int ho, .int br, .ref aK, .int ac, .long dw, .ref aE, .int sr, .int sf, .ref aA, .ref aH, .ref aI, .int hi])), (tB, .inl (cI, 240, .inl fB))]) hP hD hk1 hFc ht hB [0] [(true, 0), (false, 1)] rfl (by decide +kernel) (by decide +kernel) rfl
      clear hP hD hS hPc hDc hFc hB hk1 hz1 hvm
      have hP := hP9
      have hD := hD9
      have hS := hS9
      clear hP9 hD9 hS9
      obtain ⟨f17_0, f17_1, f17_2, f17_3⟩ : (0 ≤ u17_0.toInt) ∧ (u17_0.toInt ≤ 260) ∧ (wr.toInt = -1 → u17_0.toInt = u9_0.toInt) ∧ (¬ wr.toInt = -1 → u17_0.toInt = wr.toInt) := hw
      refine lv_aload_n hx hb dX11_closes_20 rfl (lv_at hl 0 rfl) ?_
      refine lv_dup hx hb dX11_closes_21 rfl ?_
      refine va_get (D := (dC, dI)) (ci := 11) (v := .int u9_0) (C := RX11) (T := TX11) (N := 41) hx hb hts iX11 hown hK hP 0 rfl rfl 3 (by decide) (hts _ qw1130) (fun _ h9 => h9) rfl dX11_closes_22 ?_
      refine lv_iconst (v := 1) hx hb dX11_closes_25 (by decide) ?_
      refine lv_iadd hx hb dX11_closes_26 ?_
      refine lv_topi (fun v26 e26 => ?_)
      have i26 : v26.toInt = u9_0.toInt + 1 := zadd e26 rfl (by decide) (by omega) (by omega)
      refine va_put (D := (dC, dI)) (ci := 11) (v := .int v26) (ty := .int) (C := RX11) (T := TX11) (N := 41) hx hb hts iX11 tyX11 tyX11_ok nmX11 hown hK hP hD hS 0 rfl rfl 3 (by decide) (hts _ qw1130) (fun _ h9 => h9) rfl (by decide +kernel) rfl rfl (Nat.le_of_ble_eq_true rfl) dX11_closes_27 (fun H locs hP9 hD9 hS9 => ?_)
      clear hP hD hS
      obtain ⟨hP, hD⟩ := zst (wX := [(h0, .inr (11, [.int th, .ref tB, .int tsz, .int v26, .int u17_0, .int dp, .ref rC, .ref rV, .ref rD, .ref rK, .ref rT, .ref rS, .ref rU, .int lw, .int tx, .ref rL, .ref rX, .ref qR, .ref qB, .ref qP, .int qnb, .int qnp, .ref aR, .ref aB, .ref aP, .int nb, .int np, .ref aN, .ref rf, .int ho, .int br, .ref aK, .int ac, .long dw, .ref aE, .int sr, .int sf, .ref aA, .ref aH, .ref aI, .int hi])), (tB, .inl (cI, 240, .inl fB))]) hP9 hD9 rfl
      have hS := hS9
      clear hP9 hD9 hS9
      refine lv_aload_n hx hb dX11_closes_30 rfl (lv_at hl 0 rfl) ?_
      refine lv_dup hx hb dX11_closes_31 rfl ?_
      refine va_get (D := (dC, dI)) (ci := 11) (v := .int dp) (C := RX11) (T := TX11) (N := 41) hx hb hts iX11 hown hK hP 0 rfl rfl 5 (by decide) (hts _ qw1132) (fun _ h9 => h9) rfl dX11_closes_32 ?_
      refine lv_iconst (v := 1) hx hb dX11_closes_35 (by decide) ?_
      refine lv_isub hx hb dX11_closes_36 ?_
      refine lv_topi (fun v36 e36 => ?_)
      have i36 : v36.toInt = dp.toInt - 1 := zsub e36 rfl (by decide) (by omega) (by omega)
      refine va_put (D := (dC, dI)) (ci := 11) (v := .int v36) (ty := .int) (C := RX11) (T := TX11) (N := 41) hx hb hts iX11 tyX11 tyX11_ok nmX11 hown hK hP hD hS 0 rfl rfl 5 (by decide) (hts _ qw1132) (fun _ h9 => h9) rfl (by decide +kernel) rfl rfl (Nat.le_of_ble_eq_true rfl) dX11_closes_37 (fun H locs hP9 hD9 hS9 => ?_)
      clear hP hD hS
      obtain ⟨hP, hD⟩ := zst (wX := [(h0, .inr (11, [.int th, .ref tB, .int tsz, .int v26, .int u17_0, .int v36, .ref rC, .ref rV, .ref rD, .ref rK, .ref rT, .ref rS, .ref rU, .int lw, .int tx, .ref rL, .ref rX, .ref qR, .ref qB, .ref qP, .int qnb, .int qnp, .ref aR, .ref aB, .ref aP, .int nb, .int np, .ref aN, .ref rf, .int ho, .int br, .ref aK, .int ac, .long dw, .ref aE, .int sr, .int sf, .ref aA, .ref aH, .ref aI, .int hi])), (tB, .inl (cI, 240, .inl fB))]) hP9 hD9 rfl
      have hS := hS9
      clear hP9 hD9 hS9
      rw [hQ]
      exact W.vret hx hb hr (fun t ht hW => ⟨⟨(v26, u17_0, v36), rfl, ⟨by (try dsimp only); omega, by (try dsimp only); omega, by (try dsimp only); omega, by (try dsimp only); omega, by (try dsimp only); omega, by (try dsimp only); omega, by (try dsimp only); omega, by (try dsimp only); omega, by (try dsimp only); omega, by (try dsimp only); omega, by (try dsimp only); exact fun x hx => zclC hx (by omega) F9 (by omega) (by omega) (by omega)⟩, ⟨by rw [ht]; exact hP, hD⟩⟩, hS.F ht⟩) hS.2.2 dX11_closes_40
def zQ_X11_atom (l : Launch) (K fr lo : Nat) : Prop := ∀ (dC : Nat → ClassId) (dI : Nat → Nat → Nat) (cI cJ : ClassId) (h0 : Nat) (th : Int32) (tB : Nat) (tsz : Int32) (tat : Int32) (dp : Int32) (rC : Nat) (rV : Nat) (rD : Nat) (rK : Nat) (rT : Nat) (rS : Nat) (rU : Nat) (lw : Int32) (tx : Int32) (rL : Nat) (rX : Nat) (qR : Nat) (qB : Nat) (qP : Nat) (qnb : Int32) (qnp : Int32) (aR : Nat) (aB : Nat) (aP : Nat) (nb : Int32) (np : Int32) (aN : Nat) (rf : Nat) (ho : Int32) (br : Int32) (aK : Nat) (ac : Int32) (dw : Int64) (aE : Nat) (sr : Int32) (sf : Int32) (aA : Nat) (aH : Nat) (aI : Nat) (hi : Int32) (fB : Nat → Int32) (fC : Nat → Int32) (fV : Nat → Int32) (fD : Nat → Int32) (gC : Nat → Int32) (gV : Nat → Int32) (fz : Nat) (k : Nat) (st : Nat) (h : Nat) (sz : Nat) (n_ac : 0 ≤ ac.toInt ∧ ac.toInt ≤ 40) (n_dp : 0 ≤ dp.toInt ∧ dp.toInt ≤ 6) (n_hi : 0 ≤ hi.toInt ∧ hi.toInt ≤ 1) (n_ho : (-1) ≤ ho.toInt ∧ ho.toInt ≤ 3) (n_lw : 0 ≤ lw.toInt ∧ lw.toInt ≤ 4) (n_nb : 0 ≤ nb.toInt ∧ nb.toInt ≤ 6) (n_np : 0 ≤ np.toInt ∧ np.toInt ≤ 5) (n_qnb : 0 ≤ qnb.toInt ∧ qnb.toInt ≤ 6) (n_qnp : 0 ≤ qnp.toInt ∧ qnp.toInt ≤ 5) (n_tat : 0 ≤ tat.toInt ∧ tat.toInt ≤ 240) (n_tsz : 0 ≤ tsz.toInt ∧ tsz.toInt ≤ 240) (n_tx : 0 ≤ tx.toInt ∧ tx.toInt ≤ 4) (hpar : zPar (-1) tat fC fV fD tx gC gV fz (k + 1) st (h)) (hat : tat.toInt ≤ tsz.toInt) (hh : h + (2 * K + 1) ≤ 80) (hKd : dp.toInt = 6 - ((K : Nat) : Int)) (hK6 : K ≤ 6)  , Met l yX11_atom (.code yX11_atom cX11_atom 2 none :: wA) ({ frames := fr, cells := 0, slots := 0, locals := lo }) (zP (dC, dI) [(cI, .int), (cJ, .long)] [.ref h0] sz [(h0, .inr (11, [.int th, .ref tB, .int tsz, .int tat, .int (-1), .int dp, .ref rC, .ref rV, .ref rD, .ref rK, .ref rT, .ref rS, .ref rU, .int lw, .int tx, .ref rL, .ref rX, .ref qR, .ref qB, .ref qP, .int qnb, .int qnp, .ref aR, .ref aB, .ref aP, .int nb, .int np, .ref aN, .ref rf, .int ho, .int br, .ref aK, .int ac, .long dw, .ref aE, .int sr, .int sf, .ref aA, .ref aH, .ref aI, .int hi])), (tB, .inl (cI, 240, .inl fB)), (rC, .inl (cI, 2600, .inl fC)), (rV, .inl (cI, 2600, .inl fV)), (rD, .inl (cI, 5, .inl fD))]) (va_Qv (fun (u : Int32 × Int32 × Int32 × (Nat → Int32) × (Nat → Int32) × (Nat → Int32)) => (0 ≤ u.1.toInt) ∧ (u.1.toInt ≤ 246) ∧ ((-1) ≤ u.2.1.toInt) ∧ (u.2.1.toInt ≤ 260) ∧ (0 ≤ u.2.2.1.toInt) ∧ (u.2.2.1.toInt ≤ 7) ∧ (u.2.1.toInt = -1 → (u.1.toInt ≤ tsz.toInt ∧ u.2.2.1.toInt = 6 - ((K : Nat) : Int))) ∧ (tat.toInt ≤ u.1.toInt) ∧ (u.1.toInt ≤ 240 + ((K : Nat) : Int) ∧ 6 - ((K : Nat) : Int) ≤ u.2.2.1.toInt ∧ u.2.2.1.toInt ≤ 7 - ((K : Nat) : Int)) ∧ (zW (sAtm (sB fB tsz.toInt) tsz.toInt K tat.toInt) u.2.1 u.1) ∧ (u.2.1.toInt = -1 → zEr fC fV (520 * tx.toInt.toNat) (fD tx.toInt.toNat).toInt (eAtm (sB fB tsz.toInt) tsz.toInt K tat.toInt) u.2.2.2.1 u.2.2.2.2.1 (u.2.2.2.2.2 tx.toInt.toNat).toInt) ∧ (zPar u.2.1 u.1 u.2.2.2.1 u.2.2.2.2.1 u.2.2.2.2.2 tx gC gV fz (k) st (h + 1))) (fun (u : Int32 × Int32 × Int32 × (Nat → Int32) × (Nat → Int32) × (Nat → Int32)) (t : State) => va_P (dC, dI) vwCl [(h0, .inr (11, [.int th, .ref tB, .int tsz, .int u.1, .int u.2.1, .int u.2.2.1, .ref rC, .ref rV, .ref rD, .ref rK, .ref rT, .ref rS, .ref rU, .int lw, .int tx, .ref rL, .ref rX, .ref qR, .ref qB, .ref qP, .int qnb, .int qnp, .ref aR, .ref aB, .ref aP, .int nb, .int np, .ref aN, .ref rf, .int ho, .int br, .ref aK, .int ac, .long dw, .ref aE, .int sr, .int sf, .ref aA, .ref aH, .ref aI, .int hi])), (tB, .inl (cI, 240, .inl fB)), (rC, .inl (cI, 2600, .inl u.2.2.2.1)), (rV, .inl (cI, 2600, .inl u.2.2.2.2.1)), (rD, .inl (cI, 5, .inl u.2.2.2.2.2))] t.heap ∧ va_D (va_A [(h0, .inr (11, [.int th, .ref tB, .int tsz, .int tat, .int (-1), .int dp, .ref rC, .ref rV, .ref rD, .ref rK, .ref rT, .ref rS, .ref rU, .int lw, .int tx, .ref rL, .ref rX, .ref qR, .ref qB, .ref qP, .int qnb, .int qnp, .ref aR, .ref aB, .ref aP, .int nb, .int np, .ref aN, .ref rf, .int ho, .int br, .ref aK, .int ac, .long dw, .ref aE, .int sr, .int sf, .ref aA, .ref aH, .ref aI, .int hi])), (tB, .inl (cI, 240, .inl fB)), (rC, .inl (cI, 2600, .inl fC)), (rV, .inl (cI, 2600, .inl fV)), (rD, .inl (cI, 5, .inl fD))] sz) [(h0, .inr (11, [.int th, .ref tB, .int tsz, .int u.1, .int u.2.1, .int u.2.2.1, .ref rC, .ref rV, .ref rD, .ref rK, .ref rT, .ref rS, .ref rU, .int lw, .int tx, .ref rL, .ref rX, .ref qR, .ref qB, .ref qP, .int qnb, .int qnp, .ref aR, .ref aB, .ref aP, .int nb, .int np, .ref aN, .ref rf, .int ho, .int br, .ref aK, .int ac, .long dw, .ref aE, .int sr, .int sf, .ref aA, .ref aH, .ref aI, .int hi])), (tB, .inl (cI, 240, .inl fB)), (rC, .inl (cI, 2600, .inl u.2.2.2.1)), (rV, .inl (cI, 2600, .inl u.2.2.2.2.1)), (rD, .inl (cI, 5, .inl u.2.2.2.2.2))]) (va_A [(h0, .inr (11, [.int th, .ref tB, .int tsz, .int tat, .int (-1), .int dp, .ref rC, .ref rV, .ref rD, .ref rK, .ref rT, .ref rS, .ref rU, .int lw, .int tx, .ref rL, .ref rX, .ref qR, .ref qB, .ref qP, .int qnb, .int qnp, .ref aR, .ref aB, .ref aP, .int nb, .int np, .ref aN, .ref rf, .int ho, .int br, .ref aK, .int ac, .long dw, .ref aE, .int sr, .int sf, .ref aA, .ref aH, .ref aI, .int hi])), (tB, .inl (cI, 240, .inl fB)), (rC, .inl (cI, 2600, .inl fC)), (rV, .inl (cI, 2600, .inl fV)), (rD, .inl (cI, 5, .inl fD))] sz)) 0 0 (va_A [(h0, .inr (11, [.int th, .ref tB, .int tsz, .int tat, .int (-1), .int dp, .ref rC, .ref rV, .ref rD, .ref rK, .ref rT, .ref rS, .ref rU, .int lw, .int tx, .ref rL, .ref rX, .ref qR, .ref qB, .ref qP, .int qnb, .int qnp, .ref aR, .ref aB, .ref aP, .int nb, .int np, .ref aN, .ref rf, .int ho, .int br, .ref aK, .int ac, .long dw, .ref aE, .int sr, .int sf, .ref aA, .ref aH, .ref aI, .int hi])), (tB, .inl (cI, 240, .inl fB)), (rC, .inl (cI, 2600, .inl fC)), (rV, .inl (cI, 2600, .inl fV)), (rD, .inl (cI, 5, .inl fD))] sz)
def zQ_X11_term (l : Launch) (K fr lo : Nat) : Prop := ∀ (dC : Nat → ClassId) (dI : Nat → Nat → Nat) (cI cJ : ClassId) (h0 : Nat) (th : Int32) (tB : Nat) (tsz : Int32) (tat : Int32) (dp : Int32) (rC : Nat) (rV : Nat) (rD : Nat) (rK : Nat) (rT : Nat) (rS : Nat) (rU : Nat) (lw : Int32) (tx : Int32) (rL : Nat) (rX : Nat) (qR : Nat) (qB : Nat) (qP : Nat) (qnb : Int32) (qnp : Int32) (aR : Nat) (aB : Nat) (aP : Nat) (nb : Int32) (np : Int32) (aN : Nat) (rf : Nat) (ho : Int32) (br : Int32) (aK : Nat) (ac : Int32) (dw : Int64) (aE : Nat) (sr : Int32) (sf : Int32) (aA : Nat) (aH : Nat) (aI : Nat) (hi : Int32) (fB : Nat → Int32) (fC : Nat → Int32) (fV : Nat → Int32) (fD : Nat → Int32) (gC : Nat → Int32) (gV : Nat → Int32) (fz : Nat) (k : Nat) (st : Nat) (h : Nat) (sz : Nat) (n_ac : 0 ≤ ac.toInt ∧ ac.toInt ≤ 40) (n_dp : 0 ≤ dp.toInt ∧ dp.toInt ≤ 6) (n_hi : 0 ≤ hi.toInt ∧ hi.toInt ≤ 1) (n_ho : (-1) ≤ ho.toInt ∧ ho.toInt ≤ 3) (n_lw : 0 ≤ lw.toInt ∧ lw.toInt ≤ 4) (n_nb : 0 ≤ nb.toInt ∧ nb.toInt ≤ 6) (n_np : 0 ≤ np.toInt ∧ np.toInt ≤ 5) (n_qnb : 0 ≤ qnb.toInt ∧ qnb.toInt ≤ 6) (n_qnp : 0 ≤ qnp.toInt ∧ qnp.toInt ≤ 5) (n_tat : 0 ≤ tat.toInt ∧ tat.toInt ≤ 240) (n_tsz : 0 ≤ tsz.toInt ∧ tsz.toInt ≤ 240) (n_tx : 0 ≤ tx.toInt ∧ tx.toInt ≤ 4) (hpar : zPar (-1) tat fC fV fD tx gC gV fz (k + 1) st (h)) (hat : tat.toInt ≤ tsz.toInt) (hh : h + (2 * K + 2) ≤ 80) (hKd : dp.toInt = 6 - ((K : Nat) : Int)) (hK6 : K ≤ 6)  , Met l yX11_term (.code yX11_term cX11_term 2 none :: wA) ({ frames := fr, cells := 0, slots := 0, locals := lo }) (zP (dC, dI) [(cI, .int), (cJ, .long)] [.ref h0] sz [(h0, .inr (11, [.int th, .ref tB, .int tsz, .int tat, .int (-1), .int dp, .ref rC, .ref rV, .ref rD, .ref rK, .ref rT, .ref rS, .ref rU, .int lw, .int tx, .ref rL, .ref rX, .ref qR, .ref qB, .ref qP, .int qnb, .int qnp, .ref aR, .ref aB, .ref aP, .int nb, .int np, .ref aN, .ref rf, .int ho, .int br, .ref aK, .int ac, .long dw, .ref aE, .int sr, .int sf, .ref aA, .ref aH, .ref aI, .int hi])), (tB, .inl (cI, 240, .inl fB)), (rC, .inl (cI, 2600, .inl fC)), (rV, .inl (cI, 2600, .inl fV)), (rD, .inl (cI, 5, .inl fD))]) (va_Qv (fun (u : Int32 × Int32 × Int32 × (Nat → Int32) × (Nat → Int32) × (Nat → Int32)) => (0 ≤ u.1.toInt) ∧ (u.1.toInt ≤ 246) ∧ ((-1) ≤ u.2.1.toInt) ∧ (u.2.1.toInt ≤ 260) ∧ (0 ≤ u.2.2.1.toInt) ∧ (u.2.2.1.toInt ≤ 7) ∧ (u.2.1.toInt = -1 → (u.1.toInt ≤ tsz.toInt ∧ u.2.2.1.toInt = 6 - ((K : Nat) : Int))) ∧ (tat.toInt ≤ u.1.toInt) ∧ (u.1.toInt ≤ 240 + ((K : Nat) : Int) ∧ 6 - ((K : Nat) : Int) ≤ u.2.2.1.toInt ∧ u.2.2.1.toInt ≤ 7 - ((K : Nat) : Int)) ∧ (zW (sTm (sB fB tsz.toInt) tsz.toInt oM (sAtm (sB fB tsz.toInt) tsz.toInt K) tat.toInt) u.2.1 u.1) ∧ (u.2.1.toInt = -1 → zEr fC fV (520 * tx.toInt.toNat) (fD tx.toInt.toNat).toInt ((eTm (sB fB tsz.toInt) tsz.toInt oM (sAtm (sB fB tsz.toInt) tsz.toInt K) (eAtm (sB fB tsz.toInt) tsz.toInt K)) tat.toInt) u.2.2.2.1 u.2.2.2.2.1 (u.2.2.2.2.2 tx.toInt.toNat).toInt) ∧ (zPar u.2.1 u.1 u.2.2.2.1 u.2.2.2.2.1 u.2.2.2.2.2 tx gC gV fz (k) st (h + 1))) (fun (u : Int32 × Int32 × Int32 × (Nat → Int32) × (Nat → Int32) × (Nat → Int32)) (t : State) => va_P (dC, dI) vwCl [(h0, .inr (11, [.int th, .ref tB, .int tsz, .int u.1, .int u.2.1, .int u.2.2.1, .ref rC, .ref rV, .ref rD, .ref rK, .ref rT, .ref rS, .ref rU, .int lw, .int tx, .ref rL, .ref rX, .ref qR, .ref qB, .ref qP, .int qnb, .int qnp, .ref aR, .ref aB, .ref aP, .int nb, .int np, .ref aN, .ref rf, .int ho, .int br, .ref aK, .int ac, .long dw, .ref aE, .int sr, .int sf, .ref aA, .ref aH, .ref aI, .int hi])), (tB, .inl (cI, 240, .inl fB)), (rC, .inl (cI, 2600, .inl u.2.2.2.1)), (rV, .inl (cI, 2600, .inl u.2.2.2.2.1)), (rD, .inl (cI, 5, .inl u.2.2.2.2.2))] t.heap ∧ va_D (va_A [(h0, .inr (11, [.int th, .ref tB, .int tsz, .int tat, .int (-1), .int dp, .ref rC, .ref rV, .ref rD, .ref rK, .ref rT, .ref rS, .ref rU, .int lw, .int tx, .ref rL, .ref rX, .ref qR, .ref qB, .ref qP, .int qnb, .int qnp, .ref aR, .ref aB, .ref aP, .int nb, .int np, .ref aN, .ref rf, .int ho, .int br, .ref aK, .int ac, .long dw, .ref aE, .int sr, .int sf, .ref aA, .ref aH, .ref aI, .int hi])), (tB, .inl (cI, 240, .inl fB)), (rC, .inl (cI, 2600, .inl fC)), (rV, .inl (cI, 2600, .inl fV)), (rD, .inl (cI, 5, .inl fD))] sz) [(h0, .inr (11, [.int th, .ref tB, .int tsz, .int u.1, .int u.2.1, .int u.2.2.1, .ref rC, .ref rV, .ref rD, .ref rK, .ref rT, .ref rS, .ref rU, .int lw, .int tx, .ref rL, .ref rX, .ref qR, .ref qB, .ref qP, .int qnb, .int qnp, .ref aR, .ref aB, .ref aP, .int nb, .int np, .ref aN, .ref rf, .int ho, .int br, .ref aK, .int ac, .long dw, .ref aE, .int sr, .int sf, .ref aA, .ref aH, .ref aI, .int hi])), (tB, .inl (cI, 240, .inl fB)), (rC, .inl (cI, 2600, .inl u.2.2.2.1)), (rV, .inl (cI, 2600, .inl u.2.2.2.2.1)), (rD, .inl (cI, 5, .inl u.2.2.2.2.2))]) (va_A [(h0, .inr (11, [.int th, .ref tB, .int tsz, .int tat, .int (-1), .int dp, .ref rC, .ref rV, .ref rD, .ref rK, .ref rT, .ref rS, .ref rU, .int lw, .int tx, .ref rL, .ref rX, .ref qR, .ref qB, .ref qP, .int qnb, .int qnp, .ref aR, .ref aB, .ref aP, .int nb, .int np, .ref aN, .ref rf, .int ho, .int br, .ref aK, .int ac, .long dw, .ref aE, .int sr, .int sf, .ref aA, .ref aH, .ref aI, .int hi])), (tB, .inl (cI, 240, .inl fB)), (rC, .inl (cI, 2600, .inl fC)), (rV, .inl (cI, 2600, .inl fV)), (rD, .inl (cI, 5, .inl fD))] sz)) 0 0 (va_A [(h0, .inr (11, [.int th, .ref tB, .int tsz, .int tat, .int (-1), .int dp, .ref rC, .ref rV, .ref rD, .ref rK, .ref rT, .ref rS, .ref rU, .int lw, .int tx, .ref rL, .ref rX, .ref qR, .ref qB, .ref qP, .int qnb, .int qnp, .ref aR, .ref aB, .ref aP, .int nb, .int np, .ref aN, .ref rf, .int ho, .int br, .ref aK, .int ac, .long dw, .ref aE, .int sr, .int sf, .ref aA, .ref aH, .ref aI, .int hi])), (tB, .inl (cI, 240, .inl fB)), (rC, .inl (cI, 2600, .inl fC)), (rV, .inl (cI, 2600, .inl fV)), (rD, .inl (cI, 5, .inl fD))] sz)
def zQ_X11_sum (l : Launch) (K fr lo : Nat) : Prop := ∀ (dC : Nat → ClassId) (dI : Nat → Nat → Nat) (cI cJ : ClassId) (h0 : Nat) (th : Int32) (tB : Nat) (tsz : Int32) (tat : Int32) (dp : Int32) (rC : Nat) (rV : Nat) (rD : Nat) (rK : Nat) (rT : Nat) (rS : Nat) (rU : Nat) (lw : Int32) (tx : Int32) (rL : Nat) (rX : Nat) (qR : Nat) (qB : Nat) (qP : Nat) (qnb : Int32) (qnp : Int32) (aR : Nat) (aB : Nat) (aP : Nat) (nb : Int32) (np : Int32) (aN : Nat) (rf : Nat) (ho : Int32) (br : Int32) (aK : Nat) (ac : Int32) (dw : Int64) (aE : Nat) (sr : Int32) (sf : Int32) (aA : Nat) (aH : Nat) (aI : Nat) (hi : Int32) (fB : Nat → Int32) (fC : Nat → Int32) (fV : Nat → Int32) (fD : Nat → Int32) (gC : Nat → Int32) (gV : Nat → Int32) (fz : Nat) (k : Nat) (st : Nat) (h : Nat) (sz : Nat) (n_ac : 0 ≤ ac.toInt ∧ ac.toInt ≤ 40) (n_dp : 0 ≤ dp.toInt ∧ dp.toInt ≤ 6) (n_hi : 0 ≤ hi.toInt ∧ hi.toInt ≤ 1) (n_ho : (-1) ≤ ho.toInt ∧ ho.toInt ≤ 3) (n_lw : 0 ≤ lw.toInt ∧ lw.toInt ≤ 4) (n_nb : 0 ≤ nb.toInt ∧ nb.toInt ≤ 6) (n_np : 0 ≤ np.toInt ∧ np.toInt ≤ 5) (n_qnb : 0 ≤ qnb.toInt ∧ qnb.toInt ≤ 6) (n_qnp : 0 ≤ qnp.toInt ∧ qnp.toInt ≤ 5) (n_tat : 0 ≤ tat.toInt ∧ tat.toInt ≤ 240) (n_tsz : 0 ≤ tsz.toInt ∧ tsz.toInt ≤ 240) (n_tx : 0 ≤ tx.toInt ∧ tx.toInt ≤ 4) (hpar : zPar (-1) tat fC fV fD tx gC gV fz (k + 1) st (h)) (hat : tat.toInt ≤ tsz.toInt) (hh : h + (2 * K + 3) ≤ 80) (hKd : dp.toInt = 6 - ((K : Nat) : Int)) (hK6 : K ≤ 6)  , Met l yX11_sum (.code yX11_sum cX11_sum 2 none :: wA) ({ frames := fr, cells := 0, slots := 0, locals := lo }) (zP (dC, dI) [(cI, .int), (cJ, .long)] [.ref h0] sz [(h0, .inr (11, [.int th, .ref tB, .int tsz, .int tat, .int (-1), .int dp, .ref rC, .ref rV, .ref rD, .ref rK, .ref rT, .ref rS, .ref rU, .int lw, .int tx, .ref rL, .ref rX, .ref qR, .ref qB, .ref qP, .int qnb, .int qnp, .ref aR, .ref aB, .ref aP, .int nb, .int np, .ref aN, .ref rf, .int ho, .int br, .ref aK, .int ac, .long dw, .ref aE, .int sr, .int sf, .ref aA, .ref aH, .ref aI, .int hi])), (tB, .inl (cI, 240, .inl fB)), (rC, .inl (cI, 2600, .inl fC)), (rV, .inl (cI, 2600, .inl fV)), (rD, .inl (cI, 5, .inl fD))]) (va_Qv (fun (u : Int32 × Int32 × Int32 × (Nat → Int32) × (Nat → Int32) × (Nat → Int32)) => (0 ≤ u.1.toInt) ∧ (u.1.toInt ≤ 246) ∧ ((-1) ≤ u.2.1.toInt) ∧ (u.2.1.toInt ≤ 260) ∧ (0 ≤ u.2.2.1.toInt) ∧ (u.2.2.1.toInt ≤ 7) ∧ (u.2.1.toInt = -1 → (u.1.toInt ≤ tsz.toInt ∧ u.2.2.1.toInt = 6 - ((K : Nat) : Int))) ∧ (tat.toInt ≤ u.1.toInt) ∧ (u.1.toInt ≤ 240 + ((K : Nat) : Int) ∧ 6 - ((K : Nat) : Int) ≤ u.2.2.1.toInt ∧ u.2.2.1.toInt ≤ 7 - ((K : Nat) : Int)) ∧ (zW (sSum (sB fB tsz.toInt) tsz.toInt K tat.toInt) u.2.1 u.1) ∧ (u.2.1.toInt = -1 → zEr fC fV (520 * tx.toInt.toNat) (fD tx.toInt.toNat).toInt ((eSum (sB fB tsz.toInt) tsz.toInt K) tat.toInt) u.2.2.2.1 u.2.2.2.2.1 (u.2.2.2.2.2 tx.toInt.toNat).toInt) ∧ (zPar u.2.1 u.1 u.2.2.2.1 u.2.2.2.2.1 u.2.2.2.2.2 tx gC gV fz (k) st (h + 1))) (fun (u : Int32 × Int32 × Int32 × (Nat → Int32) × (Nat → Int32) × (Nat → Int32)) (t : State) => va_P (dC, dI) vwCl [(h0, .inr (11, [.int th, .ref tB, .int tsz, .int u.1, .int u.2.1, .int u.2.2.1, .ref rC, .ref rV, .ref rD, .ref rK, .ref rT, .ref rS, .ref rU, .int lw, .int tx, .ref rL, .ref rX, .ref qR, .ref qB, .ref qP, .int qnb, .int qnp, .ref aR, .ref aB, .ref aP, .int nb, .int np, .ref aN, .ref rf, .int ho, .int br, .ref aK, .int ac, .long dw, .ref aE, .int sr, .int sf, .ref aA, .ref aH, .ref aI, .int hi])), (tB, .inl (cI, 240, .inl fB)), (rC, .inl (cI, 2600, .inl u.2.2.2.1)), (rV, .inl (cI, 2600, .inl u.2.2.2.2.1)), (rD, .inl (cI, 5, .inl u.2.2.2.2.2))] t.heap ∧ va_D (va_A [(h0, .inr (11, [.int th, .ref tB, .int tsz, .int tat, .int (-1), .int dp, .ref rC, .ref rV, .ref rD, .ref rK, .ref rT, .ref rS, .ref rU, .int lw, .int tx, .ref rL, .ref rX, .ref qR, .ref qB, .ref qP, .int qnb, .int qnp, .ref aR, .ref aB, .ref aP, .int nb, .int np, .ref aN, .ref rf, .int ho, .int br, .ref aK, .int ac, .long dw, .ref aE, .int sr, .int sf, .ref aA, .ref aH, .ref aI, .int hi])), (tB, .inl (cI, 240, .inl fB)), (rC, .inl (cI, 2600, .inl fC)), (rV, .inl (cI, 2600, .inl fV)), (rD, .inl (cI, 5, .inl fD))] sz) [(h0, .inr (11, [.int th, .ref tB, .int tsz, .int u.1, .int u.2.1, .int u.2.2.1, .ref rC, .ref rV, .ref rD, .ref rK, .ref rT, .ref rS, .ref rU, .int lw, .int tx, .ref rL, .ref rX, .ref qR, .ref qB, .ref qP, .int qnb, .int qnp, .ref aR, .ref aB, .ref aP, .int nb, .int np, .ref aN, .ref rf, .int ho, .int br, .ref aK, .int ac, .long dw, .ref aE, .int sr, .int sf, .ref aA, .ref aH, .ref aI, .int hi])), (tB, .inl (cI, 240, .inl fB)), (rC, .inl (cI, 2600, .inl u.2.2.2.1)), (rV, .inl (cI, 2600, .inl u.2.2.2.2.1)), (rD, .inl (cI, 5, .inl u.2.2.2.2.2))]) (va_A [(h0, .inr (11, [.int th, .ref tB, .int tsz, .int tat, .int (-1), .int dp, .ref rC, .ref rV, .ref rD, .ref rK, .ref rT, .ref rS, .ref rU, .int lw, .int tx, .ref rL, .ref rX, .ref qR, .ref qB, .ref qP, .int qnb, .int qnp, .ref aR, .ref aB, .ref aP, .int nb, .int np, .ref aN, .ref rf, .int ho, .int br, .ref aK, .int ac, .long dw, .ref aE, .int sr, .int sf, .ref aA, .ref aH, .ref aI, .int hi])), (tB, .inl (cI, 240, .inl fB)), (rC, .inl (cI, 2600, .inl fC)), (rV, .inl (cI, 2600, .inl fV)), (rD, .inl (cI, 5, .inl fD))] sz)) 0 0 (va_A [(h0, .inr (11, [.int th, .ref tB, .int tsz, .int tat, .int (-1), .int dp, .ref rC, .ref rV, .ref rD, .ref rK, .ref rT, .ref rS, .ref rU, .int lw, .int tx, .ref rL, .ref rX, .ref qR, .ref qB, .ref qP, .int qnb, .int qnp, .ref aR, .ref aB, .ref aP, .int nb, .int np, .ref aN, .ref rf, .int ho, .int br, .ref aK, .int ac, .long dw, .ref aE, .int sr, .int sf, .ref aA, .ref aH, .ref aI, .int hi])), (tB, .inl (cI, 240, .inl fB)), (rC, .inl (cI, 2600, .inl fC)), (rV, .inl (cI, 2600, .inl fV)), (rD, .inl (cI, 5, .inl fD))] sz)
def zQ_X11_compare (l : Launch) (K fr lo : Nat) : Prop := ∀ (dC : Nat → ClassId) (dI : Nat → Nat → Nat) (cI cJ : ClassId) (h0 : Nat) (th : Int32) (tB : Nat) (tsz : Int32) (tat : Int32) (dp : Int32) (rC : Nat) (rV : Nat) (rD : Nat) (rK : Nat) (rT : Nat) (rS : Nat) (rU : Nat) (lw : Int32) (tx : Int32) (rL : Nat) (rX : Nat) (qR : Nat) (qB : Nat) (qP : Nat) (qnb : Int32) (qnp : Int32) (aR : Nat) (aB : Nat) (aP : Nat) (nb : Int32) (np : Int32) (aN : Nat) (rf : Nat) (ho : Int32) (br : Int32) (aK : Nat) (ac : Int32) (dw : Int64) (aE : Nat) (sr : Int32) (sf : Int32) (aA : Nat) (aH : Nat) (aI : Nat) (hi : Int32) (fB : Nat → Int32) (fC : Nat → Int32) (fV : Nat → Int32) (fD : Nat → Int32) (gC : Nat → Int32) (gV : Nat → Int32) (fz : Nat) (k : Nat) (st : Nat) (h : Nat) (sz : Nat) (n_ac : 0 ≤ ac.toInt ∧ ac.toInt ≤ 40) (n_dp : 0 ≤ dp.toInt ∧ dp.toInt ≤ 6) (n_hi : 0 ≤ hi.toInt ∧ hi.toInt ≤ 1) (n_ho : (-1) ≤ ho.toInt ∧ ho.toInt ≤ 3) (n_lw : 0 ≤ lw.toInt ∧ lw.toInt ≤ 4) (n_nb : 0 ≤ nb.toInt ∧ nb.toInt ≤ 6) (n_np : 0 ≤ np.toInt ∧ np.toInt ≤ 5) (n_qnb : 0 ≤ qnb.toInt ∧ qnb.toInt ≤ 6) (n_qnp : 0 ≤ qnp.toInt ∧ qnp.toInt ≤ 5) (n_tat : 0 ≤ tat.toInt ∧ tat.toInt ≤ 240) (n_tsz : 0 ≤ tsz.toInt ∧ tsz.toInt ≤ 240) (n_tx : 0 ≤ tx.toInt ∧ tx.toInt ≤ 4) (hpar : zPar (-1) tat fC fV fD tx gC gV fz (k) st (h + 1)) (hat : tat.toInt ≤ tsz.toInt) (hh : h + (2 * K + 4) ≤ 80) (hKd : dp.toInt = 6 - ((K : Nat) : Int)) (hK6 : K ≤ 6)  , Met l yX11_compare (.code yX11_compare cX11_compare 2 none :: wA) ({ frames := fr, cells := 0, slots := 0, locals := lo }) (zP (dC, dI) [(cI, .int), (cJ, .long)] [.ref h0] sz [(h0, .inr (11, [.int th, .ref tB, .int tsz, .int tat, .int (-1), .int dp, .ref rC, .ref rV, .ref rD, .ref rK, .ref rT, .ref rS, .ref rU, .int lw, .int tx, .ref rL, .ref rX, .ref qR, .ref qB, .ref qP, .int qnb, .int qnp, .ref aR, .ref aB, .ref aP, .int nb, .int np, .ref aN, .ref rf, .int ho, .int br, .ref aK, .int ac, .long dw, .ref aE, .int sr, .int sf, .ref aA, .ref aH, .ref aI, .int hi])), (tB, .inl (cI, 240, .inl fB)), (rC, .inl (cI, 2600, .inl fC)), (rV, .inl (cI, 2600, .inl fV)), (rD, .inl (cI, 5, .inl fD))]) (va_Qv (fun (u : Int32 × Int32 × Int32 × (Nat → Int32) × (Nat → Int32) × (Nat → Int32)) => (0 ≤ u.1.toInt) ∧ (u.1.toInt ≤ 246) ∧ ((-1) ≤ u.2.1.toInt) ∧ (u.2.1.toInt ≤ 260) ∧ (0 ≤ u.2.2.1.toInt) ∧ (u.2.2.1.toInt ≤ 7) ∧ (u.2.1.toInt = -1 → (u.1.toInt ≤ tsz.toInt ∧ u.2.2.1.toInt = 6 - ((K : Nat) : Int))) ∧ (tat.toInt ≤ u.1.toInt) ∧ (u.1.toInt ≤ 240 + ((K : Nat) : Int) ∧ 6 - ((K : Nat) : Int) ≤ u.2.2.1.toInt ∧ u.2.2.1.toInt ≤ 7 - ((K : Nat) : Int)) ∧ (zW (sCmp (sB fB tsz.toInt) tsz.toInt (sSum (sB fB tsz.toInt) tsz.toInt K) tat.toInt) u.2.1 u.1) ∧ (u.2.1.toInt = -1 → zEr fC fV (520 * tx.toInt.toNat) (fD tx.toInt.toNat).toInt (eCmp (sB fB tsz.toInt) tsz.toInt (eSum (sB fB tsz.toInt) tsz.toInt K) tat.toInt) u.2.2.2.1 u.2.2.2.2.1 (u.2.2.2.2.2 tx.toInt.toNat).toInt) ∧ (zPar u.2.1 u.1 u.2.2.2.1 u.2.2.2.2.1 u.2.2.2.2.2 tx gC gV fz (k) st (h + 1))) (fun (u : Int32 × Int32 × Int32 × (Nat → Int32) × (Nat → Int32) × (Nat → Int32)) (t : State) => va_P (dC, dI) vwCl [(h0, .inr (11, [.int th, .ref tB, .int tsz, .int u.1, .int u.2.1, .int u.2.2.1, .ref rC, .ref rV, .ref rD, .ref rK, .ref rT, .ref rS, .ref rU, .int lw, .int tx, .ref rL, .ref rX, .ref qR, .ref qB, .ref qP, .int qnb, .int qnp, .ref aR, .ref aB, .ref aP, .int nb, .int np, .ref aN, .ref rf, .int ho, .int br, .ref aK, .int ac, .long dw, .ref aE, .int sr, .int sf, .ref aA, .ref aH, .ref aI, .int hi])), (tB, .inl (cI, 240, .inl fB)), (rC, .inl (cI, 2600, .inl u.2.2.2.1)), (rV, .inl (cI, 2600, .inl u.2.2.2.2.1)), (rD, .inl (cI, 5, .inl u.2.2.2.2.2))] t.heap ∧ va_D (va_A [(h0, .inr (11, [.int th, .ref tB, .int tsz, .int tat, .int (-1), .int dp, .ref rC, .ref rV, .ref rD, .ref rK, .ref rT, .ref rS, .ref rU, .int lw, .int tx, .ref rL, .ref rX, .ref qR, .ref qB, .ref qP, .int qnb, .int qnp, .ref aR, .ref aB, .ref aP, .int nb, .int np, .ref aN, .ref rf, .int ho, .int br, .ref aK, .int ac, .long dw, .ref aE, .int sr, .int sf, .ref aA, .ref aH, .ref aI, .int hi])), (tB, .inl (cI, 240, .inl fB)), (rC, .inl (cI, 2600, .inl fC)), (rV, .inl (cI, 2600, .inl fV)), (rD, .inl (cI, 5, .inl fD))] sz) [(h0, .inr (11, [.int th, .ref tB, .int tsz, .int u.1, .int u.2.1, .int u.2.2.1, .ref rC, .ref rV, .ref rD, .ref rK, .ref rT, .ref rS, .ref rU, .int lw, .int tx, .ref rL, .ref rX, .ref qR, .ref qB, .ref qP, .int qnb, .int qnp, .ref aR, .ref aB, .ref aP, .int nb, .int np, .ref aN, .ref rf, .int ho, .int br, .ref aK, .int ac, .long dw, .ref aE, .int sr, .int sf, .ref aA, .ref aH, .ref aI, .int hi])), (tB, .inl (cI, 240, .inl fB)), (rC, .inl (cI, 2600, .inl u.2.2.2.1)), (rV, .inl (cI, 2600, .inl u.2.2.2.2.1)), (rD, .inl (cI, 5, .inl u.2.2.2.2.2))]) (va_A [(h0, .inr (11, [.int th, .ref tB, .int tsz, .int tat, .int (-1), .int dp, .ref rC, .ref rV, .ref rD, .ref rK, .ref rT, .ref rS, .ref rU, .int lw, .int tx, .ref rL, .ref rX, .ref qR, .ref qB, .ref qP, .int qnb, .int qnp, .ref aR, .ref aB, .ref aP, .int nb, .int np, .ref aN, .ref rf, .int ho, .int br, .ref aK, .int ac, .long dw, .ref aE, .int sr, .int sf, .ref aA, .ref aH, .ref aI, .int hi])), (tB, .inl (cI, 240, .inl fB)), (rC, .inl (cI, 2600, .inl fC)), (rV, .inl (cI, 2600, .inl fV)), (rD, .inl (cI, 5, .inl fD))] sz)) 0 0 (va_A [(h0, .inr (11, [.int th, .ref tB, .int tsz, .int tat, .int (-1), .int dp, .ref rC, .ref rV, .ref rD, .ref rK, .ref rT, .ref rS, .ref rU, .int lw, .int tx, .ref rL, .ref rX, .ref qR, .ref qB, .ref qP, .int qnb, .int qnp, .ref aR, .ref aB, .ref aP, .int nb, .int np, .ref aN, .ref rf, .int ho, .int br, .ref aK, .int ac, .long dw, .ref aE, .int sr, .int sf, .ref aA, .ref aH, .ref aI, .int hi])), (tB, .inl (cI, 240, .inl fB)), (rC, .inl (cI, 2600, .inl fC)), (rV, .inl (cI, 2600, .inl fV)), (rD, .inl (cI, 5, .inl fD))] sz)
def zQ_X11_unit (l : Launch) (K fr lo : Nat) : Prop := ∀ (dC : Nat → ClassId) (dI : Nat → Nat → Nat) (cI cJ : ClassId) (h0 : Nat) (th : Int32) (tB : Nat) (tsz : Int32) (tat : Int32) (dp : Int32) (rC : Nat) (rV : Nat) (rD : Nat) (rK : Nat) (rT : Nat) (rS : Nat) (rU : Nat) (lw : Int32) (tx : Int32) (rL : Nat) (rX : Nat) (qR : Nat) (qB : Nat) (qP : Nat) (qnb : Int32) (qnp : Int32) (aR : Nat) (aB : Nat) (aP : Nat) (nb : Int32) (np : Int32) (aN : Nat) (rf : Nat) (ho : Int32) (br : Int32) (aK : Nat) (ac : Int32) (dw : Int64) (aE : Nat) (sr : Int32) (sf : Int32) (aA : Nat) (aH : Nat) (aI : Nat) (hi : Int32) (fB : Nat → Int32) (fC : Nat → Int32) (fV : Nat → Int32) (fD : Nat → Int32) (gC : Nat → Int32) (gV : Nat → Int32) (fz : Nat) (k : Nat) (st : Nat) (h : Nat) (sz : Nat) (n_ac : 0 ≤ ac.toInt ∧ ac.toInt ≤ 40) (n_dp : 0 ≤ dp.toInt ∧ dp.toInt ≤ 6) (n_hi : 0 ≤ hi.toInt ∧ hi.toInt ≤ 1) (n_ho : (-1) ≤ ho.toInt ∧ ho.toInt ≤ 3) (n_lw : 0 ≤ lw.toInt ∧ lw.toInt ≤ 4) (n_nb : 0 ≤ nb.toInt ∧ nb.toInt ≤ 6) (n_np : 0 ≤ np.toInt ∧ np.toInt ≤ 5) (n_qnb : 0 ≤ qnb.toInt ∧ qnb.toInt ≤ 6) (n_qnp : 0 ≤ qnp.toInt ∧ qnp.toInt ≤ 5) (n_tat : 0 ≤ tat.toInt ∧ tat.toInt ≤ 240) (n_tsz : 0 ≤ tsz.toInt ∧ tsz.toInt ≤ 240) (n_tx : 0 ≤ tx.toInt ∧ tx.toInt ≤ 4) (hpar : zPar (-1) tat fC fV fD tx gC gV fz (k + 1) st (h)) (hat : tat.toInt ≤ tsz.toInt) (hh : h + (2 * K + 4) ≤ 80) (hKd : dp.toInt = 6 - ((K : Nat) : Int)) (hK6 : K ≤ 6)  , Met l yX11_unit (.code yX11_unit cX11_unit 2 none :: wA) ({ frames := fr, cells := 0, slots := 0, locals := lo }) (zP (dC, dI) [(cI, .int), (cJ, .long)] [.ref h0] sz [(h0, .inr (11, [.int th, .ref tB, .int tsz, .int tat, .int (-1), .int dp, .ref rC, .ref rV, .ref rD, .ref rK, .ref rT, .ref rS, .ref rU, .int lw, .int tx, .ref rL, .ref rX, .ref qR, .ref qB, .ref qP, .int qnb, .int qnp, .ref aR, .ref aB, .ref aP, .int nb, .int np, .ref aN, .ref rf, .int ho, .int br, .ref aK, .int ac, .long dw, .ref aE, .int sr, .int sf, .ref aA, .ref aH, .ref aI, .int hi])), (tB, .inl (cI, 240, .inl fB)), (rC, .inl (cI, 2600, .inl fC)), (rV, .inl (cI, 2600, .inl fV)), (rD, .inl (cI, 5, .inl fD))]) (va_Qv (fun (u : Int32 × Int32 × Int32 × (Nat → Int32) × (Nat → Int32) × (Nat → Int32)) => (0 ≤ u.1.toInt) ∧ (u.1.toInt ≤ 246) ∧ ((-1) ≤ u.2.1.toInt) ∧ (u.2.1.toInt ≤ 260) ∧ (0 ≤ u.2.2.1.toInt) ∧ (u.2.2.1.toInt ≤ 7) ∧ (u.2.1.toInt = -1 → (u.1.toInt ≤ tsz.toInt ∧ u.2.2.1.toInt = 6 - ((K : Nat) : Int))) ∧ (tat.toInt ≤ u.1.toInt) ∧ (u.1.toInt ≤ 240 + ((K : Nat) : Int) ∧ 6 - ((K : Nat) : Int) ≤ u.2.2.1.toInt ∧ u.2.2.1.toInt ≤ 7 - ((K : Nat) : Int)) ∧ (zW (sUn (sB fB tsz.toInt) tsz.toInt K tat.toInt) u.2.1 u.1) ∧ (u.2.1.toInt = -1 → zEr fC fV (520 * tx.toInt.toNat) (fD tx.toInt.toNat).toInt ((eUn (sB fB tsz.toInt) tsz.toInt K) tat.toInt) u.2.2.2.1 u.2.2.2.2.1 (u.2.2.2.2.2 tx.toInt.toNat).toInt) ∧ (zPar u.2.1 u.1 u.2.2.2.1 u.2.2.2.2.1 u.2.2.2.2.2 tx gC gV fz (k) st (h + 1))) (fun (u : Int32 × Int32 × Int32 × (Nat → Int32) × (Nat → Int32) × (Nat → Int32)) (t : State) => va_P (dC, dI) vwCl [(h0, .inr (11, [.int th, .ref tB, .int tsz, .int u.1, .int u.2.1, .int u.2.2.1, .ref rC, .ref rV, .ref rD, .ref rK, .ref rT, .ref rS, .ref rU, .int lw, .int tx, .ref rL, .ref rX, .ref qR, .ref qB, .ref qP, .int qnb, .int qnp, .ref aR, .ref aB, .ref aP, .int nb, .int np, .ref aN, .ref rf, .int ho, .int br, .ref aK, .int ac, .long dw, .ref aE, .int sr, .int sf, .ref aA, .ref aH, .ref aI, .int hi])), (tB, .inl (cI, 240, .inl fB)), (rC, .inl (cI, 2600, .inl u.2.2.2.1)), (rV, .inl (cI, 2600, .inl u.2.2.2.2.1)), (rD, .inl (cI, 5, .inl u.2.2.2.2.2))] t.heap ∧ va_D (va_A [(h0, .inr (11, [.int th, .ref tB, .int tsz, .int tat, .int (-1), .int dp, .ref rC, .ref rV, .ref rD, .ref rK, .ref rT, .ref rS, .ref rU, .int lw, .int tx, .ref rL, .ref rX, .ref qR, .ref qB, .ref qP, .int qnb, .int qnp, .ref aR, .ref aB, .ref aP, .int nb, .int np, .ref aN, .ref rf, .int ho, .int br, .ref aK, .int ac, .long dw, .ref aE, .int sr, .int sf, .ref aA, .ref aH, .ref aI, .int hi])), (tB, .inl (cI, 240, .inl fB)), (rC, .inl (cI, 2600, .inl fC)), (rV, .inl (cI, 2600, .inl fV)), (rD, .inl (cI, 5, .inl fD))] sz) [(h0, .inr (11, [.int th, .ref tB, .int tsz, .int u.1, .int u.2.1, .int u.2.2.1, .ref rC, .ref rV, .ref rD, .ref rK, .ref rT, .ref rS, .ref rU, .int lw, .int tx, .ref rL, .ref rX, .ref qR, .ref qB, .ref qP, .int qnb, .int qnp, .ref aR, .ref aB, .ref aP, .int nb, .int np, .ref aN, .ref rf, .int ho, .int br, .ref aK, .int ac, .long dw, .ref aE, .int sr, .int sf, .ref aA, .ref aH, .ref aI, .int hi])), (tB, .inl (cI, 240, .inl fB)), (rC, .inl (cI, 2600, .inl u.2.2.2.1)), (rV, .inl (cI, 2600, .inl u.2.2.2.2.1)), (rD, .inl (cI, 5, .inl u.2.2.2.2.2))]) (va_A [(h0, .inr (11, [.int th, .ref tB, .int tsz, .int tat, .int (-1), .int dp, .ref rC, .ref rV, .ref rD, .ref rK, .ref rT, .ref rS, .ref rU, .int lw, .int tx, .ref rL, .ref rX, .ref qR, .ref qB, .ref qP, .int qnb, .int qnp, .ref aR, .ref aB, .ref aP, .int nb, .int np, .ref aN, .ref rf, .int ho, .int br, .ref aK, .int ac, .long dw, .ref aE, .int sr, .int sf, .ref aA, .ref aH, .ref aI, .int hi])), (tB, .inl (cI, 240, .inl fB)), (rC, .inl (cI, 2600, .inl fC)), (rV, .inl (cI, 2600, .inl fV)), (rD, .inl (cI, 5, .inl fD))] sz)) 0 0 (va_A [(h0, .inr (11, [.int th, .ref tB, .int tsz, .int tat, .int (-1), .int dp, .ref rC, .ref rV, .ref rD, .ref rK, .ref rT, .ref rS, .ref rU, .int lw, .int tx, .ref rL, .ref rX, .ref qR, .ref qB, .ref qP, .int qnb, .int qnp, .ref aR, .ref aB, .ref aP, .int nb, .int np, .ref aN, .ref rf, .int ho, .int br, .ref aK, .int ac, .long dw, .ref aE, .int sr, .int sf, .ref aA, .ref aH, .ref aI, .int hi])), (tB, .inl (cI, 240, .inl fB)), (rC, .inl (cI, 2600, .inl fC)), (rV, .inl (cI, 2600, .inl fV)), (rD, .inl (cI, 5, .inl fD))] sz)
def zQ_X11_goOnAnd (l : Launch) (K fr lo : Nat) : Prop := ∀ (dC : Nat → ClassId) (dI : Nat → Nat → Nat) (cI cJ : ClassId) (h0 : Nat) (th : Int32) (tB : Nat) (tsz : Int32) (tat : Int32) (wr : Int32) (dp : Int32) (rC : Nat) (rV : Nat) (rD : Nat) (rK : Nat) (rT : Nat) (rS : Nat) (rU : Nat) (lw : Int32) (tx : Int32) (rL : Nat) (rX : Nat) (qR : Nat) (qB : Nat) (qP : Nat) (qnb : Int32) (qnp : Int32) (aR : Nat) (aB : Nat) (aP : Nat) (nb : Int32) (np : Int32) (aN : Nat) (rf : Nat) (ho : Int32) (br : Int32) (aK : Nat) (ac : Int32) (dw : Int64) (aE : Nat) (sr : Int32) (sf : Int32) (aA : Nat) (aH : Nat) (aI : Nat) (hi : Int32) (fB : Nat → Int32) (fC : Nat → Int32) (fV : Nat → Int32) (fD : Nat → Int32) (gC : Nat → Int32) (gV : Nat → Int32) (fz : Nat) (k : Nat) (st : Nat) (h : Nat) (sz : Nat) (n_ac : 0 ≤ ac.toInt ∧ ac.toInt ≤ 40) (n_dp : 0 ≤ dp.toInt ∧ dp.toInt ≤ 7) (n_hi : 0 ≤ hi.toInt ∧ hi.toInt ≤ 1) (n_ho : (-1) ≤ ho.toInt ∧ ho.toInt ≤ 3) (n_lw : 0 ≤ lw.toInt ∧ lw.toInt ≤ 4) (n_nb : 0 ≤ nb.toInt ∧ nb.toInt ≤ 6) (n_np : 0 ≤ np.toInt ∧ np.toInt ≤ 5) (n_qnb : 0 ≤ qnb.toInt ∧ qnb.toInt ≤ 6) (n_qnp : 0 ≤ qnp.toInt ∧ qnp.toInt ≤ 5) (n_tat : 0 ≤ tat.toInt ∧ tat.toInt ≤ 246) (n_tsz : 0 ≤ tsz.toInt ∧ tsz.toInt ≤ 240) (n_tx : 0 ≤ tx.toInt ∧ tx.toInt ≤ 4) (n_wr : (-1) ≤ wr.toInt ∧ wr.toInt ≤ 260) (hpar : zPar wr tat fC fV fD tx gC gV fz (k) st (h + 1)) (hdp : wr.toInt = -1 → (tat.toInt ≤ tsz.toInt ∧ dp.toInt = 6 - ((K : Nat) : Int))) (hdq : tat.toInt ≤ 240 + ((K : Nat) : Int) ∧ 6 - ((K : Nat) : Int) ≤ dp.toInt ∧ dp.toInt ≤ 7 - ((K : Nat) : Int)) (hh : h + (2 * K + 5) ≤ 80) (hK6 : K ≤ 6)  , Met l yX11_goOnAnd (.code yX11_goOnAnd cX11_goOnAnd 1 none :: wA) ({ frames := fr, cells := 0, slots := 0, locals := lo }) (zP (dC, dI) [(cI, .int), (cJ, .long)] [.ref h0] sz [(h0, .inr (11, [.int th, .ref tB, .int tsz, .int tat, .int wr, .int dp, .ref rC, .ref rV, .ref rD, .ref rK, .ref rT, .ref rS, .ref rU, .int lw, .int tx, .ref rL, .ref rX, .ref qR, .ref qB, .ref qP, .int qnb, .int qnp, .ref aR, .ref aB, .ref aP, .int nb, .int np, .ref aN, .ref rf, .int ho, .int br, .ref aK, .int ac, .long dw, .ref aE, .int sr, .int sf, .ref aA, .ref aH, .ref aI, .int hi])), (tB, .inl (cI, 240, .inl fB)), (rC, .inl (cI, 2600, .inl fC)), (rV, .inl (cI, 2600, .inl fV)), (rD, .inl (cI, 5, .inl fD))]) (va_Qv (fun (u : Int32 × Int32 × Int32 × (Nat → Int32) × (Nat → Int32) × (Nat → Int32)) => (0 ≤ u.1.toInt) ∧ (u.1.toInt ≤ 246) ∧ ((-1) ≤ u.2.1.toInt) ∧ (u.2.1.toInt ≤ 260) ∧ (0 ≤ u.2.2.1.toInt) ∧ (u.2.2.1.toInt ≤ 7) ∧ (u.2.1.toInt = -1 → (u.1.toInt ≤ tsz.toInt ∧ u.2.2.1.toInt = 6 - ((K : Nat) : Int))) ∧ (tat.toInt ≤ u.1.toInt) ∧ (u.1.toInt ≤ 240 + ((K : Nat) : Int) ∧ 6 - ((K : Nat) : Int) ≤ u.2.2.1.toInt ∧ u.2.2.1.toInt ≤ 7 - ((K : Nat) : Int)) ∧ (∀ x : Int × Int, zW x wr tat → zW (sGl (sB fB tsz.toInt) tsz.toInt oD (sUn (sB fB tsz.toInt) tsz.toInt K) x) u.2.1 u.1) ∧ (u.2.1.toInt = -1 → zEr fC fV (520 * tx.toInt.toNat) (fD tx.toInt.toNat).toInt (eL (sB fB tsz.toInt) tsz.toInt oD (sUn (sB fB tsz.toInt) tsz.toInt K) (eUn (sB fB tsz.toInt) tsz.toInt K) (sk (sB fB tsz.toInt) tsz.toInt tat.toInt)) u.2.2.2.1 u.2.2.2.2.1 (u.2.2.2.2.2 tx.toInt.toNat).toInt) ∧ (zPar u.2.1 u.1 u.2.2.2.1 u.2.2.2.2.1 u.2.2.2.2.2 tx gC gV fz (k) st (h + 1))) (fun (u : Int32 × Int32 × Int32 × (Nat → Int32) × (Nat → Int32) × (Nat → Int32)) (t : State) => va_P (dC, dI) vwCl [(h0, .inr (11, [.int th, .ref tB, .int tsz, .int u.1, .int u.2.1, .int u.2.2.1, .ref rC, .ref rV, .ref rD, .ref rK, .ref rT, .ref rS, .ref rU, .int lw, .int tx, .ref rL, .ref rX, .ref qR, .ref qB, .ref qP, .int qnb, .int qnp, .ref aR, .ref aB, .ref aP, .int nb, .int np, .ref aN, .ref rf, .int ho, .int br, .ref aK, .int ac, .long dw, .ref aE, .int sr, .int sf, .ref aA, .ref aH, .ref aI, .int hi])), (tB, .inl (cI, 240, .inl fB)), (rC, .inl (cI, 2600, .inl u.2.2.2.1)), (rV, .inl (cI, 2600, .inl u.2.2.2.2.1)), (rD, .inl (cI, 5, .inl u.2.2.2.2.2))] t.heap ∧ va_D (va_A [(h0, .inr (11, [.int th, .ref tB, .int tsz, .int tat, .int wr, .int dp, .ref rC, .ref rV, .ref rD, .ref rK, .ref rT, .ref rS, .ref rU, .int lw, .int tx, .ref rL, .ref rX, .ref qR, .ref qB, .ref qP, .int qnb, .int qnp, .ref aR, .ref aB, .ref aP, .int nb, .int np, .ref aN, .ref rf, .int ho, .int br, .ref aK, .int ac, .long dw, .ref aE, .int sr, .int sf, .ref aA, .ref aH, .ref aI, .int hi])), (tB, .inl (cI, 240, .inl fB)), (rC, .inl (cI, 2600, .inl fC)), (rV, .inl (cI, 2600, .inl fV)), (rD, .inl (cI, 5, .inl fD))] sz) [(h0, .inr (11, [.int th, .ref tB, .int tsz, .int u.1, .int u.2.1, .int u.2.2.1, .ref rC, .ref rV, .ref rD, .ref rK, .ref rT, .ref rS, .ref rU, .int lw, .int tx, .ref rL, .ref rX, .ref qR, .ref qB, .ref qP, .int qnb, .int qnp, .ref aR, .ref aB, .ref aP, .int nb, .int np, .ref aN, .ref rf, .int ho, .int br, .ref aK, .int ac, .long dw, .ref aE, .int sr, .int sf, .ref aA, .ref aH, .ref aI, .int hi])), (tB, .inl (cI, 240, .inl fB)), (rC, .inl (cI, 2600, .inl u.2.2.2.1)), (rV, .inl (cI, 2600, .inl u.2.2.2.2.1)), (rD, .inl (cI, 5, .inl u.2.2.2.2.2))]) (va_A [(h0, .inr (11, [.int th, .ref tB, .int tsz, .int tat, .int wr, .int dp, .ref rC, .ref rV, .ref rD, .ref rK, .ref rT, .ref rS, .ref rU, .int lw, .int tx, .ref rL, .ref rX, .ref qR, .ref qB, .ref qP, .int qnb, .int qnp, .ref aR, .ref aB, .ref aP, .int nb, .int np, .ref aN, .ref rf, .int ho, .int br, .ref aK, .int ac, .long dw, .ref aE, .int sr, .int sf, .ref aA, .ref aH, .ref aI, .int hi])), (tB, .inl (cI, 240, .inl fB)), (rC, .inl (cI, 2600, .inl fC)), (rV, .inl (cI, 2600, .inl fV)), (rD, .inl (cI, 5, .inl fD))] sz)) 0 0 (va_A [(h0, .inr (11, [.int th, .ref tB, .int tsz, .int tat, .int wr, .int dp, .ref rC, .ref rV, .ref rD, .ref rK, .ref rT, .ref rS, .ref rU, .int lw, .int tx, .ref rL, .ref rX, .ref qR, .ref qB, .ref qP, .int qnb, .int qnp, .ref aR, .ref aB, .ref aP, .int nb, .int np, .ref aN, .ref rf, .int ho, .int br, .ref aK, .int ac, .long dw, .ref aE, .int sr, .int sf, .ref aA, .ref aH, .ref aI, .int hi])), (tB, .inl (cI, 240, .inl fB)), (rC, .inl (cI, 2600, .inl fC)), (rV, .inl (cI, 2600, .inl fV)), (rD, .inl (cI, 5, .inl fD))] sz)
def zQ_X11_goOnOr (l : Launch) (K fr lo : Nat) : Prop := ∀ (dC : Nat → ClassId) (dI : Nat → Nat → Nat) (cI cJ : ClassId) (h0 : Nat) (th : Int32) (tB : Nat) (tsz : Int32) (tat : Int32) (wr : Int32) (dp : Int32) (rC : Nat) (rV : Nat) (rD : Nat) (rK : Nat) (rT : Nat) (rS : Nat) (rU : Nat) (lw : Int32) (tx : Int32) (rL : Nat) (rX : Nat) (qR : Nat) (qB : Nat) (qP : Nat) (qnb : Int32) (qnp : Int32) (aR : Nat) (aB : Nat) (aP : Nat) (nb : Int32) (np : Int32) (aN : Nat) (rf : Nat) (ho : Int32) (br : Int32) (aK : Nat) (ac : Int32) (dw : Int64) (aE : Nat) (sr : Int32) (sf : Int32) (aA : Nat) (aH : Nat) (aI : Nat) (hi : Int32) (fB : Nat → Int32) (fC : Nat → Int32) (fV : Nat → Int32) (fD : Nat → Int32) (gC : Nat → Int32) (gV : Nat → Int32) (fz : Nat) (k : Nat) (st : Nat) (h : Nat) (sz : Nat) (n_ac : 0 ≤ ac.toInt ∧ ac.toInt ≤ 40) (n_dp : 0 ≤ dp.toInt ∧ dp.toInt ≤ 7) (n_hi : 0 ≤ hi.toInt ∧ hi.toInt ≤ 1) (n_ho : (-1) ≤ ho.toInt ∧ ho.toInt ≤ 3) (n_lw : 0 ≤ lw.toInt ∧ lw.toInt ≤ 4) (n_nb : 0 ≤ nb.toInt ∧ nb.toInt ≤ 6) (n_np : 0 ≤ np.toInt ∧ np.toInt ≤ 5) (n_qnb : 0 ≤ qnb.toInt ∧ qnb.toInt ≤ 6) (n_qnp : 0 ≤ qnp.toInt ∧ qnp.toInt ≤ 5) (n_tat : 0 ≤ tat.toInt ∧ tat.toInt ≤ 246) (n_tsz : 0 ≤ tsz.toInt ∧ tsz.toInt ≤ 240) (n_tx : 0 ≤ tx.toInt ∧ tx.toInt ≤ 4) (n_wr : (-1) ≤ wr.toInt ∧ wr.toInt ≤ 260) (hpar : zPar wr tat fC fV fD tx gC gV fz (k) st (h + 1)) (hdp : wr.toInt = -1 → (tat.toInt ≤ tsz.toInt ∧ dp.toInt = 6 - ((K : Nat) : Int))) (hdq : tat.toInt ≤ 240 + ((K : Nat) : Int) ∧ 6 - ((K : Nat) : Int) ≤ dp.toInt ∧ dp.toInt ≤ 7 - ((K : Nat) : Int)) (hh : h + (2 * K + 6) ≤ 80) (hK6 : K ≤ 6)  , Met l yX11_goOnOr (.code yX11_goOnOr cX11_goOnOr 1 none :: wA) ({ frames := fr, cells := 0, slots := 0, locals := lo }) (zP (dC, dI) [(cI, .int), (cJ, .long)] [.ref h0] sz [(h0, .inr (11, [.int th, .ref tB, .int tsz, .int tat, .int wr, .int dp, .ref rC, .ref rV, .ref rD, .ref rK, .ref rT, .ref rS, .ref rU, .int lw, .int tx, .ref rL, .ref rX, .ref qR, .ref qB, .ref qP, .int qnb, .int qnp, .ref aR, .ref aB, .ref aP, .int nb, .int np, .ref aN, .ref rf, .int ho, .int br, .ref aK, .int ac, .long dw, .ref aE, .int sr, .int sf, .ref aA, .ref aH, .ref aI, .int hi])), (tB, .inl (cI, 240, .inl fB)), (rC, .inl (cI, 2600, .inl fC)), (rV, .inl (cI, 2600, .inl fV)), (rD, .inl (cI, 5, .inl fD))]) (va_Qv (fun (u : Int32 × Int32 × Int32 × (Nat → Int32) × (Nat → Int32) × (Nat → Int32)) => (0 ≤ u.1.toInt) ∧ (u.1.toInt ≤ 246) ∧ ((-1) ≤ u.2.1.toInt) ∧ (u.2.1.toInt ≤ 260) ∧ (0 ≤ u.2.2.1.toInt) ∧ (u.2.2.1.toInt ≤ 7) ∧ (u.2.1.toInt = -1 → (u.1.toInt ≤ tsz.toInt ∧ u.2.2.1.toInt = 6 - ((K : Nat) : Int))) ∧ (tat.toInt ≤ u.1.toInt) ∧ (u.1.toInt ≤ 240 + ((K : Nat) : Int) ∧ 6 - ((K : Nat) : Int) ≤ u.2.2.1.toInt ∧ u.2.2.1.toInt ≤ 7 - ((K : Nat) : Int)) ∧ (∀ x : Int × Int, zW x wr tat → zW (sGl (sB fB tsz.toInt) tsz.toInt oO (sTm (sB fB tsz.toInt) tsz.toInt oD (sUn (sB fB tsz.toInt) tsz.toInt K)) x) u.2.1 u.1) ∧ (u.2.1.toInt = -1 → zEr fC fV (520 * tx.toInt.toNat) (fD tx.toInt.toNat).toInt (eL (sB fB tsz.toInt) tsz.toInt oO (sTm (sB fB tsz.toInt) tsz.toInt oD (sUn (sB fB tsz.toInt) tsz.toInt K)) (eTm (sB fB tsz.toInt) tsz.toInt oD (sUn (sB fB tsz.toInt) tsz.toInt K) (eUn (sB fB tsz.toInt) tsz.toInt K)) (sk (sB fB tsz.toInt) tsz.toInt tat.toInt)) u.2.2.2.1 u.2.2.2.2.1 (u.2.2.2.2.2 tx.toInt.toNat).toInt) ∧ (zPar u.2.1 u.1 u.2.2.2.1 u.2.2.2.2.1 u.2.2.2.2.2 tx gC gV fz (k) st (h + 1))) (fun (u : Int32 × Int32 × Int32 × (Nat → Int32) × (Nat → Int32) × (Nat → Int32)) (t : State) => va_P (dC, dI) vwCl [(h0, .inr (11, [.int th, .ref tB, .int tsz, .int u.1, .int u.2.1, .int u.2.2.1, .ref rC, .ref rV, .ref rD, .ref rK, .ref rT, .ref rS, .ref rU, .int lw, .int tx, .ref rL, .ref rX, .ref qR, .ref qB, .ref qP, .int qnb, .int qnp, .ref aR, .ref aB, .ref aP, .int nb, .int np, .ref aN, .ref rf, .int ho, .int br, .ref aK, .int ac, .long dw, .ref aE, .int sr, .int sf, .ref aA, .ref aH, .ref aI, .int hi])), (tB, .inl (cI, 240, .inl fB)), (rC, .inl (cI, 2600, .inl u.2.2.2.1)), (rV, .inl (cI, 2600, .inl u.2.2.2.2.1)), (rD, .inl (cI, 5, .inl u.2.2.2.2.2))] t.heap ∧ va_D (va_A [(h0, .inr (11, [.int th, .ref tB, .int tsz, .int tat, .int wr, .int dp, .ref rC, .ref rV, .ref rD, .ref rK, .ref rT, .ref rS, .ref rU, .int lw, .int tx, .ref rL, .ref rX, .ref qR, .ref qB, .ref qP, .int qnb, .int qnp, .ref aR, .ref aB, .ref aP, .int nb, .int np, .ref aN, .ref rf, .int ho, .int br, .ref aK, .int ac, .long dw, .ref aE, .int sr, .int sf, .ref aA, .ref aH, .ref aI, .int hi])), (tB, .inl (cI, 240, .inl fB)), (rC, .inl (cI, 2600, .inl fC)), (rV, .inl (cI, 2600, .inl fV)), (rD, .inl (cI, 5, .inl fD))] sz) [(h0, .inr (11, [.int th, .ref tB, .int tsz, .int u.1, .int u.2.1, .int u.2.2.1, .ref rC, .ref rV, .ref rD, .ref rK, .ref rT, .ref rS, .ref rU, .int lw, .int tx, .ref rL, .ref rX, .ref qR, .ref qB, .ref qP, .int qnb, .int qnp, .ref aR, .ref aB, .ref aP, .int nb, .int np, .ref aN, .ref rf, .int ho, .int br, .ref aK, .int ac, .long dw, .ref aE, .int sr, .int sf, .ref aA, .ref aH, .ref aI, .int hi])), (tB, .inl (cI, 240, .inl fB)), (rC, .inl (cI, 2600, .inl u.2.2.2.1)), (rV, .inl (cI, 2600, .inl u.2.2.2.2.1)), (rD, .inl (cI, 5, .inl u.2.2.2.2.2))]) (va_A [(h0, .inr (11, [.int th, .ref tB, .int tsz, .int tat, .int wr, .int dp, .ref rC, .ref rV, .ref rD, .ref rK, .ref rT, .ref rS, .ref rU, .int lw, .int tx, .ref rL, .ref rX, .ref qR, .ref qB, .ref qP, .int qnb, .int qnp, .ref aR, .ref aB, .ref aP, .int nb, .int np, .ref aN, .ref rf, .int ho, .int br, .ref aK, .int ac, .long dw, .ref aE, .int sr, .int sf, .ref aA, .ref aH, .ref aI, .int hi])), (tB, .inl (cI, 240, .inl fB)), (rC, .inl (cI, 2600, .inl fC)), (rV, .inl (cI, 2600, .inl fV)), (rD, .inl (cI, 5, .inl fD))] sz)) 0 0 (va_A [(h0, .inr (11, [.int th, .ref tB, .int tsz, .int tat, .int wr, .int dp, .ref rC, .ref rV, .ref rD, .ref rK, .ref rT, .ref rS, .ref rU, .int lw, .int tx, .ref rL, .ref rX, .ref qR, .ref qB, .ref qP, .int qnb, .int qnp, .ref aR, .ref aB, .ref aP, .int nb, .int np, .ref aN, .ref rf, .int ho, .int br, .ref aK, .int ac, .long dw, .ref aE, .int sr, .int sf, .ref aA, .ref aH, .ref aI, .int hi])), (tB, .inl (cI, 240, .inl fB)), (rC, .inl (cI, 2600, .inl fC)), (rV, .inl (cI, 2600, .inl fV)), (rD, .inl (cI, 5, .inl fD))] sz)
def zQ_X11_condition (l : Launch) (K fr lo : Nat) : Prop := ∀ (dC : Nat → ClassId) (dI : Nat → Nat → Nat) (cI cJ : ClassId) (h0 : Nat) (th : Int32) (tB : Nat) (tsz : Int32) (tat : Int32) (dp : Int32) (rC : Nat) (rV : Nat) (rD : Nat) (rK : Nat) (rT : Nat) (rS : Nat) (rU : Nat) (lw : Int32) (tx : Int32) (rL : Nat) (rX : Nat) (qR : Nat) (qB : Nat) (qP : Nat) (qnb : Int32) (qnp : Int32) (aR : Nat) (aB : Nat) (aP : Nat) (nb : Int32) (np : Int32) (aN : Nat) (rf : Nat) (ho : Int32) (br : Int32) (aK : Nat) (ac : Int32) (dw : Int64) (aE : Nat) (sr : Int32) (sf : Int32) (aA : Nat) (aH : Nat) (aI : Nat) (hi : Int32) (fB : Nat → Int32) (fC : Nat → Int32) (fV : Nat → Int32) (fD : Nat → Int32) (gC : Nat → Int32) (gV : Nat → Int32) (fz : Nat) (k : Nat) (st : Nat) (h : Nat) (sz : Nat) (n_ac : 0 ≤ ac.toInt ∧ ac.toInt ≤ 40) (n_dp : 0 ≤ dp.toInt ∧ dp.toInt ≤ 6) (n_hi : 0 ≤ hi.toInt ∧ hi.toInt ≤ 1) (n_ho : (-1) ≤ ho.toInt ∧ ho.toInt ≤ 3) (n_lw : 0 ≤ lw.toInt ∧ lw.toInt ≤ 4) (n_nb : 0 ≤ nb.toInt ∧ nb.toInt ≤ 6) (n_np : 0 ≤ np.toInt ∧ np.toInt ≤ 5) (n_qnb : 0 ≤ qnb.toInt ∧ qnb.toInt ≤ 6) (n_qnp : 0 ≤ qnp.toInt ∧ qnp.toInt ≤ 5) (n_tat : 0 ≤ tat.toInt ∧ tat.toInt ≤ 240) (n_tsz : 0 ≤ tsz.toInt ∧ tsz.toInt ≤ 240) (n_tx : 0 ≤ tx.toInt ∧ tx.toInt ≤ 4) (hpar : zPar (-1) tat fC fV fD tx gC gV fz (k + 1) st (h)) (hat : tat.toInt ≤ tsz.toInt) (hh : h + (2 * K + 6) ≤ 80) (hKd : dp.toInt = 6 - ((K : Nat) : Int)) (hK6 : K ≤ 6)  , Met l yX11_condition (.code yX11_condition cX11_condition 1 none :: wA) ({ frames := fr, cells := 0, slots := 0, locals := lo }) (zP (dC, dI) [(cI, .int), (cJ, .long)] [.ref h0] sz [(h0, .inr (11, [.int th, .ref tB, .int tsz, .int tat, .int (-1), .int dp, .ref rC, .ref rV, .ref rD, .ref rK, .ref rT, .ref rS, .ref rU, .int lw, .int tx, .ref rL, .ref rX, .ref qR, .ref qB, .ref qP, .int qnb, .int qnp, .ref aR, .ref aB, .ref aP, .int nb, .int np, .ref aN, .ref rf, .int ho, .int br, .ref aK, .int ac, .long dw, .ref aE, .int sr, .int sf, .ref aA, .ref aH, .ref aI, .int hi])), (tB, .inl (cI, 240, .inl fB)), (rC, .inl (cI, 2600, .inl fC)), (rV, .inl (cI, 2600, .inl fV)), (rD, .inl (cI, 5, .inl fD))]) (va_Qv (fun (u : Int32 × Int32 × Int32 × (Nat → Int32) × (Nat → Int32) × (Nat → Int32)) => (0 ≤ u.1.toInt) ∧ (u.1.toInt ≤ 246) ∧ ((-1) ≤ u.2.1.toInt) ∧ (u.2.1.toInt ≤ 260) ∧ (0 ≤ u.2.2.1.toInt) ∧ (u.2.2.1.toInt ≤ 7) ∧ (u.2.1.toInt = -1 → (u.1.toInt ≤ tsz.toInt ∧ u.2.2.1.toInt = 6 - ((K : Nat) : Int))) ∧ (tat.toInt ≤ u.1.toInt) ∧ (u.1.toInt ≤ 240 + ((K : Nat) : Int) ∧ 6 - ((K : Nat) : Int) ≤ u.2.2.1.toInt ∧ u.2.2.1.toInt ≤ 7 - ((K : Nat) : Int)) ∧ (zW (sCon (sB fB tsz.toInt) tsz.toInt K tat.toInt) u.2.1 u.1) ∧ (u.2.1.toInt = -1 → zEr fC fV (520 * tx.toInt.toNat) (fD tx.toInt.toNat).toInt (eCon (sB fB tsz.toInt) tsz.toInt K tat.toInt) u.2.2.2.1 u.2.2.2.2.1 (u.2.2.2.2.2 tx.toInt.toNat).toInt) ∧ (zPar u.2.1 u.1 u.2.2.2.1 u.2.2.2.2.1 u.2.2.2.2.2 tx gC gV fz (k) st (h + 1))) (fun (u : Int32 × Int32 × Int32 × (Nat → Int32) × (Nat → Int32) × (Nat → Int32)) (t : State) => va_P (dC, dI) vwCl [(h0, .inr (11, [.int th, .ref tB, .int tsz, .int u.1, .int u.2.1, .int u.2.2.1, .ref rC, .ref rV, .ref rD, .ref rK, .ref rT, .ref rS, .ref rU, .int lw, .int tx, .ref rL, .ref rX, .ref qR, .ref qB, .ref qP, .int qnb, .int qnp, .ref aR, .ref aB, .ref aP, .int nb, .int np, .ref aN, .ref rf, .int ho, .int br, .ref aK, .int ac, .long dw, .ref aE, .int sr, .int sf, .ref aA, .ref aH, .ref aI, .int hi])), (tB, .inl (cI, 240, .inl fB)), (rC, .inl (cI, 2600, .inl u.2.2.2.1)), (rV, .inl (cI, 2600, .inl u.2.2.2.2.1)), (rD, .inl (cI, 5, .inl u.2.2.2.2.2))] t.heap ∧ va_D (va_A [(h0, .inr (11, [.int th, .ref tB, .int tsz, .int tat, .int (-1), .int dp, .ref rC, .ref rV, .ref rD, .ref rK, .ref rT, .ref rS, .ref rU, .int lw, .int tx, .ref rL, .ref rX, .ref qR, .ref qB, .ref qP, .int qnb, .int qnp, .ref aR, .ref aB, .ref aP, .int nb, .int np, .ref aN, .ref rf, .int ho, .int br, .ref aK, .int ac, .long dw, .ref aE, .int sr, .int sf, .ref aA, .ref aH, .ref aI, .int hi])), (tB, .inl (cI, 240, .inl fB)), (rC, .inl (cI, 2600, .inl fC)), (rV, .inl (cI, 2600, .inl fV)), (rD, .inl (cI, 5, .inl fD))] sz) [(h0, .inr (11, [.int th, .ref tB, .int tsz, .int u.1, .int u.2.1, .int u.2.2.1, .ref rC, .ref rV, .ref rD, .ref rK, .ref rT, .ref rS, .ref rU, .int lw, .int tx, .ref rL, .ref rX, .ref qR, .ref qB, .ref qP, .int qnb, .int qnp, .ref aR, .ref aB, .ref aP, .int nb, .int np, .ref aN, .ref rf, .int ho, .int br, .ref aK, .int ac, .long dw, .ref aE, .int sr, .int sf, .ref aA, .ref aH, .ref aI, .int hi])), (tB, .inl (cI, 240, .inl fB)), (rC, .inl (cI, 2600, .inl u.2.2.2.1)), (rV, .inl (cI, 2600, .inl u.2.2.2.2.1)), (rD, .inl (cI, 5, .inl u.2.2.2.2.2))]) (va_A [(h0, .inr (11, [.int th, .ref tB, .int tsz, .int tat, .int (-1), .int dp, .ref rC, .ref rV, .ref rD, .ref rK, .ref rT, .ref rS, .ref rU, .int lw, .int tx, .ref rL, .ref rX, .ref qR, .ref qB, .ref qP, .int qnb, .int qnp, .ref aR, .ref aB, .ref aP, .int nb, .int np, .ref aN, .ref rf, .int ho, .int br, .ref aK, .int ac, .long dw, .ref aE, .int sr, .int sf, .ref aA, .ref aH, .ref aI, .int hi])), (tB, .inl (cI, 240, .inl fB)), (rC, .inl (cI, 2600, .inl fC)), (rV, .inl (cI, 2600, .inl fV)), (rD, .inl (cI, 5, .inl fD))] sz)) 0 0 (va_A [(h0, .inr (11, [.int th, .ref tB, .int tsz, .int tat, .int (-1), .int dp, .ref rC, .ref rV, .ref rD, .ref rK, .ref rT, .ref rS, .ref rU, .int lw, .int tx, .ref rL, .ref rX, .ref qR, .ref qB, .ref qP, .int qnb, .int qnp, .ref aR, .ref aB, .ref aP, .int nb, .int np, .ref aN, .ref rf, .int ho, .int br, .ref aK, .int ac, .long dw, .ref aE, .int sr, .int sf, .ref aA, .ref aH, .ref aI, .int hi])), (tB, .inl (cI, 240, .inl fB)), (rC, .inl (cI, 2600, .inl fC)), (rV, .inl (cI, 2600, .inl fV)), (rD, .inl (cI, 5, .inl fD))] sz)
set_option maxHeartbeats 4000000 in
set_option maxRecDepth 100000 in
theorem g_X11_term_k (l : Launch) (K fr lo : Nat) (ihA : zQ_X11_atom l K fr lo) (hfr : 1 ≤ fr) (hlo : 40 ≤ lo) : zQ_X11_term l K (fr + 1) (lo + 40) := by
  intro dC dI cI cJ h0 th tB tsz tat dp rC rV rD rK rT rS rU lw tx rL rX qR qB qP qnb qnp aR aB aP nb np aN rf ho br aK ac dw aE sr sf aA aH aI hi fB fC fV fD gC gV fz k st h sz n_ac n_dp n_hi n_ho n_lw n_nb n_np n_qnb n_qnp n_tat n_tsz n_tx hpar hat hh hKd hK6
  refine Met.ofW (cc := cX11_term) (maxL := 2) (ret := none) (by decide) rfl ?_
  intro p e s m args below meth c s₁ B hml hv
  obtain ⟨hargs, hsz, hP, hK, hT⟩ := hv
  have hx := B.exec
  have hb := B.bytes
  have hr := B.returns
  have hts : ∀ w ∈ wA, w.before args s = true := fun w h => atoms_spec (ws := .code yX11_term cX11_term 2 none :: wA) B.pre w (List.mem_cons_of_mem _ h)
  have hown : s.vm.findClass RX11 = some m.cls := findClass_of_methodNamed B.named
  have hlocks := B.notSynchronized
  subst hsz
  have hD := hT.self (sz := s.heap.size)
  generalize hAe : va_A [(h0, .inr (11, [.int th, .ref tB, .int tsz, .int tat, .int (-1), .int dp, .ref rC, .ref rV, .ref rD, .ref rK, .ref rT, .ref rS, .ref rU, .int lw, .int tx, .ref rL, .ref rX, .ref qR, .ref qB, .ref qP, .int qnb, .int qnp, .ref aR, .ref aB, .ref aP, .int nb, .int np, .ref aN, .ref rf, .int ho, .int br, .ref aK, .int ac, .long dw, .ref aE, .int sr, .int sf, .ref aA, .ref aH, .ref aI, .int hi])), (tB, .inl (cI, 240, .inl fB)), (rC, .inl (cI, 2600, .inl fC)), (rV, .inl (cI, 2600, .inl fV)), (rD, .inl (cI, 5, .inl fD))] s.heap.size = A at hD ⊢
  have hA : ∀ q : Nat, s.heap.size ≤ q → A q := fun q h => by rw [← hAe]; exact Or.inr h
  have hl := lv_entry ([.ref h0]) (n := 2) (Nat.le_of_ble_eq_true rfl)
  rw [show entryFrame m args 2 = entryFrame m ([.ref h0] : List Value).toArray 2 by rw [hargs], lg_entry_eq]
  generalize (lg_sl ([.ref h0]) ++ List.replicate (2 - (lg_sl ([.ref h0])).length) Slot.unset).toArray = ls at hl ⊢
  have hl : lv_has ls 2 [(0, .ref h0)] := hl
  refine zstart (fun H hH => ?_)
  rw [← hH] at hP
  have hS : va_S A s.heap H [] := by rw [hH]; exact va_S.rf
  generalize ([] : List Loc) = locs at hS ⊢
  refine zgen (fun R Q hR hQ => ?_)
  have hRf : R.frames = fr + 1 := by rw [hR]; rfl
  have hRl : R.locals = lo + 40 := by rw [hR]; rfl
  have zm1 : (-1 : Int32).toInt = -1 := by decide
  refine lv_aload_n hx hb dX11_term_0 rfl (lv_at hl 0 rfl) ?_
  obtain ⟨hPc, hDc, hFc⟩ := zc3 (wc := [(h0, .inr (11, [.int th, .ref tB, .int tsz, .int tat, .int (-1), .int dp, .ref rC, .ref rV, .ref rD, .ref rK, .ref rT, .ref rS, .ref rU, .int lw, .int tx, .ref rL, .ref rX, .ref qR, .ref qB, .ref qP, .int qnb, .int qnp, .ref aR, .ref aB, .ref aP, .int nb, .int np, .ref aN, .ref rf, .int ho, .int br, .ref aK, .int ac, .long dw, .ref aE, .int sr, .int sf, .ref aA, .ref aH, .ref aI, .int hi])), (tB, .inl (cI, 240, .inl fB)), (rC, .inl (cI, 2600, .inl fC)), (rV, .inl (cI, 2600, .inl fV)), (rD, .inl (cI, 5, .inl fD))]) hP hD hS hA [0, 1, 2, 3, 4] (by decide +kernel) rfl
  refine va_callv (va_runV (As := []) (rest := []) ⟨hx, hb, hml, hown, hts⟩ (ihA dC dI cI cJ h0 th tB tsz tat dp rC rV rD rK rT rS rU lw tx rL rX qR qB qP qnb qnp aR aB aP nb np aN rf ho br aK ac dw aE sr sf aA aH aI hi fB fC fV fD gC gV fz k st h H.size n_ac n_dp n_hi n_ho n_lw n_nb n_np n_qnb n_qnp n_tat n_tsz n_tx (by first | exact zPar_mono hpar (by omega) (by omega) (by omega) (by omega)) (by first | decide | omega) (by first | decide | omega) (by first | decide | omega) (by first | decide | omega)) (cwV 0 hts (zgV qw1348 qw1350 qw47 qw108 qw1351) rfl rfl rfl hd_X11_atom ⟨by (try dsimp only) <;> omega, by (try dsimp only) <;> omega⟩) (zPV hPc hK hDc (va_recv (q := (RX11, TX11, 41)) hK hP (ci := 11) (q0 := 0) rfl rfl)) rfl rfl hl.1 rfl (lv_room (Nat.le_of_ble_eq_true rfl)) dX11_term_1 ⟨Nat.zero_le _, Nat.zero_le _⟩) hS (fun q _ h => hFc q h) hFc (fun u1 t H locs ht hvm hw hB hz1 hk1 hS9 => ?_)
  obtain ⟨u1_0, u1_1, u1_2, u1_3, u1_4, u1_5⟩ := u1
  obtain ⟨hP9, hD9⟩ := zj2 (wX := [(h0, .inr (11, [.int th, .ref tB, .int tsz, .int u1_0, .int u1_1, .int u1_2, .ref rC, .ref rV, .ref rD, .ref rK, .ref rT, .ref rS, .ref rU, .int lw, .int tx, .ref rL, .ref rX, .ref qR, .ref qB, .ref qP, .int qnb, .int qnp, .ref aR, .ref aB, .ref aP, .int nb, .int np, .ref aN, .ref rf, .int ho, .int br, .ref aK, .int ac, .long dw, .ref aE, .int sr, .int sf, .ref aA, .ref aH, .ref aI, .int hi])), (tB, .inl (cI, 240, .inl fB)), (rC, .inl (cI, 2600, .inl u1_3)), (rV, .inl (cI, 2600, .inl u1_4)), (rD, .inl (cI, 5, .inl u1_5))]) hP hD hk1 hFc ht hB [0, 1, 2, 3, 4] [(true, 0), (true, 1), (true, 2), (true, 3), (true, 4)] rfl (by decide +kernel) (by decide +kernel) rfl
  clear hP hD hS hPc hDc hFc hB hk1 hz1 hvm
  have hP := hP9
  have hD := hD9
  have hS := hS9
  clear hP9 hD9 hS9
  obtain ⟨f1_0, f1_1, f1_2, f1_3, f1_4, f1_5, f1_6, f1_7, f1_8, f1_9, f1_10, f1_11⟩ : (0 ≤ u1_0.toInt) ∧ (u1_0.toInt ≤ 246) ∧ ((-1) ≤ u1_1.toInt) ∧ (u1_1.toInt ≤ 260) ∧ (0 ≤ u1_2.toInt) ∧ (u1_2.toInt ≤ 7) ∧ (u1_1.toInt = -1 → (u1_0.toInt ≤ tsz.toInt ∧ u1_2.toInt = 6 - ((K : Nat) : Int))) ∧ (tat.toInt ≤ u1_0.toInt) ∧ (u1_0.toInt ≤ 240 + ((K : Nat) : Int) ∧ 6 - ((K : Nat) : Int) ≤ u1_2.toInt ∧ u1_2.toInt ≤ 7 - ((K : Nat) : Int)) ∧ (zW (sAtm (sB fB tsz.toInt) tsz.toInt K tat.toInt) u1_1 u1_0) ∧ (u1_1.toInt = -1 → zEr fC fV (520 * tx.toInt.toNat) (fD tx.toInt.toNat).toInt (eAtm (sB fB tsz.toInt) tsz.toInt K tat.toInt) u1_3 u1_4 (u1_5 tx.toInt.toNat).toInt) ∧ (zPar u1_1 u1_0 u1_3 u1_4 u1_5 tx gC gV fz (k) st (h + 1)) := hw
  have F1 := f1_9
  have F1_1 : zHid (u1_1.toInt = -1 → zEr fC fV (520 * tx.toInt.toNat) (fD tx.toInt.toNat).toInt (eAtm (sB fB tsz.toInt) tsz.toInt K tat.toInt) u1_3 u1_4 (u1_5 tx.toInt.toNat).toInt) := f1_10
  clear f1_10
  refine lv_aload_n hx hb dX11_term_4 rfl (lv_at hl 0 rfl) ?_
  refine va_get (D := (dC, dI)) (ci := 11) (v := .int u1_1) (C := RX11) (T := TX11) (N := 41) hx hb hts iX11 hown hK hP 0 rfl rfl 4 (by decide) (hts _ qw1131) (fun _ h9 => h9) rfl dX11_term_5 ?_
  refine lv_iconst (v := (-1)) hx hb dX11_term_8 (by decide) ?_
  refine lv_icmp_ne (tgt := 19) hx hb dX11_term_9 (by decide) (fun c9 => ?_) (fun c9 => ?_)
  · have c9 : ¬ u1_1.toInt = (-1) := z6 rfl (by decide) c9
    refine lv_iconst (v := (-1)) hx hb dX11_term_19 (by decide) ?_
    have J21 : ∀ (n : Nat) (m21_A_rC : Nat → Int32) (m21_A_rD : Nat → Int32) (m21_A_rV : Nat → Int32) (m21_F_h0_3 : Int32) (m21_F_h0_4 : Int32) (m21_F_h0_5 : Int32) (m21_L_1 : Int32), (0 ≤ m21_F_h0_3.toInt ∧ m21_F_h0_3.toInt ≤ 246) → ((-1) ≤ m21_F_h0_4.toInt ∧ m21_F_h0_4.toInt ≤ 260) → (0 ≤ m21_F_h0_5.toInt ∧ m21_F_h0_5.toInt ≤ 7) → (¬ m21_L_1.toInt = -1 → (m21_F_h0_4.toInt = -1 ∧ m21_F_h0_3.toInt < tsz.toInt ∧ m21_F_h0_5.toInt = 6 - ((K : Nat) : Int))) → (m21_F_h0_4.toInt = -1 → (m21_F_h0_3.toInt ≤ tsz.toInt ∧ m21_F_h0_5.toInt = 6 - ((K : Nat) : Int))) → (tat.toInt ≤ m21_F_h0_3.toInt) → (m21_F_h0_3.toInt ≤ 240 + ((K : Nat) : Int) ∧ 6 - ((K : Nat) : Int) ≤ m21_F_h0_5.toInt ∧ m21_F_h0_5.toInt ≤ 7 - ((K : Nat) : Int)) → (zLp fB tsz (sTm (sB fB tsz.toInt) tsz.toInt oM (sAtm (sB fB tsz.toInt) tsz.toInt K) tat.toInt) oM (sAtm (sB fB tsz.toInt) tsz.toInt K) m21_F_h0_4 m21_F_h0_3 m21_L_1) → (zTe fB tsz oM (sAtm (sB fB tsz.toInt) tsz.toInt K) (eAtm (sB fB tsz.toInt) tsz.toInt K) (eTm (sB fB tsz.toInt) tsz.toInt oM (sAtm (sB fB tsz.toInt) tsz.toInt K) (eAtm (sB fB tsz.toInt) tsz.toInt K) tat.toInt) fC fV (520 * tx.toInt.toNat) (fD tx.toInt.toNat).toInt m21_A_rC m21_A_rV (m21_A_rD tx.toInt.toNat).toInt m21_F_h0_4 m21_F_h0_3) → (zPar m21_F_h0_4 m21_F_h0_3 m21_A_rC m21_A_rV m21_A_rD tx gC gV fz (k) st (h + 1)) → (300 - m21_F_h0_3.toInt).toNat = n → ∀ (H : Heap) (locs : List Loc) (ls : Array Slot), va_P (dC, dI) vwCl [(h0, .inr (11, [.int th, .ref tB, .int tsz, .int m21_F_h0_3, .int m21_F_h0_4, .int m21_F_h0_5, .ref rC, .ref rV, .ref rD, .ref rK, .ref rT, .ref rS, .ref rU, .int lw, .int tx, .ref rL, .ref rX, .ref qR, .ref qB, .ref qP, .int qnb, .int qnp, .ref aR, .ref aB, .ref aP, .int nb, .int np, .ref aN, .ref rf, .int ho, .int br, .ref aK, .int ac, .long dw, .ref aE, .int sr, .int sf, .ref aA, .ref aH, .ref aI, .int hi])), (tB, .inl (cI, 240, .inl fB)), (rC, .inl (cI, 2600, .inl m21_A_rC)), (rV, .inl (cI, 2600, .inl m21_A_rV)), (rD, .inl (cI, 5, .inl m21_A_rD))] H → va_D A [(h0, .inr (11, [.int th, .ref tB, .int tsz, .int m21_F_h0_3, .int m21_F_h0_4, .int m21_F_h0_5, .ref rC, .ref rV, .ref rD, .ref rK, .ref rT, .ref rS, .ref rU, .int lw, .int tx, .ref rL, .ref rX, .ref qR, .ref qB, .ref qP, .int qnb, .int qnp, .ref aR, .ref aB, .ref aP, .int nb, .int np, .ref aN, .ref rf, .int ho, .int br, .ref aK, .int ac, .long dw, .ref aE, .int sr, .int sf, .ref aA, .ref aH, .ref aI, .int hi])), (tB, .inl (cI, 240, .inl fB)), (rC, .inl (cI, 2600, .inl m21_A_rC)), (rV, .inl (cI, 2600, .inl m21_A_rV)), (rD, .inl (cI, 5, .inl m21_A_rD))] → va_S A s.heap H locs → lv_has ls 2 [(1, .int m21_L_1), (0, .ref h0)] → W p l e R s m args below meth c H locs 0 0 Q (F0 m 21 ls []) := by
      intro n21
      induction n21 using Nat.strongRecOn with
      | _ n21 ih21 =>
        intro m21_A_rC m21_A_rD m21_A_rV m21_F_h0_3 m21_F_h0_4 m21_F_h0_5 m21_L_1 jf21_0 jf21_1 jf21_2 jf21_3 jf21_4 jf21_5 jf21_6 jv21_0 jv21_1 jv21_2 hmu21 H locs ls hP hD hS hl
        refine lv_iload_n hx hb dX11_term_21 rfl (lv_at hl 0 rfl) ?_
        refine lv_bipush (v := 42) hx hb dX11_term_22 (by decide) ?_
        refine lv_icmp_eq (tgt := 33) hx hb dX11_term_24 (by decide) (fun c24 => ?_) (fun c24 => ?_)
        · have c24 : m21_L_1.toInt = 42 := z5 rfl (by decide) c24
          refine lv_aload_n hx hb dX11_term_33 rfl (lv_at hl 1 rfl) ?_
          refine lv_dup hx hb dX11_term_34 rfl ?_
          refine va_get (D := (dC, dI)) (ci := 11) (v := .int m21_F_h0_3) (C := RX11) (T := TX11) (N := 41) hx hb hts iX11 hown hK hP 0 rfl rfl 3 (by decide) (hts _ qw1130) (fun _ h9 => h9) rfl dX11_term_35 ?_
          refine lv_iconst (v := 1) hx hb dX11_term_38 (by decide) ?_
          refine lv_iadd hx hb dX11_term_39 ?_
          refine lv_topi (fun v39 e39 => ?_)
          have i39 : v39.toInt = m21_F_h0_3.toInt + 1 := zadd e39 rfl (by decide) (by omega) (by omega)
          refine va_put (D := (dC, dI)) (ci := 11) (v := .int v39) (ty := .int) (C := RX11) (T := TX11) (N := 41) hx hb hts iX11 tyX11 tyX11_ok nmX11 hown hK hP hD hS 0 rfl rfl 3 (by decide) (hts _ qw1130) (fun _ h9 => h9) rfl (by decide +kernel) rfl rfl (Nat.le_of_ble_eq_true rfl) dX11_term_40 (fun H locs hP9 hD9 hS9 => ?_)
          clear hP hD hS
          obtain ⟨hP, hD⟩ := zst (wX := [(h0, .inr (11, [.int th, .ref tB, .int tsz, .int v39, .int m21_F_h0_4, .int m21_F_h0_5, .ref rC, .ref rV, .ref rD, .ref rK, .ref rT, .ref rS, .ref rU, .int lw, .int tx, .ref rL, .ref rX, .ref qR, .ref qB, .ref qP, .int qnb, .int qnp, .ref aR, .ref aB, .ref aP, .int nb, .int np, .ref aN, .ref rf, .int ho, .int br, .ref aK, .int ac, .long dw, .ref aE, .int sr, .int sf, .ref aA, .ref aH, .ref aI, .int hi])), (tB, .inl (cI, 240, .inl fB)), (rC, .inl (cI, 2600, .inl m21_A_rC)), (rV, .inl (cI, 2600, .inl m21_A_rV)), (rD, .inl (cI, 5, .inl m21_A_rD))]) hP9 hD9 rfl
          have hS := hS9
          clear hP9 hD9 hS9
          refine lv_aload_n hx hb dX11_term_43 rfl (lv_at hl 1 rfl) ?_
          have zx_m21_F_h0_4 : ((-1) : Int32).toInt = (-1) := by decide
          have zy_m21_F_h0_4 : m21_F_h0_4 = (-1) := z7 (a := (-1)) (by decide) (by omega)
          rw [zy_m21_F_h0_4] at hP hD
          obtain ⟨hPc, hDc, hFc⟩ := zc3 (wc := [(h0, .inr (11, [.int th, .ref tB, .int tsz, .int v39, .int (-1), .int m21_F_h0_5, .ref rC, .ref rV, .ref rD, .ref rK, .ref rT, .ref rS, .ref rU, .int lw, .int tx, .ref rL, .ref rX, .ref qR, .ref qB, .ref qP, .int qnb, .int qnp, .ref aR, .ref aB, .ref aP, .int nb, .int np, .ref aN, .ref rf, .int ho, .int br, .ref aK, .int ac, .long dw, .ref aE, .int sr, .int sf, .ref aA, .ref aH, .ref aI, .int hi])), (tB, .inl (cI, 240, .inl fB)), (rC, .inl (cI, 2600, .inl m21_A_rC)), (rV, .inl (cI, 2600, .inl m21_A_rV)), (rD, .inl (cI, 5, .inl m21_A_rD))]) hP hD hS hA [0, 1, 2, 3, 4] (by decide +kernel) rfl
          refine va_callv (va_runV (As := []) (rest := []) ⟨hx, hb, hml, hown, hts⟩ (ihA dC dI cI cJ h0 th tB tsz v39 m21_F_h0_5 rC rV rD rK rT rS rU lw tx rL rX qR qB qP qnb qnp aR aB aP nb np aN rf ho br aK ac dw aE sr sf aA aH aI hi fB m21_A_rC m21_A_rV m21_A_rD gC gV fz (k + 1) st (h + 1) H.size n_ac (by omega) n_hi n_ho n_lw n_nb n_np n_qnb n_qnp (by omega) n_tsz n_tx (by first | exact zPar_mono jv21_2 (by omega) (by omega) (by omega) (by omega)) (by first | decide | omega) (by first | decide | omega) (by first | decide | omega) (by first | decide | omega)) (cwV 0 hts (zgV qw1348 qw1350 qw47 qw108 qw1351) rfl rfl rfl hd_X11_atom ⟨by (try dsimp only) <;> omega, by (try dsimp only) <;> omega⟩) (zPV hPc hK hDc (va_recv (q := (RX11, TX11, 41)) hK hP (ci := 11) (q0 := 0) rfl rfl)) rfl rfl hl.1 rfl (lv_room (Nat.le_of_ble_eq_true rfl)) dX11_term_44 ⟨Nat.zero_le _, Nat.zero_le _⟩) hS (fun q _ h => hFc q h) hFc (fun u44 t H locs ht hvm hw hB hz1 hk1 hS9 => ?_)
          obtain ⟨u44_0, u44_1, u44_2, u44_3, u44_4, u44_5⟩ := u44
          obtain ⟨hP9, hD9⟩ := zj2 (wX := [(h0, .inr (11, [.int th, .ref tB, .int tsz, .int u44_0, .int u44_1, .int u44_2, .ref rC, .ref rV, .ref rD, .ref rK, .ref rT, .ref rS, .ref rU, .int lw, .int tx, .ref rL, .ref rX, .ref qR, .ref qB, .ref qP, .int qnb, .int qnp, .ref aR, .ref aB, .ref aP, .int nb, .int np, .ref aN, .ref rf, .int ho, .int br, .ref aK, .int ac, .long dw, .ref aE, .int sr, .int sf, .ref aA, .ref aH, .ref aI, .int hi])), (tB, .inl (cI, 240, .inl fB)), (rC, .inl (cI, 2600, .inl u44_3)), (rV, .inl (cI, 2600, .inl u44_4)), (rD, .inl (cI, 5, .inl u44_5))]) hP hD hk1 hFc ht hB [0, 1, 2, 3, 4] [(true, 0), (true, 1), (true, 2), (true, 3), (true, 4)] rfl (by decide +kernel) (by decide +kernel) rfl
          clear hP hD hS hPc hDc hFc hB hk1 hz1 hvm
          have hP := hP9
          have hD := hD9
          have hS := hS9
          clear hP9 hD9 hS9
          obtain ⟨f44_0, f44_1, f44_2, f44_3, f44_4, f44_5, f44_6, f44_7, f44_8, f44_9, f44_10, f44_11⟩ : (0 ≤ u44_0.toInt) ∧ (u44_0.toInt ≤ 246) ∧ ((-1) ≤ u44_1.toInt) ∧ (u44_1.toInt ≤ 260) ∧ (0 ≤ u44_2.toInt) ∧ (u44_2.toInt ≤ 7) ∧ (u44_1.toInt = -1 → (u44_0.toInt ≤ tsz.toInt ∧ u44_2.toInt = 6 - ((K : Nat) : Int))) ∧ (v39.toInt ≤ u44_0.toInt) ∧ (u44_0.toInt ≤ 240 + ((K : Nat) : Int) ∧ 6 - ((K : Nat) : Int) ≤ u44_2.toInt ∧ u44_2.toInt ≤ 7 - ((K : Nat) : Int)) ∧ (zW (sAtm (sB fB tsz.toInt) tsz.toInt K v39.toInt) u44_1 u44_0) ∧ (u44_1.toInt = -1 → zEr m21_A_rC m21_A_rV (520 * tx.toInt.toNat) (m21_A_rD tx.toInt.toNat).toInt (eAtm (sB fB tsz.toInt) tsz.toInt K v39.toInt) u44_3 u44_4 (u44_5 tx.toInt.toNat).toInt) ∧ (zPar u44_1 u44_0 u44_3 u44_4 u44_5 tx gC gV fz ((k + 1)) st ((h + 1) + 1)) := hw
          have F44 := f44_9
          have F44_1 : zHid (u44_1.toInt = -1 → zEr m21_A_rC m21_A_rV (520 * tx.toInt.toNat) (m21_A_rD tx.toInt.toNat).toInt (eAtm (sB fB tsz.toInt) tsz.toInt K v39.toInt) u44_3 u44_4 (u44_5 tx.toInt.toNat).toInt) := f44_10
          clear f44_10
          refine lv_aload_n hx hb dX11_term_47 rfl (lv_at hl 1 rfl) ?_
          refine lv_iload_n hx hb dX11_term_48 rfl (lv_at hl 0 rfl) ?_
          refine lv_bipush (v := 42) hx hb dX11_term_49 (by decide) ?_
          refine lv_icmp_ne (tgt := 58) hx hb dX11_term_51 (by decide) (fun c51 => by exfalso; have c51 : ¬ m21_L_1.toInt = 42 := z6 rfl (by decide) c51; omega) (fun c51 => ?_)
          have c51 : m21_L_1.toInt = 42 := z5 rfl (by decide) c51
          refine lv_iconst (v := 4) hx hb dX11_term_54 (by decide) ?_
          refine lv_goto (tgt := 59) hx hb dX11_term_55 (by decide) ?_
          refine lv_iconst (v := 0) hx hb dX11_term_59 (by decide) ?_
          obtain ⟨hPc, hDc, hFc⟩ := zc3 (wc := [(h0, .inr (11, [.int th, .ref tB, .int tsz, .int u44_0, .int u44_1, .int u44_2, .ref rC, .ref rV, .ref rD, .ref rK, .ref rT, .ref rS, .ref rU, .int lw, .int tx, .ref rL, .ref rX, .ref qR, .ref qB, .ref qP, .int qnb, .int qnp, .ref aR, .ref aB, .ref aP, .int nb, .int np, .ref aN, .ref rf, .int ho, .int br, .ref aK, .int ac, .long dw, .ref aE, .int sr, .int sf, .ref aA, .ref aH, .ref aI, .int hi])), (rC, .inl (cI, 2600, .inl u44_3)), (rV, .inl (cI, 2600, .inl u44_4)), (rD, .inl (cI, 5, .inl u44_5))]) hP hD hS hA [0, 2, 3, 4] (by decide +kernel) rfl
          refine va_callv (va_runV (As := [.int 4, .int 0]) (rest := []) ⟨hx, hb, hml, hown, hts⟩ (g_X11_put_op l dC dI cI cJ h0 4 0 th tB tsz u44_0 u44_1 u44_2 rC rV rD rK rT rS rU lw tx rL rX qR qB qP qnb qnp aR aB aP nb np aN rf ho br aK ac dw aE sr sf aA aH aI hi u44_3 u44_4 u44_5 gC gV fz k st h H.size n_ac n_hi n_ho n_lw n_nb n_np (by decide) n_qnb n_qnp (by omega) n_tsz n_tx ⟨f44_2, f44_3⟩ (by first | exact zPar_mono f44_11 (by omega) (by omega) (by omega) (by omega)) (by first | decide | omega)) (cwV 2 hts (zgV qw1332 qw1334 qw43 qw108 qw1335) rfl rfl rfl hd_X11_put ⟨by (try dsimp only) <;> omega, by (try dsimp only) <;> omega⟩) (zPV hPc hK hDc (va_recv (q := (RX11, TX11, 41)) hK hP (ci := 11) (q0 := 0) rfl rfl)) rfl rfl hl.1 rfl (lv_room (Nat.le_of_ble_eq_true rfl)) dX11_term_60 ⟨Nat.zero_le _, Nat.zero_le _⟩) hS (fun q _ h => hFc q h) hFc (fun u60 t H locs ht hvm hw hB hz1 hk1 hS9 => ?_)
          obtain ⟨u60_0, u60_1, u60_2⟩ := u60
          obtain ⟨hP9, hD9⟩ := zj2 (wX := [(h0, .inr (11, [.int th, .ref tB, .int tsz, .int u44_0, .int u44_1, .int u44_2, .ref rC, .ref rV, .ref rD, .ref rK, .ref rT, .ref rS, .ref rU, .int lw, .int tx, .ref rL, .ref rX, .ref qR, .ref qB, .ref qP, .int qnb, .int qnp, .ref aR, .ref aB, .ref aP, .int nb, .int np, .ref aN, .ref rf, .int ho, .int br, .ref aK, .int ac, .long dw, .ref aE, .int sr, .int sf, .ref aA, .ref aH, .ref aI, .int hi])), (tB, .inl (cI, 240, .inl fB)), (rC, .inl (cI, 2600, .inl u60_0)), (rV, .inl (cI, 2600, .inl u60_1)), (rD, .inl (cI, 5, .inl u60_2))]) hP hD hk1 hFc ht hB [0, 2, 3, 4] [(true, 0), (false, 1), (true, 1), (true, 2), (true, 3)] rfl (by decide +kernel) (by decide +kernel) rfl
          clear hP hD hS hPc hDc hFc hB hk1 hz1 hvm
          have hP := hP9
          have hD := hD9
          have hS := hS9
          clear hP9 hD9 hS9
          have zn60_4 : (4 : Int32).toInt = 4 := by decide
          obtain ⟨f60_0, f60_1⟩ : (∀ x : Int, eRc x = (4 : Int32).toInt → ¬ x = 1 → ¬ x = 2 → zEr u44_3 u44_4 (520 * tx.toInt.toNat) (u44_5 tx.toInt.toNat).toInt ([(x, 0)]) u60_0 u60_1 (u60_2 tx.toInt.toNat).toInt) ∧ (zPar u44_1 u44_0 u60_0 u60_1 u60_2 tx gC gV fz (k) st (h + 1)) := hw
          have F60 := f60_0
          refine lv_aload_n hx hb dX11_term_63 rfl (lv_at hl 1 rfl) ?_
          refine va_get (D := (dC, dI)) (ci := 11) (v := .int u44_1) (C := RX11) (T := TX11) (N := 41) hx hb hts iX11 hown hK hP 0 rfl rfl 4 (by decide) (hts _ qw1131) (fun _ h9 => h9) rfl dX11_term_64 ?_
          refine lv_iconst (v := (-1)) hx hb dX11_term_67 (by decide) ?_
          refine lv_icmp_ne (tgt := 78) hx hb dX11_term_68 (by decide) (fun c68 => ?_) (fun c68 => ?_)
          · have c68 : ¬ u44_1.toInt = (-1) := z6 rfl (by decide) c68
            refine lv_iconst (v := (-1)) hx hb dX11_term_78 (by decide) ?_
            refine lv_istore_n (lv' := [(1, .int (-1)), (0, .ref h0)]) hx hb dX11_term_79 rfl hl (by decide) rfl (fun ls hl => ?_)
            refine lv_goto (tgt := 21) hx hb dX11_term_80 (by decide) ?_
            have zj21_m21_L_1 : ((-1) : Int32).toInt = (-1) := by decide
            exact ih21 _ (by omega) u60_0 u60_2 u60_1 u44_0 u44_1 u44_2 (-1) ⟨f44_0, f44_1⟩ ⟨f44_2, f44_3⟩ ⟨f44_4, f44_5⟩ (by omega) (by omega) (by omega) (by omega) (by first | exact zlpS jv21_0 (oM_iff.mpr (by omega)) (by decide) i39 F44 (by omega) (sAtm_mono (sB fB tsz.toInt) tsz.toInt K) F72 | exact zlpB jv21_0 (oM_iff.mpr (by omega)) (by decide) i39 F44 (by omega)) (by first | exact zTe_w (by omega) | exact zTe_s jv21_1 jv21_0 (oM_iff.mpr (by omega)) (by decide) i39 F44 (sAtm_mono (sB fB tsz.toInt) tsz.toInt K) F44_1 (F60 m21_L_1.toInt (by first | (rw [show m21_L_1.toInt = 42 by omega]; decide) | (rw [show m21_L_1.toInt = 47 by omega]; decide)) (by omega) (by omega)) (by have := hpar.2.2.1; omega) (by have := jv21_2.2.2.1; omega) F72) (by first | exact zPar_bad f60_1 (by omega) (by omega) (by omega)) rfl H locs ls hP hD hS (lv_sub hl [0, 1] rfl)
          · have c68 : u44_1.toInt = (-1) := z5 rfl (by decide) c68
            refine lv_aload_n hx hb dX11_term_71 rfl (lv_at hl 1 rfl) ?_
            obtain ⟨hPc, hDc, hFc⟩ := zc3 (wc := [(h0, .inr (11, [.int th, .ref tB, .int tsz, .int u44_0, .int u44_1, .int u44_2, .ref rC, .ref rV, .ref rD, .ref rK, .ref rT, .ref rS, .ref rU, .int lw, .int tx, .ref rL, .ref rX, .ref qR, .ref qB, .ref qP, .int qnb, .int qnp, .ref aR, .ref aB, .ref aP, .int nb, .int np, .ref aN, .ref rf, .int ho, .int br, .ref aK, .int ac, .long dw, .ref aE, .int sr, .int sf, .ref aA, .ref aH, .ref aI, .int hi])), (tB, .inl (cI, 240, .inl fB))]) hP hD hS hA [0, 1] (by decide +kernel) rfl
            refine va_calli (va_runV (As := []) (rest := []) ⟨hx, hb, hml, hown, hts⟩ (g_X11_look_t l dC dI cI cJ h0 th tB tsz u44_0 u44_1 u44_2 rC rV rD rK rT rS rU lw tx rL rX qR qB qP qnb qnp aR aB aP nb np aN rf ho br aK ac dw aE sr sf aA aH aI hi fB H.size n_ac n_hi n_ho n_lw n_nb n_np n_qnb n_qnp (by omega) n_tsz ⟨f44_2, f44_3⟩) (cwV 0 hts (zgV qw1273 qw1275 qw32 qw108 qw1276) rfl rfl rfl hd_X11_look ⟨by (try dsimp only) <;> omega, by (try dsimp only) <;> omega⟩) (zPV hPc hK hDc (va_recv (q := (RX11, TX11, 41)) hK hP (ci := 11) (q0 := 0) rfl rfl)) rfl rfl hl.1 rfl (lv_room (Nat.le_of_ble_eq_true rfl)) dX11_term_72 ⟨Nat.zero_le _, Nat.zero_le _⟩) hS (fun q _ h => hFc q h) hFc (fun v72 u72 t H locs ht hvm hw hB hz1 hk1 hS9 => ?_)
            obtain ⟨u72_0, rfl⟩ : ∃ z, z = u72 := ⟨_, rfl⟩
            obtain ⟨hP9, hD9⟩ := zj2 (wX := [(h0, .inr (11, [.int th, .ref tB, .int tsz, .int u72_0, .int u44_1, .int u44_2, .ref rC, .ref rV, .ref rD, .ref rK, .ref rT, .ref rS, .ref rU, .int lw, .int tx, .ref rL, .ref rX, .ref qR, .ref qB, .ref qP, .int qnb, .int qnp, .ref aR, .ref aB, .ref aP, .int nb, .int np, .ref aN, .ref rf, .int ho, .int br, .ref aK, .int ac, .long dw, .ref aE, .int sr, .int sf, .ref aA, .ref aH, .ref aI, .int hi])), (tB, .inl (cI, 240, .inl fB)), (rC, .inl (cI, 2600, .inl u60_0)), (rV, .inl (cI, 2600, .inl u60_1)), (rD, .inl (cI, 5, .inl u60_2))]) hP hD hk1 hFc ht hB [0, 1] [(true, 0), (true, 1), (false, 2), (false, 3), (false, 4)] rfl (by decide +kernel) (by decide +kernel) rfl
            clear hP hD hS hPc hDc hFc hB hk1 hz1 hvm
            have hP := hP9
            have hD := hD9
            have hS := hS9
            clear hP9 hD9 hS9
            obtain ⟨f72_0, f72_1, f72_2, f72_3, f72_4, f72_5⟩ : (0 ≤ u72_0.toInt) ∧ (u72_0.toInt ≤ 240) ∧ (¬ v72.toInt = -1 → u72_0.toInt < tsz.toInt) ∧ (u44_0.toInt ≤ u72_0.toInt) ∧ (u72_0.toInt ≤ tsz.toInt ∨ u72_0.toInt = u44_0.toInt) ∧ (zLk fB tsz u44_0 v72 u72_0) := hw
            have F72 := f72_5
            refine lv_goto (tgt := 79) hx hb dX11_term_75 (by decide) ?_
            refine lv_istore_n (lv' := [(1, .int v72), (0, .ref h0)]) hx hb dX11_term_79 rfl hl (by decide) rfl (fun ls hl => ?_)
            refine lv_goto (tgt := 21) hx hb dX11_term_80 (by decide) ?_
            exact ih21 _ (by omega) u60_0 u60_2 u60_1 u72_0 u44_1 u44_2 v72 (by omega) ⟨f44_2, f44_3⟩ ⟨f44_4, f44_5⟩ (by omega) (by omega) (by omega) (by omega) (by first | exact zlpS jv21_0 (oM_iff.mpr (by omega)) (by decide) i39 F44 (by omega) (sAtm_mono (sB fB tsz.toInt) tsz.toInt K) F72 | exact zlpB jv21_0 (oM_iff.mpr (by omega)) (by decide) i39 F44 (by omega)) (by first | exact zTe_w (by omega) | exact zTe_s jv21_1 jv21_0 (oM_iff.mpr (by omega)) (by decide) i39 F44 (sAtm_mono (sB fB tsz.toInt) tsz.toInt K) F44_1 (F60 m21_L_1.toInt (by first | (rw [show m21_L_1.toInt = 42 by omega]; decide) | (rw [show m21_L_1.toInt = 47 by omega]; decide)) (by omega) (by omega)) (by have := hpar.2.2.1; omega) (by have := jv21_2.2.2.1; omega) F72) (by first | exact zPar_mono f60_1 (by omega) (by omega) (by omega) (by omega)) rfl H locs ls hP hD hS (lv_sub hl [0, 1] rfl)
        · have c24 : ¬ m21_L_1.toInt = 42 := z6 rfl (by decide) c24
          refine lv_iload_n hx hb dX11_term_27 rfl (lv_at hl 0 rfl) ?_
          refine lv_bipush (v := 47) hx hb dX11_term_28 (by decide) ?_
          refine lv_icmp_ne (tgt := 83) hx hb dX11_term_30 (by decide) (fun c30 => ?_) (fun c30 => ?_)
          · have c30 : ¬ m21_L_1.toInt = 47 := z6 rfl (by decide) c30
            rw [hQ]
            exact W.vret hx hb hr (fun t ht hW => ⟨⟨(m21_F_h0_3, m21_F_h0_4, m21_F_h0_5, m21_A_rC, m21_A_rV, m21_A_rD), rfl, ⟨by (try dsimp only); omega, by (try dsimp only); omega, by (try dsimp only); omega, by (try dsimp only); omega, by (try dsimp only); omega, by (try dsimp only); omega, by (try dsimp only); omega, by (try dsimp only); omega, by (try dsimp only); omega, by (try dsimp only); exact zlpE jv21_0 (fun z => by have := oM_iff.mp z; omega), by (try dsimp only); exact zTe_e jv21_1 jv21_0 (fun z => by have := oM_iff.mp z; omega), by (try dsimp only); first | exact zPar_mono jv21_2 (by omega) (by omega) (by omega) (by omega)⟩, ⟨by rw [ht]; exact hP, hD⟩⟩, hS.F ht⟩) hS.2.2 dX11_term_83
          · have c30 : m21_L_1.toInt = 47 := z5 rfl (by decide) c30
            refine lv_aload_n hx hb dX11_term_33 rfl (lv_at hl 1 rfl) ?_
            refine lv_dup hx hb dX11_term_34 rfl ?_
            refine va_get (D := (dC, dI)) (ci := 11) (v := .int m21_F_h0_3) (C := RX11) (T := TX11) (N := 41) hx hb hts iX11 hown hK hP 0 rfl rfl 3 (by decide) (hts _ qw1130) (fun _ h9 => h9) rfl dX11_term_35 ?_
            refine lv_iconst (v := 1) hx hb dX11_term_38 (by decide) ?_
            refine lv_iadd hx hb dX11_term_39 ?_
            refine lv_topi (fun v39 e39 => ?_)
            have i39 : v39.toInt = m21_F_h0_3.toInt + 1 := zadd e39 rfl (by decide) (by omega) (by omega)
            refine va_put (D := (dC, dI)) (ci := 11) (v := .int v39) (ty := .int) (C := RX11) (T := TX11) (N := 41) hx hb hts iX11 tyX11 tyX11_ok nmX11 hown hK hP hD hS 0 rfl rfl 3 (by decide) (hts _ qw1130) (fun _ h9 => h9) rfl (by decide +kernel) rfl rfl (Nat.le_of_ble_eq_true rfl) dX11_term_40 (fun H locs hP9 hD9 hS9 => ?_)
            clear hP hD hS
            obtain ⟨hP, hD⟩ := zst (wX := [(h0, .inr (11, [.int th, .ref tB, .int tsz, .int v39, .int m21_F_h0_4, .int m21_F_h0_5, .ref rC, .ref rV, .ref rD, .ref rK, .ref rT, .ref rS, .ref rU, .int lw, .int tx, .ref rL, .ref rX, .ref qR, .ref qB, .ref qP, .int qnb, .int qnp, .ref aR, .ref aB, .ref aP, .int nb, .int np, .ref aN, .ref rf, .int ho, .int br, .ref aK, .int ac, .long dw, .ref aE, .int sr, .int sf, .ref aA, .ref aH, .ref aI, .int hi])), (tB, .inl (cI, 240, .inl fB)), (rC, .inl (cI, 2600, .inl m21_A_rC)), (rV, .inl (cI, 2600, .inl m21_A_rV)), (rD, .inl (cI, 5, .inl m21_A_rD))]) hP9 hD9 rfl
            have hS := hS9
            clear hP9 hD9 hS9
            refine lv_aload_n hx hb dX11_term_43 rfl (lv_at hl 1 rfl) ?_
            have zx_m21_F_h0_4 : ((-1) : Int32).toInt = (-1) := by decide
            have zy_m21_F_h0_4 : m21_F_h0_4 = (-1) := z7 (a := (-1)) (by decide) (by omega)
            rw [zy_m21_F_h0_4] at hP hD
            obtain ⟨hPc, hDc, hFc⟩ := zc3 (wc := [(h0, .inr (11, [.int th, .ref tB, .int tsz, .int v39, .int (-1), .int m21_F_h0_5, .ref rC, .ref rV, .ref rD, .ref rK, .ref rT, .ref rS, .ref rU, .int lw, .int tx, .ref rL, .ref rX, .ref qR, .ref qB, .ref qP, .int qnb, .int qnp, .ref aR, .ref aB, .ref aP, .int nb, .int np, .ref aN, .ref rf, .int ho, .int br, .ref aK, .int ac, .long dw, .ref aE, .int sr, .int sf, .ref aA, .ref aH, .ref aI, .int hi])), (tB, .inl (cI, 240, .inl fB)), (rC, .inl (cI, 2600, .inl m21_A_rC)), (rV, .inl (cI, 2600, .inl m21_A_rV)), (rD, .inl (cI, 5, .inl m21_A_rD))]) hP hD hS hA [0, 1, 2, 3, 4] (by decide +kernel) rfl
            refine va_callv (va_runV (As := []) (rest := []) ⟨hx, hb, hml, hown, hts⟩ (ihA dC dI cI cJ h0 th tB tsz v39 m21_F_h0_5 rC rV rD rK rT rS rU lw tx rL rX qR qB qP qnb qnp aR aB aP nb np aN rf ho br aK ac dw aE sr sf aA aH aI hi fB m21_A_rC m21_A_rV m21_A_rD gC gV fz (k + 1) st (h + 1) H.size n_ac (by omega) n_hi n_ho n_lw n_nb n_np n_qnb n_qnp (by omega) n_tsz n_tx (by first | exact zPar_mono jv21_2 (by omega) (by omega) (by omega) (by omega)) (by first | decide | omega) (by first | decide | omega) (by first | decide | omega) (by first | decide | omega)) (cwV 0 hts (zgV qw1348 qw1350 qw47 qw108 qw1351) rfl rfl rfl hd_X11_atom ⟨by (try dsimp only) <;> omega, by (try dsimp only) <;> omega⟩) (zPV hPc hK hDc (va_recv (q := (RX11, TX11, 41)) hK hP (ci := 11) (q0 := 0) rfl rfl)) rfl rfl hl.1 rfl (lv_room (Nat.le_of_ble_eq_true rfl)) dX11_term_44 ⟨Nat.zero_le _, Nat.zero_le _⟩) hS (fun q _ h => hFc q h) hFc (fun u44 t H locs ht hvm hw hB hz1 hk1 hS9 => ?_)
            obtain ⟨u44_0, u44_1, u44_2, u44_3, u44_4, u44_5⟩ := u44
            obtain ⟨hP9, hD9⟩ := zj2 (wX := [(h0, .inr (11, [.int th, .ref tB, .int tsz, .int u44_0, .int u44_1, .int u44_2, .ref rC, .ref rV, .ref rD, .ref rK, .ref rT, .ref rS, .ref rU, .int lw, .int tx, .ref rL, .ref rX, .ref qR, .ref qB, .ref qP, .int qnb, .int qnp, .ref aR, .ref aB, .ref aP, .int nb, .int np, .ref aN, .ref rf, .int ho, .int br, .ref aK, .int ac, .long dw, .ref aE, .int sr, .int sf, .ref aA, .ref aH, .ref aI, .int hi])), (tB, .inl (cI, 240, .inl fB)), (rC, .inl (cI, 2600, .inl u44_3)), (rV, .inl (cI, 2600, .inl u44_4)), (rD, .inl (cI, 5, .inl u44_5))]) hP hD hk1 hFc ht hB [0, 1, 2, 3, 4] [(true, 0), (true, 1), (true, 2), (true, 3), (true, 4)] rfl (by decide +kernel) (by decide +kernel) rfl
            clear hP hD hS hPc hDc hFc hB hk1 hz1 hvm
            have hP := hP9
            have hD := hD9
            have hS := hS9
            clear hP9 hD9 hS9
            obtain ⟨f44_0, f44_1, f44_2, f44_3, f44_4, f44_5, f44_6, f44_7, f44_8, f44_9, f44_10, f44_11⟩ : (0 ≤ u44_0.toInt) ∧ (u44_0.toInt ≤ 246) ∧ ((-1) ≤ u44_1.toInt) ∧ (u44_1.toInt ≤ 260) ∧ (0 ≤ u44_2.toInt) ∧ (u44_2.toInt ≤ 7) ∧ (u44_1.toInt = -1 → (u44_0.toInt ≤ tsz.toInt ∧ u44_2.toInt = 6 - ((K : Nat) : Int))) ∧ (v39.toInt ≤ u44_0.toInt) ∧ (u44_0.toInt ≤ 240 + ((K : Nat) : Int) ∧ 6 - ((K : Nat) : Int) ≤ u44_2.toInt ∧ u44_2.toInt ≤ 7 - ((K : Nat) : Int)) ∧ (zW (sAtm (sB fB tsz.toInt) tsz.toInt K v39.toInt) u44_1 u44_0) ∧ (u44_1.toInt = -1 → zEr m21_A_rC m21_A_rV (520 * tx.toInt.toNat) (m21_A_rD tx.toInt.toNat).toInt (eAtm (sB fB tsz.toInt) tsz.toInt K v39.toInt) u44_3 u44_4 (u44_5 tx.toInt.toNat).toInt) ∧ (zPar u44_1 u44_0 u44_3 u44_4 u44_5 tx gC gV fz ((k + 1)) st ((h + 1) + 1)) := hw
            have F44 := f44_9
            have F44_1 : zHid (u44_1.toInt = -1 → zEr m21_A_rC m21_A_rV (520 * tx.toInt.toNat) (m21_A_rD tx.toInt.toNat).toInt (eAtm (sB fB tsz.toInt) tsz.toInt K v39.toInt) u44_3 u44_4 (u44_5 tx.toInt.toNat).toInt) := f44_10
            clear f44_10
            refine lv_aload_n hx hb dX11_term_47 rfl (lv_at hl 1 rfl) ?_
            refine lv_iload_n hx hb dX11_term_48 rfl (lv_at hl 0 rfl) ?_
            refine lv_bipush (v := 42) hx hb dX11_term_49 (by decide) ?_
            refine lv_icmp_ne (tgt := 58) hx hb dX11_term_51 (by decide) (fun c51 => ?_) (fun c51 => by exfalso; have c51 : m21_L_1.toInt = 42 := z5 rfl (by decide) c51; omega)
            have c51 : ¬ m21_L_1.toInt = 42 := z6 rfl (by decide) c51
            refine lv_iconst (v := 5) hx hb dX11_term_58 (by decide) ?_
            refine lv_iconst (v := 0) hx hb dX11_term_59 (by decide) ?_
            obtain ⟨hPc, hDc, hFc⟩ := zc3 (wc := [(h0, .inr (11, [.int th, .ref tB, .int tsz, .int u44_0, .int u44_1, .int u44_2, .ref rC, .ref rV, .ref rD, .ref rK, .ref rT, .ref rS, .ref rU, .int lw, .int tx, .ref rL, .ref rX, .ref qR, .ref qB, .ref qP, .int qnb, .int qnp, .ref aR, .ref aB, .ref aP, .int nb, .int np, .ref aN, .ref rf, .int ho, .int br, .ref aK, .int ac, .long dw, .ref aE, .int sr, .int sf, .ref aA, .ref aH, .ref aI, .int hi])), (rC, .inl (cI, 2600, .inl u44_3)), (rV, .inl (cI, 2600, .inl u44_4)), (rD, .inl (cI, 5, .inl u44_5))]) hP hD hS hA [0, 2, 3, 4] (by decide +kernel) rfl
            refine va_callv (va_runV (As := [.int 5, .int 0]) (rest := []) ⟨hx, hb, hml, hown, hts⟩ (g_X11_put_op l dC dI cI cJ h0 5 0 th tB tsz u44_0 u44_1 u44_2 rC rV rD rK rT rS rU lw tx rL rX qR qB qP qnb qnp aR aB aP nb np aN rf ho br aK ac dw aE sr sf aA aH aI hi u44_3 u44_4 u44_5 gC gV fz k st h H.size n_ac n_hi n_ho n_lw n_nb n_np (by decide) n_qnb n_qnp (by omega) n_tsz n_tx ⟨f44_2, f44_3⟩ (by first | exact zPar_mono f44_11 (by omega) (by omega) (by omega) (by omega)) (by first | decide | omega)) (cwV 2 hts (zgV qw1332 qw1334 qw43 qw108 qw1335) rfl rfl rfl hd_X11_put ⟨by (try dsimp only) <;> omega, by (try dsimp only) <;> omega⟩) (zPV hPc hK hDc (va_recv (q := (RX11, TX11, 41)) hK hP (ci := 11) (q0 := 0) rfl rfl)) rfl rfl hl.1 rfl (lv_room (Nat.le_of_ble_eq_true rfl)) dX11_term_60 ⟨Nat.zero_le _, Nat.zero_le _⟩) hS (fun q _ h => hFc q h) hFc (fun u60 t H locs ht hvm hw hB hz1 hk1 hS9 => ?_)
            obtain ⟨u60_0, u60_1, u60_2⟩ := u60
            obtain ⟨hP9, hD9⟩ := zj2 (wX := [(h0, .inr (11, [.int th, .ref tB, .int tsz, .int u44_0, .int u44_1, .int u44_2, .ref rC, .ref rV, .ref rD, .ref rK, .ref rT, .ref rS, .ref rU, .int lw, .int tx, .ref rL, .ref rX, .ref qR, .ref qB, .ref qP, .int qnb, .int qnp, .ref aR, .ref aB, .ref aP, .int nb, .int np, .ref aN, .ref rf, .int ho, .int br, .ref aK, .int ac, .long dw, .ref aE, .int sr, .int sf, .ref aA, .ref aH, .ref aI, .int hi])), (tB, .inl (cI, 240, .inl fB)), (rC, .inl (cI, 2600, .inl u60_0)), (rV, .inl (cI, 2600, .inl u60_1)), (rD, .inl (cI, 5, .inl u60_2))]) hP hD hk1 hFc ht hB [0, 2, 3, 4] [(true, 0), (false, 1), (true, 1), (true, 2), (true, 3)] rfl (by decide +kernel) (by decide +kernel) rfl
            clear hP hD hS hPc hDc hFc hB hk1 hz1 hvm
            have hP := hP9
            have hD := hD9
            have hS := hS9
            clear hP9 hD9 hS9
            have zn60_5 : (5 : Int32).toInt = 5 := by decide
            obtain ⟨f60_0, f60_1⟩ : (∀ x : Int, eRc x = (5 : Int32).toInt → ¬ x = 1 → ¬ x = 2 → zEr u44_3 u44_4 (520 * tx.toInt.toNat) (u44_5 tx.toInt.toNat).toInt ([(x, 0)]) u60_0 u60_1 (u60_2 tx.toInt.toNat).toInt) ∧ (zPar u44_1 u44_0 u60_0 u60_1 u60_2 tx gC gV fz (k) st (h + 1)) := hw
            have F60 := f60_0
            refine lv_aload_n hx hb dX11_term_63 rfl (lv_at hl 1 rfl) ?_
            refine va_get (D := (dC, dI)) (ci := 11) (v := .int u44_1) (C := RX11) (T := TX11) (N := 41) hx hb hts iX11 hown hK hP 0 rfl rfl 4 (by decide) (hts _ qw1131) (fun _ h9 => h9) rfl dX11_term_64 ?_
            refine lv_iconst (v := (-1)) hx hb dX11_term_67 (by decide) ?_
            refine lv_icmp_ne (tgt := 78) hx hb dX11_term_68 (by decide) (fun c68 => ?_) (fun c68 => ?_)
            · have c68 : ¬ u44_1.toInt = (-1) := z6 rfl (by decide) c68
              refine lv_iconst (v := (-1)) hx hb dX11_term_78 (by decide) ?_
              refine lv_istore_n (lv' := [(1, .int (-1)), (0, .ref h0)]) hx hb dX11_term_79 rfl hl (by decide) rfl (fun ls hl => ?_)
              refine lv_goto (tgt := 21) hx hb dX11_term_80 (by decide) ?_
              have zj21_m21_L_1 : ((-1) : Int32).toInt = (-1) := by decide
              exact ih21 _ (by omega) u60_0 u60_2 u60_1 u44_0 u44_1 u44_2 (-1) ⟨f44_0, f44_1⟩ ⟨f44_2, f44_3⟩ ⟨f44_4, f44_5⟩ (by omega) (by omega) (by omega) (by omega) (by first | exact zlpS jv21_0 (oM_iff.mpr (by omega)) (by decide) i39 F44 (by omega) (sAtm_mono (sB fB tsz.toInt) tsz.toInt K) F72 | exact zlpB jv21_0 (oM_iff.mpr (by omega)) (by decide) i39 F44 (by omega)) (by first | exact zTe_w (by omega) | exact zTe_s jv21_1 jv21_0 (oM_iff.mpr (by omega)) (by decide) i39 F44 (sAtm_mono (sB fB tsz.toInt) tsz.toInt K) F44_1 (F60 m21_L_1.toInt (by first | (rw [show m21_L_1.toInt = 42 by omega]; decide) | (rw [show m21_L_1.toInt = 47 by omega]; decide)) (by omega) (by omega)) (by have := hpar.2.2.1; omega) (by have := jv21_2.2.2.1; omega) F72) (by first | exact zPar_bad f60_1 (by omega) (by omega) (by omega)) rfl H locs ls hP hD hS (lv_sub hl [0, 1] rfl)
            · have c68 : u44_1.toInt = (-1) := z5 rfl (by decide) c68
              refine lv_aload_n hx hb dX11_term_71 rfl (lv_at hl 1 rfl) ?_
              obtain ⟨hPc, hDc, hFc⟩ := zc3 (wc := [(h0, .inr (11, [.int th, .ref tB, .int tsz, .int u44_0, .int u44_1, .int u44_2, .ref rC, .ref rV, .ref rD, .ref rK, .ref rT, .ref rS, .ref rU, .int lw, .int tx, .ref rL, .ref rX, .ref qR, .ref qB, .ref qP, .int qnb, .int qnp, .ref aR, .ref aB, .ref aP, .int nb, .int np, .ref aN, .ref rf, .int ho, .int br, .ref aK, .int ac, .long dw, .ref aE, .int sr, .int sf, .ref aA, .ref aH, .ref aI, .int hi])), (tB, .inl (cI, 240, .inl fB))]) hP hD hS hA [0, 1] (by decide +kernel) rfl
              refine va_calli (va_runV (As := []) (rest := []) ⟨hx, hb, hml, hown, hts⟩ (g_X11_look_t l dC dI cI cJ h0 th tB tsz u44_0 u44_1 u44_2 rC rV rD rK rT rS rU lw tx rL rX qR qB qP qnb qnp aR aB aP nb np aN rf ho br aK ac dw aE sr sf aA aH aI hi fB H.size n_ac n_hi n_ho n_lw n_nb n_np n_qnb n_qnp (by omega) n_tsz ⟨f44_2, f44_3⟩) (cwV 0 hts (zgV qw1273 qw1275 qw32 qw108 qw1276) rfl rfl rfl hd_X11_look ⟨by (try dsimp only) <;> omega, by (try dsimp only) <;> omega⟩) (zPV hPc hK hDc (va_recv (q := (RX11, TX11, 41)) hK hP (ci := 11) (q0 := 0) rfl rfl)) rfl rfl hl.1 rfl (lv_room (Nat.le_of_ble_eq_true rfl)) dX11_term_72 ⟨Nat.zero_le _, Nat.zero_le _⟩) hS (fun q _ h => hFc q h) hFc (fun v72 u72 t H locs ht hvm hw hB hz1 hk1 hS9 => ?_)
              obtain ⟨u72_0, rfl⟩ : ∃ z, z = u72 := ⟨_, rfl⟩
              obtain ⟨hP9, hD9⟩ := zj2 (wX := [(h0, .inr (11, [.int th, .ref tB, .int tsz, .int u72_0, .int u44_1, .int u44_2, .ref rC, .ref rV, .ref rD, .ref rK, .ref rT, .ref rS, .ref rU, .int lw, .int tx, .ref rL, .ref rX, .ref qR, .ref qB, .ref qP, .int qnb, .int qnp, .ref aR, .ref aB, .ref aP, .int nb, .int np, .ref aN, .ref rf, .int ho, .int br, .ref aK, .int ac, .long dw, .ref aE, .int sr, .int sf, .ref aA, .ref aH, .ref aI, .int hi])), (tB, .inl (cI, 240, .inl fB)), (rC, .inl (cI, 2600, .inl u60_0)), (rV, .inl (cI, 2600, .inl u60_1)), (rD, .inl (cI, 5, .inl u60_2))]) hP hD hk1 hFc ht hB [0, 1] [(true, 0), (true, 1), (false, 2), (false, 3), (false, 4)] rfl (by decide +kernel) (by decide +kernel) rfl
              clear hP hD hS hPc hDc hFc hB hk1 hz1 hvm
              have hP := hP9
              have hD := hD9
              have hS := hS9
              clear hP9 hD9 hS9
              obtain ⟨f72_0, f72_1, f72_2, f72_3, f72_4, f72_5⟩ : (0 ≤ u72_0.toInt) ∧ (u72_0.toInt ≤ 240) ∧ (¬ v72.toInt = -1 → u72_0.toInt < tsz.toInt) ∧ (u44_0.toInt ≤ u72_0.toInt) ∧ (u72_0.toInt ≤ tsz.toInt ∨ u72_0.toInt = u44_0.toInt) ∧ (zLk fB tsz u44_0 v72 u72_0) := hw
              have F72 := f72_5
              refine lv_goto (tgt := 79) hx hb dX11_term_75 (by decide) ?_
              refine lv_istore_n (lv' := [(1, .int v72), (0, .ref h0)]) hx hb dX11_term_79 rfl hl (by decide) rfl (fun ls hl => ?_)
              refine lv_goto (tgt := 21) hx hb dX11_term_80 (by decide) ?_
              exact ih21 _ (by omega) u60_0 u60_2 u60_1 u72_0 u44_1 u44_2 v72 (by omega) ⟨f44_2, f44_3⟩ ⟨f44_4, f44_5⟩ (by omega) (by omega) (by omega) (by omega) (by first | exact zlpS jv21_0 (oM_iff.mpr (by omega)) (by decide) i39 F44 (by omega) (sAtm_mono (sB fB tsz.toInt) tsz.toInt K) F72 | exact zlpB jv21_0 (oM_iff.mpr (by omega)) (by decide) i39 F44 (by omega)) (by first | exact zTe_w (by omega) | exact zTe_s jv21_1 jv21_0 (oM_iff.mpr (by omega)) (by decide) i39 F44 (sAtm_mono (sB fB tsz.toInt) tsz.toInt K) F44_1 (F60 m21_L_1.toInt (by first | (rw [show m21_L_1.toInt = 42 by omega]; decide) | (rw [show m21_L_1.toInt = 47 by omega]; decide)) (by omega) (by omega)) (by have := hpar.2.2.1; omega) (by have := jv21_2.2.2.1; omega) F72) (by first | exact zPar_mono f60_1 (by omega) (by omega) (by omega) (by omega)) rfl H locs ls hP hD hS (lv_sub hl [0, 1] rfl)
    refine lv_istore_n (lv' := [(1, .int (-1)), (0, .ref h0)]) hx hb dX11_term_20 rfl hl (by decide) rfl (fun ls hl => ?_)
    have zj21_m21_L_1 : ((-1) : Int32).toInt = (-1) := by decide
    exact J21 _ u1_3 u1_5 u1_4 u1_0 u1_1 u1_2 (-1) ⟨f1_0, f1_1⟩ ⟨f1_2, f1_3⟩ ⟨f1_4, f1_5⟩ (by omega) (by omega) (by omega) (by omega) (by first | exact zlp0 rfl F1 (by omega) F13 | exact zlp1 rfl F1 (by omega)) (by first | exact zTe_b rfl F1 F1_1 F13 | exact zTe_w (by omega)) (by first | exact zPar_bad f1_11 (by omega) (by omega) (by omega)) rfl H locs ls hP hD hS (lv_sub hl [0, 1] rfl)
  · have c9 : u1_1.toInt = (-1) := z5 rfl (by decide) c9
    refine lv_aload_n hx hb dX11_term_12 rfl (lv_at hl 0 rfl) ?_
    obtain ⟨hPc, hDc, hFc⟩ := zc3 (wc := [(h0, .inr (11, [.int th, .ref tB, .int tsz, .int u1_0, .int u1_1, .int u1_2, .ref rC, .ref rV, .ref rD, .ref rK, .ref rT, .ref rS, .ref rU, .int lw, .int tx, .ref rL, .ref rX, .ref qR, .ref qB, .ref qP, .int qnb, .int qnp, .ref aR, .ref aB, .ref aP, .int nb, .int np, .ref aN, .ref rf, .int ho, .int br, .ref aK, .int ac, .long dw, .ref aE, .int sr, .int sf, .ref aA, .ref aH, .ref aI, .int hi])), (tB, .inl (cI, 240, .inl fB))]) hP hD hS hA [0, 1] (by decide +kernel) rfl
    refine va_calli (va_runV (As := []) (rest := []) ⟨hx, hb, hml, hown, hts⟩ (g_X11_look_t l dC dI cI cJ h0 th tB tsz u1_0 u1_1 u1_2 rC rV rD rK rT rS rU lw tx rL rX qR qB qP qnb qnp aR aB aP nb np aN rf ho br aK ac dw aE sr sf aA aH aI hi fB H.size n_ac n_hi n_ho n_lw n_nb n_np n_qnb n_qnp (by omega) n_tsz ⟨f1_2, f1_3⟩) (cwV 0 hts (zgV qw1273 qw1275 qw32 qw108 qw1276) rfl rfl rfl hd_X11_look ⟨by (try dsimp only) <;> omega, by (try dsimp only) <;> omega⟩) (zPV hPc hK hDc (va_recv (q := (RX11, TX11, 41)) hK hP (ci := 11) (q0 := 0) rfl rfl)) rfl rfl hl.1 rfl (lv_room (Nat.le_of_ble_eq_true rfl)) dX11_term_13 ⟨Nat.zero_le _, Nat.zero_le _⟩) hS (fun q _ h => hFc q h) hFc (fun v13 u13 t H locs ht hvm hw hB hz1 hk1 hS9 => ?_)
    obtain ⟨u13_0, rfl⟩ : ∃ z, z = u13 := ⟨_, rfl⟩
    obtain ⟨hP9, hD9⟩ := zj2 (wX := [(h0, .inr (11, [.int th, .ref tB, .int tsz, .int u13_0, .int u1_1, .int u1_2, .ref rC, .ref rV, .ref rD, .ref rK, .ref rT, .ref rS, .ref rU, .int lw, .int tx, .ref rL, .ref rX, .ref qR, .ref qB, .ref qP, .int qnb, .int qnp, .ref aR, .ref aB, .ref aP, .int nb, .int np, .ref aN, .ref rf, .int ho, .int br, .ref aK, .int ac, .long dw, .ref aE, .int sr, .int sf, .ref aA, .ref aH, .ref aI, .int hi])), (tB, .inl (cI, 240, .inl fB)), (rC, .inl (cI, 2600, .inl u1_3)), (rV, .inl (cI, 2600, .inl u1_4)), (rD, .inl (cI, 5, .inl u1_5))]) hP hD hk1 hFc ht hB [0, 1] [(true, 0), (true, 1), (false, 2), (false, 3), (false, 4)] rfl (by decide +kernel) (by decide +kernel) rfl
    clear hP hD hS hPc hDc hFc hB hk1 hz1 hvm
    have hP := hP9
    have hD := hD9
    have hS := hS9
    clear hP9 hD9 hS9
    obtain ⟨f13_0, f13_1, f13_2, f13_3, f13_4, f13_5⟩ : (0 ≤ u13_0.toInt) ∧ (u13_0.toInt ≤ 240) ∧ (¬ v13.toInt = -1 → u13_0.toInt < tsz.toInt) ∧ (u1_0.toInt ≤ u13_0.toInt) ∧ (u13_0.toInt ≤ tsz.toInt ∨ u13_0.toInt = u1_0.toInt) ∧ (zLk fB tsz u1_0 v13 u13_0) := hw
    have F13 := f13_5
    refine lv_goto (tgt := 20) hx hb dX11_term_16 (by decide) ?_
    have J21 : ∀ (n : Nat) (m21_A_rC : Nat → Int32) (m21_A_rD : Nat → Int32) (m21_A_rV : Nat → Int32) (m21_F_h0_3 : Int32) (m21_F_h0_4 : Int32) (m21_F_h0_5 : Int32) (m21_L_1 : Int32), (0 ≤ m21_F_h0_3.toInt ∧ m21_F_h0_3.toInt ≤ 246) → ((-1) ≤ m21_F_h0_4.toInt ∧ m21_F_h0_4.toInt ≤ 260) → (0 ≤ m21_F_h0_5.toInt ∧ m21_F_h0_5.toInt ≤ 7) → (¬ m21_L_1.toInt = -1 → (m21_F_h0_4.toInt = -1 ∧ m21_F_h0_3.toInt < tsz.toInt ∧ m21_F_h0_5.toInt = 6 - ((K : Nat) : Int))) → (m21_F_h0_4.toInt = -1 → (m21_F_h0_3.toInt ≤ tsz.toInt ∧ m21_F_h0_5.toInt = 6 - ((K : Nat) : Int))) → (tat.toInt ≤ m21_F_h0_3.toInt) → (m21_F_h0_3.toInt ≤ 240 + ((K : Nat) : Int) ∧ 6 - ((K : Nat) : Int) ≤ m21_F_h0_5.toInt ∧ m21_F_h0_5.toInt ≤ 7 - ((K : Nat) : Int)) → (zLp fB tsz (sTm (sB fB tsz.toInt) tsz.toInt oM (sAtm (sB fB tsz.toInt) tsz.toInt K) tat.toInt) oM (sAtm (sB fB tsz.toInt) tsz.toInt K) m21_F_h0_4 m21_F_h0_3 m21_L_1) → (zTe fB tsz oM (sAtm (sB fB tsz.toInt) tsz.toInt K) (eAtm (sB fB tsz.toInt) tsz.toInt K) (eTm (sB fB tsz.toInt) tsz.toInt oM (sAtm (sB fB tsz.toInt) tsz.toInt K) (eAtm (sB fB tsz.toInt) tsz.toInt K) tat.toInt) fC fV (520 * tx.toInt.toNat) (fD tx.toInt.toNat).toInt m21_A_rC m21_A_rV (m21_A_rD tx.toInt.toNat).toInt m21_F_h0_4 m21_F_h0_3) → (zPar m21_F_h0_4 m21_F_h0_3 m21_A_rC m21_A_rV m21_A_rD tx gC gV fz (k) st (h + 1)) → (300 - m21_F_h0_3.toInt).toNat = n → ∀ (H : Heap) (locs : List Loc) (ls : Array Slot), va_P (dC, dI) vwCl [(h0, .inr (11, [.int th, .ref tB, .int tsz, .int m21_F_h0_3, .int m21_F_h0_4, .int m21_F_h0_5, .ref rC, .ref rV, .ref rD, .ref rK, .ref rT, .ref rS, .ref rU, .int lw, .int tx, .ref rL, .ref rX, .ref qR, .ref qB, .ref qP, .int qnb, .int qnp, .ref aR, .ref aB, .ref aP, .int nb, .int np, .ref aN, .ref rf, .int ho, .int br, .ref aK, .int ac, .long dw, .ref aE, .int sr, .int sf, .ref aA, .ref aH, .ref aI, .int hi])), (tB, .inl (cI, 240, .inl fB)), (rC, .inl (cI, 2600, .inl m21_A_rC)), (rV, .inl (cI, 2600, .inl m21_A_rV)), (rD, .inl (cI, 5, .inl m21_A_rD))] H → va_D A [(h0, .inr (11, [.int th, .ref tB, .int tsz, .int m21_F_h0_3, .int m21_F_h0_4, .int m21_F_h0_5, .ref rC, .ref rV, .ref rD, .ref rK, .ref rT, .ref rS, .ref rU, .int lw, .int tx, .ref rL, .ref rX, .ref qR, .ref qB, .ref qP, .int qnb, .int qnp, .ref aR, .ref aB, .ref aP, .int nb, .int np, .ref aN, .ref rf, .int ho, .int br, .ref aK, .int ac, .long dw, .ref aE, .int sr, .int sf, .ref aA, .ref aH, .ref aI, .int hi])), (tB, .inl (cI, 240, .inl fB)), (rC, .inl (cI, 2600, .inl m21_A_rC)), (rV, .inl (cI, 2600, .inl m21_A_rV)), (rD, .inl (cI, 5, .inl m21_A_rD))] → va_S A s.heap H locs → lv_has ls 2 [(1, .int m21_L_1), (0, .ref h0)] → W p l e R s m args below meth c H locs 0 0 Q (F0 m 21 ls []) := by
      intro n21
      induction n21 using Nat.strongRecOn with
      | _ n21 ih21 =>
        intro m21_A_rC m21_A_rD m21_A_rV m21_F_h0_3 m21_F_h0_4 m21_F_h0_5 m21_L_1 jf21_0 jf21_1 jf21_2 jf21_3 jf21_4 jf21_5 jf21_6 jv21_0 jv21_1 jv21_2 hmu21 H locs ls hP hD hS hl
        refine lv_iload_n hx hb dX11_term_21 rfl (lv_at hl 0 rfl) ?_
        refine lv_bipush (v := 42) hx hb dX11_term_22 (by decide) ?_
        refine lv_icmp_eq (tgt := 33) hx hb dX11_term_24 (by decide) (fun c24 => ?_) (fun c24 => ?_)
        · have c24 : m21_L_1.toInt = 42 := z5 rfl (by decide) c24
          refine lv_aload_n hx hb dX11_term_33 rfl (lv_at hl 1 rfl) ?_
          refine lv_dup hx hb dX11_term_34 rfl ?_
          refine va_get (D := (dC, dI)) (ci := 11) (v := .int m21_F_h0_3) (C := RX11) (T := TX11) (N := 41) hx hb hts iX11 hown hK hP 0 rfl rfl 3 (by decide) (hts _ qw1130) (fun _ h9 => h9) rfl dX11_term_35 ?_
          refine lv_iconst (v := 1) hx hb dX11_term_38 (by decide) ?_
          refine lv_iadd hx hb dX11_term_39 ?_
          refine lv_topi (fun v39 e39 => ?_)
          have i39 : v39.toInt = m21_F_h0_3.toInt + 1 := zadd e39 rfl (by decide) (by omega) (by omega)
          refine va_put (D := (dC, dI)) (ci := 11) (v := .int v39) (ty := .int) (C := RX11) (T := TX11) (N := 41) hx hb hts iX11 tyX11 tyX11_ok nmX11 hown hK hP hD hS 0 rfl rfl 3 (by decide) (hts _ qw1130) (fun _ h9 => h9) rfl (by decide +kernel) rfl rfl (Nat.le_of_ble_eq_true rfl) dX11_term_40 (fun H locs hP9 hD9 hS9 => ?_)
          clear hP hD hS
          obtain ⟨hP, hD⟩ := zst (wX := [(h0, .inr (11, [.int th, .ref tB, .int tsz, .int v39, .int m21_F_h0_4, .int m21_F_h0_5, .ref rC, .ref rV, .ref rD, .ref rK, .ref rT, .ref rS, .ref rU, .int lw, .int tx, .ref rL, .ref rX, .ref qR, .ref qB, .ref qP, .int qnb, .int qnp, .ref aR, .ref aB, .ref aP, .int nb, .int np, .ref aN, .ref rf, .int ho, .int br, .ref aK, .int ac, .long dw, .ref aE, .int sr, .int sf, .ref aA, .ref aH, .ref aI, .int hi])), (tB, .inl (cI, 240, .inl fB)), (rC, .inl (cI, 2600, .inl m21_A_rC)), (rV, .inl (cI, 2600, .inl m21_A_rV)), (rD, .inl (cI, 5, .inl m21_A_rD))]) hP9 hD9 rfl
          have hS := hS9
          clear hP9 hD9 hS9
          refine lv_aload_n hx hb dX11_term_43 rfl (lv_at hl 1 rfl) ?_
          have zx_m21_F_h0_4 : ((-1) : Int32).toInt = (-1) := by decide
          have zy_m21_F_h0_4 : m21_F_h0_4 = (-1) := z7 (a := (-1)) (by decide) (by omega)
          rw [zy_m21_F_h0_4] at hP hD
          obtain ⟨hPc, hDc, hFc⟩ := zc3 (wc := [(h0, .inr (11, [.int th, .ref tB, .int tsz, .int v39, .int (-1), .int m21_F_h0_5, .ref rC, .ref rV, .ref rD, .ref rK, .ref rT, .ref rS, .ref rU, .int lw, .int tx, .ref rL, .ref rX, .ref qR, .ref qB, .ref qP, .int qnb, .int qnp, .ref aR, .ref aB, .ref aP, .int nb, .int np, .ref aN, .ref rf, .int ho, .int br, .ref aK, .int ac, .long dw, .ref aE, .int sr, .int sf, .ref aA, .ref aH, .ref aI, .int hi])), (tB, .inl (cI, 240, .inl fB)), (rC, .inl (cI, 2600, .inl m21_A_rC)), (rV, .inl (cI, 2600, .inl m21_A_rV)), (rD, .inl (cI, 5, .inl m21_A_rD))]) hP hD hS hA [0, 1, 2, 3, 4] (by decide +kernel) rfl
          refine va_callv (va_runV (As := []) (rest := []) ⟨hx, hb, hml, hown, hts⟩ (ihA dC dI cI cJ h0 th tB tsz v39 m21_F_h0_5 rC rV rD rK rT rS rU lw tx rL rX qR qB qP qnb qnp aR aB aP nb np aN rf ho br aK ac dw aE sr sf aA aH aI hi fB m21_A_rC m21_A_rV m21_A_rD gC gV fz (k + 1) st (h + 1) H.size n_ac (by omega) n_hi n_ho n_lw n_nb n_np n_qnb n_qnp (by omega) n_tsz n_tx (by first | exact zPar_mono jv21_2 (by omega) (by omega) (by omega) (by omega)) (by first | decide | omega) (by first | decide | omega) (by first | decide | omega) (by first | decide | omega)) (cwV 0 hts (zgV qw1348 qw1350 qw47 qw108 qw1351) rfl rfl rfl hd_X11_atom ⟨by (try dsimp only) <;> omega, by (try dsimp only) <;> omega⟩) (zPV hPc hK hDc (va_recv (q := (RX11, TX11, 41)) hK hP (ci := 11) (q0 := 0) rfl rfl)) rfl rfl hl.1 rfl (lv_room (Nat.le_of_ble_eq_true rfl)) dX11_term_44 ⟨Nat.zero_le _, Nat.zero_le _⟩) hS (fun q _ h => hFc q h) hFc (fun u44 t H locs ht hvm hw hB hz1 hk1 hS9 => ?_)
          obtain ⟨u44_0, u44_1, u44_2, u44_3, u44_4, u44_5⟩ := u44
          obtain ⟨hP9, hD9⟩ := zj2 (wX := [(h0, .inr (11, [.int th, .ref tB, .int tsz, .int u44_0, .int u44_1, .int u44_2, .ref rC, .ref rV, .ref rD, .ref rK, .ref rT, .ref rS, .ref rU, .int lw, .int tx, .ref rL, .ref rX, .ref qR, .ref qB, .ref qP, .int qnb, .int qnp, .ref aR, .ref aB, .ref aP, .int nb, .int np, .ref aN, .ref rf, .int ho, .int br, .ref aK, .int ac, .long dw, .ref aE, .int sr, .int sf, .ref aA, .ref aH, .ref aI, .int hi])), (tB, .inl (cI, 240, .inl fB)), (rC, .inl (cI, 2600, .inl u44_3)), (rV, .inl (cI, 2600, .inl u44_4)), (rD, .inl (cI, 5, .inl u44_5))]) hP hD hk1 hFc ht hB [0, 1, 2, 3, 4] [(true, 0), (true, 1), (true, 2), (true, 3), (true, 4)] rfl (by decide +kernel) (by decide +kernel) rfl
          clear hP hD hS hPc hDc hFc hB hk1 hz1 hvm
          have hP := hP9
          have hD := hD9
          have hS := hS9
          clear hP9 hD9 hS9
          obtain ⟨f44_0, f44_1, f44_2, f44_3, f44_4, f44_5, f44_6, f44_7, f44_8, f44_9, f44_10, f44_11⟩ : (0 ≤ u44_0.toInt) ∧ (u44_0.toInt ≤ 246) ∧ ((-1) ≤ u44_1.toInt) ∧ (u44_1.toInt ≤ 260) ∧ (0 ≤ u44_2.toInt) ∧ (u44_2.toInt ≤ 7) ∧ (u44_1.toInt = -1 → (u44_0.toInt ≤ tsz.toInt ∧ u44_2.toInt = 6 - ((K : Nat) : Int))) ∧ (v39.toInt ≤ u44_0.toInt) ∧ (u44_0.toInt ≤ 240 + ((K : Nat) : Int) ∧ 6 - ((K : Nat) : Int) ≤ u44_2.toInt ∧ u44_2.toInt ≤ 7 - ((K : Nat) : Int)) ∧ (zW (sAtm (sB fB tsz.toInt) tsz.toInt K v39.toInt) u44_1 u44_0) ∧ (u44_1.toInt = -1 → zEr m21_A_rC m21_A_rV (520 * tx.toInt.toNat) (m21_A_rD tx.toInt.toNat).toInt (eAtm (sB fB tsz.toInt) tsz.toInt K v39.toInt) u44_3 u44_4 (u44_5 tx.toInt.toNat).toInt) ∧ (zPar u44_1 u44_0 u44_3 u44_4 u44_5 tx gC gV fz ((k + 1)) st ((h + 1) + 1)) := hw
          have F44 := f44_9
          have F44_1 : zHid (u44_1.toInt = -1 → zEr m21_A_rC m21_A_rV (520 * tx.toInt.toNat) (m21_A_rD tx.toInt.toNat).toInt (eAtm (sB fB tsz.toInt) tsz.toInt K v39.toInt) u44_3 u44_4 (u44_5 tx.toInt.toNat).toInt) := f44_10
          clear f44_10
          refine lv_aload_n hx hb dX11_term_47 rfl (lv_at hl 1 rfl) ?_
          refine lv_iload_n hx hb dX11_term_48 rfl (lv_at hl 0 rfl) ?_
          refine lv_bipush (v := 42) hx hb dX11_term_49 (by decide) ?_
          refine lv_icmp_ne (tgt := 58) hx hb dX11_term_51 (by decide) (fun c51 => by exfalso; have c51 : ¬ m21_L_1.toInt = 42 := z6 rfl (by decide) c51; omega) (fun c51 => ?_)
          have c51 : m21_L_1.toInt = 42 := z5 rfl (by decide) c51
          refine lv_iconst (v := 4) hx hb dX11_term_54 (by decide) ?_
          refine lv_goto (tgt := 59) hx hb dX11_term_55 (by decide) ?_
          refine lv_iconst (v := 0) hx hb dX11_term_59 (by decide) ?_
          obtain ⟨hPc, hDc, hFc⟩ := zc3 (wc := [(h0, .inr (11, [.int th, .ref tB, .int tsz, .int u44_0, .int u44_1, .int u44_2, .ref rC, .ref rV, .ref rD, .ref rK, .ref rT, .ref rS, .ref rU, .int lw, .int tx, .ref rL, .ref rX, .ref qR, .ref qB, .ref qP, .int qnb, .int qnp, .ref aR, .ref aB, .ref aP, .int nb, .int np, .ref aN, .ref rf, .int ho, .int br, .ref aK, .int ac, .long dw, .ref aE, .int sr, .int sf, .ref aA, .ref aH, .ref aI, .int hi])), (rC, .inl (cI, 2600, .inl u44_3)), (rV, .inl (cI, 2600, .inl u44_4)), (rD, .inl (cI, 5, .inl u44_5))]) hP hD hS hA [0, 2, 3, 4] (by decide +kernel) rfl
          refine va_callv (va_runV (As := [.int 4, .int 0]) (rest := []) ⟨hx, hb, hml, hown, hts⟩ (g_X11_put_op l dC dI cI cJ h0 4 0 th tB tsz u44_0 u44_1 u44_2 rC rV rD rK rT rS rU lw tx rL rX qR qB qP qnb qnp aR aB aP nb np aN rf ho br aK ac dw aE sr sf aA aH aI hi u44_3 u44_4 u44_5 gC gV fz k st h H.size n_ac n_hi n_ho n_lw n_nb n_np (by decide) n_qnb n_qnp (by omega) n_tsz n_tx ⟨f44_2, f44_3⟩ (by first | exact zPar_mono f44_11 (by omega) (by omega) (by omega) (by omega)) (by first | decide | omega)) (cwV 2 hts (zgV qw1332 qw1334 qw43 qw108 qw1335) rfl rfl rfl hd_X11_put ⟨by (try dsimp only) <;> omega, by (try dsimp only) <;> omega⟩) (zPV hPc hK hDc (va_recv (q := (RX11, TX11, 41)) hK hP (ci := 11) (q0 := 0) rfl rfl)) rfl rfl hl.1 rfl (lv_room (Nat.le_of_ble_eq_true rfl)) dX11_term_60 ⟨Nat.zero_le _, Nat.zero_le _⟩) hS (fun q _ h => hFc q h) hFc (fun u60 t H locs ht hvm hw hB hz1 hk1 hS9 => ?_)
          obtain ⟨u60_0, u60_1, u60_2⟩ := u60
          obtain ⟨hP9, hD9⟩ := zj2 (wX := [(h0, .inr (11, [.int th, .ref tB, .int tsz, .int u44_0, .int u44_1, .int u44_2, .ref rC, .ref rV, .ref rD, .ref rK, .ref rT, .ref rS, .ref rU, .int lw, .int tx, .ref rL, .ref rX, .ref qR, .ref qB, .ref qP, .int qnb, .int qnp, .ref aR, .ref aB, .ref aP, .int nb, .int np, .ref aN, .ref rf, .int ho, .int br, .ref aK, .int ac, .long dw, .ref aE, .int sr, .int sf, .ref aA, .ref aH, .ref aI, .int hi])), (tB, .inl (cI, 240, .inl fB)), (rC, .inl (cI, 2600, .inl u60_0)), (rV, .inl (cI, 2600, .inl u60_1)), (rD, .inl (cI, 5, .inl u60_2))]) hP hD hk1 hFc ht hB [0, 2, 3, 4] [(true, 0), (false, 1), (true, 1), (true, 2), (true, 3)] rfl (by decide +kernel) (by decide +kernel) rfl
          clear hP hD hS hPc hDc hFc hB hk1 hz1 hvm
          have hP := hP9
          have hD := hD9
          have hS := hS9
          clear hP9 hD9 hS9
          have zn60_4 : (4 : Int32).toInt = 4 := by decide
          obtain ⟨f60_0, f60_1⟩ : (∀ x : Int, eRc x = (4 : Int32).toInt → ¬ x = 1 → ¬ x = 2 → zEr u44_3 u44_4 (520 * tx.toInt.toNat) (u44_5 tx.toInt.toNat).toInt ([(x, 0)]) u60_0 u60_1 (u60_2 tx.toInt.toNat).toInt) ∧ (zPar u44_1 u44_0 u60_0 u60_1 u60_2 tx gC gV fz (k) st (h + 1)) := hw
          have F60 := f60_0
          refine lv_aload_n hx hb dX11_term_63 rfl (lv_at hl 1 rfl) ?_
          refine va_get (D := (dC, dI)) (ci := 11) (v := .int u44_1) (C := RX11) (T := TX11) (N := 41) hx hb hts iX11 hown hK hP 0 rfl rfl 4 (by decide) (hts _ qw1131) (fun _ h9 => h9) rfl dX11_term_64 ?_
          refine lv_iconst (v := (-1)) hx hb dX11_term_67 (by decide) ?_
          refine lv_icmp_ne (tgt := 78) hx hb dX11_term_68 (by decide) (fun c68 => ?_) (fun c68 => ?_)
          · have c68 : ¬ u44_1.toInt = (-1) := z6 rfl (by decide) c68
            refine lv_iconst (v := (-1)) hx hb dX11_term_78 (by decide) ?_
            refine lv_istore_n (lv' := [(1, .int (-1)), (0, .ref h0)]) hx hb dX11_term_79 rfl hl (by decide) rfl (fun ls hl => ?_)
            refine lv_goto (tgt := 21) hx hb dX11_term_80 (by decide) ?_
            have zj21_m21_L_1 : ((-1) : Int32).toInt = (-1) := by decide
            exact ih21 _ (by omega) u60_0 u60_2 u60_1 u44_0 u44_1 u44_2 (-1) ⟨f44_0, f44_1⟩ ⟨f44_2, f44_3⟩ ⟨f44_4, f44_5⟩ (by omega) (by omega) (by omega) (by omega) (by first | exact zlpS jv21_0 (oM_iff.mpr (by omega)) (by decide) i39 F44 (by omega) (sAtm_mono (sB fB tsz.toInt) tsz.toInt K) F72 | exact zlpB jv21_0 (oM_iff.mpr (by omega)) (by decide) i39 F44 (by omega)) (by first | exact zTe_w (by omega) | exact zTe_s jv21_1 jv21_0 (oM_iff.mpr (by omega)) (by decide) i39 F44 (sAtm_mono (sB fB tsz.toInt) tsz.toInt K) F44_1 (F60 m21_L_1.toInt (by first | (rw [show m21_L_1.toInt = 42 by omega]; decide) | (rw [show m21_L_1.toInt = 47 by omega]; decide)) (by omega) (by omega)) (by have := hpar.2.2.1; omega) (by have := jv21_2.2.2.1; omega) F72) (by first | exact zPar_bad f60_1 (by omega) (by omega) (by omega)) rfl H locs ls hP hD hS (lv_sub hl [0, 1] rfl)
          · have c68 : u44_1.toInt = (-1) := z5 rfl (by decide) c68
            refine lv_aload_n hx hb dX11_term_71 rfl (lv_at hl 1 rfl) ?_
            obtain ⟨hPc, hDc, hFc⟩ := zc3 (wc := [(h0, .inr (11, [.int th, .ref tB, .int tsz, .int u44_0, .int u44_1, .int u44_2, .ref rC, .ref rV, .ref rD, .ref rK, .ref rT, .ref rS, .ref rU, .int lw, .int tx, .ref rL, .ref rX, .ref qR, .ref qB, .ref qP, .int qnb, .int qnp, .ref aR, .ref aB, .ref aP, .int nb, .int np, .ref aN, .ref rf, .int ho, .int br, .ref aK, .int ac, .long dw, .ref aE, .int sr, .int sf, .ref aA, .ref aH, .ref aI, .int hi])), (tB, .inl (cI, 240, .inl fB))]) hP hD hS hA [0, 1] (by decide +kernel) rfl
            refine va_calli (va_runV (As := []) (rest := []) ⟨hx, hb, hml, hown, hts⟩ (g_X11_look_t l dC dI cI cJ h0 th tB tsz u44_0 u44_1 u44_2 rC rV rD rK rT rS rU lw tx rL rX qR qB qP qnb qnp aR aB aP nb np aN rf ho br aK ac dw aE sr sf aA aH aI hi fB H.size n_ac n_hi n_ho n_lw n_nb n_np n_qnb n_qnp (by omega) n_tsz ⟨f44_2, f44_3⟩) (cwV 0 hts (zgV qw1273 qw1275 qw32 qw108 qw1276) rfl rfl rfl hd_X11_look ⟨by (try dsimp only) <;> omega, by (try dsimp only) <;> omega⟩) (zPV hPc hK hDc (va_recv (q := (RX11, TX11, 41)) hK hP (ci := 11) (q0 := 0) rfl rfl)) rfl rfl hl.1 rfl (lv_room (Nat.le_of_ble_eq_true rfl)) dX11_term_72 ⟨Nat.zero_le _, Nat.zero_le _⟩) hS (fun q _ h => hFc q h) hFc (fun v72 u72 t H locs ht hvm hw hB hz1 hk1 hS9 => ?_)
            obtain ⟨u72_0, rfl⟩ : ∃ z, z = u72 := ⟨_, rfl⟩
            obtain ⟨hP9, hD9⟩ := zj2 (wX := [(h0, .inr (11, [.int th, .ref tB, .int tsz, .int u72_0, .int u44_1, .int u44_2, .ref rC, .ref rV, .ref rD, .ref rK, .ref rT, .ref rS, .ref rU, .int lw, .int tx, .ref rL, .ref rX, .ref qR, .ref qB, .ref qP, .int qnb, .int qnp, .ref aR, .ref aB, .ref aP, .int nb, .int np, .ref aN, .ref rf, .int ho, .int br, .ref aK, .int ac, .long dw, .ref aE, .int sr, .int sf, .ref aA, .ref aH, .ref aI, .int hi])), (tB, .inl (cI, 240, .inl fB)), (rC, .inl (cI, 2600, .inl u60_0)), (rV, .inl (cI, 2600, .inl u60_1)), (rD, .inl (cI, 5, .inl u60_2))]) hP hD hk1 hFc ht hB [0, 1] [(true, 0), (true, 1), (false, 2), (false, 3), (false, 4)] rfl (by decide +kernel) (by decide +kernel) rfl
            clear hP hD hS hPc hDc hFc hB hk1 hz1 hvm
            have hP := hP9
            have hD := hD9
            have hS := hS9
            clear hP9 hD9 hS9
            obtain ⟨f72_0, f72_1, f72_2, f72_3, f72_4, f72_5⟩ : (0 ≤ u72_0.toInt) ∧ (u72_0.toInt ≤ 240) ∧ (¬ v72.toInt = -1 → u72_0.toInt < tsz.toInt) ∧ (u44_0.toInt ≤ u72_0.toInt) ∧ (u72_0.toInt ≤ tsz.toInt ∨ u72_0.toInt = u44_0.toInt) ∧ (zLk fB tsz u44_0 v72 u72_0) := hw
            have F72 := f72_5
            refine lv_goto (tgt := 79) hx hb dX11_term_75 (by decide) ?_
            refine lv_istore_n (lv' := [(1, .int v72), (0, .ref h0)]) hx hb dX11_term_79 rfl hl (by decide) rfl (fun ls hl => ?_)
            refine lv_goto (tgt := 21) hx hb dX11_term_80 (by decide) ?_
            exact ih21 _ (by omega) u60_0 u60_2 u60_1 u72_0 u44_1 u44_2 v72 (by omega) ⟨f44_2, f44_3⟩ ⟨f44_4, f44_5⟩ (by omega) (by omega) (by omega) (by omega) (by first | exact zlpS jv21_0 (oM_iff.mpr (by omega)) (by decide) i39 F44 (by omega) (sAtm_mono (sB fB tsz.toInt) tsz.toInt K) F72 | exact zlpB jv21_0 (oM_iff.mpr (by omega)) (by decide) i39 F44 (by omega)) (by first | exact zTe_w (by omega) | exact zTe_s jv21_1 jv21_0 (oM_iff.mpr (by omega)) (by decide) i39 F44 (sAtm_mono (sB fB tsz.toInt) tsz.toInt K) F44_1 (F60 m21_L_1.toInt (by first | (rw [show m21_L_1.toInt = 42 by omega]; decide) | (rw [show m21_L_1.toInt = 47 by omega]; decide)) (by omega) (by omega)) (by have := hpar.2.2.1; omega) (by have := jv21_2.2.2.1; omega) F72) (by first | exact zPar_mono f60_1 (by omega) (by omega) (by omega) (by omega)) rfl H locs ls hP hD hS (lv_sub hl [0, 1] rfl)
        · have c24 : ¬ m21_L_1.toInt = 42 := z6 rfl (by decide) c24
          refine lv_iload_n hx hb dX11_term_27 rfl (lv_at hl 0 rfl) ?_
          refine lv_bipush (v := 47) hx hb dX11_term_28 (by decide) ?_
          refine lv_icmp_ne (tgt := 83) hx hb dX11_term_30 (by decide) (fun c30 => ?_) (fun c30 => ?_)
          · have c30 : ¬ m21_L_1.toInt = 47 := z6 rfl (by decide) c30
            rw [hQ]
            exact W.vret hx hb hr (fun t ht hW => ⟨⟨(m21_F_h0_3, m21_F_h0_4, m21_F_h0_5, m21_A_rC, m21_A_rV, m21_A_rD), rfl, ⟨by (try dsimp only); omega, by (try dsimp only); omega, by (try dsimp only); omega, by (try dsimp only); omega, by (try dsimp only); omega, by (try dsimp only); omega, by (try dsimp only); omega, by (try dsimp only); omega, by (try dsimp only); omega, by (try dsimp only); exact zlpE jv21_0 (fun z => by have := oM_iff.mp z; omega), by (try dsimp only); exact zTe_e jv21_1 jv21_0 (fun z => by have := oM_iff.mp z; omega), by (try dsimp only); first | exact zPar_mono jv21_2 (by omega) (by omega) (by omega) (by omega)⟩, ⟨by rw [ht]; exact hP, hD⟩⟩, hS.F ht⟩) hS.2.2 dX11_term_83
          · have c30 : m21_L_1.toInt = 47 := z5 rfl (by decide) c30
            refine lv_aload_n hx hb dX11_term_33 rfl (lv_at hl 1 rfl) ?_
            refine lv_dup hx hb dX11_term_34 rfl ?_
            refine va_get (D := (dC, dI)) (ci := 11) (v := .int m21_F_h0_3) (C := RX11) (T := TX11) (N := 41) hx hb hts iX11 hown hK hP 0 rfl rfl 3 (by decide) (hts _ qw1130) (fun _ h9 => h9) rfl dX11_term_35 ?_
            refine lv_iconst (v := 1) hx hb dX11_term_38 (by decide) ?_
            refine lv_iadd hx hb dX11_term_39 ?_
            refine lv_topi (fun v39 e39 => ?_)
            have i39 : v39.toInt = m21_F_h0_3.toInt + 1 := zadd e39 rfl (by decide) (by omega) (by omega)
            refine va_put (D := (dC, dI)) (ci := 11) (v := .int v39) (ty := .int) (C := RX11) (T := TX11) (N := 41) hx hb hts iX11 tyX11 tyX11_ok nmX11 hown hK hP hD hS 0 rfl rfl 3 (by decide) (hts _ qw1130) (fun _ h9 => h9) rfl (by decide +kernel) rfl rfl (Nat.le_of_ble_eq_true rfl) dX11_term_40 (fun H locs hP9 hD9 hS9 => ?_)
            clear hP hD hS
            obtain ⟨hP, hD⟩ := zst (wX := [(h0, .inr (11, [.int th, .ref tB, .int tsz, .int v39, .int m21_F_h0_4, .int m21_F_h0_5, .ref rC, .ref rV, .ref rD, .ref rK, .ref rT, .ref rS, .ref rU, .int lw, .int tx, .ref rL, .ref rX, .ref qR, .ref qB, .ref qP, .int qnb, .int qnp, .ref aR, .ref aB, .ref aP, .int nb, .int np, .ref aN, .ref rf, .int ho, .int br, .ref aK, .int ac, .long dw, .ref aE, .int sr, .int sf, .ref aA, .ref aH, .ref aI, .int hi])), (tB, .inl (cI, 240, .inl fB)), (rC, .inl (cI, 2600, .inl m21_A_rC)), (rV, .inl (cI, 2600, .inl m21_A_rV)), (rD, .inl (cI, 5, .inl m21_A_rD))]) hP9 hD9 rfl
            have hS := hS9
            clear hP9 hD9 hS9
            refine lv_aload_n hx hb dX11_term_43 rfl (lv_at hl 1 rfl) ?_
            have zx_m21_F_h0_4 : ((-1) : Int32).toInt = (-1) := by decide
            have zy_m21_F_h0_4 : m21_F_h0_4 = (-1) := z7 (a := (-1)) (by decide) (by omega)
            rw [zy_m21_F_h0_4] at hP hD
            obtain ⟨hPc, hDc, hFc⟩ := zc3 (wc := [(h0, .inr (11, [.int th, .ref tB, .int tsz, .int v39, .int (-1), .int m21_F_h0_5, .ref rC, .ref rV, .ref rD, .ref rK, .ref rT, .ref rS, .ref rU, .int lw, .int tx, .ref rL, .ref rX, .ref qR, .ref qB, .ref qP, .int qnb, .int qnp, .ref aR, .ref aB, .ref aP, .int nb, .int np, .ref aN, .ref rf, .int ho, .int br, .ref aK, .int ac, .long dw, .ref aE, .int sr, .int sf, .ref aA, .ref aH, .ref aI, .int hi])), (tB, .inl (cI, 240, .inl fB)), (rC, .inl (cI, 2600, .inl m21_A_rC)), (rV, .inl (cI, 2600, .inl m21_A_rV)), (rD, .inl (cI, 5, .inl m21_A_rD))]) hP hD hS hA [0, 1, 2, 3, 4] (by decide +kernel) rfl
            refine va_callv (va_runV (As := []) (rest := []) ⟨hx, hb, hml, hown, hts⟩ (ihA dC dI cI cJ h0 th tB tsz v39 m21_F_h0_5 rC rV rD rK rT rS rU lw tx rL rX qR qB qP qnb qnp aR aB aP nb np aN rf ho br aK ac dw aE sr sf aA aH aI hi fB m21_A_rC m21_A_rV m21_A_rD gC gV fz (k + 1) st (h + 1) H.size n_ac (by omega) n_hi n_ho n_lw n_nb n_np n_qnb n_qnp (by omega) n_tsz n_tx (by first | exact zPar_mono jv21_2 (by omega) (by omega) (by omega) (by omega)) (by first | decide | omega) (by first | decide | omega) (by first | decide | omega) (by first | decide | omega)) (cwV 0 hts (zgV qw1348 qw1350 qw47 qw108 qw1351) rfl rfl rfl hd_X11_atom ⟨by (try dsimp only) <;> omega, by (try dsimp only) <;> omega⟩) (zPV hPc hK hDc (va_recv (q := (RX11, TX11, 41)) hK hP (ci := 11) (q0 := 0) rfl rfl)) rfl rfl hl.1 rfl (lv_room (Nat.le_of_ble_eq_true rfl)) dX11_term_44 ⟨Nat.zero_le _, Nat.zero_le _⟩) hS (fun q _ h => hFc q h) hFc (fun u44 t H locs ht hvm hw hB hz1 hk1 hS9 => ?_)
            obtain ⟨u44_0, u44_1, u44_2, u44_3, u44_4, u44_5⟩ := u44
            obtain ⟨hP9, hD9⟩ := zj2 (wX := [(h0, .inr (11, [.int th, .ref tB, .int tsz, .int u44_0, .int u44_1, .int u44_2, .ref rC, .ref rV, .ref rD, .ref rK, .ref rT, .ref rS, .ref rU, .int lw, .int tx, .ref rL, .ref rX, .ref qR, .ref qB, .ref qP, .int qnb, .int qnp, .ref aR, .ref aB, .ref aP, .int nb, .int np, .ref aN, .ref rf, .int ho, .int br, .ref aK, .int ac, .long dw, .ref aE, .int sr, .int sf, .ref aA, .ref aH, .ref aI, .int hi])), (tB, .inl (cI, 240, .inl fB)), (rC, .inl (cI, 2600, .inl u44_3)), (rV, .inl (cI, 2600, .inl u44_4)), (rD, .inl (cI, 5, .inl u44_5))]) hP hD hk1 hFc ht hB [0, 1, 2, 3, 4] [(true, 0), (true, 1), (true, 2), (true, 3), (true, 4)] rfl (by decide +kernel) (by decide +kernel) rfl
            clear hP hD hS hPc hDc hFc hB hk1 hz1 hvm
            have hP := hP9
            have hD := hD9
            have hS := hS9
            clear hP9 hD9 hS9
            obtain ⟨f44_0, f44_1, f44_2, f44_3, f44_4, f44_5, f44_6, f44_7, f44_8, f44_9, f44_10, f44_11⟩ : (0 ≤ u44_0.toInt) ∧ (u44_0.toInt ≤ 246) ∧ ((-1) ≤ u44_1.toInt) ∧ (u44_1.toInt ≤ 260) ∧ (0 ≤ u44_2.toInt) ∧ (u44_2.toInt ≤ 7) ∧ (u44_1.toInt = -1 → (u44_0.toInt ≤ tsz.toInt ∧ u44_2.toInt = 6 - ((K : Nat) : Int))) ∧ (v39.toInt ≤ u44_0.toInt) ∧ (u44_0.toInt ≤ 240 + ((K : Nat) : Int) ∧ 6 - ((K : Nat) : Int) ≤ u44_2.toInt ∧ u44_2.toInt ≤ 7 - ((K : Nat) : Int)) ∧ (zW (sAtm (sB fB tsz.toInt) tsz.toInt K v39.toInt) u44_1 u44_0) ∧ (u44_1.toInt = -1 → zEr m21_A_rC m21_A_rV (520 * tx.toInt.toNat) (m21_A_rD tx.toInt.toNat).toInt (eAtm (sB fB tsz.toInt) tsz.toInt K v39.toInt) u44_3 u44_4 (u44_5 tx.toInt.toNat).toInt) ∧ (zPar u44_1 u44_0 u44_3 u44_4 u44_5 tx gC gV fz ((k + 1)) st ((h + 1) + 1)) := hw
            have F44 := f44_9
            have F44_1 : zHid (u44_1.toInt = -1 → zEr m21_A_rC m21_A_rV (520 * tx.toInt.toNat) (m21_A_rD tx.toInt.toNat).toInt (eAtm (sB fB tsz.toInt) tsz.toInt K v39.toInt) u44_3 u44_4 (u44_5 tx.toInt.toNat).toInt) := f44_10
            clear f44_10
            refine lv_aload_n hx hb dX11_term_47 rfl (lv_at hl 1 rfl) ?_
            refine lv_iload_n hx hb dX11_term_48 rfl (lv_at hl 0 rfl) ?_
            refine lv_bipush (v := 42) hx hb dX11_term_49 (by decide) ?_
            refine lv_icmp_ne (tgt := 58) hx hb dX11_term_51 (by decide) (fun c51 => ?_) (fun c51 => by exfalso; have c51 : m21_L_1.toInt = 42 := z5 rfl (by decide) c51; omega)
            have c51 : ¬ m21_L_1.toInt = 42 := z6 rfl (by decide) c51
            refine lv_iconst (v := 5) hx hb dX11_term_58 (by decide) ?_
            refine lv_iconst (v := 0) hx hb dX11_term_59 (by decide) ?_
            obtain ⟨hPc, hDc, hFc⟩ := zc3 (wc := [(h0, .inr (11, [.int th, .ref tB, .int tsz, .int u44_0, .int u44_1, .int u44_2, .ref rC, .ref rV, .ref rD, .ref rK, .ref rT, .ref rS, .ref rU, .int lw, .int tx, .ref rL, .ref rX, .ref qR, .ref qB, .ref qP, .int qnb, .int qnp, .ref aR, .ref aB, .ref aP, .int nb, .int np, .ref aN, .ref rf, .int ho, .int br, .ref aK, .int ac, .long dw, .ref aE, .int sr, .int sf, .ref aA, .ref aH, .ref aI, .int hi])), (rC, .inl (cI, 2600, .inl u44_3)), (rV, .inl (cI, 2600, .inl u44_4)), (rD, .inl (cI, 5, .inl u44_5))]) hP hD hS hA [0, 2, 3, 4] (by decide +kernel) rfl
            refine va_callv (va_runV (As := [.int 5, .int 0]) (rest := []) ⟨hx, hb, hml, hown, hts⟩ (g_X11_put_op l dC dI cI cJ h0 5 0 th tB tsz u44_0 u44_1 u44_2 rC rV rD rK rT rS rU lw tx rL rX qR qB qP qnb qnp aR aB aP nb np aN rf ho br aK ac dw aE sr sf aA aH aI hi u44_3 u44_4 u44_5 gC gV fz k st h H.size n_ac n_hi n_ho n_lw n_nb n_np (by decide) n_qnb n_qnp (by omega) n_tsz n_tx ⟨f44_2, f44_3⟩ (by first | exact zPar_mono f44_11 (by omega) (by omega) (by omega) (by omega)) (by first | decide | omega)) (cwV 2 hts (zgV qw1332 qw1334 qw43 qw108 qw1335) rfl rfl rfl hd_X11_put ⟨by (try dsimp only) <;> omega, by (try dsimp only) <;> omega⟩) (zPV hPc hK hDc (va_recv (q := (RX11, TX11, 41)) hK hP (ci := 11) (q0 := 0) rfl rfl)) rfl rfl hl.1 rfl (lv_room (Nat.le_of_ble_eq_true rfl)) dX11_term_60 ⟨Nat.zero_le _, Nat.zero_le _⟩) hS (fun q _ h => hFc q h) hFc (fun u60 t H locs ht hvm hw hB hz1 hk1 hS9 => ?_)
            obtain ⟨u60_0, u60_1, u60_2⟩ := u60
            obtain ⟨hP9, hD9⟩ := zj2 (wX := [(h0, .inr (11, [.int th, .ref tB, .int tsz, .int u44_0, .int u44_1, .int u44_2, .ref rC, .ref rV, .ref rD, .ref rK, .ref rT, .ref rS, .ref rU, .int lw, .int tx, .ref rL, .ref rX, .ref qR, .ref qB, .ref qP, .int qnb, .int qnp, .ref aR, .ref aB, .ref aP, .int nb, .int np, .ref aN, .ref rf, .int ho, .int br, .ref aK, .int ac, .long dw, .ref aE, .int sr, .int sf, .ref aA, .ref aH, .ref aI, .int hi])), (tB, .inl (cI, 240, .inl fB)), (rC, .inl (cI, 2600, .inl u60_0)), (rV, .inl (cI, 2600, .inl u60_1)), (rD, .inl (cI, 5, .inl u60_2))]) hP hD hk1 hFc ht hB [0, 2, 3, 4] [(true, 0), (false, 1), (true, 1), (true, 2), (true, 3)] rfl (by decide +kernel) (by decide +kernel) rfl
            clear hP hD hS hPc hDc hFc hB hk1 hz1 hvm
            have hP := hP9
            have hD := hD9
            have hS := hS9
            clear hP9 hD9 hS9
            have zn60_5 : (5 : Int32).toInt = 5 := by decide
            obtain ⟨f60_0, f60_1⟩ : (∀ x : Int, eRc x = (5 : Int32).toInt → ¬ x = 1 → ¬ x = 2 → zEr u44_3 u44_4 (520 * tx.toInt.toNat) (u44_5 tx.toInt.toNat).toInt ([(x, 0)]) u60_0 u60_1 (u60_2 tx.toInt.toNat).toInt) ∧ (zPar u44_1 u44_0 u60_0 u60_1 u60_2 tx gC gV fz (k) st (h + 1)) := hw
            have F60 := f60_0
            refine lv_aload_n hx hb dX11_term_63 rfl (lv_at hl 1 rfl) ?_
            refine va_get (D := (dC, dI)) (ci := 11) (v := .int u44_1) (C := RX11) (T := TX11) (N := 41) hx hb hts iX11 hown hK hP 0 rfl rfl 4 (by decide) (hts _ qw1131) (fun _ h9 => h9) rfl dX11_term_64 ?_
            refine lv_iconst (v := (-1)) hx hb dX11_term_67 (by decide) ?_
            refine lv_icmp_ne (tgt := 78) hx hb dX11_term_68 (by decide) (fun c68 => ?_) (fun c68 => ?_)
            · have c68 : ¬ u44_1.toInt = (-1) := z6 rfl (by decide) c68
              refine lv_iconst (v := (-1)) hx hb dX11_term_78 (by decide) ?_
              refine lv_istore_n (lv' := [(1, .int (-1)), (0, .ref h0)]) hx hb dX11_term_79 rfl hl (by decide) rfl (fun ls hl => ?_)
              refine lv_goto (tgt := 21) hx hb dX11_term_80 (by decide) ?_
              have zj21_m21_L_1 : ((-1) : Int32).toInt = (-1) := by decide
              exact ih21 _ (by omega) u60_0 u60_2 u60_1 u44_0 u44_1 u44_2 (-1) ⟨f44_0, f44_1⟩ ⟨f44_2, f44_3⟩ ⟨f44_4, f44_5⟩ (by omega) (by omega) (by omega) (by omega) (by first | exact zlpS jv21_0 (oM_iff.mpr (by omega)) (by decide) i39 F44 (by omega) (sAtm_mono (sB fB tsz.toInt) tsz.toInt K) F72 | exact zlpB jv21_0 (oM_iff.mpr (by omega)) (by decide) i39 F44 (by omega)) (by first | exact zTe_w (by omega) | exact zTe_s jv21_1 jv21_0 (oM_iff.mpr (by omega)) (by decide) i39 F44 (sAtm_mono (sB fB tsz.toInt) tsz.toInt K) F44_1 (F60 m21_L_1.toInt (by first | (rw [show m21_L_1.toInt = 42 by omega]; decide) | (rw [show m21_L_1.toInt = 47 by omega]; decide)) (by omega) (by omega)) (by have := hpar.2.2.1; omega) (by have := jv21_2.2.2.1; omega) F72) (by first | exact zPar_bad f60_1 (by omega) (by omega) (by omega)) rfl H locs ls hP hD hS (lv_sub hl [0, 1] rfl)
            · have c68 : u44_1.toInt = (-1) := z5 rfl (by decide) c68
              refine lv_aload_n hx hb dX11_term_71 rfl (lv_at hl 1 rfl) ?_
              obtain ⟨hPc, hDc, hFc⟩ := zc3 (wc := [(h0, .inr (11, [.int th, .ref tB, .int tsz, .int u44_0, .int u44_1, .int u44_2, .ref rC, .ref rV, .ref rD, .ref rK, .ref rT, .ref rS, .ref rU, .int lw, .int tx, .ref rL, .ref rX, .ref qR, .ref qB, .ref qP, .int qnb, .int qnp, .ref aR, .ref aB, .ref aP, .int nb, .int np, .ref aN, .ref rf, .int ho, .int br, .ref aK, .int ac, .long dw, .ref aE, .int sr, .int sf, .ref aA, .ref aH, .ref aI, .int hi])), (tB, .inl (cI, 240, .inl fB))]) hP hD hS hA [0, 1] (by decide +kernel) rfl
              refine va_calli (va_runV (As := []) (rest := []) ⟨hx, hb, hml, hown, hts⟩ (g_X11_look_t l dC dI cI cJ h0 th tB tsz u44_0 u44_1 u44_2 rC rV rD rK rT rS rU lw tx rL rX qR qB qP qnb qnp aR aB aP nb np aN rf ho br aK ac dw aE sr sf aA aH aI hi fB H.size n_ac n_hi n_ho n_lw n_nb n_np n_qnb n_qnp (by omega) n_tsz ⟨f44_2, f44_3⟩) (cwV 0 hts (zgV qw1273 qw1275 qw32 qw108 qw1276) rfl rfl rfl hd_X11_look ⟨by (try dsimp only) <;> omega, by (try dsimp only) <;> omega⟩) (zPV hPc hK hDc (va_recv (q := (RX11, TX11, 41)) hK hP (ci := 11) (q0 := 0) rfl rfl)) rfl rfl hl.1 rfl (lv_room (Nat.le_of_ble_eq_true rfl)) dX11_term_72 ⟨Nat.zero_le _, Nat.zero_le _⟩) hS (fun q _ h => hFc q h) hFc (fun v72 u72 t H locs ht hvm hw hB hz1 hk1 hS9 => ?_)
              obtain ⟨u72_0, rfl⟩ : ∃ z, z = u72 := ⟨_, rfl⟩
              obtain ⟨hP9, hD9⟩ := zj2 (wX := [(h0, .inr (11, [.int th, .ref tB, .int tsz, .int u72_0, .int u44_1, .int u44_2, .ref rC, .ref rV, .ref rD, .ref rK, .ref rT, .ref rS, .ref rU, .int lw, .int tx, .ref rL, .ref rX, .ref qR, .ref qB, .ref qP, .int qnb, .int qnp, .ref aR, .ref aB, .ref aP, .int nb, .int np, .ref aN, .ref rf, .int ho, .int br, .ref aK, .int ac, .long dw, .ref aE, .int sr, .int sf, .ref aA, .ref aH, .ref aI, .int hi])), (tB, .inl (cI, 240, .inl fB)), (rC, .inl (cI, 2600, .inl u60_0)), (rV, .inl (cI, 2600, .inl u60_1)), (rD, .inl (cI, 5, .inl u60_2))]) hP hD hk1 hFc ht hB [0, 1] [(true, 0), (true, 1), (false, 2), (false, 3), (false, 4)] rfl (by decide +kernel) (by decide +kernel) rfl
              clear hP hD hS hPc hDc hFc hB hk1 hz1 hvm
              have hP := hP9
              have hD := hD9
              have hS := hS9
              clear hP9 hD9 hS9
              obtain ⟨f72_0, f72_1, f72_2, f72_3, f72_4, f72_5⟩ : (0 ≤ u72_0.toInt) ∧ (u72_0.toInt ≤ 240) ∧ (¬ v72.toInt = -1 → u72_0.toInt < tsz.toInt) ∧ (u44_0.toInt ≤ u72_0.toInt) ∧ (u72_0.toInt ≤ tsz.toInt ∨ u72_0.toInt = u44_0.toInt) ∧ (zLk fB tsz u44_0 v72 u72_0) := hw
              have F72 := f72_5
              refine lv_goto (tgt := 79) hx hb dX11_term_75 (by decide) ?_
              refine lv_istore_n (lv' := [(1, .int v72), (0, .ref h0)]) hx hb dX11_term_79 rfl hl (by decide) rfl (fun ls hl => ?_)
              refine lv_goto (tgt := 21) hx hb dX11_term_80 (by decide) ?_
              exact ih21 _ (by omega) u60_0 u60_2 u60_1 u72_0 u44_1 u44_2 v72 (by omega) ⟨f44_2, f44_3⟩ ⟨f44_4, f44_5⟩ (by omega) (by omega) (by omega) (by omega) (by first | exact zlpS jv21_0 (oM_iff.mpr (by omega)) (by decide) i39 F44 (by omega) (sAtm_mono (sB fB tsz.toInt) tsz.toInt K) F72 | exact zlpB jv21_0 (oM_iff.mpr (by omega)) (by decide) i39 F44 (by omega)) (by first | exact zTe_w (by omega) | exact zTe_s jv21_1 jv21_0 (oM_iff.mpr (by omega)) (by decide) i39 F44 (sAtm_mono (sB fB tsz.toInt) tsz.toInt K) F44_1 (F60 m21_L_1.toInt (by first | (rw [show m21_L_1.toInt = 42 by omega]; decide) | (rw [show m21_L_1.toInt = 47 by omega]; decide)) (by omega) (by omega)) (by have := hpar.2.2.1; omega) (by have := jv21_2.2.2.1; omega) F72) (by first | exact zPar_mono f60_1 (by omega) (by omega) (by omega) (by omega)) rfl H locs ls hP hD hS (lv_sub hl [0, 1] rfl)
    refine lv_istore_n (lv' := [(1, .int v13), (0, .ref h0)]) hx hb dX11_term_20 rfl hl (by decide) rfl (fun ls hl => ?_)
    exact J21 _ u1_3 u1_5 u1_4 u13_0 u1_1 u1_2 v13 (by omega) ⟨f1_2, f1_3⟩ ⟨f1_4, f1_5⟩ (by omega) (by omega) (by omega) (by omega) (by first | exact zlp0 rfl F1 (by omega) F13 | exact zlp1 rfl F1 (by omega)) (by first | exact zTe_b rfl F1 F1_1 F13 | exact zTe_w (by omega)) (by first | exact zPar_mono f1_11 (by omega) (by omega) (by omega) (by omega)) rfl H locs ls hP hD hS (lv_sub hl [0, 1] rfl)
