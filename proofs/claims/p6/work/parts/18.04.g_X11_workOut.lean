set_option maxHeartbeats 4000000 in
set_option maxRecDepth 100000 in
theorem g_X11_workOut (l : Launch) (dC : Nat → ClassId) (dI : Nat → Nat → Nat) (cI cJ : ClassId) (h0 : Nat) (p0 : Int32) (p1 : Int32) (p2 : Int32) (th : Int32) (tB : Nat) (tsz : Int32) (tat : Int32) (wr : Int32) (dp : Int32) (rC : Nat) (rV : Nat) (rD : Nat) (rK : Nat) (rT : Nat) (rS : Nat) (rU : Nat) (lw : Int32) (tx : Int32) (rL : Nat) (rX : Nat) (qR : Nat) (qB : Nat) (qP : Nat) (qnb : Int32) (qnp : Int32) (aR : Nat) (aB : Nat) (aP : Nat) (nb : Int32) (np : Int32) (aN : Nat) (rf : Nat) (ho : Int32) (br : Int32) (aK : Nat) (ac : Int32) (dw : Int64) (aE : Nat) (sr : Int32) (sf : Int32) (aA : Nat) (aH : Nat) (aI : Nat) (hi : Int32) (fC : Nat → Int32) (fV : Nat → Int32) (fL : Nat → Int32) (fX : Nat → Int32) (sz : Nat) (n_ac : 0 ≤ ac.toInt ∧ ac.toInt ≤ 40) (n_hi : 0 ≤ hi.toInt ∧ hi.toInt ≤ 1) (n_ho : (-1) ≤ ho.toInt ∧ ho.toInt ≤ 3) (n_lw : 0 ≤ lw.toInt ∧ lw.toInt ≤ 4) (n_nb : 0 ≤ nb.toInt ∧ nb.toInt ≤ 6) (n_np : 0 ≤ np.toInt ∧ np.toInt ≤ 5) (n_p0 : 0 ≤ p0.toInt ∧ p0.toInt ≤ 3) (n_p1 : 0 ≤ p1.toInt ∧ p1.toInt ≤ 519) (n_p2 : 0 ≤ p2.toInt ∧ p2.toInt ≤ 519) (n_qnb : 0 ≤ qnb.toInt ∧ qnb.toInt ≤ 6) (n_qnp : 0 ≤ qnp.toInt ∧ qnp.toInt ≤ 5) (n_tat : 0 ≤ tat.toInt ∧ tat.toInt ≤ 260) (n_tsz : 0 ≤ tsz.toInt ∧ tsz.toInt ≤ 240) (n_wr : (-1) ≤ wr.toInt ∧ wr.toInt ≤ 260) (hok : zOk fC fV (520 * p0.toInt + p1.toInt) (520 * p0.toInt + p2.toInt))   : Met l yX11_workOut (.code yX11_workOut cX11_workOut 6 (some .int) :: wA) ({ frames := 3, cells := 0, slots := 0, locals := 75 }) (zP (dC, dI) [(cI, .int), (cJ, .long)] [.ref h0, .int p0, .int p1, .int p2] sz [(h0, .inr (11, [.int th, .ref tB, .int tsz, .int tat, .int wr, .int dp, .ref rC, .ref rV, .ref rD, .ref rK, .ref rT, .ref rS, .ref rU, .int lw, .int tx, .ref rL, .ref rX, .ref qR, .ref qB, .ref qP, .int qnb, .int qnp, .ref aR, .ref aB, .ref aP, .int nb, .int np, .ref aN, .ref rf, .int ho, .int br, .ref aK, .int ac, .long dw, .ref aE, .int sr, .int sf, .ref aA, .ref aH, .ref aI, .int hi])), (rC, .inl (cI, 2600, .inl fC)), (rV, .inl (cI, 2600, .inl fV)), (rL, .inl (cI, 6, .inl fL)), (rX, .inl (cI, 80, .inl fX))]) (va_Qi (fun (r : Int32) (u : (Nat → Int32)) => (zWq fC fV fL p0 p1 p2 r)) (fun (u : (Nat → Int32)) (t : State) => va_P (dC, dI) vwCl [(h0, .inr (11, [.int th, .ref tB, .int tsz, .int tat, .int wr, .int dp, .ref rC, .ref rV, .ref rD, .ref rK, .ref rT, .ref rS, .ref rU, .int lw, .int tx, .ref rL, .ref rX, .ref qR, .ref qB, .ref qP, .int qnb, .int qnp, .ref aR, .ref aB, .ref aP, .int nb, .int np, .ref aN, .ref rf, .int ho, .int br, .ref aK, .int ac, .long dw, .ref aE, .int sr, .int sf, .ref aA, .ref aH, .ref aI, .int hi])), (rC, .inl (cI, 2600, .inl fC)), (rV, .inl (cI, 2600, .inl fV)), (rL, .inl (cI, 6, .inl fL)), (rX, .inl (cI, 80, .inl u))] t.heap ∧ va_D (va_A [(h0, .inr (11, [.int th, .ref tB, .int tsz, .int tat, .int wr, .int dp, .ref rC, .ref rV, .ref rD, .ref rK, .ref rT, .ref rS, .ref rU, .int lw, .int tx, .ref rL, .ref rX, .ref qR, .ref qB, .ref qP, .int qnb, .int qnp, .ref aR, .ref aB, .ref aP, .int nb, .int np, .ref aN, .ref rf, .int ho, .int br, .ref aK, .int ac, .long dw, .ref aE, .int sr, .int sf, .ref aA, .ref aH, .ref aI, .int hi])), (rC, .inl (cI, 2600, .inl fC)), (rV, .inl (cI, 2600, .inl fV)), (rL, .inl (cI, 6, .inl fL)), (rX, .inl (cI, 80, .inl fX))] sz) [(h0, .inr (11, [.int th, .ref tB, .int tsz, .int tat, .int wr, .int dp, .ref rC, .ref rV, .ref rD, .ref rK, .ref rT, .ref rS, .ref rU, .int lw, .int tx, .ref rL, .ref rX, .ref qR, .ref qB, .ref qP, .int qnb, .int qnp, .ref aR, .ref aB, .ref aP, .int nb, .int np, .ref aN, .ref rf, .int ho, .int br, .ref aK, .int ac, .long dw, .ref aE, .int sr, .int sf, .ref aA, .ref aH, .ref aI, .int hi])), (rC, .inl (cI, 2600, .inl fC)), (rV, .inl (cI, 2600, .inl fV)), (rL, .inl (cI, 6, .inl fL)), (rX, .inl (cI, 80, .inl u))]) (va_A [(h0, .inr (11, [.int th, .ref tB, .int tsz, .int tat, .int wr, .int dp, .ref rC, .ref rV, .ref rD, .ref rK, .ref rT, .ref rS, .ref rU, .int lw, .int tx, .ref rL, .ref rX, .ref qR, .ref qB, .ref qP, .int qnb, .int qnp, .ref aR, .ref aB, .ref aP, .int nb, .int np, .ref aN, .ref rf, .int ho, .int br, .ref aK, .int ac, .long dw, .ref aE, .int sr, .int sf, .ref aA, .ref aH, .ref aI, .int hi])), (rC, .inl (cI, 2600, .inl fC)), (rV, .inl (cI, 2600, .inl fV)), (rL, .inl (cI, 6, .inl fL)), (rX, .inl (cI, 80, .inl fX))] sz)) 0 0 (va_A [(h0, .inr (11, [.int th, .ref tB, .int tsz, .int tat, .int wr, .int dp, .ref rC, .ref rV, .ref rD, .ref rK, .ref rT, .ref rS, .ref rU, .int lw, .int tx, .ref rL, .ref rX, .ref qR, .ref qB, .ref qP, .int qnb, .int qnp, .ref aR, .ref aB, .ref aP, .int nb, .int np, .ref aN, .ref rf, .int ho, .int br, .ref aK, .int ac, .long dw, .ref aE, .int sr, .int sf, .ref aA, .ref aH, .ref aI, .int hi])), (rC, .inl (cI, 2600, .inl fC)), (rV, .inl (cI, 2600, .inl fV)), (rL, .inl (cI, 6, .inl fL)), (rX, .inl (cI, 80, .inl fX))] sz) := by
  refine Met.ofW (cc := cX11_workOut) (maxL := 6) (ret := (some .int)) (by decide) rfl ?_
  intro p e s m args below meth c s₁ B hml hv
  obtain ⟨hargs, hsz, hP, hK, hT⟩ := hv
  have hx := B.exec
  have hb := B.bytes
  have hr := B.returns
  have hts : ∀ w ∈ wA, w.before args s = true := fun w h => atoms_spec (ws := .code yX11_workOut cX11_workOut 6 (some .int) :: wA) B.pre w (List.mem_cons_of_mem _ h)
  have hown : s.vm.findClass RX11 = some m.cls := findClass_of_methodNamed B.named
  have hlocks := B.notSynchronized
  subst hsz
  have hD := hT.self (sz := s.heap.size)
  generalize hAe : va_A [(h0, .inr (11, [.int th, .ref tB, .int tsz, .int tat, .int wr, .int dp, .ref rC, .ref rV, .ref rD, .ref rK, .ref rT, .ref rS, .ref rU, .int lw, .int tx, .ref rL, .ref rX, .ref qR, .ref qB, .ref qP, .int qnb, .int qnp, .ref aR, .ref aB, .ref aP, .int nb, .int np, .ref aN, .ref rf, .int ho, .int br, .ref aK, .int ac, .long dw, .ref aE, .int sr, .int sf, .ref aA, .ref aH, .ref aI, .int hi])), (rC, .inl (cI, 2600, .inl fC)), (rV, .inl (cI, 2600, .inl fV)), (rL, .inl (cI, 6, .inl fL)), (rX, .inl (cI, 80, .inl fX))] s.heap.size = A at hD ⊢
  have hA : ∀ q : Nat, s.heap.size ≤ q → A q := fun q h => by rw [← hAe]; exact Or.inr h
  have hl := lv_entry ([.ref h0, .int p0, .int p1, .int p2]) (n := 6) (Nat.le_of_ble_eq_true rfl)
  rw [show entryFrame m args 6 = entryFrame m ([.ref h0, .int p0, .int p1, .int p2] : List Value).toArray 6 by rw [hargs], lg_entry_eq]
  generalize (lg_sl ([.ref h0, .int p0, .int p1, .int p2]) ++ List.replicate (6 - (lg_sl ([.ref h0, .int p0, .int p1, .int p2])).length) Slot.unset).toArray = ls at hl ⊢
  have hl : lv_has ls 6 [(0, .ref h0), (1, .int p0), (2, .int p1), (3, .int p2)] := hl
  refine zstart (fun H hH => ?_)
  rw [← hH] at hP
  have hS : va_S A s.heap H [] := by rw [hH]; exact va_S.rf
  generalize ([] : List Loc) = locs at hS ⊢
  refine zgen (fun R Q hR hQ => ?_)
  refine lv_iconst (v := 0) hx hb dX11_workOut_0 (by decide) ?_
  refine lv_istore (lv' := [(4, .int 0), (0, .ref h0), (1, .int p0), (2, .int p1), (3, .int p2)]) hx hb dX11_workOut_1 hl (by decide) rfl (fun ls hl => ?_)
  refine lv_sipush (v := 520) hx hb dX11_workOut_3 (by decide) ?_
  refine lv_iload_n hx hb dX11_workOut_6 rfl (lv_at hl 2 rfl) ?_
  refine lv_imul hx hb dX11_workOut_7 ?_
  refine lv_topi (fun v7 e7 => ?_)
  have i7 : v7.toInt = 520 * p0.toInt := zmul e7 (by decide) rfl (by omega) (by omega)
  refine lv_iload_n hx hb dX11_workOut_8 rfl (lv_at hl 3 rfl) ?_
  refine lv_iadd hx hb dX11_workOut_9 ?_
  refine lv_topi (fun v9 e9 => ?_)
  have i9 : v9.toInt = v7.toInt + p1.toInt := zadd e9 rfl rfl (by omega) (by omega)
  have J12 : ∀ (n : Nat) (m12_A_rX : Nat → Int32) (m12_L_4 : Int32) (m12_L_5 : Int32), (0 ≤ m12_L_4.toInt ∧ m12_L_4.toInt ≤ 80) → (0 ≤ m12_L_5.toInt ∧ m12_L_5.toInt ≤ 2079) → (zGo fC m12_L_5.toInt (520 * p0.toInt + p2.toInt) m12_L_4.toInt) → (520 * p0.toInt + p1.toInt ≤ m12_L_5.toInt) → (∀ lt : List (Int × Int), zWp fC fV (520 * p0.toInt) p1.toInt p2.toInt lt → zWk fL lt m12_A_rX m12_L_4 (m12_L_5.toInt - 520 * p0.toInt - p1.toInt)) → (2080 - m12_L_5.toInt).toNat = n → ∀ (H : Heap) (locs : List Loc) (ls : Array Slot), va_P (dC, dI) vwCl [(h0, .inr (11, [.int th, .ref tB, .int tsz, .int tat, .int wr, .int dp, .ref rC, .ref rV, .ref rD, .ref rK, .ref rT, .ref rS, .ref rU, .int lw, .int tx, .ref rL, .ref rX, .ref qR, .ref qB, .ref qP, .int qnb, .int qnp, .ref aR, .ref aB, .ref aP, .int nb, .int np, .ref aN, .ref rf, .int ho, .int br, .ref aK, .int ac, .long dw, .ref aE, .int sr, .int sf, .ref aA, .ref aH, .ref aI, .int hi])), (rC, .inl (cI, 2600, .inl fC)), (rV, .inl (cI, 2600, .inl fV)), (rL, .inl (cI, 6, .inl fL)), (rX, .inl (cI, 80, .inl m12_A_rX))] H → va_D A [(h0, .inr (11, [.int th, .ref tB, .int tsz, .int tat, .int wr, .int dp, .ref rC, .ref rV, .ref rD, .ref rK, .ref rT, .ref rS, .ref rU, .int lw, .int tx, .ref rL, .ref rX, .ref qR, .ref qB, .ref qP, .int qnb, .int qnp, .ref aR, .ref aB, .ref aP, .int nb, .int np, .ref aN, .ref rf, .int ho, .int br, .ref aK, .int ac, .long dw, .ref aE, .int sr, .int sf, .ref aA, .ref aH, .ref aI, .int hi])), (rC, .inl (cI, 2600, .inl fC)), (rV, .inl (cI, 2600, .inl fV)), (rL, .inl (cI, 6, .inl fL)), (rX, .inl (cI, 80, .inl m12_A_rX))] → va_S A s.heap H locs → lv_has ls 6 [(5, .int m12_L_5), (4, .int m12_L_4), (0, .ref h0), (1, .int p0), (2, .int p1), (3, .int p2)] → W p l e R s m args below meth c H locs 0 0 Q (F0 m 12 ls []) := by
    intro n12
    induction n12 using Nat.strongRecOn with
    | _ n12 ih12 =>
      intro m12_A_rX m12_L_4 m12_L_5 jf12_0 jf12_1 jv12_0 jf12_3 jv12_1 hmu12 H locs ls hP hD hS hl
      refine lv_iload hx hb dX11_workOut_12 (lv_at hl 0 rfl) ?_
      refine lv_sipush (v := 520) hx hb dX11_workOut_14 (by decide) ?_
      refine lv_iload_n hx hb dX11_workOut_17 rfl (lv_at hl 3 rfl) ?_
      refine lv_imul hx hb dX11_workOut_18 ?_
      refine lv_topi (fun v18 e18 => ?_)
      have i18 : v18.toInt = 520 * p0.toInt := zmul e18 (by decide) rfl (by omega) (by omega)
      refine lv_iload_n hx hb dX11_workOut_19 rfl (lv_at hl 5 rfl) ?_
      refine lv_iadd hx hb dX11_workOut_20 ?_
      refine lv_topi (fun v20 e20 => ?_)
      have i20 : v20.toInt = v18.toInt + p2.toInt := zadd e20 rfl rfl (by omega) (by omega)
      refine lv_icmp_ge (tgt := 171) hx hb dX11_workOut_21 (by decide) (fun c21 => ?_) (fun c21 => ?_)
      · have c21 : v20.toInt ≤ m12_L_5.toInt := z3 rfl rfl c21
        refine lv_aload_n hx hb dX11_workOut_171 rfl (lv_at hl 2 rfl) ?_
        refine va_get (D := (dC, dI)) (ci := 11) (v := .ref rX) (C := RX11) (T := TX11) (N := 41) hx hb hts iX11 hown hK hP 0 rfl rfl 16 (by decide) (hts _ qw1143) (fun _ h9 => h9) rfl dX11_workOut_172 ?_
        refine lv_iconst (v := 0) hx hb dX11_workOut_175 (by decide) ?_
        refine va_iald hx hb hK hP 4 0 rfl rfl (by unfold vp_in; decide) dX11_workOut_176 ?_
        refine lv_topi (fun v176 e176 => ?_)
        rw [hQ]
        exact W.iret (v := v176) hx hb hr (fun t ht hW => ⟨⟨v176, m12_A_rX, rfl, (by (try dsimp only); exact fun lt v hp hv => zWkE (k := m12_L_5) (jv12_1 lt hp) hp (by omega) (by omega) e176 hv), ⟨by rw [ht]; exact hP, hD⟩⟩, hS.F ht⟩) hS.2.2 dX11_workOut_177
      · have c21 : m12_L_5.toInt < v20.toInt := z4 rfl rfl c21
        refine lv_aload_n hx hb dX11_workOut_24 rfl (lv_at hl 2 rfl) ?_
        refine va_get (D := (dC, dI)) (ci := 11) (v := .ref rC) (C := RX11) (T := TX11) (N := 41) hx hb hts iX11 hown hK hP 0 rfl rfl 6 (by decide) (hts _ qw1133) (fun _ h9 => h9) rfl dX11_workOut_25 ?_
        refine lv_iload hx hb dX11_workOut_28 (lv_at hl 0 rfl) ?_
        refine va_iald hx hb hK hP 1 0 rfl rfl (vp_in_iff.mpr ⟨by omega, by omega⟩) dX11_workOut_30 ?_
        refine lv_topi (fun v30 e30 => ?_)
        have i30 : v30.toInt = (fC m12_L_5.toInt.toNat).toInt := zIx e30 (by omega)
        refine lv_if_eq (tgt := 45) hx hb dX11_workOut_31 (by decide) (fun c31 => ?_) (fun c31 => ?_)
        · have c31 : v30.toInt = 0 := z5 rfl (by decide) c31
          have q45 : m12_L_4.toInt ≤ 79 := (zGo_y (k' := 0) (t' := 0) jv12_0 (by omega) (by omega) (by omega)).1
          refine lv_aload_n hx hb dX11_workOut_45 rfl (lv_at hl 2 rfl) ?_
          refine va_get (D := (dC, dI)) (ci := 11) (v := .ref rX) (C := RX11) (T := TX11) (N := 41) hx hb hts iX11 hown hK hP 0 rfl rfl 16 (by decide) (hts _ qw1143) (fun _ h9 => h9) rfl dX11_workOut_46 ?_
          refine lv_iload hx hb dX11_workOut_49 (lv_at hl 1 rfl) ?_
          refine lv_aload_n hx hb dX11_workOut_51 rfl (lv_at hl 2 rfl) ?_
          refine va_get (D := (dC, dI)) (ci := 11) (v := .ref rC) (C := RX11) (T := TX11) (N := 41) hx hb hts iX11 hown hK hP 0 rfl rfl 6 (by decide) (hts _ qw1133) (fun _ h9 => h9) rfl dX11_workOut_52 ?_
          refine lv_iload hx hb dX11_workOut_55 (lv_at hl 0 rfl) ?_
          refine va_iald hx hb hK hP 1 0 rfl rfl (vp_in_iff.mpr ⟨by omega, by omega⟩) dX11_workOut_57 ?_
          refine lv_topi (fun v57 e57 => ?_)
          have i57 : v57.toInt = (fC m12_L_5.toInt.toNat).toInt := zIx e57 (by omega)
          refine lv_if_ne (tgt := 71) hx hb dX11_workOut_58 (by decide) (fun c58 => ?_) (fun c58 => ?_)
          · have c58 : ¬ v57.toInt = 0 := z6 rfl (by decide) c58
            refine lv_aload_n hx hb dX11_workOut_71 rfl (lv_at hl 2 rfl) ?_
            refine va_get (D := (dC, dI)) (ci := 11) (v := .ref rL) (C := RX11) (T := TX11) (N := 41) hx hb hts iX11 hown hK hP 0 rfl rfl 15 (by decide) (hts _ qw1142) (fun _ h9 => h9) rfl dX11_workOut_72 ?_
            refine lv_aload_n hx hb dX11_workOut_75 rfl (lv_at hl 2 rfl) ?_
            refine va_get (D := (dC, dI)) (ci := 11) (v := .ref rV) (C := RX11) (T := TX11) (N := 41) hx hb hts iX11 hown hK hP 0 rfl rfl 7 (by decide) (hts _ qw1134) (fun _ h9 => h9) rfl dX11_workOut_76 ?_
            refine lv_iload hx hb dX11_workOut_79 (lv_at hl 0 rfl) ?_
            refine va_iald hx hb hK hP 2 0 rfl rfl (vp_in_iff.mpr ⟨by omega, by omega⟩) dX11_workOut_81 ?_
            refine lv_topi (fun v81 e81 => ?_)
            have i81 : 0 ≤ v81.toInt ∧ v81.toInt ≤ 5 := zLt_g hok e81 (by omega) (by omega) (by omega) (by omega)
            refine va_iald hx hb hK hP 3 0 rfl rfl (vp_in_iff.mpr ⟨by omega, by omega⟩) dX11_workOut_82 ?_
            refine lv_topi (fun v82 e82 => ?_)
            refine va_iast hx hb hK hP hD hS 4 0 rfl rfl (vp_in_iff.mpr ⟨by omega, by omega⟩) dX11_workOut_83 (fun H locs hP hD hS => ?_)
            obtain ⟨v83_f, e83⟩ : ∃ g : Nat → Int32, g = upd m12_A_rX (m12_L_4).toNatClampNeg v82 := ⟨_, rfl⟩
            rw [← e83] at hP hD
            have hP : va_P (dC, dI) vwCl [(h0, .inr (11, [.int th, .ref tB, .int tsz, .int tat, .int wr, .int dp, .ref rC, .ref rV, .ref rD, .ref rK, .ref rT, .ref rS, .ref rU, .int lw, .int tx, .ref rL, .ref rX, .ref qR, .ref qB, .ref qP, .int qnb, .int qnp, .ref aR, .ref aB, .ref aP, .int nb, .int np, .ref aN, .ref rf, .int ho, .int br, .ref aK, .int ac, .long dw, .ref aE, .int sr, .int sf, .ref aA, .ref aH, .ref aI, .int hi])), (rC, .inl (cI, 2600, .inl fC)), (rV, .inl (cI, 2600, .inl fV)), (rL, .inl (cI, 6, .inl fL)), (rX, .inl (cI, 80, .inl v83_f))] H := hP
            have hD : va_D A [(h0, .inr (11, [.int th, .ref tB, .int tsz, .int tat, .int wr, .int dp, .ref rC, .ref rV, .ref rD, .ref rK, .ref rT, .ref rS, .ref rU, .int lw, .int tx, .ref rL, .ref rX, .ref qR, .ref qB, .ref qP, .int qnb, .int qnp, .ref aR, .ref aB, .ref aP, .int nb, .int np, .ref aN, .ref rf, .int ho, .int br, .ref aK, .int ac, .long dw, .ref aE, .int sr, .int sf, .ref aA, .ref aH, .ref aI, .int hi])), (rC, .inl (cI, 2600, .inl fC)), (rV, .inl (cI, 2600, .inl fV)), (rL, .inl (cI, 6, .inl fL)), (rX, .inl (cI, 80, .inl v83_f))] := hD
            obtain ⟨v84, e84⟩ : ∃ y : Int32, y = m12_L_4 + Int32.ofInt (1) := ⟨_, rfl⟩
            refine lv_iinc (v := v84) (lv' := [(4, .int v84), (5, .int m12_L_5), (0, .ref h0), (1, .int p0), (2, .int p1), (3, .int p2)]) hx hb dX11_workOut_84 hl (k := 1) rfl e84.symm (by decide) rfl (fun ls hl => ?_)
            have i84 : v84.toInt = m12_L_4.toInt + 1 := zaddI e84 (by decide) (by omega) (by omega)
            refine lv_goto (tgt := 165) hx hb dX11_workOut_87 (by decide) ?_
            obtain ⟨v165, e165⟩ : ∃ y : Int32, y = m12_L_5 + Int32.ofInt (1) := ⟨_, rfl⟩
            refine lv_iinc (v := v165) (lv' := [(5, .int v165), (4, .int v84), (0, .ref h0), (1, .int p0), (2, .int p1), (3, .int p2)]) hx hb dX11_workOut_165 hl (k := 1) rfl e165.symm (by decide) rfl (fun ls hl => ?_)
            have i165 : v165.toInt = m12_L_5.toInt + 1 := zaddI e165 (by decide) (by omega) (by omega)
            refine lv_goto (tgt := 12) hx hb dX11_workOut_168 (by decide) ?_
            exact ih12 _ (by omega) v83_f v84 v165 (by omega) (by omega) (by first | exact (zGo_y jv12_0 (by omega) (by omega) (by omega)).2 (by omega) (by omega) | exact (zGo_n jv12_0 (by omega) (by omega) (by omega)).2 (by omega) (by omega) | exact (zGo_o jv12_0 (by omega) (by omega) (by omega)).2 (by omega) (by omega) | fail) (by omega) (by first | exact fun lt hp => zWkP (jv12_1 lt hp) hp (by omega) (by omega) e57 (by omega) e67 e83 (by omega) (by omega) | exact fun lt hp => zWkL (jv12_1 lt hp) hp (by omega) (by omega) e40 (by omega) e81 e82 e83 (by omega) (by omega) | exact fun lt hp => zWkN (jv12_1 lt hp) hp (by omega) (by omega) e96 (by omega) (by omega) (by omega) (by omega) e119 e120 e121 (by omega) | exact fun lt hp => zWkO (jv12_1 lt hp) hp (by omega) (by omega) e96 e142 ⟨by omega, by omega, by omega⟩ (by omega) (by omega) (by omega) (by omega) e151 e152 e159 e160 F161 e164 (by omega) | (exfalso; omega) | fail) rfl H locs ls hP hD hS (lv_sub hl [0, 1, 2, 3, 4, 5] rfl)
          · have c58 : v57.toInt = 0 := z5 rfl (by decide) c58
            refine lv_aload_n hx hb dX11_workOut_61 rfl (lv_at hl 2 rfl) ?_
            refine va_get (D := (dC, dI)) (ci := 11) (v := .ref rV) (C := RX11) (T := TX11) (N := 41) hx hb hts iX11 hown hK hP 0 rfl rfl 7 (by decide) (hts _ qw1134) (fun _ h9 => h9) rfl dX11_workOut_62 ?_
            refine lv_iload hx hb dX11_workOut_65 (lv_at hl 0 rfl) ?_
            refine va_iald hx hb hK hP 2 0 rfl rfl (vp_in_iff.mpr ⟨by omega, by omega⟩) dX11_workOut_67 ?_
            refine lv_topi (fun v67 e67 => ?_)
            refine lv_goto (tgt := 83) hx hb dX11_workOut_68 (by decide) ?_
            refine va_iast hx hb hK hP hD hS 4 0 rfl rfl (vp_in_iff.mpr ⟨by omega, by omega⟩) dX11_workOut_83 (fun H locs hP hD hS => ?_)
            obtain ⟨v83_f, e83⟩ : ∃ g : Nat → Int32, g = upd m12_A_rX (m12_L_4).toNatClampNeg v67 := ⟨_, rfl⟩
            rw [← e83] at hP hD
            have hP : va_P (dC, dI) vwCl [(h0, .inr (11, [.int th, .ref tB, .int tsz, .int tat, .int wr, .int dp, .ref rC, .ref rV, .ref rD, .ref rK, .ref rT, .ref rS, .ref rU, .int lw, .int tx, .ref rL, .ref rX, .ref qR, .ref qB, .ref qP, .int qnb, .int qnp, .ref aR, .ref aB, .ref aP, .int nb, .int np, .ref aN, .ref rf, .int ho, .int br, .ref aK, .int ac, .long dw, .ref aE, .int sr, .int sf, .ref aA, .ref aH, .ref aI, .int hi])), (rC, .inl (cI, 2600, .inl fC)), (rV, .inl (cI, 2600, .inl fV)), (rL, .inl (cI, 6, .inl fL)), (rX, .inl (cI, 80, .inl v83_f))] H := hP
            have hD : va_D A [(h0, .inr (11, [.int th, .ref tB, .int tsz, .int tat, .int wr, .int dp, .ref rC, .ref rV, .ref rD, .ref rK, .ref rT, .ref rS, .ref rU, .int lw, .int tx, .ref rL, .ref rX, .ref qR, .ref qB, .ref qP, .int qnb, .int qnp, .ref aR, .ref aB, .ref aP, .int nb, .int np, .ref aN, .ref rf, .int ho, .int br, .ref aK, .int ac, .long dw, .ref aE, .int sr, .int sf, .ref aA, .ref aH, .ref aI, .int hi])), (rC, .inl (cI, 2600, .inl fC)), (rV, .inl (cI, 2600, .inl fV)), (rL, .inl (cI, 6, .inl fL)), (rX, .inl (cI, 80, .inl v83_f))] := hD
            obtain ⟨v84, e84⟩ : ∃ y : Int32, y = m12_L_4 + Int32.ofInt (1) := ⟨_, rfl⟩
            refine lv_iinc (v := v84) (lv' := [(4, .int v84), (5, .int m12_L_5), (0, .ref h0), (1, .int p0), (2, .int p1), (3, .int p2)]) hx hb dX11_workOut_84 hl (k := 1) rfl e84.symm (by decide) rfl (fun ls hl => ?_)
            have i84 : v84.toInt = m12_L_4.toInt + 1 := zaddI e84 (by decide) (by omega) (by omega)
            refine lv_goto (tgt := 165) hx hb dX11_workOut_87 (by decide) ?_
            obtain ⟨v165, e165⟩ : ∃ y : Int32, y = m12_L_5 + Int32.ofInt (1) := ⟨_, rfl⟩
            refine lv_iinc (v := v165) (lv' := [(5, .int v165), (4, .int v84), (0, .ref h0), (1, .int p0), (2, .int p1), (3, .int p2)]) hx hb dX11_workOut_165 hl (k := 1) rfl e165.symm (by decide) rfl (fun ls hl => ?_)
            have i165 : v165.toInt = m12_L_5.toInt + 1 := zaddI e165 (by decide) (by omega) (by omega)
            refine lv_goto (tgt := 12) hx hb dX11_workOut_168 (by decide) ?_
            exact ih12 _ (by omega) v83_f v84 v165 (by omega) (by omega) (by first | exact (zGo_y jv12_0 (by omega) (by omega) (by omega)).2 (by omega) (by omega) | exact (zGo_n jv12_0 (by omega) (by omega) (by omega)).2 (by omega) (by omega) | exact (zGo_o jv12_0 (by omega) (by omega) (by omega)).2 (by omega) (by omega) | fail) (by omega) (by first | exact fun lt hp => zWkP (jv12_1 lt hp) hp (by omega) (by omega) e57 (by omega) e67 e83 (by omega) (by omega) | exact fun lt hp => zWkL (jv12_1 lt hp) hp (by omega) (by omega) e40 (by omega) e81 e82 e83 (by omega) (by omega) | exact fun lt hp => zWkN (jv12_1 lt hp) hp (by omega) (by omega) e96 (by omega) (by omega) (by omega) (by omega) e119 e120 e121 (by omega) | exact fun lt hp => zWkO (jv12_1 lt hp) hp (by omega) (by omega) e96 e142 ⟨by omega, by omega, by omega⟩ (by omega) (by omega) (by omega) (by omega) e151 e152 e159 e160 F161 e164 (by omega) | (exfalso; omega) | fail) rfl H locs ls hP hD hS (lv_sub hl [0, 1, 2, 3, 4, 5] rfl)
        · have c31 : ¬ v30.toInt = 0 := z6 rfl (by decide) c31
          refine lv_aload_n hx hb dX11_workOut_34 rfl (lv_at hl 2 rfl) ?_
          refine va_get (D := (dC, dI)) (ci := 11) (v := .ref rC) (C := RX11) (T := TX11) (N := 41) hx hb hts iX11 hown hK hP 0 rfl rfl 6 (by decide) (hts _ qw1133) (fun _ h9 => h9) rfl dX11_workOut_35 ?_
          refine lv_iload hx hb dX11_workOut_38 (lv_at hl 0 rfl) ?_
          refine va_iald hx hb hK hP 1 0 rfl rfl (vp_in_iff.mpr ⟨by omega, by omega⟩) dX11_workOut_40 ?_
          refine lv_topi (fun v40 e40 => ?_)
          have i40 : v40.toInt = (fC m12_L_5.toInt.toNat).toInt := zIx e40 (by omega)
          refine lv_iconst (v := 1) hx hb dX11_workOut_41 (by decide) ?_
          refine lv_icmp_ne (tgt := 90) hx hb dX11_workOut_42 (by decide) (fun c42 => ?_) (fun c42 => ?_)
          · have c42 : ¬ v40.toInt = 1 := z6 rfl (by decide) c42
            refine lv_aload_n hx hb dX11_workOut_90 rfl (lv_at hl 2 rfl) ?_
            refine va_get (D := (dC, dI)) (ci := 11) (v := .ref rC) (C := RX11) (T := TX11) (N := 41) hx hb hts iX11 hown hK hP 0 rfl rfl 6 (by decide) (hts _ qw1133) (fun _ h9 => h9) rfl dX11_workOut_91 ?_
            refine lv_iload hx hb dX11_workOut_94 (lv_at hl 0 rfl) ?_
            refine va_iald hx hb hK hP 1 0 rfl rfl (vp_in_iff.mpr ⟨by omega, by omega⟩) dX11_workOut_96 ?_
            refine lv_topi (fun v96 e96 => ?_)
            have i96 : v96.toInt = (fC m12_L_5.toInt.toNat).toInt := zIx e96 (by omega)
            refine lv_bipush (v := 9) hx hb dX11_workOut_97 (by decide) ?_
            refine lv_icmp_ne (tgt := 125) hx hb dX11_workOut_99 (by decide) (fun c99 => ?_) (fun c99 => ?_)
            · have c99 : ¬ v96.toInt = 9 := z6 rfl (by decide) c99
              have q125 : 2 ≤ m12_L_4.toInt := (zGo_o (k' := 0) (t' := 0) jv12_0 (by omega) (by omega) (by omega)).1
              obtain ⟨v125, e125⟩ : ∃ y : Int32, y = m12_L_4 + Int32.ofInt (-1) := ⟨_, rfl⟩
              refine lv_iinc (v := v125) (lv' := [(4, .int v125), (5, .int m12_L_5), (0, .ref h0), (1, .int p0), (2, .int p1), (3, .int p2)]) hx hb dX11_workOut_125 hl (k := 1) rfl e125.symm (by decide) rfl (fun ls hl => ?_)
              have i125 : v125.toInt = m12_L_4.toInt + (-1) := zaddI e125 (by decide) (by omega) (by omega)
              refine lv_aload_n hx hb dX11_workOut_128 rfl (lv_at hl 2 rfl) ?_
              refine va_get (D := (dC, dI)) (ci := 11) (v := .ref rX) (C := RX11) (T := TX11) (N := 41) hx hb hts iX11 hown hK hP 0 rfl rfl 16 (by decide) (hts _ qw1143) (fun _ h9 => h9) rfl dX11_workOut_129 ?_
              refine lv_iload hx hb dX11_workOut_132 (lv_at hl 0 rfl) ?_
              refine lv_iconst (v := 1) hx hb dX11_workOut_134 (by decide) ?_
              refine lv_isub hx hb dX11_workOut_135 ?_
              refine lv_topi (fun v135 e135 => ?_)
              have i135 : v135.toInt = v125.toInt - 1 := zsub e135 rfl (by decide) (by omega) (by omega)
              refine lv_aload_n hx hb dX11_workOut_136 rfl (lv_at hl 2 rfl) ?_
              refine va_get (D := (dC, dI)) (ci := 11) (v := .ref rC) (C := RX11) (T := TX11) (N := 41) hx hb hts iX11 hown hK hP 0 rfl rfl 6 (by decide) (hts _ qw1133) (fun _ h9 => h9) rfl dX11_workOut_137 ?_
              refine lv_iload hx hb dX11_workOut_140 (lv_at hl 1 rfl) ?_
              refine va_iald hx hb hK hP 1 0 rfl rfl (vp_in_iff.mpr ⟨by omega, by omega⟩) dX11_workOut_142 ?_
              refine lv_topi (fun v142 e142 => ?_)
              have i142 : v142.toInt = (fC m12_L_5.toInt.toNat).toInt := zIx e142 (by omega)
              refine lv_aload_n hx hb dX11_workOut_143 rfl (lv_at hl 2 rfl) ?_
              refine va_get (D := (dC, dI)) (ci := 11) (v := .ref rX) (C := RX11) (T := TX11) (N := 41) hx hb hts iX11 hown hK hP 0 rfl rfl 16 (by decide) (hts _ qw1143) (fun _ h9 => h9) rfl dX11_workOut_144 ?_
              refine lv_iload hx hb dX11_workOut_147 (lv_at hl 0 rfl) ?_
              refine lv_iconst (v := 1) hx hb dX11_workOut_149 (by decide) ?_
              refine lv_isub hx hb dX11_workOut_150 ?_
              refine lv_topi (fun v150 e150 => ?_)
              have i150 : v150.toInt = v125.toInt - 1 := zsub e150 rfl (by decide) (by omega) (by omega)
              refine va_iald hx hb hK hP 4 0 rfl rfl (vp_in_iff.mpr ⟨by omega, by omega⟩) dX11_workOut_151 ?_
              refine lv_topi (fun v151 e151 => ?_)
              refine lv_i2l hx hb dX11_workOut_152 rfl ?_
              refine lv_topl (fun v152 e152 => ?_)
              refine lv_aload_n hx hb dX11_workOut_153 rfl (lv_at hl 2 rfl) ?_
              refine va_get (D := (dC, dI)) (ci := 11) (v := .ref rX) (C := RX11) (T := TX11) (N := 41) hx hb hts iX11 hown hK hP 0 rfl rfl 16 (by decide) (hts _ qw1143) (fun _ h9 => h9) rfl dX11_workOut_154 ?_
              refine lv_iload hx hb dX11_workOut_157 (lv_at hl 0 rfl) ?_
              refine va_iald hx hb hK hP 4 0 rfl rfl (vp_in_iff.mpr ⟨by omega, by omega⟩) dX11_workOut_159 ?_
              refine lv_topi (fun v159 e159 => ?_)
              refine lv_i2l hx hb dX11_workOut_160 rfl ?_
              refine lv_topl (fun v160 e160 => ?_)
              have hPc : va_P (dC, dI) vwCl [] H := zP0
              have hDc : va_D (fun _ => True) [] := zD0
              have hFc := zfr hS hA
              refine va_calli (va_runS (As := [.int v142, .long v152, .long v160]) (rest := [.int v135, .ref rX]) ⟨hx, hb, hml, hown, hts⟩ (g_X11_worked l dC dI cI cJ v142 v152 v160 H.size) (cwS 3 hts (zgS qw1454 qw1455 qw108 qw1456) rfl rfl rfl hd_X11_worked ⟨by rw [hR]; exact Nat.le_of_ble_eq_true rfl, by rw [hR]; exact Nat.le_of_ble_eq_true rfl⟩) (zPS hPc hK hDc) rfl rfl hl.1 rfl (lv_room (Nat.le_of_ble_eq_true rfl)) dX11_workOut_161 ⟨Nat.zero_le _, Nat.zero_le _⟩) hS (fun q _ h => hFc q h) hFc (fun v161 u161 t H locs ht hvm hw hB hz1 hk1 hS => ?_)
              have hP := zkeep hP hk1
              have f161_0 : (zI32 v152.toInt → zI32 v160.toInt → v161 = zJq v142.toInt v152.toInt v160.toInt) := hw
              have F161 := f161_0
              refine va_iast hx hb hK hP hD hS 4 0 rfl rfl (vp_in_iff.mpr ⟨by omega, by omega⟩) dX11_workOut_164 (fun H locs hP hD hS => ?_)
              obtain ⟨v164_f, e164⟩ : ∃ g : Nat → Int32, g = upd m12_A_rX (v135).toNatClampNeg v161 := ⟨_, rfl⟩
              rw [← e164] at hP hD
              have hP : va_P (dC, dI) vwCl [(h0, .inr (11, [.int th, .ref tB, .int tsz, .int tat, .int wr, .int dp, .ref rC, .ref rV, .ref rD, .ref rK, .ref rT, .ref rS, .ref rU, .int lw, .int tx, .ref rL, .ref rX, .ref qR, .ref qB, .ref qP, .int qnb, .int qnp, .ref aR, .ref aB, .ref aP, .int nb, .int np, .ref aN, .ref rf, .int ho, .int br, .ref aK, .int ac, .long dw, .ref aE, .int sr, .int sf, .ref aA, .ref aH, .ref aI, .int hi])), (rC, .inl (cI, 2600, .inl fC)), (rV, .inl (cI, 2600, .inl fV)), (rL, .inl (cI, 6, .inl fL)), (rX, .inl (cI, 80, .inl v164_f))] H := hP
              have hD : va_D A [(h0, .inr (11, [.int th, .ref tB, .int tsz, .int tat, .int wr, .int dp, .ref rC, .ref rV, .ref rD, .ref rK, .ref rT, .ref rS, .ref rU, .int lw, .int tx, .ref rL, .ref rX, .ref qR, .ref qB, .ref qP, .int qnb, .int qnp, .ref aR, .ref aB, .ref aP, .int nb, .int np, .ref aN, .ref rf, .int ho, .int br, .ref aK, .int ac, .long dw, .ref aE, .int sr, .int sf, .ref aA, .ref aH, .ref aI, .int hi])), (rC, .inl (cI, 2600, .inl fC)), (rV, .inl (cI, 2600, .inl fV)), (rL, .inl (cI, 6, .inl fL)), (rX, .inl (cI, 80, .inl v164_f))] := hD
              obtain ⟨v165, e165⟩ : ∃ y : Int32, y = m12_L_5 + Int32.ofInt (1) := ⟨_, rfl⟩
              refine lv_iinc (v := v165) (lv' := [(5, .int v165), (4, .int v125), (0, .ref h0), (1, .int p0), (2, .int p1), (3, .int p2)]) hx hb dX11_workOut_165 hl (k := 1) rfl e165.symm (by decide) rfl (fun ls hl => ?_)
              have i165 : v165.toInt = m12_L_5.toInt + 1 := zaddI e165 (by decide) (by omega) (by omega)
              refine lv_goto (tgt := 12) hx hb dX11_workOut_168 (by decide) ?_
              exact ih12 _ (by omega) v164_f v125 v165 (by omega) (by omega) (by first | exact (zGo_y jv12_0 (by omega) (by omega) (by omega)).2 (by omega) (by omega) | exact (zGo_n jv12_0 (by omega) (by omega) (by omega)).2 (by omega) (by omega) | exact (zGo_o jv12_0 (by omega) (by omega) (by omega)).2 (by omega) (by omega) | fail) (by omega) (by first | exact fun lt hp => zWkP (jv12_1 lt hp) hp (by omega) (by omega) e57 (by omega) e67 e83 (by omega) (by omega) | exact fun lt hp => zWkL (jv12_1 lt hp) hp (by omega) (by omega) e40 (by omega) e81 e82 e83 (by omega) (by omega) | exact fun lt hp => zWkN (jv12_1 lt hp) hp (by omega) (by omega) e96 (by omega) (by omega) (by omega) (by omega) e119 e120 e121 (by omega) | exact fun lt hp => zWkO (jv12_1 lt hp) hp (by omega) (by omega) e96 e142 ⟨by omega, by omega, by omega⟩ (by omega) (by omega) (by omega) (by omega) e151 e152 e159 e160 F161 e164 (by omega) | (exfalso; omega) | fail) rfl H locs ls hP hD hS (lv_sub hl [0, 1, 2, 3, 4, 5] rfl)
            · have c99 : v96.toInt = 9 := z5 rfl (by decide) c99
              have q102 : 1 ≤ m12_L_4.toInt := (zGo_n (k' := 0) (t' := 0) jv12_0 (by omega) (by omega) (by omega)).1
              refine lv_aload_n hx hb dX11_workOut_102 rfl (lv_at hl 2 rfl) ?_
              refine va_get (D := (dC, dI)) (ci := 11) (v := .ref rX) (C := RX11) (T := TX11) (N := 41) hx hb hts iX11 hown hK hP 0 rfl rfl 16 (by decide) (hts _ qw1143) (fun _ h9 => h9) rfl dX11_workOut_103 ?_
              refine lv_iload hx hb dX11_workOut_106 (lv_at hl 1 rfl) ?_
              refine lv_iconst (v := 1) hx hb dX11_workOut_108 (by decide) ?_
              refine lv_isub hx hb dX11_workOut_109 ?_
              refine lv_topi (fun v109 e109 => ?_)
              have i109 : v109.toInt = m12_L_4.toInt - 1 := zsub e109 rfl (by decide) (by omega) (by omega)
              refine lv_iconst (v := 1) hx hb dX11_workOut_110 (by decide) ?_
              refine lv_aload_n hx hb dX11_workOut_111 rfl (lv_at hl 2 rfl) ?_
              refine va_get (D := (dC, dI)) (ci := 11) (v := .ref rX) (C := RX11) (T := TX11) (N := 41) hx hb hts iX11 hown hK hP 0 rfl rfl 16 (by decide) (hts _ qw1143) (fun _ h9 => h9) rfl dX11_workOut_112 ?_
              refine lv_iload hx hb dX11_workOut_115 (lv_at hl 1 rfl) ?_
              refine lv_iconst (v := 1) hx hb dX11_workOut_117 (by decide) ?_
              refine lv_isub hx hb dX11_workOut_118 ?_
              refine lv_topi (fun v118 e118 => ?_)
              have i118 : v118.toInt = m12_L_4.toInt - 1 := zsub e118 rfl (by decide) (by omega) (by omega)
              refine va_iald hx hb hK hP 4 0 rfl rfl (vp_in_iff.mpr ⟨by omega, by omega⟩) dX11_workOut_119 ?_
              refine lv_topi (fun v119 e119 => ?_)
              refine lv_isub hx hb dX11_workOut_120 ?_
              refine lv_topi (fun v120 e120 => ?_)
              refine va_iast hx hb hK hP hD hS 4 0 rfl rfl (vp_in_iff.mpr ⟨by omega, by omega⟩) dX11_workOut_121 (fun H locs hP hD hS => ?_)
              obtain ⟨v121_f, e121⟩ : ∃ g : Nat → Int32, g = upd m12_A_rX (v109).toNatClampNeg v120 := ⟨_, rfl⟩
              rw [← e121] at hP hD
              have hP : va_P (dC, dI) vwCl [(h0, .inr (11, [.int th, .ref tB, .int tsz, .int tat, .int wr, .int dp, .ref rC, .ref rV, .ref rD, .ref rK, .ref rT, .ref rS, .ref rU, .int lw, .int tx, .ref rL, .ref rX, .ref qR, .ref qB, .ref qP, .int qnb, .int qnp, .ref aR, .ref aB, .ref aP, .int nb, .int np, .ref aN, .ref rf, .int ho, .int br, .ref aK, .int ac, .long dw, .ref aE, .int sr, .int sf, .ref aA, .ref aH, .ref aI, .int hi])), (rC, .inl (cI, 2600, .inl fC)), (rV, .inl (cI, 2600, .inl fV)), (rL, .inl (cI, 6, .inl fL)), (rX, .inl (cI, 80, .inl v121_f))] H := hP
              have hD : va_D A [(h0, .inr (11, [.int th, .ref tB, .int tsz, .int tat, .int wr, .int dp, .ref rC, .ref rV, .ref rD, .ref rK, .ref rT, .ref rS, .ref rU, .int lw, .int tx, .ref rL, .ref rX, .ref qR, .ref qB, .ref qP, .int qnb, .int qnp, .ref aR, .ref aB, .ref aP, .int nb, .int np, .ref aN, .ref rf, .int ho, .int br, .ref aK, .int ac, .long dw, .ref aE, .int sr, .int sf, .ref aA, .ref aH, .ref aI, .int hi])), (rC, .inl (cI, 2600, .inl fC)), (rV, .inl (cI, 2600, .inl fV)), (rL, .inl (cI, 6, .inl fL)), (rX, .inl (cI, 80, .inl v121_f))] := hD
              refine lv_goto (tgt := 165) hx hb dX11_workOut_122 (by decide) ?_
              obtain ⟨v165, e165⟩ : ∃ y : Int32, y = m12_L_5 + Int32.ofInt (1) := ⟨_, rfl⟩
              refine lv_iinc (v := v165) (lv' := [(5, .int v165), (4, .int m12_L_4), (0, .ref h0), (1, .int p0), (2, .int p1), (3, .int p2)]) hx hb dX11_workOut_165 hl (k := 0) rfl e165.symm (by decide) rfl (fun ls hl => ?_)
              have i165 : v165.toInt = m12_L_5.toInt + 1 := zaddI e165 (by decide) (by omega) (by omega)
              refine lv_goto (tgt := 12) hx hb dX11_workOut_168 (by decide) ?_
              exact ih12 _ (by omega) v121_f m12_L_4 v165 (by omega) (by omega) (by first | exact (zGo_y jv12_0 (by omega) (by omega) (by omega)).2 (by omega) (by omega) | exact (zGo_n jv12_0 (by omega) (by omega) (by omega)).2 (by omega) (by omega) | exact (zGo_o jv12_0 (by omega) (by omega) (by omega)).2 (by omega) (by omega) | fail) (by omega) (by first | exact fun lt hp => zWkP (jv12_1 lt hp) hp (by omega) (by omega) e57 (by omega) e67 e83 (by omega) (by omega) | exact fun lt hp => zWkL (jv12_1 lt hp) hp (by omega) (by omega) e40 (by omega) e81 e82 e83 (by omega) (by omega) | exact fun lt hp => zWkN (jv12_1 lt hp) hp (by omega) (by omega) e96 (by omega) (by omega) (by omega) (by omega) e119 e120 e121 (by omega) | exact fun lt hp => zWkO (jv12_1 lt hp) hp (by omega) (by omega) e96 e142 ⟨by omega, by omega, by omega⟩ (by omega) (by omega) (by omega) (by omega) e151 e152 e159 e160 F161 e164 (by omega) | (exfalso; omega) | fail) rfl H locs ls hP hD hS (lv_sub hl [0, 1, 2, 3, 4, 5] rfl)
          · have c42 : v40.toInt = 1 := z5 rfl (by decide) c42
            have q45 : m12_L_4.toInt ≤ 79 := (zGo_y (k' := 0) (t' := 0) jv12_0 (by omega) (by omega) (by omega)).1
            refine lv_aload_n hx hb dX11_workOut_45 rfl (lv_at hl 2 rfl) ?_
            refine va_get (D := (dC, dI)) (ci := 11) (v := .ref rX) (C := RX11) (T := TX11) (N := 41) hx hb hts iX11 hown hK hP 0 rfl rfl 16 (by decide) (hts _ qw1143) (fun _ h9 => h9) rfl dX11_workOut_46 ?_
            refine lv_iload hx hb dX11_workOut_49 (lv_at hl 1 rfl) ?_
            refine lv_aload_n hx hb dX11_workOut_51 rfl (lv_at hl 2 rfl) ?_
            refine va_get (D := (dC, dI)) (ci := 11) (v := .ref rC) (C := RX11) (T := TX11) (N := 41) hx hb hts iX11 hown hK hP 0 rfl rfl 6 (by decide) (hts _ qw1133) (fun _ h9 => h9) rfl dX11_workOut_52 ?_
            refine lv_iload hx hb dX11_workOut_55 (lv_at hl 0 rfl) ?_
            refine va_iald hx hb hK hP 1 0 rfl rfl (vp_in_iff.mpr ⟨by omega, by omega⟩) dX11_workOut_57 ?_
            refine lv_topi (fun v57 e57 => ?_)
            have i57 : v57.toInt = (fC m12_L_5.toInt.toNat).toInt := zIx e57 (by omega)
            refine lv_if_ne (tgt := 71) hx hb dX11_workOut_58 (by decide) (fun c58 => ?_) (fun c58 => ?_)
            · have c58 : ¬ v57.toInt = 0 := z6 rfl (by decide) c58
              refine lv_aload_n hx hb dX11_workOut_71 rfl (lv_at hl 2 rfl) ?_
              refine va_get (D := (dC, dI)) (ci := 11) (v := .ref rL) (C := RX11) (T := TX11) (N := 41) hx hb hts iX11 hown hK hP 0 rfl rfl 15 (by decide) (hts _ qw1142) (fun _ h9 => h9) rfl dX11_workOut_72 ?_
              refine lv_aload_n hx hb dX11_workOut_75 rfl (lv_at hl 2 rfl) ?_
              refine va_get (D := (dC, dI)) (ci := 11) (v := .ref rV) (C := RX11) (T := TX11) (N := 41) hx hb hts iX11 hown hK hP 0 rfl rfl 7 (by decide) (hts _ qw1134) (fun _ h9 => h9) rfl dX11_workOut_76 ?_
              refine lv_iload hx hb dX11_workOut_79 (lv_at hl 0 rfl) ?_
              refine va_iald hx hb hK hP 2 0 rfl rfl (vp_in_iff.mpr ⟨by omega, by omega⟩) dX11_workOut_81 ?_
              refine lv_topi (fun v81 e81 => ?_)
              have i81 : 0 ≤ v81.toInt ∧ v81.toInt ≤ 5 := zLt_g hok e81 (by omega) (by omega) (by omega) (by omega)
              refine va_iald hx hb hK hP 3 0 rfl rfl (vp_in_iff.mpr ⟨by omega, by omega⟩) dX11_workOut_82 ?_
              refine lv_topi (fun v82 e82 => ?_)
              refine va_iast hx hb hK hP hD hS 4 0 rfl rfl (vp_in_iff.mpr ⟨by omega, by omega⟩) dX11_workOut_83 (fun H locs hP hD hS => ?_)
              obtain ⟨v83_f, e83⟩ : ∃ g : Nat → Int32, g = upd m12_A_rX (m12_L_4).toNatClampNeg v82 := ⟨_, rfl⟩
              rw [← e83] at hP hD
              have hP : va_P (dC, dI) vwCl [(h0, .inr (11, [.int th, .ref tB, .int tsz, .int tat, .int wr, .int dp, .ref rC, .ref rV, .ref rD, .ref rK, .ref rT, .ref rS, .ref rU, .int lw, .int tx, .ref rL, .ref rX, .ref qR, .ref qB, .ref qP, .int qnb, .int qnp, .ref aR, .ref aB, .ref aP, .int nb, .int np, .ref aN, .ref rf, .int ho, .int br, .ref aK, .int ac, .long dw, .ref aE, .int sr, .int sf, .ref aA, .ref aH, .ref aI, .int hi])), (rC, .inl (cI, 2600, .inl fC)), (rV, .inl (cI, 2600, .inl fV)), (rL, .inl (cI, 6, .inl fL)), (rX, .inl (cI, 80, .inl v83_f))] H := hP
              have hD : va_D A [(h0, .inr (11, [.int th, .ref tB, .int tsz, .int tat, .int wr, .int dp, .ref rC, .ref rV, .ref rD, .ref rK, .ref rT, .ref rS, .ref rU, .int lw, .int tx, .ref rL, .ref rX, .ref qR, .ref qB, .ref qP, .int qnb, .int qnp, .ref aR, .ref aB, .ref aP, .int nb, .int np, .ref aN, .ref rf, .int ho, .int br, .ref aK, .int ac, .long dw, .ref aE, .int sr, .int sf, .ref aA, .ref aH, .ref aI, .int hi])), (rC, .inl (cI, 2600, .inl fC)), (rV, .inl (cI, 2600, .inl fV)), (rL, .inl (cI, 6, .inl fL)), (rX, .inl (cI, 80, .inl v83_f))] := hD
              obtain ⟨v84, e84⟩ : ∃ y : Int32, y = m12_L_4 + Int32.ofInt (1) := ⟨_, rfl⟩
              refine lv_iinc (v := v84) (lv' := [(4, .int v84), (5, .int m12_L_5), (0, .ref h0), (1, .int p0), (2, .int p1), (3, .int p2)]) hx hb dX11_workOut_84 hl (k := 1) rfl e84.symm (by decide) rfl (fun ls hl => ?_)
              have i84 : v84.toInt = m12_L_4.toInt + 1 := zaddI e84 (by decide) (by omega) (by omega)
              refine lv_goto (tgt := 165) hx hb dX11_workOut_87 (by decide) ?_
              obtain ⟨v165, e165⟩ : ∃ y : Int32, y = m12_L_5 + Int32.ofInt (1) := ⟨_, rfl⟩
              refine lv_iinc (v := v165) (lv' := [(5, .int v165), (4, .int v84), (0, .ref h0), (1, .int p0), (2, .int p1), (3, .int p2)]) hx hb dX11_workOut_165 hl (k := 1) rfl e165.symm (by decide) rfl (fun ls hl => ?_)
              have i165 : v165.toInt = m12_L_5.toInt + 1 := zaddI e165 (by decide) (by omega) (by omega)
              refine lv_goto (tgt := 12) hx hb dX11_workOut_168 (by decide) ?_
              exact ih12 _ (by omega) v83_f v84 v165 (by omega) (by omega) (by first | exact (zGo_y jv12_0 (by omega) (by omega) (by omega)).2 (by omega) (by omega) | exact (zGo_n jv12_0 (by omega) (by omega) (by omega)).2 (by omega) (by omega) | exact (zGo_o jv12_0 (by omega) (by omega) (by omega)).2 (by omega) (by omega) | fail) (by omega) (by first | exact fun lt hp => zWkP (jv12_1 lt hp) hp (by omega) (by omega) e57 (by omega) e67 e83 (by omega) (by omega) | exact fun lt hp => zWkL (jv12_1 lt hp) hp (by omega) (by omega) e40 (by omega) e81 e82 e83 (by omega) (by omega) | exact fun lt hp => zWkN (jv12_1 lt hp) hp (by omega) (by omega) e96 (by omega) (by omega) (by omega) (by omega) e119 e120 e121 (by omega) | exact fun lt hp => zWkO (jv12_1 lt hp) hp (by omega) (by omega) e96 e142 ⟨by omega, by omega, by omega⟩ (by omega) (by omega) (by omega) (by omega) e151 e152 e159 e160 F161 e164 (by omega) | (exfalso; omega) | fail) rfl H locs ls hP hD hS (lv_sub hl [0, 1, 2, 3, 4, 5] rfl)
            · have c58 : v57.toInt = 0 := z5 rfl (by decide) c58
              refine lv_aload_n hx hb dX11_workOut_61 rfl (lv_at hl 2 rfl) ?_
              refine va_get (D := (dC, dI)) (ci := 11) (v := .ref rV) (C := RX11) (T := TX11) (N := 41) hx hb hts iX11 hown hK hP 0 rfl rfl 7 (by decide) (hts _ qw1134) (fun _ h9 => h9) rfl dX11_workOut_62 ?_
              refine lv_iload hx hb dX11_workOut_65 (lv_at hl 0 rfl) ?_
              refine va_iald hx hb hK hP 2 0 rfl rfl (vp_in_iff.mpr ⟨by omega, by omega⟩) dX11_workOut_67 ?_
              refine lv_topi (fun v67 e67 => ?_)
              refine lv_goto (tgt := 83) hx hb dX11_workOut_68 (by decide) ?_
              refine va_iast hx hb hK hP hD hS 4 0 rfl rfl (vp_in_iff.mpr ⟨by omega, by omega⟩) dX11_workOut_83 (fun H locs hP hD hS => ?_)
              obtain ⟨v83_f, e83⟩ : ∃ g : Nat → Int32, g = upd m12_A_rX (m12_L_4).toNatClampNeg v67 := ⟨_, rfl⟩
              rw [← e83] at hP hD
              have hP : va_P (dC, dI) vwCl [(h0, .inr (11, [.int th, .ref tB, .int tsz, .int tat, .int wr, .int dp, .ref rC, .ref rV, .ref rD, .ref rK, .ref rT, .ref rS, .ref rU, .int lw, .int tx, .ref rL, .ref rX, .ref qR, .ref qB, .ref qP, .int qnb, .int qnp, .ref aR, .ref aB, .ref aP, .int nb, .int np, .ref aN, .ref rf, .int ho, .int br, .ref aK, .int ac, .long dw, .ref aE, .int sr, .int sf, .ref aA, .ref aH, .ref aI, .int hi])), (rC, .inl (cI, 2600, .inl fC)), (rV, .inl (cI, 2600, .inl fV)), (rL, .inl (cI, 6, .inl fL)), (rX, .inl (cI, 80, .inl v83_f))] H := hP
              have hD : va_D A [(h0, .inr (11, [.int th, .ref tB, .int tsz, .int tat, .int wr, .int dp, .ref rC, .ref rV, .ref rD, .ref rK, .ref rT, .ref rS, .ref rU, .int lw, .int tx, .ref rL, .ref rX, .ref qR, .ref qB, .ref qP, .int qnb, .int qnp, .ref aR, .ref aB, .ref aP, .int nb, .int np, .ref aN, .ref rf, .int ho, .int br, .ref aK, .int ac, .long dw, .ref aE, .int sr, .int sf, .ref aA, .ref aH, .ref aI, .int hi])), (rC, .inl (cI, 2600, .inl fC)), (rV, .inl (cI, 2600, .inl fV)), (rL, .inl (cI, 6, .inl fL)), (rX, .inl (cI, 80, .inl v83_f))] := hD
              obtain ⟨v84, e84⟩ : ∃ y : Int32, y = m12_L_4 + Int32.ofInt (1) := ⟨_, rfl⟩
              refine lv_iinc (v := v84) (lv' := [(4, .int v84), (5, .int m12_L_5), (0, .ref h0), (1, .int p0), (2, .int p1), (3, .int p2)]) hx hb dX11_workOut_84 hl (k := 1) rfl e84.symm (by decide) rfl (fun ls hl => ?_)
              have i84 : v84.toInt = m12_L_4.toInt + 1 := zaddI e84 (by decide) (by omega) (by omega)
              refine lv_goto (tgt := 165) hx hb dX11_workOut_87 (by decide) ?_
              obtain ⟨v165, e165⟩ : ∃ y : Int32, y = m12_L_5 + Int32.ofInt (1) := ⟨_, rfl⟩
              refine lv_iinc (v := v165) (lv' := [(5, .int v165), (4, .int v84), (0, .ref h0), (1, .int p0), (2, .int p1), (3, .int p2)]) hx hb dX11_workOut_165 hl (k := 1) rfl e165.symm (by decide) rfl (fun ls hl => ?_)
              have i165 : v165.toInt = m12_L_5.toInt + 1 := zaddI e165 (by decide) (by omega) (by omega)
              refine lv_goto (tgt := 12) hx hb dX11_workOut_168 (by decide) ?_
              exact ih12 _ (by omega) v83_f v84 v165 (by omega) (by omega) (by first | exact (zGo_y jv12_0 (by omega) (by omega) (by omega)).2 (by omega) (by omega) | exact (zGo_n jv12_0 (by omega) (by omega) (by omega)).2 (by omega) (by omega) | exact (zGo_o jv12_0 (by omega) (by omega) (by omega)).2 (by omega) (by omega) | fail) (by omega) (by first | exact fun lt hp => zWkP (jv12_1 lt hp) hp (by omega) (by omega) e57 (by omega) e67 e83 (by omega) (by omega) | exact fun lt hp => zWkL (jv12_1 lt hp) hp (by omega) (by omega) e40 (by omega) e81 e82 e83 (by omega) (by omega) | exact fun lt hp => zWkN (jv12_1 lt hp) hp (by omega) (by omega) e96 (by omega) (by omega) (by omega) (by omega) e119 e120 e121 (by omega) | exact fun lt hp => zWkO (jv12_1 lt hp) hp (by omega) (by omega) e96 e142 ⟨by omega, by omega, by omega⟩ (by omega) (by omega) (by omega) (by omega) e151 e152 e159 e160 F161 e164 (by omega) | (exfalso; omega) | fail) rfl H locs ls hP hD hS (lv_sub hl [0, 1, 2, 3, 4, 5] rfl)
  refine lv_istore (lv' := [(5, .int v9), (4, .int 0), (0, .ref h0), (1, .int p0), (2, .int p1), (3, .int p2)]) hx hb dX11_workOut_10 hl (by decide) rfl (fun ls hl => ?_)
  have zj12_m12_L_4 : (0 : Int32).toInt = 0 := by decide
  exact J12 _ fX 0 v9 (by decide) (by omega) (zGo_eq hok.1 (by omega) rfl (by decide)) (by omega) (fun lt hp => zWk0 (by omega)) rfl H locs ls hP hD hS (lv_sub hl [0, 1, 2, 3, 4, 5] rfl)
