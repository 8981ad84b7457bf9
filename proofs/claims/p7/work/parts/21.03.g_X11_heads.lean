set_option maxHeartbeats 4000000 in
set_option maxRecDepth 100000 in
theorem g_X11_heads (l : Launch) (dC : Nat → ClassId) (dI : Nat → Nat → Nat) (cI cJ : ClassId) (h0 : Nat) (p0 : Int32) (p1 : Int32) (p2 : Int32) (th : Int32) (tB : Nat) (tsz : Int32) (tat : Int32) (wr : Int32) (dp : Int32) (rC : Nat) (rV : Nat) (rD : Nat) (rK : Nat) (rT : Nat) (rS : Nat) (rU : Nat) (lw : Int32) (tx : Int32) (rL : Nat) (rX : Nat) (qR : Nat) (qB : Nat) (qP : Nat) (qnb : Int32) (qnp : Int32) (aR : Nat) (aB : Nat) (aP : Nat) (nb : Int32) (np : Int32) (aN : Nat) (rf : Nat) (ho : Int32) (br : Int32) (aK : Nat) (ac : Int32) (dw : Int64) (aE : Nat) (sr : Int32) (sf : Int32) (aA : Nat) (aH : Nat) (aI : Nat) (hi : Int32) (fN : Nat → Int32) (sz : Nat) (n_ac : 0 ≤ ac.toInt ∧ ac.toInt ≤ 40) (n_hi : 0 ≤ hi.toInt ∧ hi.toInt ≤ 1) (n_ho : (-1) ≤ ho.toInt ∧ ho.toInt ≤ 3) (n_lw : 0 ≤ lw.toInt ∧ lw.toInt ≤ 4) (n_nb : 0 ≤ nb.toInt ∧ nb.toInt ≤ 6) (n_np : 0 ≤ np.toInt ∧ np.toInt ≤ 5) (n_qnb : 0 ≤ qnb.toInt ∧ qnb.toInt ≤ 6) (n_qnp : 0 ≤ qnp.toInt ∧ qnp.toInt ≤ 5) (n_tat : 0 ≤ tat.toInt ∧ tat.toInt ≤ 260) (n_tsz : 0 ≤ tsz.toInt ∧ tsz.toInt ≤ 240) (n_wr : (-1) ≤ wr.toInt ∧ wr.toInt ≤ 260)  (ci_fN_zNw_np : zNw np fN)  : Met l yX11_heads (.code yX11_heads cX11_heads 8 (some .int) :: wA) ({ frames := 2, cells := 0, slots := 0, locals := 43 }) (zP (dC, dI) [(cI, .int), (cJ, .long)] [.ref h0, .int p0, .int p1, .int p2] sz [(h0, .inr (11, [.int th, .ref tB, .int tsz, .int tat, .int wr, .int dp, .ref rC, .ref rV, .ref rD, .ref rK, .ref rT, .ref rS, .ref rU, .int lw, .int tx, .ref rL, .ref rX, .ref qR, .ref qB, .ref qP, .int qnb, .int qnp, .ref aR, .ref aB, .ref aP, .int nb, .int np, .ref aN, .ref rf, .int ho, .int br, .ref aK, .int ac, .long dw, .ref aE, .int sr, .int sf, .ref aA, .ref aH, .ref aI, .int hi])), (aN, .inl (cI, 97, .inl fN))]) (va_Qi (fun (r : Int32) (u : Unit) => (∀ (kc : zK3) (kT : zT) (q_fR : Nat → Int32) (q_fBr : Nat → Int32) (q_fPa : Nat → Int32) (q_fKp : Nat → Int32) (q_frf : Nat → Int32), zCn q_fR q_fBr q_fPa nb.toInt np.toInt kc → zKo nb.toInt np.toInt kc kT → zTr nb.toInt np.toInt kT fN q_fKp ac q_frf → r = sV_hea np.toInt kT.1 p0 p1 p2)) (fun (_ : Unit) (_ : State) => True) (va_A [] sz)) 0 0 (va_A [] sz) := by
  refine Met.ofW (cc := cX11_heads) (maxL := 8) (ret := (some .int)) (by decide) rfl ?_
  intro p e s m args below meth c s₁ B hml hv
  obtain ⟨hargs, hsz, hP, hK, hT⟩ := hv
  have hx := B.exec
  have hb := B.bytes
  have hr := B.returns
  have hts : ∀ w ∈ wA, w.before args s = true := fun w h => atoms_spec (ws := .code yX11_heads cX11_heads 8 (some .int) :: wA) B.pre w (List.mem_cons_of_mem _ h)
  have hown : s.vm.findClass RX11 = some m.cls := findClass_of_methodNamed B.named
  have hlocks := B.notSynchronized
  subst hsz
  have hD : va_D (va_A [] s.heap.size) [] := zD0
  generalize hAe : va_A [] s.heap.size = A at hD ⊢
  have hA : ∀ q : Nat, s.heap.size ≤ q → A q := fun q h => by rw [← hAe]; exact Or.inr h
  have hl := lv_entry ([.ref h0, .int p0, .int p1, .int p2]) (n := 8) (Nat.le_of_ble_eq_true rfl)
  rw [show entryFrame m args 8 = entryFrame m ([.ref h0, .int p0, .int p1, .int p2] : List Value).toArray 8 by rw [hargs], lg_entry_eq]
  generalize (lg_sl ([.ref h0, .int p0, .int p1, .int p2]) ++ List.replicate (8 - (lg_sl ([.ref h0, .int p0, .int p1, .int p2])).length) Slot.unset).toArray = ls at hl ⊢
  have hl : lv_has ls 8 [(0, .ref h0), (1, .int p0), (2, .int p1), (3, .int p2)] := hl
  refine zstart (fun H hH => ?_)
  rw [← hH] at hP
  have hS : va_S A s.heap H [] := by rw [hH]; exact va_S.rf
  generalize ([] : List Loc) = locs at hS ⊢
  refine zgen (fun R Q hR hQ => ?_)
  refine lv_aload_n hx hb dX11_heads_0 rfl (lv_at hl 0 rfl) ?_
  refine lv_iload_n hx hb dX11_heads_1 rfl (lv_at hl 1 rfl) ?_
  have hPc := hP.sub (ws' := [(h0, .inr (11, [.int th, .ref tB, .int tsz, .int tat, .int wr, .int dp, .ref rC, .ref rV, .ref rD, .ref rK, .ref rT, .ref rS, .ref rU, .int lw, .int tx, .ref rL, .ref rX, .ref qR, .ref qB, .ref qP, .int qnb, .int qnp, .ref aR, .ref aB, .ref aP, .int nb, .int np, .ref aN, .ref rf, .int ho, .int br, .ref aK, .int ac, .long dw, .ref aE, .int sr, .int sf, .ref aA, .ref aH, .ref aI, .int hi]))]) [0] rfl
  have hDc := hT.sub (ws' := [(h0, .inr (11, [.int th, .ref tB, .int tsz, .int tat, .int wr, .int dp, .ref rC, .ref rV, .ref rD, .ref rK, .ref rT, .ref rS, .ref rU, .int lw, .int tx, .ref rL, .ref rX, .ref qR, .ref qB, .ref qP, .int qnb, .int qnp, .ref aR, .ref aB, .ref aP, .int nb, .int np, .ref aN, .ref rf, .int ho, .int br, .ref aK, .int ac, .long dw, .ref aE, .int sr, .int sf, .ref aA, .ref aH, .ref aI, .int hi]))]) [0] (by decide) rfl
  have hFc := zfr hS hA
  refine va_calli (va_runV (As := [.int p0]) (rest := []) ⟨hx, hb, hml, hown, hts⟩ (g_X11_isPainter l dC dI cI cJ h0 p0 th tB tsz tat wr dp rC rV rD rK rT rS rU lw tx rL rX qR qB qP qnb qnp aR aB aP nb np aN rf ho br aK ac dw aE sr sf aA aH aI hi H.size n_ac n_hi n_ho n_lw n_nb n_np n_qnb n_qnp n_tat n_tsz n_wr) (cwV 1 hts (zgV qw1414 qw1416 qw57 qw108 qw1417) rfl rfl rfl hd_X11_isPainter ⟨by rw [hR]; exact Nat.le_of_ble_eq_true rfl, by rw [hR]; exact Nat.le_of_ble_eq_true rfl⟩) (zPV hPc hK hDc (va_recv hK hP (ci := 11) (q0 := 0) rfl rfl)) rfl rfl hl.1 rfl (lv_room (Nat.le_of_ble_eq_true rfl)) dX11_heads_2 ⟨Nat.zero_le _, Nat.zero_le _⟩) hS (fun q _ h => hFc q h) hFc (fun v2 u2 t H locs ht hvm hw hB hz1 hk1 hS => ?_)
  have hP := zkeep hP hk1
  obtain ⟨f2_0, f2_1, f2_2, f2_3⟩ : (0 ≤ v2.toInt) ∧ (v2.toInt ≤ 1) ∧ (¬ v2.toInt = 0 → (0 ≤ p0.toInt ∧ p0.toInt < np.toInt)) ∧ (v2.toInt = 0 → ¬ (0 ≤ p0.toInt ∧ p0.toInt < np.toInt)) := hw
  refine lv_if_eq (tgt := 28) hx hb dX11_heads_5 (by decide) (fun c5 => ?_) (fun c5 => ?_)
  · have c5 : v2.toInt = 0 := z5 rfl (by decide) c5
    refine lv_iconst (v := (-1)) hx hb dX11_heads_28 (by decide) ?_
    have zr0 : ((-1) : Int32).toInt = (-1) := by decide
    rw [hQ]
    exact W.iret (v := ((-1))) hx hb hr (fun t ht hW => ⟨⟨(-1), (), rfl, (by (try dsimp only); exact fun kc kT q_fR q_fBr q_fPa q_fKp q_frf hc hb h => by unfold sV_hea; rw [if_neg (by omega)]; ), trivial⟩, hS.F ht⟩) hS.2.2 dX11_heads_29
  · have c5 : ¬ v2.toInt = 0 := z6 rfl (by decide) c5
    refine lv_iload_n hx hb dX11_heads_8 rfl (lv_at hl 2 rfl) ?_
    refine lv_iconst (v := 0) hx hb dX11_heads_9 (by decide) ?_
    refine lv_bipush (v := 20) hx hb dX11_heads_10 (by decide) ?_
    have hPc : va_P (dC, dI) vwCl [] H := zP0
    have hDc : va_D (fun _ => True) [] := zD0
    have hFc := zfr hS hA
    refine va_calli (va_runS (As := [.int p1, .int 0, .int 20]) (rest := []) ⟨hx, hb, hml, hown, hts⟩ (g_X11_in l dC dI cI cJ p1 0 20 H.size) (cwS 3 hts (zgS qw1309 qw1310 qw108 qw1311) rfl rfl rfl hd_X11_in ⟨by rw [hR]; exact Nat.le_of_ble_eq_true rfl, by rw [hR]; exact Nat.le_of_ble_eq_true rfl⟩) (zPS hPc hK hDc) rfl rfl hl.1 rfl (lv_room (Nat.le_of_ble_eq_true rfl)) dX11_heads_12 ⟨Nat.zero_le _, Nat.zero_le _⟩) hS (fun q _ h => hFc q h) hFc (fun v12 u12 t H locs ht hvm hw hB hz1 hk1 hS => ?_)
    have hP := zkeep hP hk1
    have zn12_0 : (0 : Int32).toInt = 0 := by decide
    have zn12_20 : (20 : Int32).toInt = 20 := by decide
    obtain ⟨f12_0, f12_1, f12_2, f12_3⟩ : (0 ≤ v12.toInt) ∧ (v12.toInt ≤ 1) ∧ (¬ v12.toInt = 0 → ((0 : Int32).toInt ≤ p1.toInt ∧ p1.toInt ≤ (20 : Int32).toInt)) ∧ (v12.toInt = 0 → (p1.toInt < (0 : Int32).toInt ∨ (20 : Int32).toInt < p1.toInt)) := hw
    refine lv_if_eq (tgt := 28) hx hb dX11_heads_15 (by decide) (fun c15 => ?_) (fun c15 => ?_)
    · have c15 : v12.toInt = 0 := z5 rfl (by decide) c15
      refine lv_iconst (v := (-1)) hx hb dX11_heads_28 (by decide) ?_
      have zr0 : ((-1) : Int32).toInt = (-1) := by decide
      rw [hQ]
      exact W.iret (v := ((-1))) hx hb hr (fun t ht hW => ⟨⟨(-1), (), rfl, (by (try dsimp only); exact fun kc kT q_fR q_fBr q_fPa q_fKp q_frf hc hb h => by unfold sV_hea; rw [if_neg (by omega)]; ), trivial⟩, hS.F ht⟩) hS.2.2 dX11_heads_29
    · have c15 : ¬ v12.toInt = 0 := z6 rfl (by decide) c15
      refine lv_iload_n hx hb dX11_heads_18 rfl (lv_at hl 3 rfl) ?_
      refine lv_iconst (v := 0) hx hb dX11_heads_19 (by decide) ?_
      refine lv_bipush (v := 100) hx hb dX11_heads_20 (by decide) ?_
      have hPc : va_P (dC, dI) vwCl [] H := zP0
      have hDc : va_D (fun _ => True) [] := zD0
      have hFc := zfr hS hA
      refine va_calli (va_runS (As := [.int p2, .int 0, .int 100]) (rest := []) ⟨hx, hb, hml, hown, hts⟩ (g_X11_in l dC dI cI cJ p2 0 100 H.size) (cwS 3 hts (zgS qw1309 qw1310 qw108 qw1311) rfl rfl rfl hd_X11_in ⟨by rw [hR]; exact Nat.le_of_ble_eq_true rfl, by rw [hR]; exact Nat.le_of_ble_eq_true rfl⟩) (zPS hPc hK hDc) rfl rfl hl.1 rfl (lv_room (Nat.le_of_ble_eq_true rfl)) dX11_heads_22 ⟨Nat.zero_le _, Nat.zero_le _⟩) hS (fun q _ h => hFc q h) hFc (fun v22 u22 t H locs ht hvm hw hB hz1 hk1 hS => ?_)
      have hP := zkeep hP hk1
      have zn22_0 : (0 : Int32).toInt = 0 := by decide
      have zn22_100 : (100 : Int32).toInt = 100 := by decide
      obtain ⟨f22_0, f22_1, f22_2, f22_3⟩ : (0 ≤ v22.toInt) ∧ (v22.toInt ≤ 1) ∧ (¬ v22.toInt = 0 → ((0 : Int32).toInt ≤ p2.toInt ∧ p2.toInt ≤ (100 : Int32).toInt)) ∧ (v22.toInt = 0 → (p2.toInt < (0 : Int32).toInt ∨ (100 : Int32).toInt < p2.toInt)) := hw
      refine lv_if_ne (tgt := 30) hx hb dX11_heads_25 (by decide) (fun c25 => ?_) (fun c25 => ?_)
      · have c25 : ¬ v22.toInt = 0 := z6 rfl (by decide) c25
        refine lv_aload_n hx hb dX11_heads_30 rfl (lv_at hl 0 rfl) ?_
        refine va_get (D := (dC, dI)) (ci := 11) (v := .ref aN) (C := RX11) (T := TX11) (N := 41) hx hb hts iX11 hown hK hP 0 rfl rfl 27 (by decide) (hts _ qw1154) (fun _ h9 => h9) rfl dX11_heads_31 ?_
        refine lv_bipush (v := 6) hx hb dX11_heads_34 (by decide) ?_
        refine lv_iload_n hx hb dX11_heads_36 rfl (lv_at hl 1 rfl) ?_
        refine lv_iadd hx hb dX11_heads_37 ?_
        refine lv_topi (fun v37 e37 => ?_)
        have i37 : v37.toInt = 6 + p0.toInt := zadd e37 (by decide) rfl (by omega) (by omega)
        refine va_iald hx hb hK hP 1 0 rfl rfl (vp_in_iff.mpr ⟨by omega, by omega⟩) dX11_heads_38 ?_
        refine lv_topi (fun v38 e38 => ?_)
        refine lv_iconst (v := 5) hx hb dX11_heads_39 (by decide) ?_
        refine lv_icmp_le (tgt := 49) hx hb dX11_heads_40 (by decide) (fun c40 => ?_) (fun c40 => ?_)
        · have c40 : v38.toInt ≤ 5 := z3 rfl (by decide) c40
          refine lv_iload_n hx hb dX11_heads_49 rfl (lv_at hl 3 rfl) ?_
          refine lv_istore (lv' := [(4, .int p2), (0, .ref h0), (1, .int p0), (2, .int p1), (3, .int p2)]) hx hb dX11_heads_50 hl (by decide) rfl (fun ls hl => ?_)
          refine lv_ldc2 (v := 1000000000) hx hb hown (hts _ qw1703) dX11_heads_52 ?_
          refine lv_lstore (lv' := [(5, .long 1000000000), (4, .int p2), (0, .ref h0), (1, .int p0), (2, .int p1), (3, .int p2)]) hx hb dX11_heads_55 hl (by decide) rfl (fun ls hl => ?_)
          refine lv_iconst (v := 0) hx hb dX11_heads_57 (by decide) ?_
          have J60 : ∀ (n : Nat) (m60_L_4 : Int32) (m60_L_5 : Int64) (m60_L_7 : Int32), (0 ≤ m60_L_4.toInt ∧ m60_L_4.toInt ≤ 100) → (0 ≤ m60_L_7.toInt ∧ m60_L_7.toInt ≤ 20) → (m60_L_4 = sEch (fN (6 + p0.toInt.toNat)) p2) → (m60_L_5 = sHea m60_L_4 m60_L_7.toInt.toNat) → (m60_L_7.toInt ≤ p1.toInt) → (21 - m60_L_7.toInt).toNat = n → ∀ (H : Heap) (locs : List Loc) (ls : Array Slot), va_P (dC, dI) vwCl [(h0, .inr (11, [.int th, .ref tB, .int tsz, .int tat, .int wr, .int dp, .ref rC, .ref rV, .ref rD, .ref rK, .ref rT, .ref rS, .ref rU, .int lw, .int tx, .ref rL, .ref rX, .ref qR, .ref qB, .ref qP, .int qnb, .int qnp, .ref aR, .ref aB, .ref aP, .int nb, .int np, .ref aN, .ref rf, .int ho, .int br, .ref aK, .int ac, .long dw, .ref aE, .int sr, .int sf, .ref aA, .ref aH, .ref aI, .int hi])), (aN, .inl (cI, 97, .inl fN))] H → va_S A s.heap H locs → lv_has ls 8 [(7, .int m60_L_7), (5, .long m60_L_5), (4, .int m60_L_4), (0, .ref h0), (1, .int p0), (2, .int p1), (3, .int p2)] → W p l e R s m args below meth c H locs 0 0 Q (F0 m 60 ls []) := by
            intro n60
            induction n60 using Nat.strongRecOn with
            | _ n60 ih60 =>
              intro m60_L_4 m60_L_5 m60_L_7 jf60_0 jf60_1 jv60_0 jv60_1 jf60_4 hmu60 H locs ls hP hS hl
              refine lv_iload hx hb dX11_heads_60 (lv_at hl 0 rfl) ?_
              refine lv_iload_n hx hb dX11_heads_62 rfl (lv_at hl 5 rfl) ?_
              refine lv_icmp_ge (tgt := 87) hx hb dX11_heads_63 (by decide) (fun c63 => ?_) (fun c63 => ?_)
              · have c63 : p1.toInt ≤ m60_L_7.toInt := z3 rfl rfl c63
                refine lv_lload hx hb dX11_heads_87 (lv_at hl 1 rfl) ?_
                refine lv_l2i hx hb dX11_heads_89 rfl ?_
                refine lv_topi (fun v89 e89 => ?_)
                rw [hQ]
                exact W.iret (v := v89) hx hb hr (fun t ht hW => ⟨⟨v89, (), rfl, (by (try dsimp only); exact fun kc kT q_fR q_fBr q_fPa q_fKp q_frf hc hb h => by unfold sV_hea; rw [if_pos (by omega)]; rw [← h.1.2.1 _ (by omega), ← jv60_0, show p1.toInt.toNat = m60_L_7.toInt.toNat by omega, ← jv60_1]; exact e89), trivial⟩, hS.F ht⟩) hS.2.2 dX11_heads_90
              · have c63 : m60_L_7.toInt < p1.toInt := z4 rfl rfl c63
                refine lv_lload hx hb dX11_heads_66 (lv_at hl 1 rfl) ?_
                refine lv_lload hx hb dX11_heads_68 (lv_at hl 1 rfl) ?_
                refine lv_iload hx hb dX11_heads_70 (lv_at hl 2 rfl) ?_
                refine lv_i2l hx hb dX11_heads_72 rfl ?_
                refine lv_topl (fun v72 e72 => ?_)
                refine lv_lmul hx hb dX11_heads_73 ?_
                refine lv_topl (fun v73 e73 => ?_)
                refine lv_ldc2 (v := 100) hx hb hown (hts _ qw1704) dX11_heads_74 ?_
                refine lv_ldiv hx hb dX11_heads_77 (by decide) ?_
                refine lv_topl (fun v77 e77 => ?_)
                refine lv_lsub hx hb dX11_heads_78 ?_
                refine lv_topl (fun v78 e78 => ?_)
                refine lv_lstore (lv' := [(5, .long v78), (7, .int m60_L_7), (4, .int m60_L_4), (0, .ref h0), (1, .int p0), (2, .int p1), (3, .int p2)]) hx hb dX11_heads_79 hl (by decide) rfl (fun ls hl => ?_)
                obtain ⟨v81, e81⟩ : ∃ y : Int32, y = m60_L_7 + Int32.ofInt (1) := ⟨_, rfl⟩
                refine lv_iinc (v := v81) (lv' := [(7, .int v81), (5, .long v78), (4, .int m60_L_4), (0, .ref h0), (1, .int p0), (2, .int p1), (3, .int p2)]) hx hb dX11_heads_81 hl (k := 1) rfl e81.symm (by decide) rfl (fun ls hl => ?_)
                have i81 : v81.toInt = m60_L_7.toInt + 1 := zaddI e81 (by decide) (by omega) (by omega)
                refine lv_goto (tgt := 60) hx hb dX11_heads_84 (by decide) ?_
                exact ih60 _ (by omega) m60_L_4 v78 v81 jf60_0 (by omega) (jv60_0) (zHeaS jv60_1 (by omega) i81 e72 e73 e77 e78) (by omega) rfl H locs ls hP hS (lv_sub hl [0, 1, 2, 3, 4, 5, 6] rfl)
          refine lv_istore (lv' := [(7, .int 0), (5, .long 1000000000), (4, .int p2), (0, .ref h0), (1, .int p0), (2, .int p1), (3, .int p2)]) hx hb dX11_heads_58 hl (by decide) rfl (fun ls hl => ?_)
          have zj60_m60_L_7 : (0 : Int32).toInt = 0 := by decide
          exact J60 _ p2 1000000000 0 (by omega) (by decide) (by unfold sEch; rw [← zIxN (n := 6 + p0.toInt.toNat) e38 (by omega)]; first | exact e45.trans (if_pos (by omega)).symm | exact (if_neg (by omega)).symm) (rfl) (by omega) rfl H locs ls hP hS (lv_sub hl [0, 1, 2, 3, 4, 5, 6] rfl)
        · have c40 : 5 < v38.toInt := z4 rfl (by decide) c40
          refine lv_iload_n hx hb dX11_heads_43 rfl (lv_at hl 3 rfl) ?_
          refine lv_iconst (v := 2) hx hb dX11_heads_44 (by decide) ?_
          refine lv_idiv hx hb dX11_heads_45 (by decide) ?_
          refine lv_topi (fun v45 e45 => ?_)
          have i45 : v45.toInt = p2.toInt / 2 := zdiv e45 rfl (by decide) (by omega) (by omega)
          refine lv_goto (tgt := 50) hx hb dX11_heads_46 (by decide) ?_
          refine lv_istore (lv' := [(4, .int v45), (0, .ref h0), (1, .int p0), (2, .int p1), (3, .int p2)]) hx hb dX11_heads_50 hl (by decide) rfl (fun ls hl => ?_)
          refine lv_ldc2 (v := 1000000000) hx hb hown (hts _ qw1703) dX11_heads_52 ?_
          refine lv_lstore (lv' := [(5, .long 1000000000), (4, .int v45), (0, .ref h0), (1, .int p0), (2, .int p1), (3, .int p2)]) hx hb dX11_heads_55 hl (by decide) rfl (fun ls hl => ?_)
          refine lv_iconst (v := 0) hx hb dX11_heads_57 (by decide) ?_
          have J60 : ∀ (n : Nat) (m60_L_4 : Int32) (m60_L_5 : Int64) (m60_L_7 : Int32), (0 ≤ m60_L_4.toInt ∧ m60_L_4.toInt ≤ 100) → (0 ≤ m60_L_7.toInt ∧ m60_L_7.toInt ≤ 20) → (m60_L_4 = sEch (fN (6 + p0.toInt.toNat)) p2) → (m60_L_5 = sHea m60_L_4 m60_L_7.toInt.toNat) → (m60_L_7.toInt ≤ p1.toInt) → (21 - m60_L_7.toInt).toNat = n → ∀ (H : Heap) (locs : List Loc) (ls : Array Slot), va_P (dC, dI) vwCl [(h0, .inr (11, [.int th, .ref tB, .int tsz, .int tat, .int wr, .int dp, .ref rC, .ref rV, .ref rD, .ref rK, .ref rT, .ref rS, .ref rU, .int lw, .int tx, .ref rL, .ref rX, .ref qR, .ref qB, .ref qP, .int qnb, .int qnp, .ref aR, .ref aB, .ref aP, .int nb, .int np, .ref aN, .ref rf, .int ho, .int br, .ref aK, .int ac, .long dw, .ref aE, .int sr, .int sf, .ref aA, .ref aH, .ref aI, .int hi])), (aN, .inl (cI, 97, .inl fN))] H → va_S A s.heap H locs → lv_has ls 8 [(7, .int m60_L_7), (5, .long m60_L_5), (4, .int m60_L_4), (0, .ref h0), (1, .int p0), (2, .int p1), (3, .int p2)] → W p l e R s m args below meth c H locs 0 0 Q (F0 m 60 ls []) := by
            intro n60
            induction n60 using Nat.strongRecOn with
            | _ n60 ih60 =>
              intro m60_L_4 m60_L_5 m60_L_7 jf60_0 jf60_1 jv60_0 jv60_1 jf60_4 hmu60 H locs ls hP hS hl
              refine lv_iload hx hb dX11_heads_60 (lv_at hl 0 rfl) ?_
              refine lv_iload_n hx hb dX11_heads_62 rfl (lv_at hl 5 rfl) ?_
              refine lv_icmp_ge (tgt := 87) hx hb dX11_heads_63 (by decide) (fun c63 => ?_) (fun c63 => ?_)
              · have c63 : p1.toInt ≤ m60_L_7.toInt := z3 rfl rfl c63
                refine lv_lload hx hb dX11_heads_87 (lv_at hl 1 rfl) ?_
                refine lv_l2i hx hb dX11_heads_89 rfl ?_
                refine lv_topi (fun v89 e89 => ?_)
                rw [hQ]
                exact W.iret (v := v89) hx hb hr (fun t ht hW => ⟨⟨v89, (), rfl, (by (try dsimp only); exact fun kc kT q_fR q_fBr q_fPa q_fKp q_frf hc hb h => by unfold sV_hea; rw [if_pos (by omega)]; rw [← h.1.2.1 _ (by omega), ← jv60_0, show p1.toInt.toNat = m60_L_7.toInt.toNat by omega, ← jv60_1]; exact e89), trivial⟩, hS.F ht⟩) hS.2.2 dX11_heads_90
              · have c63 : m60_L_7.toInt < p1.toInt := z4 rfl rfl c63
                refine lv_lload hx hb dX11_heads_66 (lv_at hl 1 rfl) ?_
                refine lv_lload hx hb dX11_heads_68 (lv_at hl 1 rfl) ?_
                refine lv_iload hx hb dX11_heads_70 (lv_at hl 2 rfl) ?_
                refine lv_i2l hx hb dX11_heads_72 rfl ?_
                refine lv_topl (fun v72 e72 => ?_)
                refine lv_lmul hx hb dX11_heads_73 ?_
                refine lv_topl (fun v73 e73 => ?_)
                refine lv_ldc2 (v := 100) hx hb hown (hts _ qw1704) dX11_heads_74 ?_
                refine lv_ldiv hx hb dX11_heads_77 (by decide) ?_
                refine lv_topl (fun v77 e77 => ?_)
                refine lv_lsub hx hb dX11_heads_78 ?_
                refine lv_topl (fun v78 e78 => ?_)
                refine lv_lstore (lv' := [(5, .long v78), (7, .int m60_L_7), (4, .int m60_L_4), (0, .ref h0), (1, .int p0), (2, .int p1), (3, .int p2)]) hx hb dX11_heads_79 hl (by decide) rfl (fun ls hl => ?_)
                obtain ⟨v81, e81⟩ : ∃ y : Int32, y = m60_L_7 + Int32.ofInt (1) := ⟨_, rfl⟩
                refine lv_iinc (v := v81) (lv' := [(7, .int v81), (5, .long v78), (4, .int m60_L_4), (0, .ref h0), (1, .int p0), (2, .int p1), (3, .int p2)]) hx hb dX11_heads_81 hl (k := 1) rfl e81.symm (by decide) rfl (fun ls hl => ?_)
                have i81 : v81.toInt = m60_L_7.toInt + 1 := zaddI e81 (by decide) (by omega) (by omega)
                refine lv_goto (tgt := 60) hx hb dX11_heads_84 (by decide) ?_
                exact ih60 _ (by omega) m60_L_4 v78 v81 jf60_0 (by omega) (jv60_0) (zHeaS jv60_1 (by omega) i81 e72 e73 e77 e78) (by omega) rfl H locs ls hP hS (lv_sub hl [0, 1, 2, 3, 4, 5, 6] rfl)
          refine lv_istore (lv' := [(7, .int 0), (5, .long 1000000000), (4, .int v45), (0, .ref h0), (1, .int p0), (2, .int p1), (3, .int p2)]) hx hb dX11_heads_58 hl (by decide) rfl (fun ls hl => ?_)
          have zj60_m60_L_7 : (0 : Int32).toInt = 0 := by decide
          exact J60 _ v45 1000000000 0 (by omega) (by decide) (by unfold sEch; rw [← zIxN (n := 6 + p0.toInt.toNat) e38 (by omega)]; first | exact e45.trans (if_pos (by omega)).symm | exact (if_neg (by omega)).symm) (rfl) (by omega) rfl H locs ls hP hS (lv_sub hl [0, 1, 2, 3, 4, 5, 6] rfl)
      · have c25 : v22.toInt = 0 := z5 rfl (by decide) c25
        refine lv_iconst (v := (-1)) hx hb dX11_heads_28 (by decide) ?_
        have zr0 : ((-1) : Int32).toInt = (-1) := by decide
        rw [hQ]
        exact W.iret (v := ((-1))) hx hb hr (fun t ht hW => ⟨⟨(-1), (), rfl, (by (try dsimp only); exact fun kc kT q_fR q_fBr q_fPa q_fKp q_frf hc hb h => by unfold sV_hea; rw [if_neg (by omega)]; ), trivial⟩, hS.F ht⟩) hS.2.2 dX11_heads_29
