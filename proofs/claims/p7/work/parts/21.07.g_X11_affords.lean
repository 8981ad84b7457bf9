set_option maxHeartbeats 4000000 in
set_option maxRecDepth 100000 in
theorem g_X11_rivals (l : Launch) (dC : Nat → ClassId) (dI : Nat → Nat → Nat) (cI cJ : ClassId) (h0 : Nat) (p0 : Int32) (th : Int32) (tB : Nat) (tsz : Int32) (tat : Int32) (wr : Int32) (dp : Int32) (rC : Nat) (rV : Nat) (rD : Nat) (rK : Nat) (rT : Nat) (rS : Nat) (rU : Nat) (lw : Int32) (tx : Int32) (rL : Nat) (rX : Nat) (qR : Nat) (qB : Nat) (qP : Nat) (qnb : Int32) (qnp : Int32) (aR : Nat) (aB : Nat) (aP : Nat) (nb : Int32) (np : Int32) (aN : Nat) (rf : Nat) (ho : Int32) (br : Int32) (aK : Nat) (ac : Int32) (dw : Int64) (aE : Nat) (sr : Int32) (sf : Int32) (aA : Nat) (aH : Nat) (aI : Nat) (hi : Int32) (fR : Nat → Int32) (fBr : Nat → Int32) (sz : Nat) (n_ac : 0 ≤ ac.toInt ∧ ac.toInt ≤ 40) (n_hi : 0 ≤ hi.toInt ∧ hi.toInt ≤ 1) (n_ho : (-1) ≤ ho.toInt ∧ ho.toInt ≤ 3) (n_lw : 0 ≤ lw.toInt ∧ lw.toInt ≤ 4) (n_nb : 0 ≤ nb.toInt ∧ nb.toInt ≤ 6) (n_np : 0 ≤ np.toInt ∧ np.toInt ≤ 5) (n_qnb : 0 ≤ qnb.toInt ∧ qnb.toInt ≤ 6) (n_qnp : 0 ≤ qnp.toInt ∧ qnp.toInt ≤ 5) (n_tat : 0 ≤ tat.toInt ∧ tat.toInt ≤ 260) (n_tsz : 0 ≤ tsz.toInt ∧ tsz.toInt ≤ 240) (n_wr : (-1) ≤ wr.toInt ∧ wr.toInt ≤ 260)    : Met l yX11_rivals (.code yX11_rivals cX11_rivals 4 (some .int) :: wA) ({ frames := 3, cells := 0, slots := 0, locals := 66 }) (zP (dC, dI) [(cI, .int), (cJ, .long)] [.ref h0, .int p0] sz [(h0, .inr (11, [.int th, .ref tB, .int tsz, .int tat, .int wr, .int dp, .ref rC, .ref rV, .ref rD, .ref rK, .ref rT, .ref rS, .ref rU, .int lw, .int tx, .ref rL, .ref rX, .ref qR, .ref qB, .ref qP, .int qnb, .int qnp, .ref aR, .ref aB, .ref aP, .int nb, .int np, .ref aN, .ref rf, .int ho, .int br, .ref aK, .int ac, .long dw, .ref aE, .int sr, .int sf, .ref aA, .ref aH, .ref aI, .int hi])), (aR, .inl (cI, 3, .inl fR)), (aB, .inl (cI, 24, .inl fBr))]) (va_Qi (fun (r : Int32) (u : Unit) => (((0 ≤ p0.toInt ∧ p0.toInt < nb.toInt) → r = zRv (zTw fR fBr) p0.toInt.toNat nb.toInt.toNat) ∧ (¬ (0 ≤ p0.toInt ∧ p0.toInt < nb.toInt) → r = -1))) (fun (_ : Unit) (_ : State) => True) (va_A [] sz)) 0 0 (va_A [] sz) := by
  refine Met.ofW (cc := cX11_rivals) (maxL := 4) (ret := (some .int)) (by decide) rfl ?_
  intro p e s m args below meth c s₁ B hml hv
  obtain ⟨hargs, hsz, hP, hK, hT⟩ := hv
  have hx := B.exec
  have hb := B.bytes
  have hr := B.returns
  have hts : ∀ w ∈ wA, w.before args s = true := fun w h => atoms_spec (ws := .code yX11_rivals cX11_rivals 4 (some .int) :: wA) B.pre w (List.mem_cons_of_mem _ h)
  have hown : s.vm.findClass RX11 = some m.cls := findClass_of_methodNamed B.named
  have hlocks := B.notSynchronized
  subst hsz
  have hD : va_D (va_A [] s.heap.size) [] := zD0
  generalize hAe : va_A [] s.heap.size = A at hD ⊢
  have hA : ∀ q : Nat, s.heap.size ≤ q → A q := fun q h => by rw [← hAe]; exact Or.inr h
  have hl := lv_entry ([.ref h0, .int p0]) (n := 4) (Nat.le_of_ble_eq_true rfl)
  rw [show entryFrame m args 4 = entryFrame m ([.ref h0, .int p0] : List Value).toArray 4 by rw [hargs], lg_entry_eq]
  generalize (lg_sl ([.ref h0, .int p0]) ++ List.replicate (4 - (lg_sl ([.ref h0, .int p0])).length) Slot.unset).toArray = ls at hl ⊢
  have hl : lv_has ls 4 [(0, .ref h0), (1, .int p0)] := hl
  refine zstart (fun H hH => ?_)
  rw [← hH] at hP
  have hS : va_S A s.heap H [] := by rw [hH]; exact va_S.rf
  generalize ([] : List Loc) = locs at hS ⊢
  refine zgen (fun R Q hR hQ => ?_)
  refine lv_aload_n hx hb dX11_rivals_0 rfl (lv_at hl 0 rfl) ?_
  refine lv_iload_n hx hb dX11_rivals_1 rfl (lv_at hl 1 rfl) ?_
  have hPc := hP.sub (ws' := [(h0, .inr (11, [.int th, .ref tB, .int tsz, .int tat, .int wr, .int dp, .ref rC, .ref rV, .ref rD, .ref rK, .ref rT, .ref rS, .ref rU, .int lw, .int tx, .ref rL, .ref rX, .ref qR, .ref qB, .ref qP, .int qnb, .int qnp, .ref aR, .ref aB, .ref aP, .int nb, .int np, .ref aN, .ref rf, .int ho, .int br, .ref aK, .int ac, .long dw, .ref aE, .int sr, .int sf, .ref aA, .ref aH, .ref aI, .int hi]))]) [0] rfl
  have hDc := hT.sub (ws' := [(h0, .inr (11, [.int th, .ref tB, .int tsz, .int tat, .int wr, .int dp, .ref rC, .ref rV, .ref rD, .ref rK, .ref rT, .ref rS, .ref rU, .int lw, .int tx, .ref rL, .ref rX, .ref qR, .ref qB, .ref qP, .int qnb, .int qnp, .ref aR, .ref aB, .ref aP, .int nb, .int np, .ref aN, .ref rf, .int ho, .int br, .ref aK, .int ac, .long dw, .ref aE, .int sr, .int sf, .ref aA, .ref aH, .ref aI, .int hi]))]) [0] (by decide) rfl
  have hFc := zfr hS hA
  refine va_calli (va_runV (As := [.int p0]) (rest := []) ⟨hx, hb, hml, hown, hts⟩ (g_X11_isBride l dC dI cI cJ h0 p0 th tB tsz tat wr dp rC rV rD rK rT rS rU lw tx rL rX qR qB qP qnb qnp aR aB aP nb np aN rf ho br aK ac dw aE sr sf aA aH aI hi H.size n_ac n_hi n_ho n_lw n_nb n_np n_qnb n_qnp n_tat n_tsz n_wr) (cwV 1 hts (zgV qw1406 qw1408 qw56 qw108 qw1409) rfl rfl rfl hd_X11_isBride ⟨by rw [hR]; exact Nat.le_of_ble_eq_true rfl, by rw [hR]; exact Nat.le_of_ble_eq_true rfl⟩) (zPV hPc hK hDc (va_recv hK hP (ci := 11) (q0 := 0) rfl rfl)) rfl rfl hl.1 rfl (lv_room (Nat.le_of_ble_eq_true rfl)) dX11_rivals_2 ⟨Nat.zero_le _, Nat.zero_le _⟩) hS (fun q _ h => hFc q h) hFc (fun v2 u2 t H locs ht hvm hw hB hz1 hk1 hS => ?_)
  have hP := zkeep hP hk1
  obtain ⟨f2_0, f2_1, f2_2, f2_3⟩ : (0 ≤ v2.toInt) ∧ (v2.toInt ≤ 1) ∧ (¬ v2.toInt = 0 → (0 ≤ p0.toInt ∧ p0.toInt < nb.toInt)) ∧ (v2.toInt = 0 → ¬ (0 ≤ p0.toInt ∧ p0.toInt < nb.toInt)) := hw
  refine lv_if_ne (tgt := 10) hx hb dX11_rivals_5 (by decide) (fun c5 => ?_) (fun c5 => ?_)
  · have c5 : ¬ v2.toInt = 0 := z6 rfl (by decide) c5
    refine lv_iconst (v := 0) hx hb dX11_rivals_10 (by decide) ?_
    refine lv_istore_n (lv' := [(2, .int 0), (0, .ref h0), (1, .int p0)]) hx hb dX11_rivals_11 rfl hl (by decide) rfl (fun ls hl => ?_)
    refine lv_iconst (v := 0) hx hb dX11_rivals_12 (by decide) ?_
    have J14 : ∀ (n : Nat) (m14_L_2 : Int32) (m14_L_3 : Int32), (0 ≤ m14_L_3.toInt ∧ m14_L_3.toInt ≤ 6) → (m14_L_2 = zRv (zTw fR fBr) p0.toInt.toNat m14_L_3.toInt.toNat) → (m14_L_3.toInt ≤ nb.toInt) → (7 - m14_L_3.toInt).toNat = n → ∀ (H : Heap) (locs : List Loc) (ls : Array Slot), va_P (dC, dI) vwCl [(h0, .inr (11, [.int th, .ref tB, .int tsz, .int tat, .int wr, .int dp, .ref rC, .ref rV, .ref rD, .ref rK, .ref rT, .ref rS, .ref rU, .int lw, .int tx, .ref rL, .ref rX, .ref qR, .ref qB, .ref qP, .int qnb, .int qnp, .ref aR, .ref aB, .ref aP, .int nb, .int np, .ref aN, .ref rf, .int ho, .int br, .ref aK, .int ac, .long dw, .ref aE, .int sr, .int sf, .ref aA, .ref aH, .ref aI, .int hi])), (aR, .inl (cI, 3, .inl fR)), (aB, .inl (cI, 24, .inl fBr))] H → va_S A s.heap H locs → lv_has ls 4 [(3, .int m14_L_3), (2, .int m14_L_2), (0, .ref h0), (1, .int p0)] → W p l e R s m args below meth c H locs 0 0 Q (F0 m 14 ls []) := by
      intro n14
      induction n14 using Nat.strongRecOn with
      | _ n14 ih14 =>
        intro m14_L_2 m14_L_3 jf14_0 jv14_0 jf14_2 hmu14 H locs ls hP hS hl
        refine lv_iload_n hx hb dX11_rivals_14 rfl (lv_at hl 0 rfl) ?_
        refine lv_aload_n hx hb dX11_rivals_15 rfl (lv_at hl 2 rfl) ?_
        refine va_get (D := (dC, dI)) (ci := 11) (v := .int nb) (C := RX11) (T := TX11) (N := 41) hx hb hts iX11 hown hK hP 0 rfl rfl 25 (by decide) (hts _ qw1152) (fun _ h9 => h9) rfl dX11_rivals_16 ?_
        refine lv_icmp_ge (tgt := 53) hx hb dX11_rivals_19 (by decide) (fun c19 => ?_) (fun c19 => ?_)
        · have c19 : nb.toInt ≤ m14_L_3.toInt := z3 rfl rfl c19
          refine lv_iload_n hx hb dX11_rivals_53 rfl (lv_at hl 1 rfl) ?_
          rw [hQ]
          exact W.iret (v := m14_L_2) hx hb hr (fun t ht hW => ⟨⟨m14_L_2, (), rfl, (by (try dsimp only); exact ⟨fun _ => by rw [jv14_0, show m14_L_3.toInt.toNat = nb.toInt.toNat by omega], fun z => absurd (by omega) z⟩), trivial⟩, hS.F ht⟩) hS.2.2 dX11_rivals_54
        · have c19 : m14_L_3.toInt < nb.toInt := z4 rfl rfl c19
          refine lv_iload_n hx hb dX11_rivals_22 rfl (lv_at hl 1 rfl) ?_
          refine lv_aload_n hx hb dX11_rivals_23 rfl (lv_at hl 2 rfl) ?_
          refine lv_iload_n hx hb dX11_rivals_24 rfl (lv_at hl 0 rfl) ?_
          refine lv_iconst (v := 1) hx hb dX11_rivals_25 (by decide) ?_
          have hPc := hP.sub (ws' := [(h0, .inr (11, [.int th, .ref tB, .int tsz, .int tat, .int wr, .int dp, .ref rC, .ref rV, .ref rD, .ref rK, .ref rT, .ref rS, .ref rU, .int lw, .int tx, .ref rL, .ref rX, .ref qR, .ref qB, .ref qP, .int qnb, .int qnp, .ref aR, .ref aB, .ref aP, .int nb, .int np, .ref aN, .ref rf, .int ho, .int br, .ref aK, .int ac, .long dw, .ref aE, .int sr, .int sf, .ref aA, .ref aH, .ref aI, .int hi])), (aR, .inl (cI, 3, .inl fR)), (aB, .inl (cI, 24, .inl fBr))]) [0, 1, 2] rfl
          have hDc := hT.sub (ws' := [(h0, .inr (11, [.int th, .ref tB, .int tsz, .int tat, .int wr, .int dp, .ref rC, .ref rV, .ref rD, .ref rK, .ref rT, .ref rS, .ref rU, .int lw, .int tx, .ref rL, .ref rX, .ref qR, .ref qB, .ref qP, .int qnb, .int qnp, .ref aR, .ref aB, .ref aP, .int nb, .int np, .ref aN, .ref rf, .int ho, .int br, .ref aK, .int ac, .long dw, .ref aE, .int sr, .int sf, .ref aA, .ref aH, .ref aI, .int hi])), (aR, .inl (cI, 3, .inl fR)), (aB, .inl (cI, 24, .inl fBr))]) [0, 1, 2] (by decide) rfl
          have hFc := zfr hS hA
          refine va_calli (va_runV (As := [.int m14_L_3, .int 1]) (rest := [.int m14_L_2]) ⟨hx, hb, hml, hown, hts⟩ (g_X11_worthAs_1 l dC dI cI cJ h0 m14_L_3 th tB tsz tat wr dp rC rV rD rK rT rS rU lw tx rL rX qR qB qP qnb qnp aR aB aP nb np aN rf ho br aK ac dw aE sr sf aA aH aI hi fR fBr H.size n_ac n_hi n_ho n_lw n_nb n_np (by omega) n_qnb n_qnp n_tat n_tsz n_wr) (cwV 2 hts (zgV qw1654 qw1656 qw87 qw108 qw1657) rfl rfl rfl hd_X11_worthAs ⟨by rw [hR]; exact Nat.le_of_ble_eq_true rfl, by rw [hR]; exact Nat.le_of_ble_eq_true rfl⟩) (zPV hPc hK hDc (va_recv hK hP (ci := 11) (q0 := 0) rfl rfl)) rfl rfl hl.1 rfl (lv_room (Nat.le_of_ble_eq_true rfl)) dX11_rivals_26 ⟨Nat.zero_le _, Nat.zero_le _⟩) hS (fun q _ h => hFc q h) hFc (fun v26 u26 t H locs ht hvm hw hB hz1 hk1 hS => ?_)
          have hP := zkeep hP hk1
          have f26_0 : (v26 = zTw fR fBr m14_L_3.toInt.toNat) := hw
          have F26 := f26_0
          refine lv_aload_n hx hb dX11_rivals_29 rfl (lv_at hl 2 rfl) ?_
          refine lv_iload_n hx hb dX11_rivals_30 rfl (lv_at hl 3 rfl) ?_
          refine lv_iconst (v := 1) hx hb dX11_rivals_31 (by decide) ?_
          have hPc := hP.sub (ws' := [(h0, .inr (11, [.int th, .ref tB, .int tsz, .int tat, .int wr, .int dp, .ref rC, .ref rV, .ref rD, .ref rK, .ref rT, .ref rS, .ref rU, .int lw, .int tx, .ref rL, .ref rX, .ref qR, .ref qB, .ref qP, .int qnb, .int qnp, .ref aR, .ref aB, .ref aP, .int nb, .int np, .ref aN, .ref rf, .int ho, .int br, .ref aK, .int ac, .long dw, .ref aE, .int sr, .int sf, .ref aA, .ref aH, .ref aI, .int hi])), (aR, .inl (cI, 3, .inl fR)), (aB, .inl (cI, 24, .inl fBr))]) [0, 1, 2] rfl
          have hDc := hT.sub (ws' := [(h0, .inr (11, [.int th, .ref tB, .int tsz, .int tat, .int wr, .int dp, .ref rC, .ref rV, .ref rD, .ref rK, .ref rT, .ref rS, .ref rU, .int lw, .int tx, .ref rL, .ref rX, .ref qR, .ref qB, .ref qP, .int qnb, .int qnp, .ref aR, .ref aB, .ref aP, .int nb, .int np, .ref aN, .ref rf, .int ho, .int br, .ref aK, .int ac, .long dw, .ref aE, .int sr, .int sf, .ref aA, .ref aH, .ref aI, .int hi])), (aR, .inl (cI, 3, .inl fR)), (aB, .inl (cI, 24, .inl fBr))]) [0, 1, 2] (by decide) rfl
          have hFc := zfr hS hA
          refine va_calli (va_runV (As := [.int p0, .int 1]) (rest := [.int v26, .int m14_L_2]) ⟨hx, hb, hml, hown, hts⟩ (g_X11_worthAs_1 l dC dI cI cJ h0 p0 th tB tsz tat wr dp rC rV rD rK rT rS rU lw tx rL rX qR qB qP qnb qnp aR aB aP nb np aN rf ho br aK ac dw aE sr sf aA aH aI hi fR fBr H.size n_ac n_hi n_ho n_lw n_nb n_np (by omega) n_qnb n_qnp n_tat n_tsz n_wr) (cwV 2 hts (zgV qw1654 qw1656 qw87 qw108 qw1657) rfl rfl rfl hd_X11_worthAs ⟨by rw [hR]; exact Nat.le_of_ble_eq_true rfl, by rw [hR]; exact Nat.le_of_ble_eq_true rfl⟩) (zPV hPc hK hDc (va_recv hK hP (ci := 11) (q0 := 0) rfl rfl)) rfl rfl hl.1 rfl (lv_room (Nat.le_of_ble_eq_true rfl)) dX11_rivals_32 ⟨Nat.zero_le _, Nat.zero_le _⟩) hS (fun q _ h => hFc q h) hFc (fun v32 u32 t H locs ht hvm hw hB hz1 hk1 hS => ?_)
          have hP := zkeep hP hk1
          have f32_0 : (v32 = zTw fR fBr p0.toInt.toNat) := hw
          have F32 := f32_0
          refine lv_icmp_le (tgt := 44) hx hb dX11_rivals_35 (by decide) (fun c35 => ?_) (fun c35 => ?_)
          · have c35 : v26.toInt ≤ v32.toInt := z3 rfl rfl c35
            refine lv_iconst (v := 0) hx hb dX11_rivals_44 (by decide) ?_
            refine lv_ior hx hb dX11_rivals_45 ?_
            refine lv_topi (fun v45 e45 => ?_)
            refine lv_istore_n (lv' := [(2, .int v45), (3, .int m14_L_3), (0, .ref h0), (1, .int p0)]) hx hb dX11_rivals_46 rfl hl (by decide) rfl (fun ls hl => ?_)
            obtain ⟨v47, e47⟩ : ∃ y : Int32, y = m14_L_3 + Int32.ofInt (1) := ⟨_, rfl⟩
            refine lv_iinc (v := v47) (lv' := [(3, .int v47), (2, .int v45), (0, .ref h0), (1, .int p0)]) hx hb dX11_rivals_47 hl (k := 1) rfl e47.symm (by decide) rfl (fun ls hl => ?_)
            have i47 : v47.toInt = m14_L_3.toInt + 1 := zaddI e47 (by decide) (by omega) (by omega)
            refine lv_goto (tgt := 14) hx hb dX11_rivals_50 (by decide) ?_
            exact ih14 _ (by omega) v45 v47 (by omega) (by first | exact zRvS jv14_0 (by omega) i47 F26 F32 (by omega) e40 e45 | exact (zor0 e45 rfl).trans (zRvN jv14_0 (by omega) i47 F26 F32 (by omega))) (by omega) rfl H locs ls hP hS (lv_sub hl [0, 1, 2, 3] rfl)
          · have c35 : v32.toInt < v26.toInt := z4 rfl rfl c35
            refine lv_iconst (v := 1) hx hb dX11_rivals_38 (by decide) ?_
            refine lv_iload_n hx hb dX11_rivals_39 rfl (lv_at hl 0 rfl) ?_
            refine lv_ishl hx hb dX11_rivals_40 ?_
            refine lv_topi (fun v40 e40 => ?_)
            have i40 : 1 ≤ v40.toInt ∧ v40.toInt ≤ 32 := zshl1 e40 (by omega) (by omega)
            refine lv_goto (tgt := 45) hx hb dX11_rivals_41 (by decide) ?_
            refine lv_ior hx hb dX11_rivals_45 ?_
            refine lv_topi (fun v45 e45 => ?_)
            refine lv_istore_n (lv' := [(2, .int v45), (3, .int m14_L_3), (0, .ref h0), (1, .int p0)]) hx hb dX11_rivals_46 rfl hl (by decide) rfl (fun ls hl => ?_)
            obtain ⟨v47, e47⟩ : ∃ y : Int32, y = m14_L_3 + Int32.ofInt (1) := ⟨_, rfl⟩
            refine lv_iinc (v := v47) (lv' := [(3, .int v47), (2, .int v45), (0, .ref h0), (1, .int p0)]) hx hb dX11_rivals_47 hl (k := 1) rfl e47.symm (by decide) rfl (fun ls hl => ?_)
            have i47 : v47.toInt = m14_L_3.toInt + 1 := zaddI e47 (by decide) (by omega) (by omega)
            refine lv_goto (tgt := 14) hx hb dX11_rivals_50 (by decide) ?_
            exact ih14 _ (by omega) v45 v47 (by omega) (by first | exact zRvS jv14_0 (by omega) i47 F26 F32 (by omega) e40 e45 | exact (zor0 e45 rfl).trans (zRvN jv14_0 (by omega) i47 F26 F32 (by omega))) (by omega) rfl H locs ls hP hS (lv_sub hl [0, 1, 2, 3] rfl)
    refine lv_istore_n (lv' := [(3, .int 0), (2, .int 0), (0, .ref h0), (1, .int p0)]) hx hb dX11_rivals_13 rfl hl (by decide) rfl (fun ls hl => ?_)
    have zj14_m14_L_2 : (0 : Int32).toInt = 0 := by decide
    have zj14_m14_L_3 : (0 : Int32).toInt = 0 := by decide
    exact J14 _ 0 0 (by decide) (rfl) (by omega) rfl H locs ls hP hS (lv_sub hl [0, 1, 2, 3] rfl)
  · have c5 : v2.toInt = 0 := z5 rfl (by decide) c5
    refine lv_iconst (v := (-1)) hx hb dX11_rivals_8 (by decide) ?_
    have zr0 : ((-1) : Int32).toInt = (-1) := by decide
    rw [hQ]
    exact W.iret (v := ((-1))) hx hb hr (fun t ht hW => ⟨⟨(-1), (), rfl, (by (try dsimp only); exact ⟨fun z => absurd z (by omega), fun _ => rfl⟩), trivial⟩, hS.F ht⟩) hS.2.2 dX11_rivals_9
set_option maxHeartbeats 4000000 in
set_option maxRecDepth 100000 in
theorem g_X11_affords (l : Launch) (dC : Nat → ClassId) (dI : Nat → Nat → Nat) (cI cJ : ClassId) (h0 : Nat) (p0 : Int32) (th : Int32) (tB : Nat) (tsz : Int32) (tat : Int32) (wr : Int32) (dp : Int32) (rC : Nat) (rV : Nat) (rD : Nat) (rK : Nat) (rT : Nat) (rS : Nat) (rU : Nat) (lw : Int32) (tx : Int32) (rL : Nat) (rX : Nat) (qR : Nat) (qB : Nat) (qP : Nat) (qnb : Int32) (qnp : Int32) (aR : Nat) (aB : Nat) (aP : Nat) (nb : Int32) (np : Int32) (aN : Nat) (rf : Nat) (ho : Int32) (br : Int32) (aK : Nat) (ac : Int32) (dw : Int64) (aE : Nat) (sr : Int32) (sf : Int32) (aA : Nat) (aH : Nat) (aI : Nat) (hi : Int32) (fPa : Nat → Int32) (fN : Nat → Int32) (sz : Nat) (n_ac : 0 ≤ ac.toInt ∧ ac.toInt ≤ 40) (n_hi : 0 ≤ hi.toInt ∧ hi.toInt ≤ 1) (n_ho : (-1) ≤ ho.toInt ∧ ho.toInt ≤ 3) (n_lw : 0 ≤ lw.toInt ∧ lw.toInt ≤ 4) (n_nb : 0 ≤ nb.toInt ∧ nb.toInt ≤ 6) (n_np : 0 ≤ np.toInt ∧ np.toInt ≤ 5) (n_qnb : 0 ≤ qnb.toInt ∧ qnb.toInt ≤ 6) (n_qnp : 0 ≤ qnp.toInt ∧ qnp.toInt ≤ 5) (n_tat : 0 ≤ tat.toInt ∧ tat.toInt ≤ 260) (n_tsz : 0 ≤ tsz.toInt ∧ tsz.toInt ≤ 240) (n_wr : (-1) ≤ wr.toInt ∧ wr.toInt ≤ 260)  (ci_fN_zNw_np : zNw np fN) (ci_fPa_zBr_np : zBr np fPa)  : Met l yX11_affords (.code yX11_affords cX11_affords 3 (some .int) :: wA) ({ frames := 2, cells := 0, slots := 0, locals := 43 }) (zP (dC, dI) [(cI, .int), (cJ, .long)] [.ref h0, .int p0] sz [(h0, .inr (11, [.int th, .ref tB, .int tsz, .int tat, .int wr, .int dp, .ref rC, .ref rV, .ref rD, .ref rK, .ref rT, .ref rS, .ref rU, .int lw, .int tx, .ref rL, .ref rX, .ref qR, .ref qB, .ref qP, .int qnb, .int qnp, .ref aR, .ref aB, .ref aP, .int nb, .int np, .ref aN, .ref rf, .int ho, .int br, .ref aK, .int ac, .long dw, .ref aE, .int sr, .int sf, .ref aA, .ref aH, .ref aI, .int hi])), (aP, .inl (cI, 20, .inl fPa)), (aN, .inl (cI, 97, .inl fN))]) (va_Qi (fun (r : Int32) (u : Unit) => (r.toInt ≤ 20) ∧ (∀ (kc : zK3) (kT : zT) (q_fR : Nat → Int32) (q_fBr : Nat → Int32) (q_fKp : Nat → Int32) (q_frf : Nat → Int32), zCn q_fR q_fBr fPa nb.toInt np.toInt kc → zKo nb.toInt np.toInt kc kT → zTr nb.toInt np.toInt kT fN q_fKp ac q_frf → r = sV_aff np.toInt kc kT.1 p0)) (fun (_ : Unit) (_ : State) => True) (va_A [] sz)) 0 0 (va_A [] sz) := by
  refine Met.ofW (cc := cX11_affords) (maxL := 3) (ret := (some .int)) (by decide) rfl ?_
  intro p e s m args below meth c s₁ B hml hv
  obtain ⟨hargs, hsz, hP, hK, hT⟩ := hv
  have hx := B.exec
  have hb := B.bytes
  have hr := B.returns
  have hts : ∀ w ∈ wA, w.before args s = true := fun w h => atoms_spec (ws := .code yX11_affords cX11_affords 3 (some .int) :: wA) B.pre w (List.mem_cons_of_mem _ h)
  have hown : s.vm.findClass RX11 = some m.cls := findClass_of_methodNamed B.named
  have hlocks := B.notSynchronized
  subst hsz
  have hD : va_D (va_A [] s.heap.size) [] := zD0
  generalize hAe : va_A [] s.heap.size = A at hD ⊢
  have hA : ∀ q : Nat, s.heap.size ≤ q → A q := fun q h => by rw [← hAe]; exact Or.inr h
  have hl := lv_entry ([.ref h0, .int p0]) (n := 3) (Nat.le_of_ble_eq_true rfl)
  rw [show entryFrame m args 3 = entryFrame m ([.ref h0, .int p0] : List Value).toArray 3 by rw [hargs], lg_entry_eq]
  generalize (lg_sl ([.ref h0, .int p0]) ++ List.replicate (3 - (lg_sl ([.ref h0, .int p0])).length) Slot.unset).toArray = ls at hl ⊢
  have hl : lv_has ls 3 [(0, .ref h0), (1, .int p0)] := hl
  refine zstart (fun H hH => ?_)
  rw [← hH] at hP
  have hS : va_S A s.heap H [] := by rw [hH]; exact va_S.rf
  generalize ([] : List Loc) = locs at hS ⊢
  refine zgen (fun R Q hR hQ => ?_)
  refine lv_aload_n hx hb dX11_affords_0 rfl (lv_at hl 0 rfl) ?_
  refine lv_iload_n hx hb dX11_affords_1 rfl (lv_at hl 1 rfl) ?_
  have hPc := hP.sub (ws' := [(h0, .inr (11, [.int th, .ref tB, .int tsz, .int tat, .int wr, .int dp, .ref rC, .ref rV, .ref rD, .ref rK, .ref rT, .ref rS, .ref rU, .int lw, .int tx, .ref rL, .ref rX, .ref qR, .ref qB, .ref qP, .int qnb, .int qnp, .ref aR, .ref aB, .ref aP, .int nb, .int np, .ref aN, .ref rf, .int ho, .int br, .ref aK, .int ac, .long dw, .ref aE, .int sr, .int sf, .ref aA, .ref aH, .ref aI, .int hi]))]) [0] rfl
  have hDc := hT.sub (ws' := [(h0, .inr (11, [.int th, .ref tB, .int tsz, .int tat, .int wr, .int dp, .ref rC, .ref rV, .ref rD, .ref rK, .ref rT, .ref rS, .ref rU, .int lw, .int tx, .ref rL, .ref rX, .ref qR, .ref qB, .ref qP, .int qnb, .int qnp, .ref aR, .ref aB, .ref aP, .int nb, .int np, .ref aN, .ref rf, .int ho, .int br, .ref aK, .int ac, .long dw, .ref aE, .int sr, .int sf, .ref aA, .ref aH, .ref aI, .int hi]))]) [0] (by decide) rfl
  have hFc := zfr hS hA
  refine va_calli (va_runV (As := [.int p0]) (rest := []) ⟨hx, hb, hml, hown, hts⟩ (g_X11_isPainter l dC dI cI cJ h0 p0 th tB tsz tat wr dp rC rV rD rK rT rS rU lw tx rL rX qR qB qP qnb qnp aR aB aP nb np aN rf ho br aK ac dw aE sr sf aA aH aI hi H.size n_ac n_hi n_ho n_lw n_nb n_np n_qnb n_qnp n_tat n_tsz n_wr) (cwV 1 hts (zgV qw1414 qw1416 qw57 qw108 qw1417) rfl rfl rfl hd_X11_isPainter ⟨by rw [hR]; exact Nat.le_of_ble_eq_true rfl, by rw [hR]; exact Nat.le_of_ble_eq_true rfl⟩) (zPV hPc hK hDc (va_recv hK hP (ci := 11) (q0 := 0) rfl rfl)) rfl rfl hl.1 rfl (lv_room (Nat.le_of_ble_eq_true rfl)) dX11_affords_2 ⟨Nat.zero_le _, Nat.zero_le _⟩) hS (fun q _ h => hFc q h) hFc (fun v2 u2 t H locs ht hvm hw hB hz1 hk1 hS => ?_)
  have hP := zkeep hP hk1
  obtain ⟨f2_0, f2_1, f2_2, f2_3⟩ : (0 ≤ v2.toInt) ∧ (v2.toInt ≤ 1) ∧ (¬ v2.toInt = 0 → (0 ≤ p0.toInt ∧ p0.toInt < np.toInt)) ∧ (v2.toInt = 0 → ¬ (0 ≤ p0.toInt ∧ p0.toInt < np.toInt)) := hw
  refine lv_if_ne (tgt := 10) hx hb dX11_affords_5 (by decide) (fun c5 => ?_) (fun c5 => ?_)
  · have c5 : ¬ v2.toInt = 0 := z6 rfl (by decide) c5
    refine lv_bipush (v := 20) hx hb dX11_affords_10 (by decide) ?_
    refine lv_aload_n hx hb dX11_affords_12 rfl (lv_at hl 0 rfl) ?_
    refine va_get (D := (dC, dI)) (ci := 11) (v := .ref aN) (C := RX11) (T := TX11) (N := 41) hx hb hts iX11 hown hK hP 0 rfl rfl 27 (by decide) (hts _ qw1154) (fun _ h9 => h9) rfl dX11_affords_13 ?_
    refine lv_bipush (v := 16) hx hb dX11_affords_16 (by decide) ?_
    refine va_iald hx hb hK hP 2 0 rfl rfl (by unfold vp_in; decide) dX11_affords_18 ?_
    refine lv_topi (fun v18 e18 => ?_)
    have i18 : v18.toInt = (fN 16).toInt ∧ 0 ≤ v18.toInt ∧ v18.toInt ≤ 20 := zNw_16 ci_fN_zNw_np e18
    refine lv_isub hx hb dX11_affords_19 ?_
    refine lv_topi (fun v19 e19 => ?_)
    have i19 : v19.toInt = 20 - v18.toInt := zsub e19 (by decide) rfl (by omega) (by omega)
    refine lv_istore_n (lv' := [(2, .int v19), (0, .ref h0), (1, .int p0)]) hx hb dX11_affords_20 rfl hl (by decide) rfl (fun ls hl => ?_)
    refine lv_aload_n hx hb dX11_affords_21 rfl (lv_at hl 1 rfl) ?_
    refine lv_iload_n hx hb dX11_affords_22 rfl (lv_at hl 2 rfl) ?_
    refine lv_iconst (v := 1) hx hb dX11_affords_23 (by decide) ?_
    have hPc := hP.sub (ws' := [(h0, .inr (11, [.int th, .ref tB, .int tsz, .int tat, .int wr, .int dp, .ref rC, .ref rV, .ref rD, .ref rK, .ref rT, .ref rS, .ref rU, .int lw, .int tx, .ref rL, .ref rX, .ref qR, .ref qB, .ref qP, .int qnb, .int qnp, .ref aR, .ref aB, .ref aP, .int nb, .int np, .ref aN, .ref rf, .int ho, .int br, .ref aK, .int ac, .long dw, .ref aE, .int sr, .int sf, .ref aA, .ref aH, .ref aI, .int hi])), (aP, .inl (cI, 20, .inl fPa))]) [0, 1] rfl
    have hDc := hT.sub (ws' := [(h0, .inr (11, [.int th, .ref tB, .int tsz, .int tat, .int wr, .int dp, .ref rC, .ref rV, .ref rD, .ref rK, .ref rT, .ref rS, .ref rU, .int lw, .int tx, .ref rL, .ref rX, .ref qR, .ref qB, .ref qP, .int qnb, .int qnp, .ref aR, .ref aB, .ref aP, .int nb, .int np, .ref aN, .ref rf, .int ho, .int br, .ref aK, .int ac, .long dw, .ref aE, .int sr, .int sf, .ref aA, .ref aH, .ref aI, .int hi])), (aP, .inl (cI, 20, .inl fPa))]) [0, 1] (by decide) rfl
    have hFc := zfr hS hA
    refine va_calli (va_runV (As := [.int p0, .int 1]) (rest := []) ⟨hx, hb, hml, hown, hts⟩ (g_X11_by_1 l dC dI cI cJ h0 p0 th tB tsz tat wr dp rC rV rD rK rT rS rU lw tx rL rX qR qB qP qnb qnp aR aB aP nb np aN rf ho br aK ac dw aE sr sf aA aH aI hi fPa H.size n_ac n_hi n_ho n_lw n_nb n_np (by omega) n_qnb n_qnp n_tat n_tsz n_wr) (cwV 2 hts (zgV qw1394 qw1396 qw55 qw108 qw1397) rfl rfl rfl hd_X11_by ⟨by rw [hR]; exact Nat.le_of_ble_eq_true rfl, by rw [hR]; exact Nat.le_of_ble_eq_true rfl⟩) (zPV hPc hK hDc (va_recv hK hP (ci := 11) (q0 := 0) rfl rfl)) rfl rfl hl.1 rfl (lv_room (Nat.le_of_ble_eq_true rfl)) dX11_affords_24 ⟨Nat.zero_le _, Nat.zero_le _⟩) hS (fun q _ h => hFc q h) hFc (fun v24 u24 t H locs ht hvm hw hB hz1 hk1 hS => ?_)
    have hP := zkeep hP hk1
    obtain ⟨f24_0, f24_1⟩ : (v24.toInt = (fPa (4 * p0.toInt.toNat + 1)).toInt) ∧ (v24 = fPa (4 * p0.toInt.toNat + 1)) := hw
    have F24 := f24_1
    refine lv_if_ne (tgt := 34) hx hb dX11_affords_27 (by decide) (fun c27 => ?_) (fun c27 => ?_)
    · have c27 : ¬ v24.toInt = 0 := z6 rfl (by decide) c27
      refine lv_iload_n hx hb dX11_affords_34 rfl (lv_at hl 0 rfl) ?_
      refine lv_aload_n hx hb dX11_affords_35 rfl (lv_at hl 1 rfl) ?_
      refine va_get (D := (dC, dI)) (ci := 11) (v := .ref aN) (C := RX11) (T := TX11) (N := 41) hx hb hts iX11 hown hK hP 0 rfl rfl 27 (by decide) (hts _ qw1154) (fun _ h9 => h9) rfl dX11_affords_36 ?_
      refine lv_bipush (v := 14) hx hb dX11_affords_39 (by decide) ?_
      refine va_iald hx hb hK hP 2 0 rfl rfl (by unfold vp_in; decide) dX11_affords_41 ?_
      refine lv_topi (fun v41 e41 => ?_)
      refine lv_aload_n hx hb dX11_affords_42 rfl (lv_at hl 1 rfl) ?_
      refine lv_iload_n hx hb dX11_affords_43 rfl (lv_at hl 2 rfl) ?_
      refine lv_iconst (v := 1) hx hb dX11_affords_44 (by decide) ?_
      have hPc := hP.sub (ws' := [(h0, .inr (11, [.int th, .ref tB, .int tsz, .int tat, .int wr, .int dp, .ref rC, .ref rV, .ref rD, .ref rK, .ref rT, .ref rS, .ref rU, .int lw, .int tx, .ref rL, .ref rX, .ref qR, .ref qB, .ref qP, .int qnb, .int qnp, .ref aR, .ref aB, .ref aP, .int nb, .int np, .ref aN, .ref rf, .int ho, .int br, .ref aK, .int ac, .long dw, .ref aE, .int sr, .int sf, .ref aA, .ref aH, .ref aI, .int hi])), (aP, .inl (cI, 20, .inl fPa))]) [0, 1] rfl
      have hDc := hT.sub (ws' := [(h0, .inr (11, [.int th, .ref tB, .int tsz, .int tat, .int wr, .int dp, .ref rC, .ref rV, .ref rD, .ref rK, .ref rT, .ref rS, .ref rU, .int lw, .int tx, .ref rL, .ref rX, .ref qR, .ref qB, .ref qP, .int qnb, .int qnp, .ref aR, .ref aB, .ref aP, .int nb, .int np, .ref aN, .ref rf, .int ho, .int br, .ref aK, .int ac, .long dw, .ref aE, .int sr, .int sf, .ref aA, .ref aH, .ref aI, .int hi])), (aP, .inl (cI, 20, .inl fPa))]) [0, 1] (by decide) rfl
      have hFc := zfr hS hA
      refine va_calli (va_runV (As := [.int p0, .int 1]) (rest := [.int v41, .int v19]) ⟨hx, hb, hml, hown, hts⟩ (g_X11_by_1 l dC dI cI cJ h0 p0 th tB tsz tat wr dp rC rV rD rK rT rS rU lw tx rL rX qR qB qP qnb qnp aR aB aP nb np aN rf ho br aK ac dw aE sr sf aA aH aI hi fPa H.size n_ac n_hi n_ho n_lw n_nb n_np (by omega) n_qnb n_qnp n_tat n_tsz n_wr) (cwV 2 hts (zgV qw1394 qw1396 qw55 qw108 qw1397) rfl rfl rfl hd_X11_by ⟨by rw [hR]; exact Nat.le_of_ble_eq_true rfl, by rw [hR]; exact Nat.le_of_ble_eq_true rfl⟩) (zPV hPc hK hDc (va_recv hK hP (ci := 11) (q0 := 0) rfl rfl)) rfl rfl hl.1 rfl (lv_room (Nat.le_of_ble_eq_true rfl)) dX11_affords_45 ⟨Nat.zero_le _, Nat.zero_le _⟩) hS (fun q _ h => hFc q h) hFc (fun v45 u45 t H locs ht hvm hw hB hz1 hk1 hS => ?_)
      have hP := zkeep hP hk1
      obtain ⟨f45_0, f45_1⟩ : (v45.toInt = (fPa (4 * p0.toInt.toNat + 1)).toInt) ∧ (v45 = fPa (4 * p0.toInt.toNat + 1)) := hw
      have F45 := f45_1
      refine lv_idiv hx hb dX11_affords_48 (z0 (by omega)) ?_
      refine lv_topi (fun v48 e48 => ?_)
      refine va_mmin hx hb (by rw [hml]; exact hl.1.symm) hown (hts _ qw1472) (hts _ qw569) (hts _ qw112) (hts _ qw570) (by rw [hR]; exact Nat.le_of_ble_eq_true rfl) (by rw [hR]; exact Nat.le_of_ble_eq_true rfl) (Nat.zero_le _) (Nat.zero_le _) dX11_affords_49 ?_
      refine lv_topi (fun v49 e49 => ?_)
      have i49 := zmmin e49
      rw [hQ]
      exact W.iret (v := v49) hx hb hr (fun t ht hW => ⟨⟨v49, (), rfl, ⟨by (try dsimp only); omega, by (try dsimp only); exact fun kc kT q_fR q_fBr q_fKp q_frf hc hb h => by have y24 : v24 = kc.2.2 (4 * p0.toInt.toNat + 1) := F24.trans (hc.2.2 _ (by omega)); have z24 := congrArg Int32.toInt y24; have y18 : v18 = kT.1.2.2.2.1.2.2 := (zIxN (n := 16) e18 (by decide)).trans (zSr_pn h.1).symm; unfold sV_aff; rw [if_pos (by omega)]; rw [← y18, ← e19]; have y45 : v45 = kc.2.2 (4 * p0.toInt.toNat + 1) := F45.trans (hc.2.2 _ (by omega)); have y41 : v41 = kT.1.2.2.2.1.1 := (zIxN (n := 14) e41 (by decide)).trans (zSr_pu h.1).symm; rw [if_neg (by omega), ← y41, ← y45, ← e48]; unfold sMin; exact e49⟩, trivial⟩, hS.F ht⟩) hS.2.2 dX11_affords_52
    · have c27 : v24.toInt = 0 := z5 rfl (by decide) c27
      refine lv_iload_n hx hb dX11_affords_30 rfl (lv_at hl 0 rfl) ?_
      refine lv_goto (tgt := 52) hx hb dX11_affords_31 (by decide) ?_
      rw [hQ]
      exact W.iret (v := v19) hx hb hr (fun t ht hW => ⟨⟨v19, (), rfl, ⟨by (try dsimp only); omega, by (try dsimp only); exact fun kc kT q_fR q_fBr q_fKp q_frf hc hb h => by have y24 : v24 = kc.2.2 (4 * p0.toInt.toNat + 1) := F24.trans (hc.2.2 _ (by omega)); have z24 := congrArg Int32.toInt y24; have y18 : v18 = kT.1.2.2.2.1.2.2 := (zIxN (n := 16) e18 (by decide)).trans (zSr_pn h.1).symm; unfold sV_aff; rw [if_pos (by omega)]; rw [← y18, ← e19]; exact (if_pos (by omega)).symm⟩, trivial⟩, hS.F ht⟩) hS.2.2 dX11_affords_52
  · have c5 : v2.toInt = 0 := z5 rfl (by decide) c5
    refine lv_iconst (v := (-1)) hx hb dX11_affords_8 (by decide) ?_
    have zr0 : ((-1) : Int32).toInt = (-1) := by decide
    rw [hQ]
    exact W.iret (v := ((-1))) hx hb hr (fun t ht hW => ⟨⟨(-1), (), rfl, ⟨by (try dsimp only); omega, by (try dsimp only); exact fun kc kT q_fR q_fBr q_fKp q_frf hc hb h => by unfold sV_aff; rw [if_neg (by omega)]; ⟩, trivial⟩, hS.F ht⟩) hS.2.2 dX11_affords_9
