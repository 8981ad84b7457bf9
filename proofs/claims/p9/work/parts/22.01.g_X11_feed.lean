set_option maxHeartbeats 4000000 in
set_option maxRecDepth 100000 in
theorem g_X11_trySends_2 (l : Launch) (dC : Nat → ClassId) (dI : Nat → Nat → Nat) (cI cJ : ClassId) (h0 : Nat) (p1 : Int32) (p2 : Int32) (p3 : Int32) (p4 : Int32) (th : Int32) (tB : Nat) (tsz : Int32) (tat : Int32) (wr : Int32) (dp : Int32) (rC : Nat) (rV : Nat) (rD : Nat) (rK : Nat) (rT : Nat) (rS : Nat) (rU : Nat) (lw : Int32) (tx : Int32) (rL : Nat) (rX : Nat) (qR : Nat) (qB : Nat) (qP : Nat) (qnb : Int32) (qnp : Int32) (aR : Nat) (aB : Nat) (aP : Nat) (nb : Int32) (np : Int32) (aN : Nat) (rf : Nat) (ho : Int32) (br : Int32) (aK : Nat) (ac : Int32) (dw : Int64) (aE : Nat) (sr : Int32) (sf : Int32) (aA : Nat) (aH : Nat) (aI : Nat) (hi : Int32) (fPa : Nat → Int32) (sz : Nat) (n_ac : 0 ≤ ac.toInt ∧ ac.toInt ≤ 40) (n_hi : 0 ≤ hi.toInt ∧ hi.toInt ≤ 1) (n_ho : (-1) ≤ ho.toInt ∧ ho.toInt ≤ 3) (n_lw : 0 ≤ lw.toInt ∧ lw.toInt ≤ 4) (n_nb : 2 ≤ nb.toInt ∧ nb.toInt ≤ 6) (n_np : 0 ≤ np.toInt ∧ np.toInt ≤ 5) (n_qnb : 0 ≤ qnb.toInt ∧ qnb.toInt ≤ 6) (n_qnp : 0 ≤ qnp.toInt ∧ qnp.toInt ≤ 5) (n_tat : 0 ≤ tat.toInt ∧ tat.toInt ≤ 260) (n_tsz : 0 ≤ tsz.toInt ∧ tsz.toInt ≤ 240) (n_wr : (-1) ≤ wr.toInt ∧ wr.toInt ≤ 260)    : Met l yX11_trySends (.code yX11_trySends cX11_trySends 7 none :: wA) ({ frames := 4, cells := 0, slots := 0, locals := 104 }) (zP (dC, dI) [(cI, .int), (cJ, .long)] [.ref h0, .int 2, .int p1, .int p2, .int p3, .int p4] sz [(h0, .inr (11, [.int th, .ref tB, .int tsz, .int tat, .int wr, .int dp, .ref rC, .ref rV, .ref rD, .ref rK, .ref rT, .ref rS, .ref rU, .int lw, .int tx, .ref rL, .ref rX, .ref qR, .ref qB, .ref qP, .int qnb, .int qnp, .ref aR, .ref aB, .ref aP, .int nb, .int np, .ref aN, .ref rf, .int ho, .int br, .ref aK, .int ac, .long dw, .ref aE, .int sr, .int sf, .ref aA, .ref aH, .ref aI, .int hi])), (aP, .inl (cI, 20, .inl fPa))]) (va_Qv (fun (u : Int32 × Int32) => (∀ (kc : zK3) (s : List Nat), chP fPa np.toInt kc → chI kc np.toInt.toNat p2 p3 p4 s 2 → (u.1.toInt, u.2.toInt) = chX (chf kc) np.toInt.toNat (chBt p1) (nb.toInt.toNat - 2) 2 s (sr.toInt, sf.toInt))) (fun (u : Int32 × Int32) (t : State) => va_P (dC, dI) vwCl [(h0, .inr (11, [.int th, .ref tB, .int tsz, .int tat, .int wr, .int dp, .ref rC, .ref rV, .ref rD, .ref rK, .ref rT, .ref rS, .ref rU, .int lw, .int tx, .ref rL, .ref rX, .ref qR, .ref qB, .ref qP, .int qnb, .int qnp, .ref aR, .ref aB, .ref aP, .int nb, .int np, .ref aN, .ref rf, .int ho, .int br, .ref aK, .int ac, .long dw, .ref aE, .int u.1, .int u.2, .ref aA, .ref aH, .ref aI, .int hi])), (aP, .inl (cI, 20, .inl fPa))] t.heap ∧ va_D (va_A [(h0, .inr (11, [.int th, .ref tB, .int tsz, .int tat, .int wr, .int dp, .ref rC, .ref rV, .ref rD, .ref rK, .ref rT, .ref rS, .ref rU, .int lw, .int tx, .ref rL, .ref rX, .ref qR, .ref qB, .ref qP, .int qnb, .int qnp, .ref aR, .ref aB, .ref aP, .int nb, .int np, .ref aN, .ref rf, .int ho, .int br, .ref aK, .int ac, .long dw, .ref aE, .int sr, .int sf, .ref aA, .ref aH, .ref aI, .int hi])), (aP, .inl (cI, 20, .inl fPa))] sz) [(h0, .inr (11, [.int th, .ref tB, .int tsz, .int tat, .int wr, .int dp, .ref rC, .ref rV, .ref rD, .ref rK, .ref rT, .ref rS, .ref rU, .int lw, .int tx, .ref rL, .ref rX, .ref qR, .ref qB, .ref qP, .int qnb, .int qnp, .ref aR, .ref aB, .ref aP, .int nb, .int np, .ref aN, .ref rf, .int ho, .int br, .ref aK, .int ac, .long dw, .ref aE, .int u.1, .int u.2, .ref aA, .ref aH, .ref aI, .int hi])), (aP, .inl (cI, 20, .inl fPa))]) (va_A [(h0, .inr (11, [.int th, .ref tB, .int tsz, .int tat, .int wr, .int dp, .ref rC, .ref rV, .ref rD, .ref rK, .ref rT, .ref rS, .ref rU, .int lw, .int tx, .ref rL, .ref rX, .ref qR, .ref qB, .ref qP, .int qnb, .int qnp, .ref aR, .ref aB, .ref aP, .int nb, .int np, .ref aN, .ref rf, .int ho, .int br, .ref aK, .int ac, .long dw, .ref aE, .int sr, .int sf, .ref aA, .ref aH, .ref aI, .int hi])), (aP, .inl (cI, 20, .inl fPa))] sz)) 0 0 (va_A [(h0, .inr (11, [.int th, .ref tB, .int tsz, .int tat, .int wr, .int dp, .ref rC, .ref rV, .ref rD, .ref rK, .ref rT, .ref rS, .ref rU, .int lw, .int tx, .ref rL, .ref rX, .ref qR, .ref qB, .ref qP, .int qnb, .int qnp, .ref aR, .ref aB, .ref aP, .int nb, .int np, .ref aN, .ref rf, .int ho, .int br, .ref aK, .int ac, .long dw, .ref aE, .int sr, .int sf, .ref aA, .ref aH, .ref aI, .int hi])), (aP, .inl (cI, 20, .inl fPa))] sz) := by
  refine Met.ofW (cc := cX11_trySends) (maxL := 7) (ret := none) (by decide) rfl ?_
  intro p e s m args below meth c s₁ B hml hv
  have y_ac : zHid (0 ≤ ac.toInt ∧ ac.toInt ≤ 40) := n_ac
  have y_hi : zHid (0 ≤ hi.toInt ∧ hi.toInt ≤ 1) := n_hi
  have y_ho : zHid ((-1) ≤ ho.toInt ∧ ho.toInt ≤ 3) := n_ho
  have y_lw : zHid (0 ≤ lw.toInt ∧ lw.toInt ≤ 4) := n_lw
  have y_qnb : zHid (0 ≤ qnb.toInt ∧ qnb.toInt ≤ 6) := n_qnb
  have y_qnp : zHid (0 ≤ qnp.toInt ∧ qnp.toInt ≤ 5) := n_qnp
  have y_tat : zHid (0 ≤ tat.toInt ∧ tat.toInt ≤ 260) := n_tat
  have y_tsz : zHid (0 ≤ tsz.toInt ∧ tsz.toInt ≤ 240) := n_tsz
  have y_wr : zHid ((-1) ≤ wr.toInt ∧ wr.toInt ≤ 260) := n_wr
  clear n_ac n_hi n_ho n_lw n_qnb n_qnp n_tat n_tsz n_wr
  obtain ⟨hargs, hsz, hP, hK, hT⟩ := hv
  have hx := B.exec
  have hb := B.bytes
  have hr := B.returns
  have hts : ∀ w ∈ wA, w.before args s = true := fun w h => atoms_spec (ws := .code yX11_trySends cX11_trySends 7 none :: wA) B.pre w (List.mem_cons_of_mem _ h)
  have hown : s.vm.findClass RX11 = some m.cls := findClass_of_methodNamed B.named
  have hlocks := B.notSynchronized
  subst hsz
  have hD := hT.self (sz := s.heap.size)
  generalize hAe : va_A [(h0, .inr (11, [.int th, .ref tB, .int tsz, .int tat, .int wr, .int dp, .ref rC, .ref rV, .ref rD, .ref rK, .ref rT, .ref rS, .ref rU, .int lw, .int tx, .ref rL, .ref rX, .ref qR, .ref qB, .ref qP, .int qnb, .int qnp, .ref aR, .ref aB, .ref aP, .int nb, .int np, .ref aN, .ref rf, .int ho, .int br, .ref aK, .int ac, .long dw, .ref aE, .int sr, .int sf, .ref aA, .ref aH, .ref aI, .int hi])), (aP, .inl (cI, 20, .inl fPa))] s.heap.size = A at hD ⊢
  have hA : ∀ q : Nat, s.heap.size ≤ q → A q := fun q h => by rw [← hAe]; exact Or.inr h
  have hl := lv_entry ([.ref h0, .int 2, .int p1, .int p2, .int p3, .int p4]) (n := 7) (Nat.le_of_ble_eq_true rfl)
  rw [show entryFrame m args 7 = entryFrame m ([.ref h0, .int 2, .int p1, .int p2, .int p3, .int p4] : List Value).toArray 7 by rw [hargs], lg_entry_eq]
  generalize (lg_sl ([.ref h0, .int 2, .int p1, .int p2, .int p3, .int p4]) ++ List.replicate (7 - (lg_sl ([.ref h0, .int 2, .int p1, .int p2, .int p3, .int p4])).length) Slot.unset).toArray = ls at hl ⊢
  have hl : lv_has ls 7 [(0, .ref h0), (1, .int 2), (2, .int p1), (3, .int p2), (4, .int p3), (5, .int p4)] := hl
  refine zstart (fun H hH => ?_)
  rw [← hH] at hP
  have hS : va_S A s.heap H [] := by rw [hH]; exact va_S.rf
  generalize ([] : List Loc) = locs at hS ⊢
  refine zgen (fun R Q hR hQ => ?_)
  refine lv_iload_n hx hb dX11_trySends_0 rfl (lv_at hl 1 rfl) ?_
  refine lv_aload_n hx hb dX11_trySends_1 rfl (lv_at hl 0 rfl) ?_
  refine va_get (D := (dC, dI)) (ci := 11) (v := .int nb) (C := RX11) (T := TX11) (N := 41) hx hb hts iX11 hown hK hP 0 rfl rfl 25 (by decide) (hts _ qw1152) (fun _ h9 => h9) rfl dX11_trySends_2 ?_
  refine lv_icmp_ne (tgt := 87) hx hb dX11_trySends_5 (by decide) (fun c5 => ?_) (fun c5 => ?_)
  · have c5 : ¬ 2 = nb.toInt := z6 (by decide) rfl c5
    refine lv_iload_n hx hb dX11_trySends_87 rfl (lv_at hl 2 rfl) ?_
    refine lv_iload_n hx hb dX11_trySends_88 rfl (lv_at hl 1 rfl) ?_
    have hPc : va_P (dC, dI) vwCl [] H := zP0
    have hDc : va_D (fun _ => True) [] := zD0
    have hFc := zfr hS hA
    refine va_calli (va_runS (As := [.int p1, .int 2]) (rest := []) ⟨hx, hb, hml, hown, hts⟩ (g_X11_has l dC dI cI cJ p1 2 H.size) (cwS 2 hts (zgS qw1288 qw1289 qw108 qw1290) rfl rfl rfl hd_X11_has ⟨by rw [hR]; exact Nat.le_of_ble_eq_true rfl, by rw [hR]; exact Nat.le_of_ble_eq_true rfl⟩) (zPS hPc hK hDc) rfl rfl hl.1 rfl (lv_room (Nat.le_of_ble_eq_true rfl)) dX11_trySends_89 ⟨Nat.zero_le _, Nat.zero_le _⟩) hS (fun q _ h => hFc q h) hFc (fun v89 u89 t H locs ht hvm hw hB hz1 hk1 hS9 => ?_)
    replace hP := zkeep hP hk1
    replace hS := hS9
    clear hPc hDc hFc hk1 hz1 hvm hS9
    obtain ⟨f89_0, f89_1, f89_2, f89_3⟩ : (0 ≤ v89.toInt) ∧ (v89.toInt ≤ 1) ∧ (v89.toInt = ((p1 >>> (2 &&& 31)) &&& 1).toInt) ∧ (v89.toInt = (cBt p1 2).toInt) := hw
    have F89 := f89_3
    refine lv_if_ne (tgt := 109) hx hb dX11_trySends_92 (by decide) (fun c92 => ?_) (fun c92 => ?_)
    · have c92 : ¬ v89.toInt = 0 := z6 rfl (by decide) c92
      refine lv_iconst (v := 0) hx hb dX11_trySends_109 (by decide) ?_
      have J112 : ∀ (n : Nat) (m112_F_h0_35 : Int32) (m112_F_h0_36 : Int32) (m112_L_6 : Int32), (0 ≤ m112_L_6.toInt ∧ m112_L_6.toInt ≤ 5) → (∀ (kc : zK3) (s : List Nat), chP fPa np.toInt kc → chI kc np.toInt.toNat p2 p3 p4 s 2 → (m112_F_h0_35.toInt, m112_F_h0_36.toInt) = chL (chf kc) np.toInt.toNat (chBt p1) (nb.toInt.toNat - 3) 2 s (sr.toInt, sf.toInt) m112_L_6.toInt.toNat) → (m112_L_6.toInt ≤ np.toInt) → (6 - m112_L_6.toInt).toNat = n → ∀ (H : Heap) (locs : List Loc) (ls : Array Slot), va_P (dC, dI) vwCl [(h0, .inr (11, [.int th, .ref tB, .int tsz, .int tat, .int wr, .int dp, .ref rC, .ref rV, .ref rD, .ref rK, .ref rT, .ref rS, .ref rU, .int lw, .int tx, .ref rL, .ref rX, .ref qR, .ref qB, .ref qP, .int qnb, .int qnp, .ref aR, .ref aB, .ref aP, .int nb, .int np, .ref aN, .ref rf, .int ho, .int br, .ref aK, .int ac, .long dw, .ref aE, .int m112_F_h0_35, .int m112_F_h0_36, .ref aA, .ref aH, .ref aI, .int hi])), (aP, .inl (cI, 20, .inl fPa))] H → va_D A [(h0, .inr (11, [.int th, .ref tB, .int tsz, .int tat, .int wr, .int dp, .ref rC, .ref rV, .ref rD, .ref rK, .ref rT, .ref rS, .ref rU, .int lw, .int tx, .ref rL, .ref rX, .ref qR, .ref qB, .ref qP, .int qnb, .int qnp, .ref aR, .ref aB, .ref aP, .int nb, .int np, .ref aN, .ref rf, .int ho, .int br, .ref aK, .int ac, .long dw, .ref aE, .int m112_F_h0_35, .int m112_F_h0_36, .ref aA, .ref aH, .ref aI, .int hi])), (aP, .inl (cI, 20, .inl fPa))] → va_S A s.heap H locs → lv_has ls 7 [(6, .int m112_L_6), (0, .ref h0), (1, .int 2), (2, .int p1), (3, .int p2), (4, .int p3), (5, .int p4)] → W p l e R s m args below meth c H locs 0 0 Q (F0 m 112 ls []) := by
        intro n112
        induction n112 using Nat.strongRecOn with
        | _ n112 ih112 =>
          intro m112_F_h0_35 m112_F_h0_36 m112_L_6 jf112_0 jv112_0 jf112_2 hmu112 H locs ls hP hD hS hl
          refine lv_iload hx hb dX11_trySends_112 (lv_at hl 0 rfl) ?_
          refine lv_aload_n hx hb dX11_trySends_114 rfl (lv_at hl 1 rfl) ?_
          refine va_get (D := (dC, dI)) (ci := 11) (v := .int np) (C := RX11) (T := TX11) (N := 41) hx hb hts iX11 hown hK hP 0 rfl rfl 26 (by decide) (hts _ qw1153) (fun _ h9 => h9) rfl dX11_trySends_115 ?_
          refine lv_icmp_ge (tgt := 168) hx hb dX11_trySends_118 (by decide) (fun c118 => ?_) (fun c118 => ?_)
          · have c118 : np.toInt ≤ m112_L_6.toInt := z3 rfl rfl c118
            rw [hQ]
            exact W.vret hx hb hr (fun t ht hW => ⟨⟨(m112_F_h0_35, m112_F_h0_36), rfl, (by (try dsimp only); exact fun kc s hP hI => by have g89 : (chBt p1 2 = true ↔ v89.toInt = 1) := (by rw [F89]; exact decide_eq_true_iff); exact chX_l (k' := (nb.toInt.toNat - 3)) (m := m112_L_6.toInt.toNat) (g89.mpr (by omega)) (by omega) (by omega) (jv112_0 kc s hP hI)), ⟨by rw [ht]; exact hP, hD⟩⟩, hS.F ht⟩) hS.2.2 dX11_trySends_168
          · have c118 : m112_L_6.toInt < np.toInt := z4 rfl rfl c118
            refine lv_iload_n hx hb dX11_trySends_121 rfl (lv_at hl 4 rfl) ?_
            refine lv_iload hx hb dX11_trySends_122 (lv_at hl 0 rfl) ?_
            have hPc : va_P (dC, dI) vwCl [] H := zP0
            have hDc : va_D (fun _ => True) [] := zD0
            have hFc := zfr hS hA
            refine va_calli (va_runS (As := [.int p2, .int m112_L_6]) (rest := []) ⟨hx, hb, hml, hown, hts⟩ (g_X11_has l dC dI cI cJ p2 m112_L_6 H.size) (cwS 2 hts (zgS qw1288 qw1289 qw108 qw1290) rfl rfl rfl hd_X11_has ⟨by rw [hR]; exact Nat.le_of_ble_eq_true rfl, by rw [hR]; exact Nat.le_of_ble_eq_true rfl⟩) (zPS hPc hK hDc) rfl rfl hl.1 rfl (lv_room (Nat.le_of_ble_eq_true rfl)) dX11_trySends_124 ⟨Nat.zero_le _, Nat.zero_le _⟩) hS (fun q _ h => hFc q h) hFc (fun v124 u124 t H locs ht hvm hw hB hz1 hk1 hS9 => ?_)
            replace hP := zkeep hP hk1
            replace hS := hS9
            clear hPc hDc hFc hk1 hz1 hvm hS9
            obtain ⟨f124_0, f124_1, f124_2, f124_3⟩ : (0 ≤ v124.toInt) ∧ (v124.toInt ≤ 1) ∧ (v124.toInt = ((p2 >>> (m112_L_6 &&& 31)) &&& 1).toInt) ∧ (v124.toInt = (cBt p2 m112_L_6).toInt) := hw
            have F124 := f124_3
            refine lv_if_ne (tgt := 162) hx hb dX11_trySends_127 (by decide) (fun c127 => ?_) (fun c127 => ?_)
            · have c127 : ¬ v124.toInt = 0 := z6 rfl (by decide) c127
              obtain ⟨v162, e162⟩ : ∃ y : Int32, y = m112_L_6 + Int32.ofInt (1) := ⟨_, rfl⟩
              refine lv_iinc (v := v162) (lv' := [(6, .int v162), (0, .ref h0), (1, .int 2), (2, .int p1), (3, .int p2), (4, .int p3), (5, .int p4)]) hx hb dX11_trySends_162 hl (k := 0) rfl e162.symm (by decide) rfl (fun ls hl => ?_)
              have i162 : v162.toInt = m112_L_6.toInt + 1 := zaddI e162 (by decide) (by omega) (by omega)
              refine lv_goto (tgt := 112) hx hb dX11_trySends_165 (by decide) ?_
              exact ih112 _ (by omega) m112_F_h0_35 m112_F_h0_36 v162 (by omega) (fun kc s hP hI => by have m := chI_m hI (i := m112_L_6) (by omega) (by omega) F124; first | exact chL_y (jv112_0 kc s hP hI) (by omega) i162 (m.mp (by omega)) | exact chL_n (jv112_0 kc s hP hI) (by omega) i162 (fun z => absurd (m.mpr z) (by omega)) (F159 kc _ hP (chI_s hI hP (by decide) (by omega) (by omega) e139 e140 e145 e148 F155 e158))) (by omega) rfl H locs ls hP hD hS (lv_sub hl [0, 1, 2, 3, 4, 5, 6] rfl)
            · have c127 : v124.toInt = 0 := z5 rfl (by decide) c127
              refine lv_aload_n hx hb dX11_trySends_130 rfl (lv_at hl 1 rfl) ?_
              refine lv_iload_n hx hb dX11_trySends_131 rfl (lv_at hl 2 rfl) ?_
              refine lv_iconst (v := 1) hx hb dX11_trySends_132 (by decide) ?_
              refine lv_iadd hx hb dX11_trySends_133 ?_
              refine lv_topi (fun v133 e133 => ?_)
              obtain rfl : v133 = 3 := e133.trans (by decide)
              refine lv_iload_n hx hb dX11_trySends_134 rfl (lv_at hl 3 rfl) ?_
              refine lv_iload_n hx hb dX11_trySends_135 rfl (lv_at hl 4 rfl) ?_
              refine lv_iconst (v := 1) hx hb dX11_trySends_136 (by decide) ?_
              refine lv_iload hx hb dX11_trySends_137 (lv_at hl 0 rfl) ?_
              refine lv_ishl hx hb dX11_trySends_139 ?_
              refine lv_topi (fun v139 e139 => ?_)
              have i139 : 1 ≤ v139.toInt ∧ v139.toInt ≤ 32 := zshl1 e139 (by omega) (by omega)
              refine lv_ior hx hb dX11_trySends_140 ?_
              refine lv_topi (fun v140 e140 => ?_)
              refine lv_bipush (v := 10) hx hb dX11_trySends_141 (by decide) ?_
              refine lv_iload hx hb dX11_trySends_143 (lv_at hl 5 rfl) ?_
              refine lv_imul hx hb dX11_trySends_145 ?_
              refine lv_topi (fun v145 e145 => ?_)
              refine lv_iload hx hb dX11_trySends_146 (lv_at hl 0 rfl) ?_
              refine lv_iadd hx hb dX11_trySends_148 ?_
              refine lv_topi (fun v148 e148 => ?_)
              refine lv_iload hx hb dX11_trySends_149 (lv_at hl 6 rfl) ?_
              refine lv_aload_n hx hb dX11_trySends_151 rfl (lv_at hl 1 rfl) ?_
              refine lv_iload hx hb dX11_trySends_152 (lv_at hl 0 rfl) ?_
              refine lv_iconst (v := 1) hx hb dX11_trySends_154 (by decide) ?_
              obtain ⟨hPc, hDc⟩ := zc2 (wc := [(h0, .inr (11, [.int th, .ref tB, .int tsz, .int tat, .int wr, .int dp, .ref rC, .ref rV, .ref rD, .ref rK, .ref rT, .ref rS, .ref rU, .int lw, .int tx, .ref rL, .ref rX, .ref qR, .ref qB, .ref qP, .int qnb, .int qnp, .ref aR, .ref aB, .ref aP, .int nb, .int np, .ref aN, .ref rf, .int ho, .int br, .ref aK, .int ac, .long dw, .ref aE, .int m112_F_h0_35, .int m112_F_h0_36, .ref aA, .ref aH, .ref aI, .int hi])), (aP, .inl (cI, 20, .inl fPa))]) hP hD [0, 1] (by decide +kernel) rfl
              have hFc := zfr hS hA
              refine va_calli (va_runV (As := [.int m112_L_6, .int 1]) (rest := [.int p4, .int v148, .int v140, .int p1, .int 3, .ref h0]) ⟨hx, hb, hml, hown, hts⟩ (g_X11_by_1 l dC dI cI cJ h0 m112_L_6 th tB tsz tat wr dp rC rV rD rK rT rS rU lw tx rL rX qR qB qP qnb qnp aR aB aP nb np aN rf ho br aK ac dw aE m112_F_h0_35 m112_F_h0_36 aA aH aI hi fPa H.size y_ac y_hi y_ho y_lw (by omega) n_np (by omega) y_qnb y_qnp y_tat y_tsz y_wr) (cwV 2 hts (zgV qw1390 qw1392 qw55 qw108 qw1393) rfl rfl rfl hd_X11_by ⟨by rw [hR]; exact Nat.le_of_ble_eq_true rfl, by rw [hR]; exact Nat.le_of_ble_eq_true rfl⟩) (zPV hPc hK hDc (va_recv (q := (RX11, TX11, 41)) hK hP (ci := 11) (q0 := 0) rfl rfl)) rfl rfl hl.1 rfl (lv_room (Nat.le_of_ble_eq_true rfl)) dX11_trySends_155 ⟨Nat.zero_le _, Nat.zero_le _⟩) hS (fun q _ h => hFc q h) hFc (fun v155 u155 t H locs ht hvm hw hB hz1 hk1 hS9 => ?_)
              replace hP := zkeep hP hk1
              replace hS := hS9
              clear hPc hDc hFc hk1 hz1 hvm hS9
              obtain ⟨f155_0, f155_1⟩ : (v155.toInt = (fPa (4 * m112_L_6.toInt.toNat + 1)).toInt) ∧ (v155 = fPa (4 * m112_L_6.toInt.toNat + 1)) := hw
              have F155 := f155_1
              refine lv_iadd hx hb dX11_trySends_158 ?_
              refine lv_topi (fun v158 e158 => ?_)
              obtain ⟨hPc, hDc, hFc⟩ := zc3 (wc := [(h0, .inr (11, [.int th, .ref tB, .int tsz, .int tat, .int wr, .int dp, .ref rC, .ref rV, .ref rD, .ref rK, .ref rT, .ref rS, .ref rU, .int lw, .int tx, .ref rL, .ref rX, .ref qR, .ref qB, .ref qP, .int qnb, .int qnp, .ref aR, .ref aB, .ref aP, .int nb, .int np, .ref aN, .ref rf, .int ho, .int br, .ref aK, .int ac, .long dw, .ref aE, .int m112_F_h0_35, .int m112_F_h0_36, .ref aA, .ref aH, .ref aI, .int hi])), (aP, .inl (cI, 20, .inl fPa))]) hP hD hS hA [0, 1] (by decide +kernel) rfl
              refine va_callv (va_runV (As := [.int 3, .int p1, .int v140, .int v148, .int v158]) (rest := []) ⟨hx, hb, hml, hown, hts⟩ (g_X11_trySends_3 l dC dI cI cJ h0 p1 v140 v148 v158 th tB tsz tat wr dp rC rV rD rK rT rS rU lw tx rL rX qR qB qP qnb qnp aR aB aP nb np aN rf ho br aK ac dw aE m112_F_h0_35 m112_F_h0_36 aA aH aI hi fPa H.size y_ac y_hi y_ho y_lw (by omega) n_np y_qnb y_qnp y_tat y_tsz y_wr) (cwV 5 hts (zgV qw1683 qw1685 qw91 qw108 qw1686) rfl rfl rfl hd_X11_trySends ⟨by rw [hR]; exact Nat.le_of_ble_eq_true rfl, by rw [hR]; exact Nat.le_of_ble_eq_true rfl⟩) (zPV hPc hK hDc (va_recv (q := (RX11, TX11, 41)) hK hP (ci := 11) (q0 := 0) rfl rfl)) rfl rfl hl.1 rfl (lv_room (Nat.le_of_ble_eq_true rfl)) dX11_trySends_159 ⟨Nat.zero_le _, Nat.zero_le _⟩) hS (fun q _ h => hFc q h) hFc (fun u159 t H locs ht hvm hw hB hz1 hk1 hS9 => ?_)
              obtain ⟨u159_0, u159_1⟩ := u159
              obtain ⟨hP9, hD9⟩ := zj2 (wX := [(h0, .inr (11, [.int th, .ref tB, .int tsz, .int tat, .int wr, .int dp, .ref rC, .ref rV, .ref rD, .ref rK, .ref rT, .ref rS, .ref rU, .int lw, .int tx, .ref rL, .ref rX, .ref qR, .ref qB, .ref qP, .int qnb, .int qnp, .ref aR, .ref aB, .ref aP, .int nb, .int np, .ref aN, .ref rf, .int ho, .int br, .ref aK, .int ac, .long dw, .ref aE, .int u159_0, .int u159_1, .ref aA, .ref aH, .ref aI, .int hi])), (aP, .inl (cI, 20, .inl fPa))]) hP hD hk1 hFc ht hB [0, 1] [(true, 0), (true, 1)] rfl (by decide +kernel) (by decide +kernel) rfl
              clear hP hD hS hPc hDc hFc hB hk1 hz1 hvm
              have hP := hP9
              have hD := hD9
              have hS := hS9
              clear hP9 hD9 hS9
              have f159_0 : (∀ (kc : zK3) (s : List Nat), chP fPa np.toInt kc → chI kc np.toInt.toNat v140 v148 v158 s 3 → (u159_0.toInt, u159_1.toInt) = chX (chf kc) np.toInt.toNat (chBt p1) (nb.toInt.toNat - 3) 3 s (m112_F_h0_35.toInt, m112_F_h0_36.toInt)) := hw
              have F159 := f159_0
              obtain ⟨v162, e162⟩ : ∃ y : Int32, y = m112_L_6 + Int32.ofInt (1) := ⟨_, rfl⟩
              refine lv_iinc (v := v162) (lv' := [(6, .int v162), (0, .ref h0), (1, .int 2), (2, .int p1), (3, .int p2), (4, .int p3), (5, .int p4)]) hx hb dX11_trySends_162 hl (k := 0) rfl e162.symm (by decide) rfl (fun ls hl => ?_)
              have i162 : v162.toInt = m112_L_6.toInt + 1 := zaddI e162 (by decide) (by omega) (by omega)
              refine lv_goto (tgt := 112) hx hb dX11_trySends_165 (by decide) ?_
              exact ih112 _ (by omega) u159_0 u159_1 v162 (by omega) (fun kc s hP hI => by have m := chI_m hI (i := m112_L_6) (by omega) (by omega) F124; first | exact chL_y (jv112_0 kc s hP hI) (by omega) i162 (m.mp (by omega)) | exact chL_n (jv112_0 kc s hP hI) (by omega) i162 (fun z => absurd (m.mpr z) (by omega)) (F159 kc _ hP (chI_s hI hP (by decide) (by omega) (by omega) e139 e140 e145 e148 F155 e158))) (by omega) rfl H locs ls hP hD hS (lv_sub hl [0, 1, 2, 3, 4, 5, 6] rfl)
      refine lv_istore (lv' := [(6, .int 0), (0, .ref h0), (1, .int 2), (2, .int p1), (3, .int p2), (4, .int p3), (5, .int p4)]) hx hb dX11_trySends_110 hl (by decide) rfl (fun ls hl => ?_)
      have zj112_m112_L_6 : (0 : Int32).toInt = 0 := by decide
      exact J112 _ sr sf 0 (by decide) (fun kc s hP hI => chL_0.symm) (by omega) rfl H locs ls hP hD hS (lv_sub hl [0, 1, 2, 3, 4, 5, 6] rfl)
    · have c92 : v89.toInt = 0 := z5 rfl (by decide) c92
      refine lv_aload_n hx hb dX11_trySends_95 rfl (lv_at hl 0 rfl) ?_
      refine lv_iload_n hx hb dX11_trySends_96 rfl (lv_at hl 1 rfl) ?_
      refine lv_iconst (v := 1) hx hb dX11_trySends_97 (by decide) ?_
      refine lv_iadd hx hb dX11_trySends_98 ?_
      refine lv_topi (fun v98 e98 => ?_)
      obtain rfl : v98 = 3 := e98.trans (by decide)
      refine lv_iload_n hx hb dX11_trySends_99 rfl (lv_at hl 2 rfl) ?_
      refine lv_iload_n hx hb dX11_trySends_100 rfl (lv_at hl 3 rfl) ?_
      refine lv_iload hx hb dX11_trySends_101 (lv_at hl 4 rfl) ?_
      refine lv_iload hx hb dX11_trySends_103 (lv_at hl 5 rfl) ?_
      obtain ⟨hPc, hDc, hFc⟩ := zc3 (wc := [(h0, .inr (11, [.int th, .ref tB, .int tsz, .int tat, .int wr, .int dp, .ref rC, .ref rV, .ref rD, .ref rK, .ref rT, .ref rS, .ref rU, .int lw, .int tx, .ref rL, .ref rX, .ref qR, .ref qB, .ref qP, .int qnb, .int qnp, .ref aR, .ref aB, .ref aP, .int nb, .int np, .ref aN, .ref rf, .int ho, .int br, .ref aK, .int ac, .long dw, .ref aE, .int sr, .int sf, .ref aA, .ref aH, .ref aI, .int hi])), (aP, .inl (cI, 20, .inl fPa))]) hP hD hS hA [0, 1] (by decide +kernel) rfl
      refine va_callv (va_runV (As := [.int 3, .int p1, .int p2, .int p3, .int p4]) (rest := []) ⟨hx, hb, hml, hown, hts⟩ (g_X11_trySends_3 l dC dI cI cJ h0 p1 p2 p3 p4 th tB tsz tat wr dp rC rV rD rK rT rS rU lw tx rL rX qR qB qP qnb qnp aR aB aP nb np aN rf ho br aK ac dw aE sr sf aA aH aI hi fPa H.size y_ac y_hi y_ho y_lw (by omega) n_np y_qnb y_qnp y_tat y_tsz y_wr) (cwV 5 hts (zgV qw1683 qw1685 qw91 qw108 qw1686) rfl rfl rfl hd_X11_trySends ⟨by rw [hR]; exact Nat.le_of_ble_eq_true rfl, by rw [hR]; exact Nat.le_of_ble_eq_true rfl⟩) (zPV hPc hK hDc (va_recv (q := (RX11, TX11, 41)) hK hP (ci := 11) (q0 := 0) rfl rfl)) rfl rfl hl.1 rfl (lv_room (Nat.le_of_ble_eq_true rfl)) dX11_trySends_105 ⟨Nat.zero_le _, Nat.zero_le _⟩) hS (fun q _ h => hFc q h) hFc (fun u105 t H locs ht hvm hw hB hz1 hk1 hS9 => ?_)
      obtain ⟨u105_0, u105_1⟩ := u105
      obtain ⟨hP9, hD9⟩ := zj2 (wX := [(h0, .inr (11, [.int th, .ref tB, .int tsz, .int tat, .int wr, .int dp, .ref rC, .ref rV, .ref rD, .ref rK, .ref rT, .ref rS, .ref rU, .int lw, .int tx, .ref rL, .ref rX, .ref qR, .ref qB, .ref qP, .int qnb, .int qnp, .ref aR, .ref aB, .ref aP, .int nb, .int np, .ref aN, .ref rf, .int ho, .int br, .ref aK, .int ac, .long dw, .ref aE, .int u105_0, .int u105_1, .ref aA, .ref aH, .ref aI, .int hi])), (aP, .inl (cI, 20, .inl fPa))]) hP hD hk1 hFc ht hB [0, 1] [(true, 0), (true, 1)] rfl (by decide +kernel) (by decide +kernel) rfl
      clear hP hD hS hPc hDc hFc hB hk1 hz1 hvm
      have hP := hP9
      have hD := hD9
      have hS := hS9
      clear hP9 hD9 hS9
      have f105_0 : (∀ (kc : zK3) (s : List Nat), chP fPa np.toInt kc → chI kc np.toInt.toNat p2 p3 p4 s 3 → (u105_0.toInt, u105_1.toInt) = chX (chf kc) np.toInt.toNat (chBt p1) (nb.toInt.toNat - 3) 3 s (sr.toInt, sf.toInt)) := hw
      have F105 := f105_0
      rw [hQ]
      exact W.vret hx hb hr (fun t ht hW => ⟨⟨(u105_0, u105_1), rfl, (by (try dsimp only); exact fun kc s hP hI => by have g89 : (chBt p1 2 = true ↔ v89.toInt = 1) := (by rw [F89]; exact decide_eq_true_iff); exact chX_v (k' := (nb.toInt.toNat - 3)) (fun z => absurd (g89.mp z) (by omega)) (by omega) (F105 kc s hP (chI_w hI (by decide)))), ⟨by rw [ht]; exact hP, hD⟩⟩, hS.F ht⟩) hS.2.2 dX11_trySends_108
  · have c5 : 2 = nb.toInt := z5 (by decide) rfl c5
    refine lv_aload_n hx hb dX11_trySends_8 rfl (lv_at hl 0 rfl) ?_
    refine va_get (D := (dC, dI)) (ci := 11) (v := .int sr) (C := RX11) (T := TX11) (N := 41) hx hb hts iX11 hown hK hP 0 rfl rfl 35 (by decide) (hts _ qw1162) (fun _ h9 => h9) rfl dX11_trySends_9 ?_
    refine lv_iconst (v := (-1)) hx hb dX11_trySends_12 (by decide) ?_
    refine lv_icmp_eq (tgt := 43) hx hb dX11_trySends_13 (by decide) (fun c13 => ?_) (fun c13 => ?_)
    · have c13 : sr.toInt = (-1) := z5 rfl (by decide) c13
      refine lv_iconst (v := 1) hx hb dX11_trySends_43 (by decide) ?_
      refine lv_goto (tgt := 48) hx hb dX11_trySends_44 (by decide) ?_
      refine lv_istore (lv' := [(6, .int 1), (0, .ref h0), (1, .int 2), (2, .int p1), (3, .int p2), (4, .int p3), (5, .int p4)]) hx hb dX11_trySends_48 hl (by decide) rfl (fun ls hl => ?_)
      refine lv_aload_n hx hb dX11_trySends_50 rfl (lv_at hl 1 rfl) ?_
      refine lv_iload hx hb dX11_trySends_51 (lv_at hl 0 rfl) ?_
      refine lv_if_eq (tgt := 61) hx hb dX11_trySends_53 (by decide) (fun c => absurd c (by decide)) (fun _ => ?_)
      refine lv_iload hx hb dX11_trySends_56 (lv_at hl 5 rfl) ?_
      refine lv_goto (tgt := 65) hx hb dX11_trySends_58 (by decide) ?_
      refine va_put (D := (dC, dI)) (ci := 11) (v := .int p3) (ty := .int) (C := RX11) (T := TX11) (N := 41) hx hb hts iX11 tyX11 tyX11_ok nmX11 hown hK hP hD hS 0 rfl rfl 35 (by decide) (hts _ qw1162) (fun _ h9 => h9) rfl (by decide +kernel) rfl rfl (Nat.le_of_ble_eq_true rfl) dX11_trySends_65 (fun H locs hP9 hD9 hS9 => ?_)
      clear hP hD hS
      obtain ⟨hP, hD⟩ := zst (wX := [(h0, .inr (11, [.int th, .ref tB, .int tsz, .int tat, .int wr, .int dp, .ref rC, .ref rV, .ref rD, .ref rK, .ref rT, .ref rS, .ref rU, .int lw, .int tx, .ref rL, .ref rX, .ref qR, .ref qB, .ref qP, .int qnb, .int qnp, .ref aR, .ref aB, .ref aP, .int nb, .int np, .ref aN, .ref rf, .int ho, .int br, .ref aK, .int ac, .long dw, .ref aE, .int p3, .int sf, .ref aA, .ref aH, .ref aI, .int hi])), (aP, .inl (cI, 20, .inl fPa))]) hP9 hD9 rfl
      have hS := hS9
      clear hP9 hD9 hS9
      refine lv_aload_n hx hb dX11_trySends_68 rfl (lv_at hl 1 rfl) ?_
      refine lv_iload hx hb dX11_trySends_69 (lv_at hl 0 rfl) ?_
      refine lv_if_eq (tgt := 79) hx hb dX11_trySends_71 (by decide) (fun c => absurd c (by decide)) (fun _ => ?_)
      refine lv_iload hx hb dX11_trySends_74 (lv_at hl 6 rfl) ?_
      refine lv_goto (tgt := 83) hx hb dX11_trySends_76 (by decide) ?_
      refine va_put (D := (dC, dI)) (ci := 11) (v := .int p4) (ty := .int) (C := RX11) (T := TX11) (N := 41) hx hb hts iX11 tyX11 tyX11_ok nmX11 hown hK hP hD hS 0 rfl rfl 36 (by decide) (hts _ qw1163) (fun _ h9 => h9) rfl (by decide +kernel) rfl rfl (Nat.le_of_ble_eq_true rfl) dX11_trySends_83 (fun H locs hP9 hD9 hS9 => ?_)
      clear hP hD hS
      obtain ⟨hP, hD⟩ := zst (wX := [(h0, .inr (11, [.int th, .ref tB, .int tsz, .int tat, .int wr, .int dp, .ref rC, .ref rV, .ref rD, .ref rK, .ref rT, .ref rS, .ref rU, .int lw, .int tx, .ref rL, .ref rX, .ref qR, .ref qB, .ref qP, .int qnb, .int qnp, .ref aR, .ref aB, .ref aP, .int nb, .int np, .ref aN, .ref rf, .int ho, .int br, .ref aK, .int ac, .long dw, .ref aE, .int p3, .int p4, .ref aA, .ref aH, .ref aI, .int hi])), (aP, .inl (cI, 20, .inl fPa))]) hP9 hD9 rfl
      have hS := hS9
      clear hP9 hD9 hS9
      rw [hQ]
      exact W.vret hx hb hr (fun t ht hW => ⟨⟨(p3, p4), rfl, (by (try dsimp only); exact fun kc s hP hI => chU_y hI (by omega) (by omega)), ⟨by rw [ht]; exact hP, hD⟩⟩, hS.F ht⟩) hS.2.2 dX11_trySends_86
    · have c13 : ¬ sr.toInt = (-1) := z6 rfl (by decide) c13
      refine lv_iload hx hb dX11_trySends_16 (lv_at hl 5 rfl) ?_
      refine lv_aload_n hx hb dX11_trySends_18 rfl (lv_at hl 0 rfl) ?_
      refine va_get (D := (dC, dI)) (ci := 11) (v := .int sf) (C := RX11) (T := TX11) (N := 41) hx hb hts iX11 hown hK hP 0 rfl rfl 36 (by decide) (hts _ qw1163) (fun _ h9 => h9) rfl dX11_trySends_19 ?_
      refine lv_icmp_lt (tgt := 43) hx hb dX11_trySends_22 (by decide) (fun c22 => ?_) (fun c22 => ?_)
      · have c22 : p4.toInt < sf.toInt := z1 rfl rfl c22
        refine lv_iconst (v := 1) hx hb dX11_trySends_43 (by decide) ?_
        refine lv_goto (tgt := 48) hx hb dX11_trySends_44 (by decide) ?_
        refine lv_istore (lv' := [(6, .int 1), (0, .ref h0), (1, .int 2), (2, .int p1), (3, .int p2), (4, .int p3), (5, .int p4)]) hx hb dX11_trySends_48 hl (by decide) rfl (fun ls hl => ?_)
        refine lv_aload_n hx hb dX11_trySends_50 rfl (lv_at hl 1 rfl) ?_
        refine lv_iload hx hb dX11_trySends_51 (lv_at hl 0 rfl) ?_
        refine lv_if_eq (tgt := 61) hx hb dX11_trySends_53 (by decide) (fun c => absurd c (by decide)) (fun _ => ?_)
        refine lv_iload hx hb dX11_trySends_56 (lv_at hl 5 rfl) ?_
        refine lv_goto (tgt := 65) hx hb dX11_trySends_58 (by decide) ?_
        refine va_put (D := (dC, dI)) (ci := 11) (v := .int p3) (ty := .int) (C := RX11) (T := TX11) (N := 41) hx hb hts iX11 tyX11 tyX11_ok nmX11 hown hK hP hD hS 0 rfl rfl 35 (by decide) (hts _ qw1162) (fun _ h9 => h9) rfl (by decide +kernel) rfl rfl (Nat.le_of_ble_eq_true rfl) dX11_trySends_65 (fun H locs hP9 hD9 hS9 => ?_)
        clear hP hD hS
        obtain ⟨hP, hD⟩ := zst (wX := [(h0, .inr (11, [.int th, .ref tB, .int tsz, .int tat, .int wr, .int dp, .ref rC, .ref rV, .ref rD, .ref rK, .ref rT, .ref rS, .ref rU, .int lw, .int tx, .ref rL, .ref rX, .ref qR, .ref qB, .ref qP, .int qnb, .int qnp, .ref aR, .ref aB, .ref aP, .int nb, .int np, .ref aN, .ref rf, .int ho, .int br, .ref aK, .int ac, .long dw, .ref aE, .int p3, .int sf, .ref aA, .ref aH, .ref aI, .int hi])), (aP, .inl (cI, 20, .inl fPa))]) hP9 hD9 rfl
        have hS := hS9
        clear hP9 hD9 hS9
        refine lv_aload_n hx hb dX11_trySends_68 rfl (lv_at hl 1 rfl) ?_
        refine lv_iload hx hb dX11_trySends_69 (lv_at hl 0 rfl) ?_
        refine lv_if_eq (tgt := 79) hx hb dX11_trySends_71 (by decide) (fun c => absurd c (by decide)) (fun _ => ?_)
        refine lv_iload hx hb dX11_trySends_74 (lv_at hl 6 rfl) ?_
        refine lv_goto (tgt := 83) hx hb dX11_trySends_76 (by decide) ?_
        refine va_put (D := (dC, dI)) (ci := 11) (v := .int p4) (ty := .int) (C := RX11) (T := TX11) (N := 41) hx hb hts iX11 tyX11 tyX11_ok nmX11 hown hK hP hD hS 0 rfl rfl 36 (by decide) (hts _ qw1163) (fun _ h9 => h9) rfl (by decide +kernel) rfl rfl (Nat.le_of_ble_eq_true rfl) dX11_trySends_83 (fun H locs hP9 hD9 hS9 => ?_)
        clear hP hD hS
        obtain ⟨hP, hD⟩ := zst (wX := [(h0, .inr (11, [.int th, .ref tB, .int tsz, .int tat, .int wr, .int dp, .ref rC, .ref rV, .ref rD, .ref rK, .ref rT, .ref rS, .ref rU, .int lw, .int tx, .ref rL, .ref rX, .ref qR, .ref qB, .ref qP, .int qnb, .int qnp, .ref aR, .ref aB, .ref aP, .int nb, .int np, .ref aN, .ref rf, .int ho, .int br, .ref aK, .int ac, .long dw, .ref aE, .int p3, .int p4, .ref aA, .ref aH, .ref aI, .int hi])), (aP, .inl (cI, 20, .inl fPa))]) hP9 hD9 rfl
        have hS := hS9
        clear hP9 hD9 hS9
        rw [hQ]
        exact W.vret hx hb hr (fun t ht hW => ⟨⟨(p3, p4), rfl, (by (try dsimp only); exact fun kc s hP hI => chU_y hI (by omega) (by omega)), ⟨by rw [ht]; exact hP, hD⟩⟩, hS.F ht⟩) hS.2.2 dX11_trySends_86
      · have c22 : sf.toInt ≤ p4.toInt := z2 rfl rfl c22
        refine lv_iload hx hb dX11_trySends_25 (lv_at hl 5 rfl) ?_
        refine lv_aload_n hx hb dX11_trySends_27 rfl (lv_at hl 0 rfl) ?_
        refine va_get (D := (dC, dI)) (ci := 11) (v := .int sf) (C := RX11) (T := TX11) (N := 41) hx hb hts iX11 hown hK hP 0 rfl rfl 36 (by decide) (hts _ qw1163) (fun _ h9 => h9) rfl dX11_trySends_28 ?_
        refine lv_icmp_ne (tgt := 47) hx hb dX11_trySends_31 (by decide) (fun c31 => ?_) (fun c31 => ?_)
        · have c31 : ¬ p4.toInt = sf.toInt := z6 rfl rfl c31
          refine lv_iconst (v := 0) hx hb dX11_trySends_47 (by decide) ?_
          refine lv_istore (lv' := [(6, .int 0), (0, .ref h0), (1, .int 2), (2, .int p1), (3, .int p2), (4, .int p3), (5, .int p4)]) hx hb dX11_trySends_48 hl (by decide) rfl (fun ls hl => ?_)
          refine lv_aload_n hx hb dX11_trySends_50 rfl (lv_at hl 1 rfl) ?_
          refine lv_iload hx hb dX11_trySends_51 (lv_at hl 0 rfl) ?_
          refine lv_if_eq (tgt := 61) hx hb dX11_trySends_53 (by decide) (fun _ => ?_) (fun c => absurd (by decide) c)
          refine lv_aload_n hx hb dX11_trySends_61 rfl (lv_at hl 1 rfl) ?_
          refine va_get (D := (dC, dI)) (ci := 11) (v := .int sr) (C := RX11) (T := TX11) (N := 41) hx hb hts iX11 hown hK hP 0 rfl rfl 35 (by decide) (hts _ qw1162) (fun _ h9 => h9) rfl dX11_trySends_62 ?_
          refine va_put (D := (dC, dI)) (ci := 11) (v := .int sr) (ty := .int) (C := RX11) (T := TX11) (N := 41) hx hb hts iX11 tyX11 tyX11_ok nmX11 hown hK hP hD hS 0 rfl rfl 35 (by decide) (hts _ qw1162) (fun _ h9 => h9) rfl (by decide +kernel) rfl rfl (Nat.le_of_ble_eq_true rfl) dX11_trySends_65 (fun H locs hP9 hD9 hS9 => ?_)
          clear hP hD hS
          obtain ⟨hP, hD⟩ := zst (wX := [(h0, .inr (11, [.int th, .ref tB, .int tsz, .int tat, .int wr, .int dp, .ref rC, .ref rV, .ref rD, .ref rK, .ref rT, .ref rS, .ref rU, .int lw, .int tx, .ref rL, .ref rX, .ref qR, .ref qB, .ref qP, .int qnb, .int qnp, .ref aR, .ref aB, .ref aP, .int nb, .int np, .ref aN, .ref rf, .int ho, .int br, .ref aK, .int ac, .long dw, .ref aE, .int sr, .int sf, .ref aA, .ref aH, .ref aI, .int hi])), (aP, .inl (cI, 20, .inl fPa))]) hP9 hD9 rfl
          have hS := hS9
          clear hP9 hD9 hS9
          refine lv_aload_n hx hb dX11_trySends_68 rfl (lv_at hl 1 rfl) ?_
          refine lv_iload hx hb dX11_trySends_69 (lv_at hl 0 rfl) ?_
          refine lv_if_eq (tgt := 79) hx hb dX11_trySends_71 (by decide) (fun _ => ?_) (fun c => absurd (by decide) c)
          refine lv_aload_n hx hb dX11_trySends_79 rfl (lv_at hl 1 rfl) ?_
          refine va_get (D := (dC, dI)) (ci := 11) (v := .int sf) (C := RX11) (T := TX11) (N := 41) hx hb hts iX11 hown hK hP 0 rfl rfl 36 (by decide) (hts _ qw1163) (fun _ h9 => h9) rfl dX11_trySends_80 ?_
          refine va_put (D := (dC, dI)) (ci := 11) (v := .int sf) (ty := .int) (C := RX11) (T := TX11) (N := 41) hx hb hts iX11 tyX11 tyX11_ok nmX11 hown hK hP hD hS 0 rfl rfl 36 (by decide) (hts _ qw1163) (fun _ h9 => h9) rfl (by decide +kernel) rfl rfl (Nat.le_of_ble_eq_true rfl) dX11_trySends_83 (fun H locs hP9 hD9 hS9 => ?_)
          clear hP hD hS
          obtain ⟨hP, hD⟩ := zst (wX := [(h0, .inr (11, [.int th, .ref tB, .int tsz, .int tat, .int wr, .int dp, .ref rC, .ref rV, .ref rD, .ref rK, .ref rT, .ref rS, .ref rU, .int lw, .int tx, .ref rL, .ref rX, .ref qR, .ref qB, .ref qP, .int qnb, .int qnp, .ref aR, .ref aB, .ref aP, .int nb, .int np, .ref aN, .ref rf, .int ho, .int br, .ref aK, .int ac, .long dw, .ref aE, .int sr, .int sf, .ref aA, .ref aH, .ref aI, .int hi])), (aP, .inl (cI, 20, .inl fPa))]) hP9 hD9 rfl
          have hS := hS9
          clear hP9 hD9 hS9
          rw [hQ]
          exact W.vret hx hb hr (fun t ht hW => ⟨⟨(sr, sf), rfl, (by (try dsimp only); exact fun kc s hP hI => chU_n hI (by omega) (by omega)), ⟨by rw [ht]; exact hP, hD⟩⟩, hS.F ht⟩) hS.2.2 dX11_trySends_86
        · have c31 : p4.toInt = sf.toInt := z5 rfl rfl c31
          refine lv_iload hx hb dX11_trySends_34 (lv_at hl 4 rfl) ?_
          refine lv_aload_n hx hb dX11_trySends_36 rfl (lv_at hl 0 rfl) ?_
          refine va_get (D := (dC, dI)) (ci := 11) (v := .int sr) (C := RX11) (T := TX11) (N := 41) hx hb hts iX11 hown hK hP 0 rfl rfl 35 (by decide) (hts _ qw1162) (fun _ h9 => h9) rfl dX11_trySends_37 ?_
          refine lv_icmp_ge (tgt := 47) hx hb dX11_trySends_40 (by decide) (fun c40 => ?_) (fun c40 => ?_)
          · have c40 : sr.toInt ≤ p3.toInt := z3 rfl rfl c40
            refine lv_iconst (v := 0) hx hb dX11_trySends_47 (by decide) ?_
            refine lv_istore (lv' := [(6, .int 0), (0, .ref h0), (1, .int 2), (2, .int p1), (3, .int p2), (4, .int p3), (5, .int p4)]) hx hb dX11_trySends_48 hl (by decide) rfl (fun ls hl => ?_)
            refine lv_aload_n hx hb dX11_trySends_50 rfl (lv_at hl 1 rfl) ?_
            refine lv_iload hx hb dX11_trySends_51 (lv_at hl 0 rfl) ?_
            refine lv_if_eq (tgt := 61) hx hb dX11_trySends_53 (by decide) (fun _ => ?_) (fun c => absurd (by decide) c)
            refine lv_aload_n hx hb dX11_trySends_61 rfl (lv_at hl 1 rfl) ?_
            refine va_get (D := (dC, dI)) (ci := 11) (v := .int sr) (C := RX11) (T := TX11) (N := 41) hx hb hts iX11 hown hK hP 0 rfl rfl 35 (by decide) (hts _ qw1162) (fun _ h9 => h9) rfl dX11_trySends_62 ?_
            refine va_put (D := (dC, dI)) (ci := 11) (v := .int sr) (ty := .int) (C := RX11) (T := TX11) (N := 41) hx hb hts iX11 tyX11 tyX11_ok nmX11 hown hK hP hD hS 0 rfl rfl 35 (by decide) (hts _ qw1162) (fun _ h9 => h9) rfl (by decide +kernel) rfl rfl (Nat.le_of_ble_eq_true rfl) dX11_trySends_65 (fun H locs hP9 hD9 hS9 => ?_)
            clear hP hD hS
            obtain ⟨hP, hD⟩ := zst (wX := [(h0, .inr (11, [.int th, .ref tB, .int tsz, .int tat, .int wr, .int dp, .ref rC, .ref rV, .ref rD, .ref rK, .ref rT, .ref rS, .ref rU, .int lw, .int tx, .ref rL, .ref rX, .ref qR, .ref qB, .ref qP, .int qnb, .int qnp, .ref aR, .ref aB, .ref aP, .int nb, .int np, .ref aN, .ref rf, .int ho, .int br, .ref aK, .int ac, .long dw, .ref aE, .int sr, .int sf, .ref aA, .ref aH, .ref aI, .int hi])), (aP, .inl (cI, 20, .inl fPa))]) hP9 hD9 rfl
            have hS := hS9
            clear hP9 hD9 hS9
            refine lv_aload_n hx hb dX11_trySends_68 rfl (lv_at hl 1 rfl) ?_
            refine lv_iload hx hb dX11_trySends_69 (lv_at hl 0 rfl) ?_
            refine lv_if_eq (tgt := 79) hx hb dX11_trySends_71 (by decide) (fun _ => ?_) (fun c => absurd (by decide) c)
            refine lv_aload_n hx hb dX11_trySends_79 rfl (lv_at hl 1 rfl) ?_
            refine va_get (D := (dC, dI)) (ci := 11) (v := .int sf) (C := RX11) (T := TX11) (N := 41) hx hb hts iX11 hown hK hP 0 rfl rfl 36 (by decide) (hts _ qw1163) (fun _ h9 => h9) rfl dX11_trySends_80 ?_
            refine va_put (D := (dC, dI)) (ci := 11) (v := .int sf) (ty := .int) (C := RX11) (T := TX11) (N := 41) hx hb hts iX11 tyX11 tyX11_ok nmX11 hown hK hP hD hS 0 rfl rfl 36 (by decide) (hts _ qw1163) (fun _ h9 => h9) rfl (by decide +kernel) rfl rfl (Nat.le_of_ble_eq_true rfl) dX11_trySends_83 (fun H locs hP9 hD9 hS9 => ?_)
            clear hP hD hS
            obtain ⟨hP, hD⟩ := zst (wX := [(h0, .inr (11, [.int th, .ref tB, .int tsz, .int tat, .int wr, .int dp, .ref rC, .ref rV, .ref rD, .ref rK, .ref rT, .ref rS, .ref rU, .int lw, .int tx, .ref rL, .ref rX, .ref qR, .ref qB, .ref qP, .int qnb, .int qnp, .ref aR, .ref aB, .ref aP, .int nb, .int np, .ref aN, .ref rf, .int ho, .int br, .ref aK, .int ac, .long dw, .ref aE, .int sr, .int sf, .ref aA, .ref aH, .ref aI, .int hi])), (aP, .inl (cI, 20, .inl fPa))]) hP9 hD9 rfl
            have hS := hS9
            clear hP9 hD9 hS9
            rw [hQ]
            exact W.vret hx hb hr (fun t ht hW => ⟨⟨(sr, sf), rfl, (by (try dsimp only); exact fun kc s hP hI => chU_n hI (by omega) (by omega)), ⟨by rw [ht]; exact hP, hD⟩⟩, hS.F ht⟩) hS.2.2 dX11_trySends_86
          · have c40 : p3.toInt < sr.toInt := z4 rfl rfl c40
            refine lv_iconst (v := 1) hx hb dX11_trySends_43 (by decide) ?_
            refine lv_goto (tgt := 48) hx hb dX11_trySends_44 (by decide) ?_
            refine lv_istore (lv' := [(6, .int 1), (0, .ref h0), (1, .int 2), (2, .int p1), (3, .int p2), (4, .int p3), (5, .int p4)]) hx hb dX11_trySends_48 hl (by decide) rfl (fun ls hl => ?_)
            refine lv_aload_n hx hb dX11_trySends_50 rfl (lv_at hl 1 rfl) ?_
            refine lv_iload hx hb dX11_trySends_51 (lv_at hl 0 rfl) ?_
            refine lv_if_eq (tgt := 61) hx hb dX11_trySends_53 (by decide) (fun c => absurd c (by decide)) (fun _ => ?_)
            refine lv_iload hx hb dX11_trySends_56 (lv_at hl 5 rfl) ?_
            refine lv_goto (tgt := 65) hx hb dX11_trySends_58 (by decide) ?_
            refine va_put (D := (dC, dI)) (ci := 11) (v := .int p3) (ty := .int) (C := RX11) (T := TX11) (N := 41) hx hb hts iX11 tyX11 tyX11_ok nmX11 hown hK hP hD hS 0 rfl rfl 35 (by decide) (hts _ qw1162) (fun _ h9 => h9) rfl (by decide +kernel) rfl rfl (Nat.le_of_ble_eq_true rfl) dX11_trySends_65 (fun H locs hP9 hD9 hS9 => ?_)
            clear hP hD hS
            obtain ⟨hP, hD⟩ := zst (wX := [(h0, .inr (11, [.int th, .ref tB, .int tsz, .int tat, .int wr, .int dp, .ref rC, .ref rV, .ref rD, .ref rK, .ref rT, .ref rS, .ref rU, .int lw, .int tx, .ref rL, .ref rX, .ref qR, .ref qB, .ref qP, .int qnb, .int qnp, .ref aR, .ref aB, .ref aP, .int nb, .int np, .ref aN, .ref rf, .int ho, .int br, .ref aK, .int ac, .long dw, .ref aE, .int p3, .int sf, .ref aA, .ref aH, .ref aI, .int hi])), (aP, .inl (cI, 20, .inl fPa))]) hP9 hD9 rfl
            have hS := hS9
            clear hP9 hD9 hS9
            refine lv_aload_n hx hb dX11_trySends_68 rfl (lv_at hl 1 rfl) ?_
            refine lv_iload hx hb dX11_trySends_69 (lv_at hl 0 rfl) ?_
            refine lv_if_eq (tgt := 79) hx hb dX11_trySends_71 (by decide) (fun c => absurd c (by decide)) (fun _ => ?_)
            refine lv_iload hx hb dX11_trySends_74 (lv_at hl 6 rfl) ?_
            refine lv_goto (tgt := 83) hx hb dX11_trySends_76 (by decide) ?_
            refine va_put (D := (dC, dI)) (ci := 11) (v := .int p4) (ty := .int) (C := RX11) (T := TX11) (N := 41) hx hb hts iX11 tyX11 tyX11_ok nmX11 hown hK hP hD hS 0 rfl rfl 36 (by decide) (hts _ qw1163) (fun _ h9 => h9) rfl (by decide +kernel) rfl rfl (Nat.le_of_ble_eq_true rfl) dX11_trySends_83 (fun H locs hP9 hD9 hS9 => ?_)
            clear hP hD hS
            obtain ⟨hP, hD⟩ := zst (wX := [(h0, .inr (11, [.int th, .ref tB, .int tsz, .int tat, .int wr, .int dp, .ref rC, .ref rV, .ref rD, .ref rK, .ref rT, .ref rS, .ref rU, .int lw, .int tx, .ref rL, .ref rX, .ref qR, .ref qB, .ref qP, .int qnb, .int qnp, .ref aR, .ref aB, .ref aP, .int nb, .int np, .ref aN, .ref rf, .int ho, .int br, .ref aK, .int ac, .long dw, .ref aE, .int p3, .int p4, .ref aA, .ref aH, .ref aI, .int hi])), (aP, .inl (cI, 20, .inl fPa))]) hP9 hD9 rfl
            have hS := hS9
            clear hP9 hD9 hS9
            rw [hQ]
            exact W.vret hx hb hr (fun t ht hW => ⟨⟨(p3, p4), rfl, (by (try dsimp only); exact fun kc s hP hI => chU_y hI (by omega) (by omega)), ⟨by rw [ht]; exact hP, hD⟩⟩, hS.F ht⟩) hS.2.2 dX11_trySends_86
set_option maxHeartbeats 4000000 in
set_option maxRecDepth 100000 in
theorem g_X11_trySends_1 (l : Launch) (dC : Nat → ClassId) (dI : Nat → Nat → Nat) (cI cJ : ClassId) (h0 : Nat) (p1 : Int32) (p2 : Int32) (p3 : Int32) (p4 : Int32) (th : Int32) (tB : Nat) (tsz : Int32) (tat : Int32) (wr : Int32) (dp : Int32) (rC : Nat) (rV : Nat) (rD : Nat) (rK : Nat) (rT : Nat) (rS : Nat) (rU : Nat) (lw : Int32) (tx : Int32) (rL : Nat) (rX : Nat) (qR : Nat) (qB : Nat) (qP : Nat) (qnb : Int32) (qnp : Int32) (aR : Nat) (aB : Nat) (aP : Nat) (nb : Int32) (np : Int32) (aN : Nat) (rf : Nat) (ho : Int32) (br : Int32) (aK : Nat) (ac : Int32) (dw : Int64) (aE : Nat) (sr : Int32) (sf : Int32) (aA : Nat) (aH : Nat) (aI : Nat) (hi : Int32) (fPa : Nat → Int32) (sz : Nat) (n_ac : 0 ≤ ac.toInt ∧ ac.toInt ≤ 40) (n_hi : 0 ≤ hi.toInt ∧ hi.toInt ≤ 1) (n_ho : (-1) ≤ ho.toInt ∧ ho.toInt ≤ 3) (n_lw : 0 ≤ lw.toInt ∧ lw.toInt ≤ 4) (n_nb : 1 ≤ nb.toInt ∧ nb.toInt ≤ 6) (n_np : 0 ≤ np.toInt ∧ np.toInt ≤ 5) (n_qnb : 0 ≤ qnb.toInt ∧ qnb.toInt ≤ 6) (n_qnp : 0 ≤ qnp.toInt ∧ qnp.toInt ≤ 5) (n_tat : 0 ≤ tat.toInt ∧ tat.toInt ≤ 260) (n_tsz : 0 ≤ tsz.toInt ∧ tsz.toInt ≤ 240) (n_wr : (-1) ≤ wr.toInt ∧ wr.toInt ≤ 260)    : Met l yX11_trySends (.code yX11_trySends cX11_trySends 7 none :: wA) ({ frames := 5, cells := 0, slots := 0, locals := 130 }) (zP (dC, dI) [(cI, .int), (cJ, .long)] [.ref h0, .int 1, .int p1, .int p2, .int p3, .int p4] sz [(h0, .inr (11, [.int th, .ref tB, .int tsz, .int tat, .int wr, .int dp, .ref rC, .ref rV, .ref rD, .ref rK, .ref rT, .ref rS, .ref rU, .int lw, .int tx, .ref rL, .ref rX, .ref qR, .ref qB, .ref qP, .int qnb, .int qnp, .ref aR, .ref aB, .ref aP, .int nb, .int np, .ref aN, .ref rf, .int ho, .int br, .ref aK, .int ac, .long dw, .ref aE, .int sr, .int sf, .ref aA, .ref aH, .ref aI, .int hi])), (aP, .inl (cI, 20, .inl fPa))]) (va_Qv (fun (u : Int32 × Int32) => (∀ (kc : zK3) (s : List Nat), chP fPa np.toInt kc → chI kc np.toInt.toNat p2 p3 p4 s 1 → (u.1.toInt, u.2.toInt) = chX (chf kc) np.toInt.toNat (chBt p1) (nb.toInt.toNat - 1) 1 s (sr.toInt, sf.toInt))) (fun (u : Int32 × Int32) (t : State) => va_P (dC, dI) vwCl [(h0, .inr (11, [.int th, .ref tB, .int tsz, .int tat, .int wr, .int dp, .ref rC, .ref rV, .ref rD, .ref rK, .ref rT, .ref rS, .ref rU, .int lw, .int tx, .ref rL, .ref rX, .ref qR, .ref qB, .ref qP, .int qnb, .int qnp, .ref aR, .ref aB, .ref aP, .int nb, .int np, .ref aN, .ref rf, .int ho, .int br, .ref aK, .int ac, .long dw, .ref aE, .int u.1, .int u.2, .ref aA, .ref aH, .ref aI, .int hi])), (aP, .inl (cI, 20, .inl fPa))] t.heap ∧ va_D (va_A [(h0, .inr (11, [.int th, .ref tB, .int tsz, .int tat, .int wr, .int dp, .ref rC, .ref rV, .ref rD, .ref rK, .ref rT, .ref rS, .ref rU, .int lw, .int tx, .ref rL, .ref rX, .ref qR, .ref qB, .ref qP, .int qnb, .int qnp, .ref aR, .ref aB, .ref aP, .int nb, .int np, .ref aN, .ref rf, .int ho, .int br, .ref aK, .int ac, .long dw, .ref aE, .int sr, .int sf, .ref aA, .ref aH, .ref aI, .int hi])), (aP, .inl (cI, 20, .inl fPa))] sz) [(h0, .inr (11, [.int th, .ref tB, .int tsz, .int tat, .int wr, .int dp, .ref rC, .ref rV, .ref rD, .ref rK, .ref rT, .ref rS, .ref rU, .int lw, .int tx, .ref rL, .ref rX, .ref qR, .ref qB, .ref qP, .int qnb, .int qnp, .ref aR, .ref aB, .ref aP, .int nb, .int np, .ref aN, .ref rf, .int ho, .int br, .ref aK, .int ac, .long dw, .ref aE, .int u.1, .int u.2, .ref aA, .ref aH, .ref aI, .int hi])), (aP, .inl (cI, 20, .inl fPa))]) (va_A [(h0, .inr (11, [.int th, .ref tB, .int tsz, .int tat, .int wr, .int dp, .ref rC, .ref rV, .ref rD, .ref rK, .ref rT, .ref rS, .ref rU, .int lw, .int tx, .ref rL, .ref rX, .ref qR, .ref qB, .ref qP, .int qnb, .int qnp, .ref aR, .ref aB, .ref aP, .int nb, .int np, .ref aN, .ref rf, .int ho, .int br, .ref aK, .int ac, .long dw, .ref aE, .int sr, .int sf, .ref aA, .ref aH, .ref aI, .int hi])), (aP, .inl (cI, 20, .inl fPa))] sz)) 0 0 (va_A [(h0, .inr (11, [.int th, .ref tB, .int tsz, .int tat, .int wr, .int dp, .ref rC, .ref rV, .ref rD, .ref rK, .ref rT, .ref rS, .ref rU, .int lw, .int tx, .ref rL, .ref rX, .ref qR, .ref qB, .ref qP, .int qnb, .int qnp, .ref aR, .ref aB, .ref aP, .int nb, .int np, .ref aN, .ref rf, .int ho, .int br, .ref aK, .int ac, .long dw, .ref aE, .int sr, .int sf, .ref aA, .ref aH, .ref aI, .int hi])), (aP, .inl (cI, 20, .inl fPa))] sz) := by
  refine Met.ofW (cc := cX11_trySends) (maxL := 7) (ret := none) (by decide) rfl ?_
  intro p e s m args below meth c s₁ B hml hv
  have y_ac : zHid (0 ≤ ac.toInt ∧ ac.toInt ≤ 40) := n_ac
  have y_hi : zHid (0 ≤ hi.toInt ∧ hi.toInt ≤ 1) := n_hi
  have y_ho : zHid ((-1) ≤ ho.toInt ∧ ho.toInt ≤ 3) := n_ho
  have y_lw : zHid (0 ≤ lw.toInt ∧ lw.toInt ≤ 4) := n_lw
  have y_qnb : zHid (0 ≤ qnb.toInt ∧ qnb.toInt ≤ 6) := n_qnb
  have y_qnp : zHid (0 ≤ qnp.toInt ∧ qnp.toInt ≤ 5) := n_qnp
  have y_tat : zHid (0 ≤ tat.toInt ∧ tat.toInt ≤ 260) := n_tat
  have y_tsz : zHid (0 ≤ tsz.toInt ∧ tsz.toInt ≤ 240) := n_tsz
  have y_wr : zHid ((-1) ≤ wr.toInt ∧ wr.toInt ≤ 260) := n_wr
  clear n_ac n_hi n_ho n_lw n_qnb n_qnp n_tat n_tsz n_wr
  obtain ⟨hargs, hsz, hP, hK, hT⟩ := hv
  have hx := B.exec
  have hb := B.bytes
  have hr := B.returns
  have hts : ∀ w ∈ wA, w.before args s = true := fun w h => atoms_spec (ws := .code yX11_trySends cX11_trySends 7 none :: wA) B.pre w (List.mem_cons_of_mem _ h)
  have hown : s.vm.findClass RX11 = some m.cls := findClass_of_methodNamed B.named
  have hlocks := B.notSynchronized
  subst hsz
  have hD := hT.self (sz := s.heap.size)
  generalize hAe : va_A [(h0, .inr (11, [.int th, .ref tB, .int tsz, .int tat, .int wr, .int dp, .ref rC, .ref rV, .ref rD, .ref rK, .ref rT, .ref rS, .ref rU, .int lw, .int tx, .ref rL, .ref rX, .ref qR, .ref qB, .ref qP, .int qnb, .int qnp, .ref aR, .ref aB, .ref aP, .int nb, .int np, .ref aN, .ref rf, .int ho, .int br, .ref aK, .int ac, .long dw, .ref aE, .int sr, .int sf, .ref aA, .ref aH, .ref aI, .int hi])), (aP, .inl (cI, 20, .inl fPa))] s.heap.size = A at hD ⊢
  have hA : ∀ q : Nat, s.heap.size ≤ q → A q := fun q h => by rw [← hAe]; exact Or.inr h
  have hl := lv_entry ([.ref h0, .int 1, .int p1, .int p2, .int p3, .int p4]) (n := 7) (Nat.le_of_ble_eq_true rfl)
  rw [show entryFrame m args 7 = entryFrame m ([.ref h0, .int 1, .int p1, .int p2, .int p3, .int p4] : List Value).toArray 7 by rw [hargs], lg_entry_eq]
  generalize (lg_sl ([.ref h0, .int 1, .int p1, .int p2, .int p3, .int p4]) ++ List.replicate (7 - (lg_sl ([.ref h0, .int 1, .int p1, .int p2, .int p3, .int p4])).length) Slot.unset).toArray = ls at hl ⊢
  have hl : lv_has ls 7 [(0, .ref h0), (1, .int 1), (2, .int p1), (3, .int p2), (4, .int p3), (5, .int p4)] := hl
  refine zstart (fun H hH => ?_)
  rw [← hH] at hP
  have hS : va_S A s.heap H [] := by rw [hH]; exact va_S.rf
  generalize ([] : List Loc) = locs at hS ⊢
  refine zgen (fun R Q hR hQ => ?_)
  refine lv_iload_n hx hb dX11_trySends_0 rfl (lv_at hl 1 rfl) ?_
  refine lv_aload_n hx hb dX11_trySends_1 rfl (lv_at hl 0 rfl) ?_
  refine va_get (D := (dC, dI)) (ci := 11) (v := .int nb) (C := RX11) (T := TX11) (N := 41) hx hb hts iX11 hown hK hP 0 rfl rfl 25 (by decide) (hts _ qw1152) (fun _ h9 => h9) rfl dX11_trySends_2 ?_
  refine lv_icmp_ne (tgt := 87) hx hb dX11_trySends_5 (by decide) (fun c5 => ?_) (fun c5 => ?_)
  · have c5 : ¬ 1 = nb.toInt := z6 (by decide) rfl c5
    refine lv_iload_n hx hb dX11_trySends_87 rfl (lv_at hl 2 rfl) ?_
    refine lv_iload_n hx hb dX11_trySends_88 rfl (lv_at hl 1 rfl) ?_
    have hPc : va_P (dC, dI) vwCl [] H := zP0
    have hDc : va_D (fun _ => True) [] := zD0
    have hFc := zfr hS hA
    refine va_calli (va_runS (As := [.int p1, .int 1]) (rest := []) ⟨hx, hb, hml, hown, hts⟩ (g_X11_has l dC dI cI cJ p1 1 H.size) (cwS 2 hts (zgS qw1288 qw1289 qw108 qw1290) rfl rfl rfl hd_X11_has ⟨by rw [hR]; exact Nat.le_of_ble_eq_true rfl, by rw [hR]; exact Nat.le_of_ble_eq_true rfl⟩) (zPS hPc hK hDc) rfl rfl hl.1 rfl (lv_room (Nat.le_of_ble_eq_true rfl)) dX11_trySends_89 ⟨Nat.zero_le _, Nat.zero_le _⟩) hS (fun q _ h => hFc q h) hFc (fun v89 u89 t H locs ht hvm hw hB hz1 hk1 hS9 => ?_)
    replace hP := zkeep hP hk1
    replace hS := hS9
    clear hPc hDc hFc hk1 hz1 hvm hS9
    obtain ⟨f89_0, f89_1, f89_2, f89_3⟩ : (0 ≤ v89.toInt) ∧ (v89.toInt ≤ 1) ∧ (v89.toInt = ((p1 >>> (1 &&& 31)) &&& 1).toInt) ∧ (v89.toInt = (cBt p1 1).toInt) := hw
    have F89 := f89_3
    refine lv_if_ne (tgt := 109) hx hb dX11_trySends_92 (by decide) (fun c92 => ?_) (fun c92 => ?_)
    · have c92 : ¬ v89.toInt = 0 := z6 rfl (by decide) c92
      refine lv_iconst (v := 0) hx hb dX11_trySends_109 (by decide) ?_
      have J112 : ∀ (n : Nat) (m112_F_h0_35 : Int32) (m112_F_h0_36 : Int32) (m112_L_6 : Int32), (0 ≤ m112_L_6.toInt ∧ m112_L_6.toInt ≤ 5) → (∀ (kc : zK3) (s : List Nat), chP fPa np.toInt kc → chI kc np.toInt.toNat p2 p3 p4 s 1 → (m112_F_h0_35.toInt, m112_F_h0_36.toInt) = chL (chf kc) np.toInt.toNat (chBt p1) (nb.toInt.toNat - 2) 1 s (sr.toInt, sf.toInt) m112_L_6.toInt.toNat) → (m112_L_6.toInt ≤ np.toInt) → (6 - m112_L_6.toInt).toNat = n → ∀ (H : Heap) (locs : List Loc) (ls : Array Slot), va_P (dC, dI) vwCl [(h0, .inr (11, [.int th, .ref tB, .int tsz, .int tat, .int wr, .int dp, .ref rC, .ref rV, .ref rD, .ref rK, .ref rT, .ref rS, .ref rU, .int lw, .int tx, .ref rL, .ref rX, .ref qR, .ref qB, .ref qP, .int qnb, .int qnp, .ref aR, .ref aB, .ref aP, .int nb, .int np, .ref aN, .ref rf, .int ho, .int br, .ref aK, .int ac, .long dw, .ref aE, .int m112_F_h0_35, .int m112_F_h0_36, .ref aA, .ref aH, .ref aI, .int hi])), (aP, .inl (cI, 20, .inl fPa))] H → va_D A [(h0, .inr (11, [.int th, .ref tB, .int tsz, .int tat, .int wr, .int dp, .ref rC, .ref rV, .ref rD, .ref rK, .ref rT, .ref rS, .ref rU, .int lw, .int tx, .ref rL, .ref rX, .ref qR, .ref qB, .ref qP, .int qnb, .int qnp, .ref aR, .ref aB, .ref aP, .int nb, .int np, .ref aN, .ref rf, .int ho, .int br, .ref aK, .int ac, .long dw, .ref aE, .int m112_F_h0_35, .int m112_F_h0_36, .ref aA, .ref aH, .ref aI, .int hi])), (aP, .inl (cI, 20, .inl fPa))] → va_S A s.heap H locs → lv_has ls 7 [(6, .int m112_L_6), (0, .ref h0), (1, .int 1), (2, .int p1), (3, .int p2), (4, .int p3), (5, .int p4)] → W p l e R s m args below meth c H locs 0 0 Q (F0 m 112 ls []) := by
        intro n112
        induction n112 using Nat.strongRecOn with
        | _ n112 ih112 =>
          intro m112_F_h0_35 m112_F_h0_36 m112_L_6 jf112_0 jv112_0 jf112_2 hmu112 H locs ls hP hD hS hl
          refine lv_iload hx hb dX11_trySends_112 (lv_at hl 0 rfl) ?_
          refine lv_aload_n hx hb dX11_trySends_114 rfl (lv_at hl 1 rfl) ?_
          refine va_get (D := (dC, dI)) (ci := 11) (v := .int np) (C := RX11) (T := TX11) (N := 41) hx hb hts iX11 hown hK hP 0 rfl rfl 26 (by decide) (hts _ qw1153) (fun _ h9 => h9) rfl dX11_trySends_115 ?_
          refine lv_icmp_ge (tgt := 168) hx hb dX11_trySends_118 (by decide) (fun c118 => ?_) (fun c118 => ?_)
          · have c118 : np.toInt ≤ m112_L_6.toInt := z3 rfl rfl c118
            rw [hQ]
            exact W.vret hx hb hr (fun t ht hW => ⟨⟨(m112_F_h0_35, m112_F_h0_36), rfl, (by (try dsimp only); exact fun kc s hP hI => by have g89 : (chBt p1 1 = true ↔ v89.toInt = 1) := (by rw [F89]; exact decide_eq_true_iff); exact chX_l (k' := (nb.toInt.toNat - 2)) (m := m112_L_6.toInt.toNat) (g89.mpr (by omega)) (by omega) (by omega) (jv112_0 kc s hP hI)), ⟨by rw [ht]; exact hP, hD⟩⟩, hS.F ht⟩) hS.2.2 dX11_trySends_168
          · have c118 : m112_L_6.toInt < np.toInt := z4 rfl rfl c118
            refine lv_iload_n hx hb dX11_trySends_121 rfl (lv_at hl 4 rfl) ?_
            refine lv_iload hx hb dX11_trySends_122 (lv_at hl 0 rfl) ?_
            have hPc : va_P (dC, dI) vwCl [] H := zP0
            have hDc : va_D (fun _ => True) [] := zD0
            have hFc := zfr hS hA
            refine va_calli (va_runS (As := [.int p2, .int m112_L_6]) (rest := []) ⟨hx, hb, hml, hown, hts⟩ (g_X11_has l dC dI cI cJ p2 m112_L_6 H.size) (cwS 2 hts (zgS qw1288 qw1289 qw108 qw1290) rfl rfl rfl hd_X11_has ⟨by rw [hR]; exact Nat.le_of_ble_eq_true rfl, by rw [hR]; exact Nat.le_of_ble_eq_true rfl⟩) (zPS hPc hK hDc) rfl rfl hl.1 rfl (lv_room (Nat.le_of_ble_eq_true rfl)) dX11_trySends_124 ⟨Nat.zero_le _, Nat.zero_le _⟩) hS (fun q _ h => hFc q h) hFc (fun v124 u124 t H locs ht hvm hw hB hz1 hk1 hS9 => ?_)
            replace hP := zkeep hP hk1
            replace hS := hS9
            clear hPc hDc hFc hk1 hz1 hvm hS9
            obtain ⟨f124_0, f124_1, f124_2, f124_3⟩ : (0 ≤ v124.toInt) ∧ (v124.toInt ≤ 1) ∧ (v124.toInt = ((p2 >>> (m112_L_6 &&& 31)) &&& 1).toInt) ∧ (v124.toInt = (cBt p2 m112_L_6).toInt) := hw
            have F124 := f124_3
            refine lv_if_ne (tgt := 162) hx hb dX11_trySends_127 (by decide) (fun c127 => ?_) (fun c127 => ?_)
            · have c127 : ¬ v124.toInt = 0 := z6 rfl (by decide) c127
              obtain ⟨v162, e162⟩ : ∃ y : Int32, y = m112_L_6 + Int32.ofInt (1) := ⟨_, rfl⟩
              refine lv_iinc (v := v162) (lv' := [(6, .int v162), (0, .ref h0), (1, .int 1), (2, .int p1), (3, .int p2), (4, .int p3), (5, .int p4)]) hx hb dX11_trySends_162 hl (k := 0) rfl e162.symm (by decide) rfl (fun ls hl => ?_)
              have i162 : v162.toInt = m112_L_6.toInt + 1 := zaddI e162 (by decide) (by omega) (by omega)
              refine lv_goto (tgt := 112) hx hb dX11_trySends_165 (by decide) ?_
              exact ih112 _ (by omega) m112_F_h0_35 m112_F_h0_36 v162 (by omega) (fun kc s hP hI => by have m := chI_m hI (i := m112_L_6) (by omega) (by omega) F124; first | exact chL_y (jv112_0 kc s hP hI) (by omega) i162 (m.mp (by omega)) | exact chL_n (jv112_0 kc s hP hI) (by omega) i162 (fun z => absurd (m.mpr z) (by omega)) (F159 kc _ hP (chI_s hI hP (by decide) (by omega) (by omega) e139 e140 e145 e148 F155 e158))) (by omega) rfl H locs ls hP hD hS (lv_sub hl [0, 1, 2, 3, 4, 5, 6] rfl)
            · have c127 : v124.toInt = 0 := z5 rfl (by decide) c127
              refine lv_aload_n hx hb dX11_trySends_130 rfl (lv_at hl 1 rfl) ?_
              refine lv_iload_n hx hb dX11_trySends_131 rfl (lv_at hl 2 rfl) ?_
              refine lv_iconst (v := 1) hx hb dX11_trySends_132 (by decide) ?_
              refine lv_iadd hx hb dX11_trySends_133 ?_
              refine lv_topi (fun v133 e133 => ?_)
              obtain rfl : v133 = 2 := e133.trans (by decide)
              refine lv_iload_n hx hb dX11_trySends_134 rfl (lv_at hl 3 rfl) ?_
              refine lv_iload_n hx hb dX11_trySends_135 rfl (lv_at hl 4 rfl) ?_
              refine lv_iconst (v := 1) hx hb dX11_trySends_136 (by decide) ?_
              refine lv_iload hx hb dX11_trySends_137 (lv_at hl 0 rfl) ?_
              refine lv_ishl hx hb dX11_trySends_139 ?_
              refine lv_topi (fun v139 e139 => ?_)
              have i139 : 1 ≤ v139.toInt ∧ v139.toInt ≤ 32 := zshl1 e139 (by omega) (by omega)
              refine lv_ior hx hb dX11_trySends_140 ?_
              refine lv_topi (fun v140 e140 => ?_)
              refine lv_bipush (v := 10) hx hb dX11_trySends_141 (by decide) ?_
              refine lv_iload hx hb dX11_trySends_143 (lv_at hl 5 rfl) ?_
              refine lv_imul hx hb dX11_trySends_145 ?_
              refine lv_topi (fun v145 e145 => ?_)
              refine lv_iload hx hb dX11_trySends_146 (lv_at hl 0 rfl) ?_
              refine lv_iadd hx hb dX11_trySends_148 ?_
              refine lv_topi (fun v148 e148 => ?_)
              refine lv_iload hx hb dX11_trySends_149 (lv_at hl 6 rfl) ?_
              refine lv_aload_n hx hb dX11_trySends_151 rfl (lv_at hl 1 rfl) ?_
              refine lv_iload hx hb dX11_trySends_152 (lv_at hl 0 rfl) ?_
              refine lv_iconst (v := 1) hx hb dX11_trySends_154 (by decide) ?_
              obtain ⟨hPc, hDc⟩ := zc2 (wc := [(h0, .inr (11, [.int th, .ref tB, .int tsz, .int tat, .int wr, .int dp, .ref rC, .ref rV, .ref rD, .ref rK, .ref rT, .ref rS, .ref rU, .int lw, .int tx, .ref rL, .ref rX, .ref qR, .ref qB, .ref qP, .int qnb, .int qnp, .ref aR, .ref aB, .ref aP, .int nb, .int np, .ref aN, .ref rf, .int ho, .int br, .ref aK, .int ac, .long dw, .ref aE, .int m112_F_h0_35, .int m112_F_h0_36, .ref aA, .ref aH, .ref aI, .int hi])), (aP, .inl (cI, 20, .inl fPa))]) hP hD [0, 1] (by decide +kernel) rfl
              have hFc := zfr hS hA
              refine va_calli (va_runV (As := [.int m112_L_6, .int 1]) (rest := [.int p4, .int v148, .int v140, .int p1, .int 2, .ref h0]) ⟨hx, hb, hml, hown, hts⟩ (g_X11_by_1 l dC dI cI cJ h0 m112_L_6 th tB tsz tat wr dp rC rV rD rK rT rS rU lw tx rL rX qR qB qP qnb qnp aR aB aP nb np aN rf ho br aK ac dw aE m112_F_h0_35 m112_F_h0_36 aA aH aI hi fPa H.size y_ac y_hi y_ho y_lw (by omega) n_np (by omega) y_qnb y_qnp y_tat y_tsz y_wr) (cwV 2 hts (zgV qw1390 qw1392 qw55 qw108 qw1393) rfl rfl rfl hd_X11_by ⟨by rw [hR]; exact Nat.le_of_ble_eq_true rfl, by rw [hR]; exact Nat.le_of_ble_eq_true rfl⟩) (zPV hPc hK hDc (va_recv (q := (RX11, TX11, 41)) hK hP (ci := 11) (q0 := 0) rfl rfl)) rfl rfl hl.1 rfl (lv_room (Nat.le_of_ble_eq_true rfl)) dX11_trySends_155 ⟨Nat.zero_le _, Nat.zero_le _⟩) hS (fun q _ h => hFc q h) hFc (fun v155 u155 t H locs ht hvm hw hB hz1 hk1 hS9 => ?_)
              replace hP := zkeep hP hk1
              replace hS := hS9
              clear hPc hDc hFc hk1 hz1 hvm hS9
              obtain ⟨f155_0, f155_1⟩ : (v155.toInt = (fPa (4 * m112_L_6.toInt.toNat + 1)).toInt) ∧ (v155 = fPa (4 * m112_L_6.toInt.toNat + 1)) := hw
              have F155 := f155_1
              refine lv_iadd hx hb dX11_trySends_158 ?_
              refine lv_topi (fun v158 e158 => ?_)
              obtain ⟨hPc, hDc, hFc⟩ := zc3 (wc := [(h0, .inr (11, [.int th, .ref tB, .int tsz, .int tat, .int wr, .int dp, .ref rC, .ref rV, .ref rD, .ref rK, .ref rT, .ref rS, .ref rU, .int lw, .int tx, .ref rL, .ref rX, .ref qR, .ref qB, .ref qP, .int qnb, .int qnp, .ref aR, .ref aB, .ref aP, .int nb, .int np, .ref aN, .ref rf, .int ho, .int br, .ref aK, .int ac, .long dw, .ref aE, .int m112_F_h0_35, .int m112_F_h0_36, .ref aA, .ref aH, .ref aI, .int hi])), (aP, .inl (cI, 20, .inl fPa))]) hP hD hS hA [0, 1] (by decide +kernel) rfl
              refine va_callv (va_runV (As := [.int 2, .int p1, .int v140, .int v148, .int v158]) (rest := []) ⟨hx, hb, hml, hown, hts⟩ (g_X11_trySends_2 l dC dI cI cJ h0 p1 v140 v148 v158 th tB tsz tat wr dp rC rV rD rK rT rS rU lw tx rL rX qR qB qP qnb qnp aR aB aP nb np aN rf ho br aK ac dw aE m112_F_h0_35 m112_F_h0_36 aA aH aI hi fPa H.size y_ac y_hi y_ho y_lw (by omega) n_np y_qnb y_qnp y_tat y_tsz y_wr) (cwV 5 hts (zgV qw1683 qw1685 qw91 qw108 qw1686) rfl rfl rfl hd_X11_trySends ⟨by rw [hR]; exact Nat.le_of_ble_eq_true rfl, by rw [hR]; exact Nat.le_of_ble_eq_true rfl⟩) (zPV hPc hK hDc (va_recv (q := (RX11, TX11, 41)) hK hP (ci := 11) (q0 := 0) rfl rfl)) rfl rfl hl.1 rfl (lv_room (Nat.le_of_ble_eq_true rfl)) dX11_trySends_159 ⟨Nat.zero_le _, Nat.zero_le _⟩) hS (fun q _ h => hFc q h) hFc (fun u159 t H locs ht hvm hw hB hz1 hk1 hS9 => ?_)
              obtain ⟨u159_0, u159_1⟩ := u159
              obtain ⟨hP9, hD9⟩ := zj2 (wX := [(h0, .inr (11, [.int th, .ref tB, .int tsz, .int tat, .int wr, .int dp, .ref rC, .ref rV, .ref rD, .ref rK, .ref rT, .ref rS, .ref rU, .int lw, .int tx, .ref rL, .ref rX, .ref qR, .ref qB, .ref qP, .int qnb, .int qnp, .ref aR, .ref aB, .ref aP, .int nb, .int np, .ref aN, .ref rf, .int ho, .int br, .ref aK, .int ac, .long dw, .ref aE, .int u159_0, .int u159_1, .ref aA, .ref aH, .ref aI, .int hi])), (aP, .inl (cI, 20, .inl fPa))]) hP hD hk1 hFc ht hB [0, 1] [(true, 0), (true, 1)] rfl (by decide +kernel) (by decide +kernel) rfl
              clear hP hD hS hPc hDc hFc hB hk1 hz1 hvm
              have hP := hP9
              have hD := hD9
              have hS := hS9
              clear hP9 hD9 hS9
              have f159_0 : (∀ (kc : zK3) (s : List Nat), chP fPa np.toInt kc → chI kc np.toInt.toNat v140 v148 v158 s 2 → (u159_0.toInt, u159_1.toInt) = chX (chf kc) np.toInt.toNat (chBt p1) (nb.toInt.toNat - 2) 2 s (m112_F_h0_35.toInt, m112_F_h0_36.toInt)) := hw
              have F159 := f159_0
              obtain ⟨v162, e162⟩ : ∃ y : Int32, y = m112_L_6 + Int32.ofInt (1) := ⟨_, rfl⟩
              refine lv_iinc (v := v162) (lv' := [(6, .int v162), (0, .ref h0), (1, .int 1), (2, .int p1), (3, .int p2), (4, .int p3), (5, .int p4)]) hx hb dX11_trySends_162 hl (k := 0) rfl e162.symm (by decide) rfl (fun ls hl => ?_)
              have i162 : v162.toInt = m112_L_6.toInt + 1 := zaddI e162 (by decide) (by omega) (by omega)
              refine lv_goto (tgt := 112) hx hb dX11_trySends_165 (by decide) ?_
              exact ih112 _ (by omega) u159_0 u159_1 v162 (by omega) (fun kc s hP hI => by have m := chI_m hI (i := m112_L_6) (by omega) (by omega) F124; first | exact chL_y (jv112_0 kc s hP hI) (by omega) i162 (m.mp (by omega)) | exact chL_n (jv112_0 kc s hP hI) (by omega) i162 (fun z => absurd (m.mpr z) (by omega)) (F159 kc _ hP (chI_s hI hP (by decide) (by omega) (by omega) e139 e140 e145 e148 F155 e158))) (by omega) rfl H locs ls hP hD hS (lv_sub hl [0, 1, 2, 3, 4, 5, 6] rfl)
      refine lv_istore (lv' := [(6, .int 0), (0, .ref h0), (1, .int 1), (2, .int p1), (3, .int p2), (4, .int p3), (5, .int p4)]) hx hb dX11_trySends_110 hl (by decide) rfl (fun ls hl => ?_)
      have zj112_m112_L_6 : (0 : Int32).toInt = 0 := by decide
      exact J112 _ sr sf 0 (by decide) (fun kc s hP hI => chL_0.symm) (by omega) rfl H locs ls hP hD hS (lv_sub hl [0, 1, 2, 3, 4, 5, 6] rfl)
    · have c92 : v89.toInt = 0 := z5 rfl (by decide) c92
      refine lv_aload_n hx hb dX11_trySends_95 rfl (lv_at hl 0 rfl) ?_
      refine lv_iload_n hx hb dX11_trySends_96 rfl (lv_at hl 1 rfl) ?_
      refine lv_iconst (v := 1) hx hb dX11_trySends_97 (by decide) ?_
      refine lv_iadd hx hb dX11_trySends_98 ?_
      refine lv_topi (fun v98 e98 => ?_)
      obtain rfl : v98 = 2 := e98.trans (by decide)
      refine lv_iload_n hx hb dX11_trySends_99 rfl (lv_at hl 2 rfl) ?_
      refine lv_iload_n hx hb dX11_trySends_100 rfl (lv_at hl 3 rfl) ?_
      refine lv_iload hx hb dX11_trySends_101 (lv_at hl 4 rfl) ?_
      refine lv_iload hx hb dX11_trySends_103 (lv_at hl 5 rfl) ?_
      obtain ⟨hPc, hDc, hFc⟩ := zc3 (wc := [(h0, .inr (11, [.int th, .ref tB, .int tsz, .int tat, .int wr, .int dp, .ref rC, .ref rV, .ref rD, .ref rK, .ref rT, .ref rS, .ref rU, .int lw, .int tx, .ref rL, .ref rX, .ref qR, .ref qB, .ref qP, .int qnb, .int qnp, .ref aR, .ref aB, .ref aP, .int nb, .int np, .ref aN, .ref rf, .int ho, .int br, .ref aK, .int ac, .long dw, .ref aE, .int sr, .int sf, .ref aA, .ref aH, .ref aI, .int hi])), (aP, .inl (cI, 20, .inl fPa))]) hP hD hS hA [0, 1] (by decide +kernel) rfl
      refine va_callv (va_runV (As := [.int 2, .int p1, .int p2, .int p3, .int p4]) (rest := []) ⟨hx, hb, hml, hown, hts⟩ (g_X11_trySends_2 l dC dI cI cJ h0 p1 p2 p3 p4 th tB tsz tat wr dp rC rV rD rK rT rS rU lw tx rL rX qR qB qP qnb qnp aR aB aP nb np aN rf ho br aK ac dw aE sr sf aA aH aI hi fPa H.size y_ac y_hi y_ho y_lw (by omega) n_np y_qnb y_qnp y_tat y_tsz y_wr) (cwV 5 hts (zgV qw1683 qw1685 qw91 qw108 qw1686) rfl rfl rfl hd_X11_trySends ⟨by rw [hR]; exact Nat.le_of_ble_eq_true rfl, by rw [hR]; exact Nat.le_of_ble_eq_true rfl⟩) (zPV hPc hK hDc (va_recv (q := (RX11, TX11, 41)) hK hP (ci := 11) (q0 := 0) rfl rfl)) rfl rfl hl.1 rfl (lv_room (Nat.le_of_ble_eq_true rfl)) dX11_trySends_105 ⟨Nat.zero_le _, Nat.zero_le _⟩) hS (fun q _ h => hFc q h) hFc (fun u105 t H locs ht hvm hw hB hz1 hk1 hS9 => ?_)
      obtain ⟨u105_0, u105_1⟩ := u105
      obtain ⟨hP9, hD9⟩ := zj2 (wX := [(h0, .inr (11, [.int th, .ref tB, .int tsz, .int tat, .int wr, .int dp, .ref rC, .ref rV, .ref rD, .ref rK, .ref rT, .ref rS, .ref rU, .int lw, .int tx, .ref rL, .ref rX, .ref qR, .ref qB, .ref qP, .int qnb, .int qnp, .ref aR, .ref aB, .ref aP, .int nb, .int np, .ref aN, .ref rf, .int ho, .int br, .ref aK, .int ac, .long dw, .ref aE, .int u105_0, .int u105_1, .ref aA, .ref aH, .ref aI, .int hi])), (aP, .inl (cI, 20, .inl fPa))]) hP hD hk1 hFc ht hB [0, 1] [(true, 0), (true, 1)] rfl (by decide +kernel) (by decide +kernel) rfl
      clear hP hD hS hPc hDc hFc hB hk1 hz1 hvm
      have hP := hP9
      have hD := hD9
      have hS := hS9
      clear hP9 hD9 hS9
      have f105_0 : (∀ (kc : zK3) (s : List Nat), chP fPa np.toInt kc → chI kc np.toInt.toNat p2 p3 p4 s 2 → (u105_0.toInt, u105_1.toInt) = chX (chf kc) np.toInt.toNat (chBt p1) (nb.toInt.toNat - 2) 2 s (sr.toInt, sf.toInt)) := hw
      have F105 := f105_0
      rw [hQ]
      exact W.vret hx hb hr (fun t ht hW => ⟨⟨(u105_0, u105_1), rfl, (by (try dsimp only); exact fun kc s hP hI => by have g89 : (chBt p1 1 = true ↔ v89.toInt = 1) := (by rw [F89]; exact decide_eq_true_iff); exact chX_v (k' := (nb.toInt.toNat - 2)) (fun z => absurd (g89.mp z) (by omega)) (by omega) (F105 kc s hP (chI_w hI (by decide)))), ⟨by rw [ht]; exact hP, hD⟩⟩, hS.F ht⟩) hS.2.2 dX11_trySends_108
  · have c5 : 1 = nb.toInt := z5 (by decide) rfl c5
    refine lv_aload_n hx hb dX11_trySends_8 rfl (lv_at hl 0 rfl) ?_
    refine va_get (D := (dC, dI)) (ci := 11) (v := .int sr) (C := RX11) (T := TX11) (N := 41) hx hb hts iX11 hown hK hP 0 rfl rfl 35 (by decide) (hts _ qw1162) (fun _ h9 => h9) rfl dX11_trySends_9 ?_
    refine lv_iconst (v := (-1)) hx hb dX11_trySends_12 (by decide) ?_
    refine lv_icmp_eq (tgt := 43) hx hb dX11_trySends_13 (by decide) (fun c13 => ?_) (fun c13 => ?_)
    · have c13 : sr.toInt = (-1) := z5 rfl (by decide) c13
      refine lv_iconst (v := 1) hx hb dX11_trySends_43 (by decide) ?_
      refine lv_goto (tgt := 48) hx hb dX11_trySends_44 (by decide) ?_
      refine lv_istore (lv' := [(6, .int 1), (0, .ref h0), (1, .int 1), (2, .int p1), (3, .int p2), (4, .int p3), (5, .int p4)]) hx hb dX11_trySends_48 hl (by decide) rfl (fun ls hl => ?_)
      refine lv_aload_n hx hb dX11_trySends_50 rfl (lv_at hl 1 rfl) ?_
      refine lv_iload hx hb dX11_trySends_51 (lv_at hl 0 rfl) ?_
      refine lv_if_eq (tgt := 61) hx hb dX11_trySends_53 (by decide) (fun c => absurd c (by decide)) (fun _ => ?_)
      refine lv_iload hx hb dX11_trySends_56 (lv_at hl 5 rfl) ?_
      refine lv_goto (tgt := 65) hx hb dX11_trySends_58 (by decide) ?_
      refine va_put (D := (dC, dI)) (ci := 11) (v := .int p3) (ty := .int) (C := RX11) (T := TX11) (N := 41) hx hb hts iX11 tyX11 tyX11_ok nmX11 hown hK hP hD hS 0 rfl rfl 35 (by decide) (hts _ qw1162) (fun _ h9 => h9) rfl (by decide +kernel) rfl rfl (Nat.le_of_ble_eq_true rfl) dX11_trySends_65 (fun H locs hP9 hD9 hS9 => ?_)
      clear hP hD hS
      obtain ⟨hP, hD⟩ := zst (wX := [(h0, .inr (11, [.int th, .ref tB, .int tsz, .int tat, .int wr, .int dp, .ref rC, .ref rV, .ref rD, .ref rK, .ref rT, .ref rS, .ref rU, .int lw, .int tx, .ref rL, .ref rX, .ref qR, .ref qB, .ref qP, .int qnb, .int qnp, .ref aR, .ref aB, .ref aP, .int nb, .int np, .ref aN, .ref rf, .int ho, .int br, .ref aK, .int ac, .long dw, .ref aE, .int p3, .int sf, .ref aA, .ref aH, .ref aI, .int hi])), (aP, .inl (cI, 20, .inl fPa))]) hP9 hD9 rfl
      have hS := hS9
      clear hP9 hD9 hS9
      refine lv_aload_n hx hb dX11_trySends_68 rfl (lv_at hl 1 rfl) ?_
      refine lv_iload hx hb dX11_trySends_69 (lv_at hl 0 rfl) ?_
      refine lv_if_eq (tgt := 79) hx hb dX11_trySends_71 (by decide) (fun c => absurd c (by decide)) (fun _ => ?_)
      refine lv_iload hx hb dX11_trySends_74 (lv_at hl 6 rfl) ?_
      refine lv_goto (tgt := 83) hx hb dX11_trySends_76 (by decide) ?_
      refine va_put (D := (dC, dI)) (ci := 11) (v := .int p4) (ty := .int) (C := RX11) (T := TX11) (N := 41) hx hb hts iX11 tyX11 tyX11_ok nmX11 hown hK hP hD hS 0 rfl rfl 36 (by decide) (hts _ qw1163) (fun _ h9 => h9) rfl (by decide +kernel) rfl rfl (Nat.le_of_ble_eq_true rfl) dX11_trySends_83 (fun H locs hP9 hD9 hS9 => ?_)
      clear hP hD hS
      obtain ⟨hP, hD⟩ := zst (wX := [(h0, .inr (11, [.int th, .ref tB, .int tsz, .int tat, .int wr, .int dp, .ref rC, .ref rV, .ref rD, .ref rK, .ref rT, .ref rS, .ref rU, .int lw, .int tx, .ref rL, .ref rX, .ref qR, .ref qB, .ref qP, .int qnb, .int qnp, .ref aR, .ref aB, .ref aP, .int nb, .int np, .ref aN, .ref rf, .int ho, .int br, .ref aK, .int ac, .long dw, .ref aE, .int p3, .int p4, .ref aA, .ref aH, .ref aI, .int hi])), (aP, .inl (cI, 20, .inl fPa))]) hP9 hD9 rfl
      have hS := hS9
      clear hP9 hD9 hS9
      rw [hQ]
      exact W.vret hx hb hr (fun t ht hW => ⟨⟨(p3, p4), rfl, (by (try dsimp only); exact fun kc s hP hI => chU_y hI (by omega) (by omega)), ⟨by rw [ht]; exact hP, hD⟩⟩, hS.F ht⟩) hS.2.2 dX11_trySends_86
    · have c13 : ¬ sr.toInt = (-1) := z6 rfl (by decide) c13
      refine lv_iload hx hb dX11_trySends_16 (lv_at hl 5 rfl) ?_
      refine lv_aload_n hx hb dX11_trySends_18 rfl (lv_at hl 0 rfl) ?_
      refine va_get (D := (dC, dI)) (ci := 11) (v := .int sf) (C := RX11) (T := TX11) (N := 41) hx hb hts iX11 hown hK hP 0 rfl rfl 36 (by decide) (hts _ qw1163) (fun _ h9 => h9) rfl dX11_trySends_19 ?_
      refine lv_icmp_lt (tgt := 43) hx hb dX11_trySends_22 (by decide) (fun c22 => ?_) (fun c22 => ?_)
      · have c22 : p4.toInt < sf.toInt := z1 rfl rfl c22
        refine lv_iconst (v := 1) hx hb dX11_trySends_43 (by decide) ?_
        refine lv_goto (tgt := 48) hx hb dX11_trySends_44 (by decide) ?_
        refine lv_istore (lv' := [(6, .int 1), (0, .ref h0), (1, .int 1), (2, .int p1), (3, .int p2), (4, .int p3), (5, .int p4)]) hx hb dX11_trySends_48 hl (by decide) rfl (fun ls hl => ?_)
        refine lv_aload_n hx hb dX11_trySends_50 rfl (lv_at hl 1 rfl) ?_
        refine lv_iload hx hb dX11_trySends_51 (lv_at hl 0 rfl) ?_
        refine lv_if_eq (tgt := 61) hx hb dX11_trySends_53 (by decide) (fun c => absurd c (by decide)) (fun _ => ?_)
        refine lv_iload hx hb dX11_trySends_56 (lv_at hl 5 rfl) ?_
        refine lv_goto (tgt := 65) hx hb dX11_trySends_58 (by decide) ?_
        refine va_put (D := (dC, dI)) (ci := 11) (v := .int p3) (ty := .int) (C := RX11) (T := TX11) (N := 41) hx hb hts iX11 tyX11 tyX11_ok nmX11 hown hK hP hD hS 0 rfl rfl 35 (by decide) (hts _ qw1162) (fun _ h9 => h9) rfl (by decide +kernel) rfl rfl (Nat.le_of_ble_eq_true rfl) dX11_trySends_65 (fun H locs hP9 hD9 hS9 => ?_)
        clear hP hD hS
        obtain ⟨hP, hD⟩ := zst (wX := [(h0, .inr (11, [.int th, .ref tB, .int tsz, .int tat, .int wr, .int dp, .ref rC, .ref rV, .ref rD, .ref rK, .ref rT, .ref rS, .ref rU, .int lw, .int tx, .ref rL, .ref rX, .ref qR, .ref qB, .ref qP, .int qnb, .int qnp, .ref aR, .ref aB, .ref aP, .int nb, .int np, .ref aN, .ref rf, .int ho, .int br, .ref aK, .int ac, .long dw, .ref aE, .int p3, .int sf, .ref aA, .ref aH, .ref aI, .int hi])), (aP, .inl (cI, 20, .inl fPa))]) hP9 hD9 rfl
        have hS := hS9
        clear hP9 hD9 hS9
        refine lv_aload_n hx hb dX11_trySends_68 rfl (lv_at hl 1 rfl) ?_
        refine lv_iload hx hb dX11_trySends_69 (lv_at hl 0 rfl) ?_
        refine lv_if_eq (tgt := 79) hx hb dX11_trySends_71 (by decide) (fun c => absurd c (by decide)) (fun _ => ?_)
        refine lv_iload hx hb dX11_trySends_74 (lv_at hl 6 rfl) ?_
        refine lv_goto (tgt := 83) hx hb dX11_trySends_76 (by decide) ?_
        refine va_put (D := (dC, dI)) (ci := 11) (v := .int p4) (ty := .int) (C := RX11) (T := TX11) (N := 41) hx hb hts iX11 tyX11 tyX11_ok nmX11 hown hK hP hD hS 0 rfl rfl 36 (by decide) (hts _ qw1163) (fun _ h9 => h9) rfl (by decide +kernel) rfl rfl (Nat.le_of_ble_eq_true rfl) dX11_trySends_83 (fun H locs hP9 hD9 hS9 => ?_)
        clear hP hD hS
        obtain ⟨hP, hD⟩ := zst (wX := [(h0, .inr (11, [.int th, .ref tB, .int tsz, .int tat, .int wr, .int dp, .ref rC, .ref rV, .ref rD, .ref rK, .ref rT, .ref rS, .ref rU, .int lw, .int tx, .ref rL, .ref rX, .ref qR, .ref qB, .ref qP, .int qnb, .int qnp, .ref aR, .ref aB, .ref aP, .int nb, .int np, .ref aN, .ref rf, .int ho, .int br, .ref aK, .int ac, .long dw, .ref aE, .int p3, .int p4, .ref aA, .ref aH, .ref aI, .int hi])), (aP, .inl (cI, 20, .inl fPa))]) hP9 hD9 rfl
        have hS := hS9
        clear hP9 hD9 hS9
        rw [hQ]
        exact W.vret hx hb hr (fun t ht hW => ⟨⟨(p3, p4), rfl, (by (try dsimp only); exact fun kc s hP hI => chU_y hI (by omega) (by omega)), ⟨by rw [ht]; exact hP, hD⟩⟩, hS.F ht⟩) hS.2.2 dX11_trySends_86
      · have c22 : sf.toInt ≤ p4.toInt := z2 rfl rfl c22
        refine lv_iload hx hb dX11_trySends_25 (lv_at hl 5 rfl) ?_
        refine lv_aload_n hx hb dX11_trySends_27 rfl (lv_at hl 0 rfl) ?_
        refine va_get (D := (dC, dI)) (ci := 11) (v := .int sf) (C := RX11) (T := TX11) (N := 41) hx hb hts iX11 hown hK hP 0 rfl rfl 36 (by decide) (hts _ qw1163) (fun _ h9 => h9) rfl dX11_trySends_28 ?_
        refine lv_icmp_ne (tgt := 47) hx hb dX11_trySends_31 (by decide) (fun c31 => ?_) (fun c31 => ?_)
        · have c31 : ¬ p4.toInt = sf.toInt := z6 rfl rfl c31
          refine lv_iconst (v := 0) hx hb dX11_trySends_47 (by decide) ?_
          refine lv_istore (lv' := [(6, .int 0), (0, .ref h0), (1, .int 1), (2, .int p1), (3, .int p2), (4, .int p3), (5, .int p4)]) hx hb dX11_trySends_48 hl (by decide) rfl (fun ls hl => ?_)
          refine lv_aload_n hx hb dX11_trySends_50 rfl (lv_at hl 1 rfl) ?_
          refine lv_iload hx hb dX11_trySends_51 (lv_at hl 0 rfl) ?_
          refine lv_if_eq (tgt := 61) hx hb dX11_trySends_53 (by decide) (fun _ => ?_) (fun c => absurd (by decide) c)
          refine lv_aload_n hx hb dX11_trySends_61 rfl (lv_at hl 1 rfl) ?_
          refine va_get (D := (dC, dI)) (ci := 11) (v := .int sr) (C := RX11) (T := TX11) (N := 41) hx hb hts iX11 hown hK hP 0 rfl rfl 35 (by decide) (hts _ qw1162) (fun _ h9 => h9) rfl dX11_trySends_62 ?_
          refine va_put (D := (dC, dI)) (ci := 11) (v := .int sr) (ty := .int) (C := RX11) (T := TX11) (N := 41) hx hb hts iX11 tyX11 tyX11_ok nmX11 hown hK hP hD hS 0 rfl rfl 35 (by decide) (hts _ qw1162) (fun _ h9 => h9) rfl (by decide +kernel) rfl rfl (Nat.le_of_ble_eq_true rfl) dX11_trySends_65 (fun H locs hP9 hD9 hS9 => ?_)
          clear hP hD hS
          obtain ⟨hP, hD⟩ := zst (wX := [(h0, .inr (11, [.int th, .ref tB, .int tsz, .int tat, .int wr, .int dp, .ref rC, .ref rV, .ref rD, .ref rK, .ref rT, .ref rS, .ref rU, .int lw, .int tx, .ref rL, .ref rX, .ref qR, .ref qB, .ref qP, .int qnb, .int qnp, .ref aR, .ref aB, .ref aP, .int nb, .int np, .ref aN, .ref rf, .int ho, .int br, .ref aK, .int ac, .long dw, .ref aE, .int sr, .int sf, .ref aA, .ref aH, .ref aI, .int hi])), (aP, .inl (cI, 20, .inl fPa))]) hP9 hD9 rfl
          have hS := hS9
          clear hP9 hD9 hS9
          refine lv_aload_n hx hb dX11_trySends_68 rfl (lv_at hl 1 rfl) ?_
          refine lv_iload hx hb dX11_trySends_69 (lv_at hl 0 rfl) ?_
          refine lv_if_eq (tgt := 79) hx hb dX11_trySends_71 (by decide) (fun _ => ?_) (fun c => absurd (by decide) c)
          refine lv_aload_n hx hb dX11_trySends_79 rfl (lv_at hl 1 rfl) ?_
          refine va_get (D := (dC, dI)) (ci := 11) (v := .int sf) (C := RX11) (T := TX11) (N := 41) hx hb hts iX11 hown hK hP 0 rfl rfl 36 (by decide) (hts _ qw1163) (fun _ h9 => h9) rfl dX11_trySends_80 ?_
          refine va_put (D := (dC, dI)) (ci := 11) (v := .int sf) (ty := .int) (C := RX11) (T := TX11) (N := 41) hx hb hts iX11 tyX11 tyX11_ok nmX11 hown hK hP hD hS 0 rfl rfl 36 (by decide) (hts _ qw1163) (fun _ h9 => h9) rfl (by decide +kernel) rfl rfl (Nat.le_of_ble_eq_true rfl) dX11_trySends_83 (fun H locs hP9 hD9 hS9 => ?_)
          clear hP hD hS
          obtain ⟨hP, hD⟩ := zst (wX := [(h0, .inr (11, [.int th, .ref tB, .int tsz, .int tat, .int wr, .int dp, .ref rC, .ref rV, .ref rD, .ref rK, .ref rT, .ref rS, .ref rU, .int lw, .int tx, .ref rL, .ref rX, .ref qR, .ref qB, .ref qP, .int qnb, .int qnp, .ref aR, .ref aB, .ref aP, .int nb, .int np, .ref aN, .ref rf, .int ho, .int br, .ref aK, .int ac, .long dw, .ref aE, .int sr, .int sf, .ref aA, .ref aH, .ref aI, .int hi])), (aP, .inl (cI, 20, .inl fPa))]) hP9 hD9 rfl
          have hS := hS9
          clear hP9 hD9 hS9
          rw [hQ]
          exact W.vret hx hb hr (fun t ht hW => ⟨⟨(sr, sf), rfl, (by (try dsimp only); exact fun kc s hP hI => chU_n hI (by omega) (by omega)), ⟨by rw [ht]; exact hP, hD⟩⟩, hS.F ht⟩) hS.2.2 dX11_trySends_86
        · have c31 : p4.toInt = sf.toInt := z5 rfl rfl c31
          refine lv_iload hx hb dX11_trySends_34 (lv_at hl 4 rfl) ?_
          refine lv_aload_n hx hb dX11_trySends_36 rfl (lv_at hl 0 rfl) ?_
          refine va_get (D := (dC, dI)) (ci := 11) (v := .int sr) (C := RX11) (T := TX11) (N := 41) hx hb hts iX11 hown hK hP 0 rfl rfl 35 (by decide) (hts _ qw1162) (fun _ h9 => h9) rfl dX11_trySends_37 ?_
          refine lv_icmp_ge (tgt := 47) hx hb dX11_trySends_40 (by decide) (fun c40 => ?_) (fun c40 => ?_)
          · have c40 : sr.toInt ≤ p3.toInt := z3 rfl rfl c40
            refine lv_iconst (v := 0) hx hb dX11_trySends_47 (by decide) ?_
            refine lv_istore (lv' := [(6, .int 0), (0, .ref h0), (1, .int 1), (2, .int p1), (3, .int p2), (4, .int p3), (5, .int p4)]) hx hb dX11_trySends_48 hl (by decide) rfl (fun ls hl => ?_)
            refine lv_aload_n hx hb dX11_trySends_50 rfl (lv_at hl 1 rfl) ?_
            refine lv_iload hx hb dX11_trySends_51 (lv_at hl 0 rfl) ?_
            refine lv_if_eq (tgt := 61) hx hb dX11_trySends_53 (by decide) (fun _ => ?_) (fun c => absurd (by decide) c)
            refine lv_aload_n hx hb dX11_trySends_61 rfl (lv_at hl 1 rfl) ?_
            refine va_get (D := (dC, dI)) (ci := 11) (v := .int sr) (C := RX11) (T := TX11) (N := 41) hx hb hts iX11 hown hK hP 0 rfl rfl 35 (by decide) (hts _ qw1162) (fun _ h9 => h9) rfl dX11_trySends_62 ?_
            refine va_put (D := (dC, dI)) (ci := 11) (v := .int sr) (ty := .int) (C := RX11) (T := TX11) (N := 41) hx hb hts iX11 tyX11 tyX11_ok nmX11 hown hK hP hD hS 0 rfl rfl 35 (by decide) (hts _ qw1162) (fun _ h9 => h9) rfl (by decide +kernel) rfl rfl (Nat.le_of_ble_eq_true rfl) dX11_trySends_65 (fun H locs hP9 hD9 hS9 => ?_)
            clear hP hD hS
            obtain ⟨hP, hD⟩ := zst (wX := [(h0, .inr (11, [.int th, .ref tB, .int tsz, .int tat, .int wr, .int dp, .ref rC, .ref rV, .ref rD, .ref rK, .ref rT, .ref rS, .ref rU, .int lw, .int tx, .ref rL, .ref rX, .ref qR, .ref qB, .ref qP, .int qnb, .int qnp, .ref aR, .ref aB, .ref aP, .int nb, .int np, .ref aN, .ref rf, .int ho, .int br, .ref aK, .int ac, .long dw, .ref aE, .int sr, .int sf, .ref aA, .ref aH, .ref aI, .int hi])), (aP, .inl (cI, 20, .inl fPa))]) hP9 hD9 rfl
            have hS := hS9
            clear hP9 hD9 hS9
            refine lv_aload_n hx hb dX11_trySends_68 rfl (lv_at hl 1 rfl) ?_
            refine lv_iload hx hb dX11_trySends_69 (lv_at hl 0 rfl) ?_
            refine lv_if_eq (tgt := 79) hx hb dX11_trySends_71 (by decide) (fun _ => ?_) (fun c => absurd (by decide) c)
            refine lv_aload_n hx hb dX11_trySends_79 rfl (lv_at hl 1 rfl) ?_
            refine va_get (D := (dC, dI)) (ci := 11) (v := .int sf) (C := RX11) (T := TX11) (N := 41) hx hb hts iX11 hown hK hP 0 rfl rfl 36 (by decide) (hts _ qw1163) (fun _ h9 => h9) rfl dX11_trySends_80 ?_
            refine va_put (D := (dC, dI)) (ci := 11) (v := .int sf) (ty := .int) (C := RX11) (T := TX11) (N := 41) hx hb hts iX11 tyX11 tyX11_ok nmX11 hown hK hP hD hS 0 rfl rfl 36 (by decide) (hts _ qw1163) (fun _ h9 => h9) rfl (by decide +kernel) rfl rfl (Nat.le_of_ble_eq_true rfl) dX11_trySends_83 (fun H locs hP9 hD9 hS9 => ?_)
            clear hP hD hS
            obtain ⟨hP, hD⟩ := zst (wX := [(h0, .inr (11, [.int th, .ref tB, .int tsz, .int tat, .int wr, .int dp, .ref rC, .ref rV, .ref rD, .ref rK, .ref rT, .ref rS, .ref rU, .int lw, .int tx, .ref rL, .ref rX, .ref qR, .ref qB, .ref qP, .int qnb, .int qnp, .ref aR, .ref aB, .ref aP, .int nb, .int np, .ref aN, .ref rf, .int ho, .int br, .ref aK, .int ac, .long dw, .ref aE, .int sr, .int sf, .ref aA, .ref aH, .ref aI, .int hi])), (aP, .inl (cI, 20, .inl fPa))]) hP9 hD9 rfl
            have hS := hS9
            clear hP9 hD9 hS9
            rw [hQ]
            exact W.vret hx hb hr (fun t ht hW => ⟨⟨(sr, sf), rfl, (by (try dsimp only); exact fun kc s hP hI => chU_n hI (by omega) (by omega)), ⟨by rw [ht]; exact hP, hD⟩⟩, hS.F ht⟩) hS.2.2 dX11_trySends_86
          · have c40 : p3.toInt < sr.toInt := z4 rfl rfl c40
            refine lv_iconst (v := 1) hx hb dX11_trySends_43 (by decide) ?_
            refine lv_goto (tgt := 48) hx hb dX11_trySends_44 (by decide) ?_
            refine lv_istore (lv' := [(6, .int 1), (0, .ref h0), (1, .int 1), (2, .int p1), (3, .int p2), (4, .int p3), (5, .int p4)]) hx hb dX11_trySends_48 hl (by decide) rfl (fun ls hl => ?_)
            refine lv_aload_n hx hb dX11_trySends_50 rfl (lv_at hl 1 rfl) ?_
            refine lv_iload hx hb dX11_trySends_51 (lv_at hl 0 rfl) ?_
            refine lv_if_eq (tgt := 61) hx hb dX11_trySends_53 (by decide) (fun c => absurd c (by decide)) (fun _ => ?_)
            refine lv_iload hx hb dX11_trySends_56 (lv_at hl 5 rfl) ?_
            refine lv_goto (tgt := 65) hx hb dX11_trySends_58 (by decide) ?_
            refine va_put (D := (dC, dI)) (ci := 11) (v := .int p3) (ty := .int) (C := RX11) (T := TX11) (N := 41) hx hb hts iX11 tyX11 tyX11_ok nmX11 hown hK hP hD hS 0 rfl rfl 35 (by decide) (hts _ qw1162) (fun _ h9 => h9) rfl (by decide +kernel) rfl rfl (Nat.le_of_ble_eq_true rfl) dX11_trySends_65 (fun H locs hP9 hD9 hS9 => ?_)
            clear hP hD hS
            obtain ⟨hP, hD⟩ := zst (wX := [(h0, .inr (11, [.int th, .ref tB, .int tsz, .int tat, .int wr, .int dp, .ref rC, .ref rV, .ref rD, .ref rK, .ref rT, .ref rS, .ref rU, .int lw, .int tx, .ref rL, .ref rX, .ref qR, .ref qB, .ref qP, .int qnb, .int qnp, .ref aR, .ref aB, .ref aP, .int nb, .int np, .ref aN, .ref rf, .int ho, .int br, .ref aK, .int ac, .long dw, .ref aE, .int p3, .int sf, .ref aA, .ref aH, .ref aI, .int hi])), (aP, .inl (cI, 20, .inl fPa))]) hP9 hD9 rfl
            have hS := hS9
            clear hP9 hD9 hS9
            refine lv_aload_n hx hb dX11_trySends_68 rfl (lv_at hl 1 rfl) ?_
            refine lv_iload hx hb dX11_trySends_69 (lv_at hl 0 rfl) ?_
            refine lv_if_eq (tgt := 79) hx hb dX11_trySends_71 (by decide) (fun c => absurd c (by decide)) (fun _ => ?_)
            refine lv_iload hx hb dX11_trySends_74 (lv_at hl 6 rfl) ?_
            refine lv_goto (tgt := 83) hx hb dX11_trySends_76 (by decide) ?_
            refine va_put (D := (dC, dI)) (ci := 11) (v := .int p4) (ty := .int) (C := RX11) (T := TX11) (N := 41) hx hb hts iX11 tyX11 tyX11_ok nmX11 hown hK hP hD hS 0 rfl rfl 36 (by decide) (hts _ qw1163) (fun _ h9 => h9) rfl (by decide +kernel) rfl rfl (Nat.le_of_ble_eq_true rfl) dX11_trySends_83 (fun H locs hP9 hD9 hS9 => ?_)
            clear hP hD hS
            obtain ⟨hP, hD⟩ := zst (wX := [(h0, .inr (11, [.int th, .ref tB, .int tsz, .int tat, .int wr, .int dp, .ref rC, .ref rV, .ref rD, .ref rK, .ref rT, .ref rS, .ref rU, .int lw, .int tx, .ref rL, .ref rX, .ref qR, .ref qB, .ref qP, .int qnb, .int qnp, .ref aR, .ref aB, .ref aP, .int nb, .int np, .ref aN, .ref rf, .int ho, .int br, .ref aK, .int ac, .long dw, .ref aE, .int p3, .int p4, .ref aA, .ref aH, .ref aI, .int hi])), (aP, .inl (cI, 20, .inl fPa))]) hP9 hD9 rfl
            have hS := hS9
            clear hP9 hD9 hS9
            rw [hQ]
            exact W.vret hx hb hr (fun t ht hW => ⟨⟨(p3, p4), rfl, (by (try dsimp only); exact fun kc s hP hI => chU_y hI (by omega) (by omega)), ⟨by rw [ht]; exact hP, hD⟩⟩, hS.F ht⟩) hS.2.2 dX11_trySends_86
set_option maxHeartbeats 4000000 in
set_option maxRecDepth 100000 in
theorem g_X11_trySends_0 (l : Launch) (dC : Nat → ClassId) (dI : Nat → Nat → Nat) (cI cJ : ClassId) (h0 : Nat) (p1 : Int32) (p2 : Int32) (p3 : Int32) (p4 : Int32) (th : Int32) (tB : Nat) (tsz : Int32) (tat : Int32) (wr : Int32) (dp : Int32) (rC : Nat) (rV : Nat) (rD : Nat) (rK : Nat) (rT : Nat) (rS : Nat) (rU : Nat) (lw : Int32) (tx : Int32) (rL : Nat) (rX : Nat) (qR : Nat) (qB : Nat) (qP : Nat) (qnb : Int32) (qnp : Int32) (aR : Nat) (aB : Nat) (aP : Nat) (nb : Int32) (np : Int32) (aN : Nat) (rf : Nat) (ho : Int32) (br : Int32) (aK : Nat) (ac : Int32) (dw : Int64) (aE : Nat) (sr : Int32) (sf : Int32) (aA : Nat) (aH : Nat) (aI : Nat) (hi : Int32) (fPa : Nat → Int32) (sz : Nat) (n_ac : 0 ≤ ac.toInt ∧ ac.toInt ≤ 40) (n_hi : 0 ≤ hi.toInt ∧ hi.toInt ≤ 1) (n_ho : (-1) ≤ ho.toInt ∧ ho.toInt ≤ 3) (n_lw : 0 ≤ lw.toInt ∧ lw.toInt ≤ 4) (n_nb : 0 ≤ nb.toInt ∧ nb.toInt ≤ 6) (n_np : 0 ≤ np.toInt ∧ np.toInt ≤ 5) (n_qnb : 0 ≤ qnb.toInt ∧ qnb.toInt ≤ 6) (n_qnp : 0 ≤ qnp.toInt ∧ qnp.toInt ≤ 5) (n_tat : 0 ≤ tat.toInt ∧ tat.toInt ≤ 260) (n_tsz : 0 ≤ tsz.toInt ∧ tsz.toInt ≤ 240) (n_wr : (-1) ≤ wr.toInt ∧ wr.toInt ≤ 260)    : Met l yX11_trySends (.code yX11_trySends cX11_trySends 7 none :: wA) ({ frames := 6, cells := 0, slots := 0, locals := 156 }) (zP (dC, dI) [(cI, .int), (cJ, .long)] [.ref h0, .int 0, .int p1, .int p2, .int p3, .int p4] sz [(h0, .inr (11, [.int th, .ref tB, .int tsz, .int tat, .int wr, .int dp, .ref rC, .ref rV, .ref rD, .ref rK, .ref rT, .ref rS, .ref rU, .int lw, .int tx, .ref rL, .ref rX, .ref qR, .ref qB, .ref qP, .int qnb, .int qnp, .ref aR, .ref aB, .ref aP, .int nb, .int np, .ref aN, .ref rf, .int ho, .int br, .ref aK, .int ac, .long dw, .ref aE, .int sr, .int sf, .ref aA, .ref aH, .ref aI, .int hi])), (aP, .inl (cI, 20, .inl fPa))]) (va_Qv (fun (u : Int32 × Int32) => (∀ (kc : zK3) (s : List Nat), chP fPa np.toInt kc → chI kc np.toInt.toNat p2 p3 p4 s 0 → (u.1.toInt, u.2.toInt) = chX (chf kc) np.toInt.toNat (chBt p1) (nb.toInt.toNat - 0) 0 s (sr.toInt, sf.toInt))) (fun (u : Int32 × Int32) (t : State) => va_P (dC, dI) vwCl [(h0, .inr (11, [.int th, .ref tB, .int tsz, .int tat, .int wr, .int dp, .ref rC, .ref rV, .ref rD, .ref rK, .ref rT, .ref rS, .ref rU, .int lw, .int tx, .ref rL, .ref rX, .ref qR, .ref qB, .ref qP, .int qnb, .int qnp, .ref aR, .ref aB, .ref aP, .int nb, .int np, .ref aN, .ref rf, .int ho, .int br, .ref aK, .int ac, .long dw, .ref aE, .int u.1, .int u.2, .ref aA, .ref aH, .ref aI, .int hi])), (aP, .inl (cI, 20, .inl fPa))] t.heap ∧ va_D (va_A [(h0, .inr (11, [.int th, .ref tB, .int tsz, .int tat, .int wr, .int dp, .ref rC, .ref rV, .ref rD, .ref rK, .ref rT, .ref rS, .ref rU, .int lw, .int tx, .ref rL, .ref rX, .ref qR, .ref qB, .ref qP, .int qnb, .int qnp, .ref aR, .ref aB, .ref aP, .int nb, .int np, .ref aN, .ref rf, .int ho, .int br, .ref aK, .int ac, .long dw, .ref aE, .int sr, .int sf, .ref aA, .ref aH, .ref aI, .int hi])), (aP, .inl (cI, 20, .inl fPa))] sz) [(h0, .inr (11, [.int th, .ref tB, .int tsz, .int tat, .int wr, .int dp, .ref rC, .ref rV, .ref rD, .ref rK, .ref rT, .ref rS, .ref rU, .int lw, .int tx, .ref rL, .ref rX, .ref qR, .ref qB, .ref qP, .int qnb, .int qnp, .ref aR, .ref aB, .ref aP, .int nb, .int np, .ref aN, .ref rf, .int ho, .int br, .ref aK, .int ac, .long dw, .ref aE, .int u.1, .int u.2, .ref aA, .ref aH, .ref aI, .int hi])), (aP, .inl (cI, 20, .inl fPa))]) (va_A [(h0, .inr (11, [.int th, .ref tB, .int tsz, .int tat, .int wr, .int dp, .ref rC, .ref rV, .ref rD, .ref rK, .ref rT, .ref rS, .ref rU, .int lw, .int tx, .ref rL, .ref rX, .ref qR, .ref qB, .ref qP, .int qnb, .int qnp, .ref aR, .ref aB, .ref aP, .int nb, .int np, .ref aN, .ref rf, .int ho, .int br, .ref aK, .int ac, .long dw, .ref aE, .int sr, .int sf, .ref aA, .ref aH, .ref aI, .int hi])), (aP, .inl (cI, 20, .inl fPa))] sz)) 0 0 (va_A [(h0, .inr (11, [.int th, .ref tB, .int tsz, .int tat, .int wr, .int dp, .ref rC, .ref rV, .ref rD, .ref rK, .ref rT, .ref rS, .ref rU, .int lw, .int tx, .ref rL, .ref rX, .ref qR, .ref qB, .ref qP, .int qnb, .int qnp, .ref aR, .ref aB, .ref aP, .int nb, .int np, .ref aN, .ref rf, .int ho, .int br, .ref aK, .int ac, .long dw, .ref aE, .int sr, .int sf, .ref aA, .ref aH, .ref aI, .int hi])), (aP, .inl (cI, 20, .inl fPa))] sz) := by
  refine Met.ofW (cc := cX11_trySends) (maxL := 7) (ret := none) (by decide) rfl ?_
  intro p e s m args below meth c s₁ B hml hv
  have y_ac : zHid (0 ≤ ac.toInt ∧ ac.toInt ≤ 40) := n_ac
  have y_hi : zHid (0 ≤ hi.toInt ∧ hi.toInt ≤ 1) := n_hi
  have y_ho : zHid ((-1) ≤ ho.toInt ∧ ho.toInt ≤ 3) := n_ho
  have y_lw : zHid (0 ≤ lw.toInt ∧ lw.toInt ≤ 4) := n_lw
  have y_qnb : zHid (0 ≤ qnb.toInt ∧ qnb.toInt ≤ 6) := n_qnb
  have y_qnp : zHid (0 ≤ qnp.toInt ∧ qnp.toInt ≤ 5) := n_qnp
  have y_tat : zHid (0 ≤ tat.toInt ∧ tat.toInt ≤ 260) := n_tat
  have y_tsz : zHid (0 ≤ tsz.toInt ∧ tsz.toInt ≤ 240) := n_tsz
  have y_wr : zHid ((-1) ≤ wr.toInt ∧ wr.toInt ≤ 260) := n_wr
  clear n_ac n_hi n_ho n_lw n_qnb n_qnp n_tat n_tsz n_wr
  obtain ⟨hargs, hsz, hP, hK, hT⟩ := hv
  have hx := B.exec
  have hb := B.bytes
  have hr := B.returns
  have hts : ∀ w ∈ wA, w.before args s = true := fun w h => atoms_spec (ws := .code yX11_trySends cX11_trySends 7 none :: wA) B.pre w (List.mem_cons_of_mem _ h)
  have hown : s.vm.findClass RX11 = some m.cls := findClass_of_methodNamed B.named
  have hlocks := B.notSynchronized
  subst hsz
  have hD := hT.self (sz := s.heap.size)
  generalize hAe : va_A [(h0, .inr (11, [.int th, .ref tB, .int tsz, .int tat, .int wr, .int dp, .ref rC, .ref rV, .ref rD, .ref rK, .ref rT, .ref rS, .ref rU, .int lw, .int tx, .ref rL, .ref rX, .ref qR, .ref qB, .ref qP, .int qnb, .int qnp, .ref aR, .ref aB, .ref aP, .int nb, .int np, .ref aN, .ref rf, .int ho, .int br, .ref aK, .int ac, .long dw, .ref aE, .int sr, .int sf, .ref aA, .ref aH, .ref aI, .int hi])), (aP, .inl (cI, 20, .inl fPa))] s.heap.size = A at hD ⊢
  have hA : ∀ q : Nat, s.heap.size ≤ q → A q := fun q h => by rw [← hAe]; exact Or.inr h
  have hl := lv_entry ([.ref h0, .int 0, .int p1, .int p2, .int p3, .int p4]) (n := 7) (Nat.le_of_ble_eq_true rfl)
  rw [show entryFrame m args 7 = entryFrame m ([.ref h0, .int 0, .int p1, .int p2, .int p3, .int p4] : List Value).toArray 7 by rw [hargs], lg_entry_eq]
  generalize (lg_sl ([.ref h0, .int 0, .int p1, .int p2, .int p3, .int p4]) ++ List.replicate (7 - (lg_sl ([.ref h0, .int 0, .int p1, .int p2, .int p3, .int p4])).length) Slot.unset).toArray = ls at hl ⊢
  have hl : lv_has ls 7 [(0, .ref h0), (1, .int 0), (2, .int p1), (3, .int p2), (4, .int p3), (5, .int p4)] := hl
  refine zstart (fun H hH => ?_)
  rw [← hH] at hP
  have hS : va_S A s.heap H [] := by rw [hH]; exact va_S.rf
  generalize ([] : List Loc) = locs at hS ⊢
  refine zgen (fun R Q hR hQ => ?_)
  refine lv_iload_n hx hb dX11_trySends_0 rfl (lv_at hl 1 rfl) ?_
  refine lv_aload_n hx hb dX11_trySends_1 rfl (lv_at hl 0 rfl) ?_
  refine va_get (D := (dC, dI)) (ci := 11) (v := .int nb) (C := RX11) (T := TX11) (N := 41) hx hb hts iX11 hown hK hP 0 rfl rfl 25 (by decide) (hts _ qw1152) (fun _ h9 => h9) rfl dX11_trySends_2 ?_
  refine lv_icmp_ne (tgt := 87) hx hb dX11_trySends_5 (by decide) (fun c5 => ?_) (fun c5 => ?_)
  · have c5 : ¬ 0 = nb.toInt := z6 (by decide) rfl c5
    refine lv_iload_n hx hb dX11_trySends_87 rfl (lv_at hl 2 rfl) ?_
    refine lv_iload_n hx hb dX11_trySends_88 rfl (lv_at hl 1 rfl) ?_
    have hPc : va_P (dC, dI) vwCl [] H := zP0
    have hDc : va_D (fun _ => True) [] := zD0
    have hFc := zfr hS hA
    refine va_calli (va_runS (As := [.int p1, .int 0]) (rest := []) ⟨hx, hb, hml, hown, hts⟩ (g_X11_has l dC dI cI cJ p1 0 H.size) (cwS 2 hts (zgS qw1288 qw1289 qw108 qw1290) rfl rfl rfl hd_X11_has ⟨by rw [hR]; exact Nat.le_of_ble_eq_true rfl, by rw [hR]; exact Nat.le_of_ble_eq_true rfl⟩) (zPS hPc hK hDc) rfl rfl hl.1 rfl (lv_room (Nat.le_of_ble_eq_true rfl)) dX11_trySends_89 ⟨Nat.zero_le _, Nat.zero_le _⟩) hS (fun q _ h => hFc q h) hFc (fun v89 u89 t H locs ht hvm hw hB hz1 hk1 hS9 => ?_)
    replace hP := zkeep hP hk1
    replace hS := hS9
    clear hPc hDc hFc hk1 hz1 hvm hS9
    obtain ⟨f89_0, f89_1, f89_2, f89_3⟩ : (0 ≤ v89.toInt) ∧ (v89.toInt ≤ 1) ∧ (v89.toInt = ((p1 >>> (0 &&& 31)) &&& 1).toInt) ∧ (v89.toInt = (cBt p1 0).toInt) := hw
    have F89 := f89_3
    refine lv_if_ne (tgt := 109) hx hb dX11_trySends_92 (by decide) (fun c92 => ?_) (fun c92 => ?_)
    · have c92 : ¬ v89.toInt = 0 := z6 rfl (by decide) c92
      refine lv_iconst (v := 0) hx hb dX11_trySends_109 (by decide) ?_
      have J112 : ∀ (n : Nat) (m112_F_h0_35 : Int32) (m112_F_h0_36 : Int32) (m112_L_6 : Int32), (0 ≤ m112_L_6.toInt ∧ m112_L_6.toInt ≤ 5) → (∀ (kc : zK3) (s : List Nat), chP fPa np.toInt kc → chI kc np.toInt.toNat p2 p3 p4 s 0 → (m112_F_h0_35.toInt, m112_F_h0_36.toInt) = chL (chf kc) np.toInt.toNat (chBt p1) (nb.toInt.toNat - 1) 0 s (sr.toInt, sf.toInt) m112_L_6.toInt.toNat) → (m112_L_6.toInt ≤ np.toInt) → (6 - m112_L_6.toInt).toNat = n → ∀ (H : Heap) (locs : List Loc) (ls : Array Slot), va_P (dC, dI) vwCl [(h0, .inr (11, [.int th, .ref tB, .int tsz, .int tat, .int wr, .int dp, .ref rC, .ref rV, .ref rD, .ref rK, .ref rT, .ref rS, .ref rU, .int lw, .int tx, .ref rL, .ref rX, .ref qR, .ref qB, .ref qP, .int qnb, .int qnp, .ref aR, .ref aB, .ref aP, .int nb, .int np, .ref aN, .ref rf, .int ho, .int br, .ref aK, .int ac, .long dw, .ref aE, .int m112_F_h0_35, .int m112_F_h0_36, .ref aA, .ref aH, .ref aI, .int hi])), (aP, .inl (cI, 20, .inl fPa))] H → va_D A [(h0, .inr (11, [.int th, .ref tB, .int tsz, .int tat, .int wr, .int dp, .ref rC, .ref rV, .ref rD, .ref rK, .ref rT, .ref rS, .ref rU, .int lw, .int tx, .ref rL, .ref rX, .ref qR, .ref qB, .ref qP, .int qnb, .int qnp, .ref aR, .ref aB, .ref aP, .int nb, .int np, .ref aN, .ref rf, .int ho, .int br, .ref aK, .int ac, .long dw, .ref aE, .int m112_F_h0_35, .int m112_F_h0_36, .ref aA, .ref aH, .ref aI, .int hi])), (aP, .inl (cI, 20, .inl fPa))] → va_S A s.heap H locs → lv_has ls 7 [(6, .int m112_L_6), (0, .ref h0), (1, .int 0), (2, .int p1), (3, .int p2), (4, .int p3), (5, .int p4)] → W p l e R s m args below meth c H locs 0 0 Q (F0 m 112 ls []) := by
        intro n112
        induction n112 using Nat.strongRecOn with
        | _ n112 ih112 =>
          intro m112_F_h0_35 m112_F_h0_36 m112_L_6 jf112_0 jv112_0 jf112_2 hmu112 H locs ls hP hD hS hl
          refine lv_iload hx hb dX11_trySends_112 (lv_at hl 0 rfl) ?_
          refine lv_aload_n hx hb dX11_trySends_114 rfl (lv_at hl 1 rfl) ?_
          refine va_get (D := (dC, dI)) (ci := 11) (v := .int np) (C := RX11) (T := TX11) (N := 41) hx hb hts iX11 hown hK hP 0 rfl rfl 26 (by decide) (hts _ qw1153) (fun _ h9 => h9) rfl dX11_trySends_115 ?_
          refine lv_icmp_ge (tgt := 168) hx hb dX11_trySends_118 (by decide) (fun c118 => ?_) (fun c118 => ?_)
          · have c118 : np.toInt ≤ m112_L_6.toInt := z3 rfl rfl c118
            rw [hQ]
            exact W.vret hx hb hr (fun t ht hW => ⟨⟨(m112_F_h0_35, m112_F_h0_36), rfl, (by (try dsimp only); exact fun kc s hP hI => by have g89 : (chBt p1 0 = true ↔ v89.toInt = 1) := (by rw [F89]; exact decide_eq_true_iff); exact chX_l (k' := (nb.toInt.toNat - 1)) (m := m112_L_6.toInt.toNat) (g89.mpr (by omega)) (by omega) (by omega) (jv112_0 kc s hP hI)), ⟨by rw [ht]; exact hP, hD⟩⟩, hS.F ht⟩) hS.2.2 dX11_trySends_168
          · have c118 : m112_L_6.toInt < np.toInt := z4 rfl rfl c118
            refine lv_iload_n hx hb dX11_trySends_121 rfl (lv_at hl 4 rfl) ?_
            refine lv_iload hx hb dX11_trySends_122 (lv_at hl 0 rfl) ?_
            have hPc : va_P (dC, dI) vwCl [] H := zP0
            have hDc : va_D (fun _ => True) [] := zD0
            have hFc := zfr hS hA
            refine va_calli (va_runS (As := [.int p2, .int m112_L_6]) (rest := []) ⟨hx, hb, hml, hown, hts⟩ (g_X11_has l dC dI cI cJ p2 m112_L_6 H.size) (cwS 2 hts (zgS qw1288 qw1289 qw108 qw1290) rfl rfl rfl hd_X11_has ⟨by rw [hR]; exact Nat.le_of_ble_eq_true rfl, by rw [hR]; exact Nat.le_of_ble_eq_true rfl⟩) (zPS hPc hK hDc) rfl rfl hl.1 rfl (lv_room (Nat.le_of_ble_eq_true rfl)) dX11_trySends_124 ⟨Nat.zero_le _, Nat.zero_le _⟩) hS (fun q _ h => hFc q h) hFc (fun v124 u124 t H locs ht hvm hw hB hz1 hk1 hS9 => ?_)
            replace hP := zkeep hP hk1
            replace hS := hS9
            clear hPc hDc hFc hk1 hz1 hvm hS9
            obtain ⟨f124_0, f124_1, f124_2, f124_3⟩ : (0 ≤ v124.toInt) ∧ (v124.toInt ≤ 1) ∧ (v124.toInt = ((p2 >>> (m112_L_6 &&& 31)) &&& 1).toInt) ∧ (v124.toInt = (cBt p2 m112_L_6).toInt) := hw
            have F124 := f124_3
            refine lv_if_ne (tgt := 162) hx hb dX11_trySends_127 (by decide) (fun c127 => ?_) (fun c127 => ?_)
            · have c127 : ¬ v124.toInt = 0 := z6 rfl (by decide) c127
              obtain ⟨v162, e162⟩ : ∃ y : Int32, y = m112_L_6 + Int32.ofInt (1) := ⟨_, rfl⟩
              refine lv_iinc (v := v162) (lv' := [(6, .int v162), (0, .ref h0), (1, .int 0), (2, .int p1), (3, .int p2), (4, .int p3), (5, .int p4)]) hx hb dX11_trySends_162 hl (k := 0) rfl e162.symm (by decide) rfl (fun ls hl => ?_)
              have i162 : v162.toInt = m112_L_6.toInt + 1 := zaddI e162 (by decide) (by omega) (by omega)
              refine lv_goto (tgt := 112) hx hb dX11_trySends_165 (by decide) ?_
              exact ih112 _ (by omega) m112_F_h0_35 m112_F_h0_36 v162 (by omega) (fun kc s hP hI => by have m := chI_m hI (i := m112_L_6) (by omega) (by omega) F124; first | exact chL_y (jv112_0 kc s hP hI) (by omega) i162 (m.mp (by omega)) | exact chL_n (jv112_0 kc s hP hI) (by omega) i162 (fun z => absurd (m.mpr z) (by omega)) (F159 kc _ hP (chI_s hI hP (by decide) (by omega) (by omega) e139 e140 e145 e148 F155 e158))) (by omega) rfl H locs ls hP hD hS (lv_sub hl [0, 1, 2, 3, 4, 5, 6] rfl)
            · have c127 : v124.toInt = 0 := z5 rfl (by decide) c127
              refine lv_aload_n hx hb dX11_trySends_130 rfl (lv_at hl 1 rfl) ?_
              refine lv_iload_n hx hb dX11_trySends_131 rfl (lv_at hl 2 rfl) ?_
              refine lv_iconst (v := 1) hx hb dX11_trySends_132 (by decide) ?_
              refine lv_iadd hx hb dX11_trySends_133 ?_
              refine lv_topi (fun v133 e133 => ?_)
              obtain rfl : v133 = 1 := e133.trans (by decide)
              refine lv_iload_n hx hb dX11_trySends_134 rfl (lv_at hl 3 rfl) ?_
              refine lv_iload_n hx hb dX11_trySends_135 rfl (lv_at hl 4 rfl) ?_
              refine lv_iconst (v := 1) hx hb dX11_trySends_136 (by decide) ?_
              refine lv_iload hx hb dX11_trySends_137 (lv_at hl 0 rfl) ?_
              refine lv_ishl hx hb dX11_trySends_139 ?_
              refine lv_topi (fun v139 e139 => ?_)
              have i139 : 1 ≤ v139.toInt ∧ v139.toInt ≤ 32 := zshl1 e139 (by omega) (by omega)
              refine lv_ior hx hb dX11_trySends_140 ?_
              refine lv_topi (fun v140 e140 => ?_)
              refine lv_bipush (v := 10) hx hb dX11_trySends_141 (by decide) ?_
              refine lv_iload hx hb dX11_trySends_143 (lv_at hl 5 rfl) ?_
              refine lv_imul hx hb dX11_trySends_145 ?_
              refine lv_topi (fun v145 e145 => ?_)
              refine lv_iload hx hb dX11_trySends_146 (lv_at hl 0 rfl) ?_
              refine lv_iadd hx hb dX11_trySends_148 ?_
              refine lv_topi (fun v148 e148 => ?_)
              refine lv_iload hx hb dX11_trySends_149 (lv_at hl 6 rfl) ?_
              refine lv_aload_n hx hb dX11_trySends_151 rfl (lv_at hl 1 rfl) ?_
              refine lv_iload hx hb dX11_trySends_152 (lv_at hl 0 rfl) ?_
              refine lv_iconst (v := 1) hx hb dX11_trySends_154 (by decide) ?_
              obtain ⟨hPc, hDc⟩ := zc2 (wc := [(h0, .inr (11, [.int th, .ref tB, .int tsz, .int tat, .int wr, .int dp, .ref rC, .ref rV, .ref rD, .ref rK, .ref rT, .ref rS, .ref rU, .int lw, .int tx, .ref rL, .ref rX, .ref qR, .ref qB, .ref qP, .int qnb, .int qnp, .ref aR, .ref aB, .ref aP, .int nb, .int np, .ref aN, .ref rf, .int ho, .int br, .ref aK, .int ac, .long dw, .ref aE, .int m112_F_h0_35, .int m112_F_h0_36, .ref aA, .ref aH, .ref aI, .int hi])), (aP, .inl (cI, 20, .inl fPa))]) hP hD [0, 1] (by decide +kernel) rfl
              have hFc := zfr hS hA
              refine va_calli (va_runV (As := [.int m112_L_6, .int 1]) (rest := [.int p4, .int v148, .int v140, .int p1, .int 1, .ref h0]) ⟨hx, hb, hml, hown, hts⟩ (g_X11_by_1 l dC dI cI cJ h0 m112_L_6 th tB tsz tat wr dp rC rV rD rK rT rS rU lw tx rL rX qR qB qP qnb qnp aR aB aP nb np aN rf ho br aK ac dw aE m112_F_h0_35 m112_F_h0_36 aA aH aI hi fPa H.size y_ac y_hi y_ho y_lw n_nb n_np (by omega) y_qnb y_qnp y_tat y_tsz y_wr) (cwV 2 hts (zgV qw1390 qw1392 qw55 qw108 qw1393) rfl rfl rfl hd_X11_by ⟨by rw [hR]; exact Nat.le_of_ble_eq_true rfl, by rw [hR]; exact Nat.le_of_ble_eq_true rfl⟩) (zPV hPc hK hDc (va_recv (q := (RX11, TX11, 41)) hK hP (ci := 11) (q0 := 0) rfl rfl)) rfl rfl hl.1 rfl (lv_room (Nat.le_of_ble_eq_true rfl)) dX11_trySends_155 ⟨Nat.zero_le _, Nat.zero_le _⟩) hS (fun q _ h => hFc q h) hFc (fun v155 u155 t H locs ht hvm hw hB hz1 hk1 hS9 => ?_)
              replace hP := zkeep hP hk1
              replace hS := hS9
              clear hPc hDc hFc hk1 hz1 hvm hS9
              obtain ⟨f155_0, f155_1⟩ : (v155.toInt = (fPa (4 * m112_L_6.toInt.toNat + 1)).toInt) ∧ (v155 = fPa (4 * m112_L_6.toInt.toNat + 1)) := hw
              have F155 := f155_1
              refine lv_iadd hx hb dX11_trySends_158 ?_
              refine lv_topi (fun v158 e158 => ?_)
              obtain ⟨hPc, hDc, hFc⟩ := zc3 (wc := [(h0, .inr (11, [.int th, .ref tB, .int tsz, .int tat, .int wr, .int dp, .ref rC, .ref rV, .ref rD, .ref rK, .ref rT, .ref rS, .ref rU, .int lw, .int tx, .ref rL, .ref rX, .ref qR, .ref qB, .ref qP, .int qnb, .int qnp, .ref aR, .ref aB, .ref aP, .int nb, .int np, .ref aN, .ref rf, .int ho, .int br, .ref aK, .int ac, .long dw, .ref aE, .int m112_F_h0_35, .int m112_F_h0_36, .ref aA, .ref aH, .ref aI, .int hi])), (aP, .inl (cI, 20, .inl fPa))]) hP hD hS hA [0, 1] (by decide +kernel) rfl
              refine va_callv (va_runV (As := [.int 1, .int p1, .int v140, .int v148, .int v158]) (rest := []) ⟨hx, hb, hml, hown, hts⟩ (g_X11_trySends_1 l dC dI cI cJ h0 p1 v140 v148 v158 th tB tsz tat wr dp rC rV rD rK rT rS rU lw tx rL rX qR qB qP qnb qnp aR aB aP nb np aN rf ho br aK ac dw aE m112_F_h0_35 m112_F_h0_36 aA aH aI hi fPa H.size y_ac y_hi y_ho y_lw (by omega) n_np y_qnb y_qnp y_tat y_tsz y_wr) (cwV 5 hts (zgV qw1683 qw1685 qw91 qw108 qw1686) rfl rfl rfl hd_X11_trySends ⟨by rw [hR]; exact Nat.le_of_ble_eq_true rfl, by rw [hR]; exact Nat.le_of_ble_eq_true rfl⟩) (zPV hPc hK hDc (va_recv (q := (RX11, TX11, 41)) hK hP (ci := 11) (q0 := 0) rfl rfl)) rfl rfl hl.1 rfl (lv_room (Nat.le_of_ble_eq_true rfl)) dX11_trySends_159 ⟨Nat.zero_le _, Nat.zero_le _⟩) hS (fun q _ h => hFc q h) hFc (fun u159 t H locs ht hvm hw hB hz1 hk1 hS9 => ?_)
              obtain ⟨u159_0, u159_1⟩ := u159
              obtain ⟨hP9, hD9⟩ := zj2 (wX := [(h0, .inr (11, [.int th, .ref tB, .int tsz, .int tat, .int wr, .int dp, .ref rC, .ref rV, .ref rD, .ref rK, .ref rT, .ref rS, .ref rU, .int lw, .int tx, .ref rL, .ref rX, .ref qR, .ref qB, .ref qP, .int qnb, .int qnp, .ref aR, .ref aB, .ref aP, .int nb, .int np, .ref aN, .ref rf, .int ho, .int br, .ref aK, .int ac, .long dw, .ref aE, .int u159_0, .int u159_1, .ref aA, .ref aH, .ref aI, .int hi])), (aP, .inl (cI, 20, .inl fPa))]) hP hD hk1 hFc ht hB [0, 1] [(true, 0), (true, 1)] rfl (by decide +kernel) (by decide +kernel) rfl
              clear hP hD hS hPc hDc hFc hB hk1 hz1 hvm
              have hP := hP9
              have hD := hD9
              have hS := hS9
              clear hP9 hD9 hS9
              have f159_0 : (∀ (kc : zK3) (s : List Nat), chP fPa np.toInt kc → chI kc np.toInt.toNat v140 v148 v158 s 1 → (u159_0.toInt, u159_1.toInt) = chX (chf kc) np.toInt.toNat (chBt p1) (nb.toInt.toNat - 1) 1 s (m112_F_h0_35.toInt, m112_F_h0_36.toInt)) := hw
              have F159 := f159_0
              obtain ⟨v162, e162⟩ : ∃ y : Int32, y = m112_L_6 + Int32.ofInt (1) := ⟨_, rfl⟩
              refine lv_iinc (v := v162) (lv' := [(6, .int v162), (0, .ref h0), (1, .int 0), (2, .int p1), (3, .int p2), (4, .int p3), (5, .int p4)]) hx hb dX11_trySends_162 hl (k := 0) rfl e162.symm (by decide) rfl (fun ls hl => ?_)
              have i162 : v162.toInt = m112_L_6.toInt + 1 := zaddI e162 (by decide) (by omega) (by omega)
              refine lv_goto (tgt := 112) hx hb dX11_trySends_165 (by decide) ?_
              exact ih112 _ (by omega) u159_0 u159_1 v162 (by omega) (fun kc s hP hI => by have m := chI_m hI (i := m112_L_6) (by omega) (by omega) F124; first | exact chL_y (jv112_0 kc s hP hI) (by omega) i162 (m.mp (by omega)) | exact chL_n (jv112_0 kc s hP hI) (by omega) i162 (fun z => absurd (m.mpr z) (by omega)) (F159 kc _ hP (chI_s hI hP (by decide) (by omega) (by omega) e139 e140 e145 e148 F155 e158))) (by omega) rfl H locs ls hP hD hS (lv_sub hl [0, 1, 2, 3, 4, 5, 6] rfl)
      refine lv_istore (lv' := [(6, .int 0), (0, .ref h0), (1, .int 0), (2, .int p1), (3, .int p2), (4, .int p3), (5, .int p4)]) hx hb dX11_trySends_110 hl (by decide) rfl (fun ls hl => ?_)
      have zj112_m112_L_6 : (0 : Int32).toInt = 0 := by decide
      exact J112 _ sr sf 0 (by decide) (fun kc s hP hI => chL_0.symm) (by omega) rfl H locs ls hP hD hS (lv_sub hl [0, 1, 2, 3, 4, 5, 6] rfl)
    · have c92 : v89.toInt = 0 := z5 rfl (by decide) c92
      refine lv_aload_n hx hb dX11_trySends_95 rfl (lv_at hl 0 rfl) ?_
      refine lv_iload_n hx hb dX11_trySends_96 rfl (lv_at hl 1 rfl) ?_
      refine lv_iconst (v := 1) hx hb dX11_trySends_97 (by decide) ?_
      refine lv_iadd hx hb dX11_trySends_98 ?_
      refine lv_topi (fun v98 e98 => ?_)
      obtain rfl : v98 = 1 := e98.trans (by decide)
      refine lv_iload_n hx hb dX11_trySends_99 rfl (lv_at hl 2 rfl) ?_
      refine lv_iload_n hx hb dX11_trySends_100 rfl (lv_at hl 3 rfl) ?_
      refine lv_iload hx hb dX11_trySends_101 (lv_at hl 4 rfl) ?_
      refine lv_iload hx hb dX11_trySends_103 (lv_at hl 5 rfl) ?_
      obtain ⟨hPc, hDc, hFc⟩ := zc3 (wc := [(h0, .inr (11, [.int th, .ref tB, .int tsz, .int tat, .int wr, .int dp, .ref rC, .ref rV, .ref rD, .ref rK, .ref rT, .ref rS, .ref rU, .int lw, .int tx, .ref rL, .ref rX, .ref qR, .ref qB, .ref qP, .int qnb, .int qnp, .ref aR, .ref aB, .ref aP, .int nb, .int np, .ref aN, .ref rf, .int ho, .int br, .ref aK, .int ac, .long dw, .ref aE, .int sr, .int sf, .ref aA, .ref aH, .ref aI, .int hi])), (aP, .inl (cI, 20, .inl fPa))]) hP hD hS hA [0, 1] (by decide +kernel) rfl
      refine va_callv (va_runV (As := [.int 1, .int p1, .int p2, .int p3, .int p4]) (rest := []) ⟨hx, hb, hml, hown, hts⟩ (g_X11_trySends_1 l dC dI cI cJ h0 p1 p2 p3 p4 th tB tsz tat wr dp rC rV rD rK rT rS rU lw tx rL rX qR qB qP qnb qnp aR aB aP nb np aN rf ho br aK ac dw aE sr sf aA aH aI hi fPa H.size y_ac y_hi y_ho y_lw (by omega) n_np y_qnb y_qnp y_tat y_tsz y_wr) (cwV 5 hts (zgV qw1683 qw1685 qw91 qw108 qw1686) rfl rfl rfl hd_X11_trySends ⟨by rw [hR]; exact Nat.le_of_ble_eq_true rfl, by rw [hR]; exact Nat.le_of_ble_eq_true rfl⟩) (zPV hPc hK hDc (va_recv (q := (RX11, TX11, 41)) hK hP (ci := 11) (q0 := 0) rfl rfl)) rfl rfl hl.1 rfl (lv_room (Nat.le_of_ble_eq_true rfl)) dX11_trySends_105 ⟨Nat.zero_le _, Nat.zero_le _⟩) hS (fun q _ h => hFc q h) hFc (fun u105 t H locs ht hvm hw hB hz1 hk1 hS9 => ?_)
      obtain ⟨u105_0, u105_1⟩ := u105
      obtain ⟨hP9, hD9⟩ := zj2 (wX := [(h0, .inr (11, [.int th, .ref tB, .int tsz, .int tat, .int wr, .int dp, .ref rC, .ref rV, .ref rD, .ref rK, .ref rT, .ref rS, .ref rU, .int lw, .int tx, .ref rL, .ref rX, .ref qR, .ref qB, .ref qP, .int qnb, .int qnp, .ref aR, .ref aB, .ref aP, .int nb, .int np, .ref aN, .ref rf, .int ho, .int br, .ref aK, .int ac, .long dw, .ref aE, .int u105_0, .int u105_1, .ref aA, .ref aH, .ref aI, .int hi])), (aP, .inl (cI, 20, .inl fPa))]) hP hD hk1 hFc ht hB [0, 1] [(true, 0), (true, 1)] rfl (by decide +kernel) (by decide +kernel) rfl
      clear hP hD hS hPc hDc hFc hB hk1 hz1 hvm
      have hP := hP9
      have hD := hD9
      have hS := hS9
      clear hP9 hD9 hS9
      have f105_0 : (∀ (kc : zK3) (s : List Nat), chP fPa np.toInt kc → chI kc np.toInt.toNat p2 p3 p4 s 1 → (u105_0.toInt, u105_1.toInt) = chX (chf kc) np.toInt.toNat (chBt p1) (nb.toInt.toNat - 1) 1 s (sr.toInt, sf.toInt)) := hw
      have F105 := f105_0
      rw [hQ]
      exact W.vret hx hb hr (fun t ht hW => ⟨⟨(u105_0, u105_1), rfl, (by (try dsimp only); exact fun kc s hP hI => by have g89 : (chBt p1 0 = true ↔ v89.toInt = 1) := (by rw [F89]; exact decide_eq_true_iff); exact chX_v (k' := (nb.toInt.toNat - 1)) (fun z => absurd (g89.mp z) (by omega)) (by omega) (F105 kc s hP (chI_w hI (by decide)))), ⟨by rw [ht]; exact hP, hD⟩⟩, hS.F ht⟩) hS.2.2 dX11_trySends_108
  · have c5 : 0 = nb.toInt := z5 (by decide) rfl c5
    refine lv_aload_n hx hb dX11_trySends_8 rfl (lv_at hl 0 rfl) ?_
    refine va_get (D := (dC, dI)) (ci := 11) (v := .int sr) (C := RX11) (T := TX11) (N := 41) hx hb hts iX11 hown hK hP 0 rfl rfl 35 (by decide) (hts _ qw1162) (fun _ h9 => h9) rfl dX11_trySends_9 ?_
    refine lv_iconst (v := (-1)) hx hb dX11_trySends_12 (by decide) ?_
    refine lv_icmp_eq (tgt := 43) hx hb dX11_trySends_13 (by decide) (fun c13 => ?_) (fun c13 => ?_)
    · have c13 : sr.toInt = (-1) := z5 rfl (by decide) c13
      refine lv_iconst (v := 1) hx hb dX11_trySends_43 (by decide) ?_
      refine lv_goto (tgt := 48) hx hb dX11_trySends_44 (by decide) ?_
      refine lv_istore (lv' := [(6, .int 1), (0, .ref h0), (1, .int 0), (2, .int p1), (3, .int p2), (4, .int p3), (5, .int p4)]) hx hb dX11_trySends_48 hl (by decide) rfl (fun ls hl => ?_)
      refine lv_aload_n hx hb dX11_trySends_50 rfl (lv_at hl 1 rfl) ?_
      refine lv_iload hx hb dX11_trySends_51 (lv_at hl 0 rfl) ?_
      refine lv_if_eq (tgt := 61) hx hb dX11_trySends_53 (by decide) (fun c => absurd c (by decide)) (fun _ => ?_)
      refine lv_iload hx hb dX11_trySends_56 (lv_at hl 5 rfl) ?_
      refine lv_goto (tgt := 65) hx hb dX11_trySends_58 (by decide) ?_
      refine va_put (D := (dC, dI)) (ci := 11) (v := .int p3) (ty := .int) (C := RX11) (T := TX11) (N := 41) hx hb hts iX11 tyX11 tyX11_ok nmX11 hown hK hP hD hS 0 rfl rfl 35 (by decide) (hts _ qw1162) (fun _ h9 => h9) rfl (by decide +kernel) rfl rfl (Nat.le_of_ble_eq_true rfl) dX11_trySends_65 (fun H locs hP9 hD9 hS9 => ?_)
      clear hP hD hS
      obtain ⟨hP, hD⟩ := zst (wX := [(h0, .inr (11, [.int th, .ref tB, .int tsz, .int tat, .int wr, .int dp, .ref rC, .ref rV, .ref rD, .ref rK, .ref rT, .ref rS, .ref rU, .int lw, .int tx, .ref rL, .ref rX, .ref qR, .ref qB, .ref qP, .int qnb, .int qnp, .ref aR, .ref aB, .ref aP, .int nb, .int np, .ref aN, .ref rf, .int ho, .int br, .ref aK, .int ac, .long dw, .ref aE, .int p3, .int sf, .ref aA, .ref aH, .ref aI, .int hi])), (aP, .inl (cI, 20, .inl fPa))]) hP9 hD9 rfl
      have hS := hS9
      clear hP9 hD9 hS9
      refine lv_aload_n hx hb dX11_trySends_68 rfl (lv_at hl 1 rfl) ?_
      refine lv_iload hx hb dX11_trySends_69 (lv_at hl 0 rfl) ?_
      refine lv_if_eq (tgt := 79) hx hb dX11_trySends_71 (by decide) (fun c => absurd c (by decide)) (fun _ => ?_)
      refine lv_iload hx hb dX11_trySends_74 (lv_at hl 6 rfl) ?_
      refine lv_goto (tgt := 83) hx hb dX11_trySends_76 (by decide) ?_
      refine va_put (D := (dC, dI)) (ci := 11) (v := .int p4) (ty := .int) (C := RX11) (T := TX11) (N := 41) hx hb hts iX11 tyX11 tyX11_ok nmX11 hown hK hP hD hS 0 rfl rfl 36 (by decide) (hts _ qw1163) (fun _ h9 => h9) rfl (by decide +kernel) rfl rfl (Nat.le_of_ble_eq_true rfl) dX11_trySends_83 (fun H locs hP9 hD9 hS9 => ?_)
      clear hP hD hS
      obtain ⟨hP, hD⟩ := zst (wX := [(h0, .inr (11, [.int th, .ref tB, .int tsz, .int tat, .int wr, .int dp, .ref rC, .ref rV, .ref rD, .ref rK, .ref rT, .ref rS, .ref rU, .int lw, .int tx, .ref rL, .ref rX, .ref qR, .ref qB, .ref qP, .int qnb, .int qnp, .ref aR, .ref aB, .ref aP, .int nb, .int np, .ref aN, .ref rf, .int ho, .int br, .ref aK, .int ac, .long dw, .ref aE, .int p3, .int p4, .ref aA, .ref aH, .ref aI, .int hi])), (aP, .inl (cI, 20, .inl fPa))]) hP9 hD9 rfl
      have hS := hS9
      clear hP9 hD9 hS9
      rw [hQ]
      exact W.vret hx hb hr (fun t ht hW => ⟨⟨(p3, p4), rfl, (by (try dsimp only); exact fun kc s hP hI => chU_y hI (by omega) (by omega)), ⟨by rw [ht]; exact hP, hD⟩⟩, hS.F ht⟩) hS.2.2 dX11_trySends_86
    · have c13 : ¬ sr.toInt = (-1) := z6 rfl (by decide) c13
      refine lv_iload hx hb dX11_trySends_16 (lv_at hl 5 rfl) ?_
      refine lv_aload_n hx hb dX11_trySends_18 rfl (lv_at hl 0 rfl) ?_
      refine va_get (D := (dC, dI)) (ci := 11) (v := .int sf) (C := RX11) (T := TX11) (N := 41) hx hb hts iX11 hown hK hP 0 rfl rfl 36 (by decide) (hts _ qw1163) (fun _ h9 => h9) rfl dX11_trySends_19 ?_
      refine lv_icmp_lt (tgt := 43) hx hb dX11_trySends_22 (by decide) (fun c22 => ?_) (fun c22 => ?_)
      · have c22 : p4.toInt < sf.toInt := z1 rfl rfl c22
        refine lv_iconst (v := 1) hx hb dX11_trySends_43 (by decide) ?_
        refine lv_goto (tgt := 48) hx hb dX11_trySends_44 (by decide) ?_
        refine lv_istore (lv' := [(6, .int 1), (0, .ref h0), (1, .int 0), (2, .int p1), (3, .int p2), (4, .int p3), (5, .int p4)]) hx hb dX11_trySends_48 hl (by decide) rfl (fun ls hl => ?_)
        refine lv_aload_n hx hb dX11_trySends_50 rfl (lv_at hl 1 rfl) ?_
        refine lv_iload hx hb dX11_trySends_51 (lv_at hl 0 rfl) ?_
        refine lv_if_eq (tgt := 61) hx hb dX11_trySends_53 (by decide) (fun c => absurd c (by decide)) (fun _ => ?_)
        refine lv_iload hx hb dX11_trySends_56 (lv_at hl 5 rfl) ?_
        refine lv_goto (tgt := 65) hx hb dX11_trySends_58 (by decide) ?_
        refine va_put (D := (dC, dI)) (ci := 11) (v := .int p3) (ty := .int) (C := RX11) (T := TX11) (N := 41) hx hb hts iX11 tyX11 tyX11_ok nmX11 hown hK hP hD hS 0 rfl rfl 35 (by decide) (hts _ qw1162) (fun _ h9 => h9) rfl (by decide +kernel) rfl rfl (Nat.le_of_ble_eq_true rfl) dX11_trySends_65 (fun H locs hP9 hD9 hS9 => ?_)
        clear hP hD hS
        obtain ⟨hP, hD⟩ := zst (wX := [(h0, .inr (11, [.int th, .ref tB, .int tsz, .int tat, .int wr, .int dp, .ref rC, .ref rV, .ref rD, .ref rK, .ref rT, .ref rS, .ref rU, .int lw, .int tx, .ref rL, .ref rX, .ref qR, .ref qB, .ref qP, .int qnb, .int qnp, .ref aR, .ref aB, .ref aP, .int nb, .int np, .ref aN, .ref rf, .int ho, .int br, .ref aK, .int ac, .long dw, .ref aE, .int p3, .int sf, .ref aA, .ref aH, .ref aI, .int hi])), (aP, .inl (cI, 20, .inl fPa))]) hP9 hD9 rfl
        have hS := hS9
        clear hP9 hD9 hS9
        refine lv_aload_n hx hb dX11_trySends_68 rfl (lv_at hl 1 rfl) ?_
        refine lv_iload hx hb dX11_trySends_69 (lv_at hl 0 rfl) ?_
        refine lv_if_eq (tgt := 79) hx hb dX11_trySends_71 (by decide) (fun c => absurd c (by decide)) (fun _ => ?_)
        refine lv_iload hx hb dX11_trySends_74 (lv_at hl 6 rfl) ?_
        refine lv_goto (tgt := 83) hx hb dX11_trySends_76 (by decide) ?_
        refine va_put (D := (dC, dI)) (ci := 11) (v := .int p4) (ty := .int) (C := RX11) (T := TX11) (N := 41) hx hb hts iX11 tyX11 tyX11_ok nmX11 hown hK hP hD hS 0 rfl rfl 36 (by decide) (hts _ qw1163) (fun _ h9 => h9) rfl (by decide +kernel) rfl rfl (Nat.le_of_ble_eq_true rfl) dX11_trySends_83 (fun H locs hP9 hD9 hS9 => ?_)
        clear hP hD hS
        obtain ⟨hP, hD⟩ := zst (wX := [(h0, .inr (11, [.int th, .ref tB, .int tsz, .int tat, .int wr, .int dp, .ref rC, .ref rV, .ref rD, .ref rK, .ref rT, .ref rS, .ref rU, .int lw, .int tx, .ref rL, .ref rX, .ref qR, .ref qB, .ref qP, .int qnb, .int qnp, .ref aR, .ref aB, .ref aP, .int nb, .int np, .ref aN, .ref rf, .int ho, .int br, .ref aK, .int ac, .long dw, .ref aE, .int p3, .int p4, .ref aA, .ref aH, .ref aI, .int hi])), (aP, .inl (cI, 20, .inl fPa))]) hP9 hD9 rfl
        have hS := hS9
        clear hP9 hD9 hS9
        rw [hQ]
        exact W.vret hx hb hr (fun t ht hW => ⟨⟨(p3, p4), rfl, (by (try dsimp only); exact fun kc s hP hI => chU_y hI (by omega) (by omega)), ⟨by rw [ht]; exact hP, hD⟩⟩, hS.F ht⟩) hS.2.2 dX11_trySends_86
      · have c22 : sf.toInt ≤ p4.toInt := z2 rfl rfl c22
        refine lv_iload hx hb dX11_trySends_25 (lv_at hl 5 rfl) ?_
        refine lv_aload_n hx hb dX11_trySends_27 rfl (lv_at hl 0 rfl) ?_
        refine va_get (D := (dC, dI)) (ci := 11) (v := .int sf) (C := RX11) (T := TX11) (N := 41) hx hb hts iX11 hown hK hP 0 rfl rfl 36 (by decide) (hts _ qw1163) (fun _ h9 => h9) rfl dX11_trySends_28 ?_
        refine lv_icmp_ne (tgt := 47) hx hb dX11_trySends_31 (by decide) (fun c31 => ?_) (fun c31 => ?_)
        · have c31 : ¬ p4.toInt = sf.toInt := z6 rfl rfl c31
          refine lv_iconst (v := 0) hx hb dX11_trySends_47 (by decide) ?_
          refine lv_istore (lv' := [(6, .int 0), (0, .ref h0), (1, .int 0), (2, .int p1), (3, .int p2), (4, .int p3), (5, .int p4)]) hx hb dX11_trySends_48 hl (by decide) rfl (fun ls hl => ?_)
          refine lv_aload_n hx hb dX11_trySends_50 rfl (lv_at hl 1 rfl) ?_
          refine lv_iload hx hb dX11_trySends_51 (lv_at hl 0 rfl) ?_
          refine lv_if_eq (tgt := 61) hx hb dX11_trySends_53 (by decide) (fun _ => ?_) (fun c => absurd (by decide) c)
          refine lv_aload_n hx hb dX11_trySends_61 rfl (lv_at hl 1 rfl) ?_
          refine va_get (D := (dC, dI)) (ci := 11) (v := .int sr) (C := RX11) (T := TX11) (N := 41) hx hb hts iX11 hown hK hP 0 rfl rfl 35 (by decide) (hts _ qw1162) (fun _ h9 => h9) rfl dX11_trySends_62 ?_
          refine va_put (D := (dC, dI)) (ci := 11) (v := .int sr) (ty := .int) (C := RX11) (T := TX11) (N := 41) hx hb hts iX11 tyX11 tyX11_ok nmX11 hown hK hP hD hS 0 rfl rfl 35 (by decide) (hts _ qw1162) (fun _ h9 => h9) rfl (by decide +kernel) rfl rfl (Nat.le_of_ble_eq_true rfl) dX11_trySends_65 (fun H locs hP9 hD9 hS9 => ?_)
          clear hP hD hS
          obtain ⟨hP, hD⟩ := zst (wX := [(h0, .inr (11, [.int th, .ref tB, .int tsz, .int tat, .int wr, .int dp, .ref rC, .ref rV, .ref rD, .ref rK, .ref rT, .ref rS, .ref rU, .int lw, .int tx, .ref rL, .ref rX, .ref qR, .ref qB, .ref qP, .int qnb, .int qnp, .ref aR, .ref aB, .ref aP, .int nb, .int np, .ref aN, .ref rf, .int ho, .int br, .ref aK, .int ac, .long dw, .ref aE, .int sr, .int sf, .ref aA, .ref aH, .ref aI, .int hi])), (aP, .inl (cI, 20, .inl fPa))]) hP9 hD9 rfl
          have hS := hS9
          clear hP9 hD9 hS9
          refine lv_aload_n hx hb dX11_trySends_68 rfl (lv_at hl 1 rfl) ?_
          refine lv_iload hx hb dX11_trySends_69 (lv_at hl 0 rfl) ?_
          refine lv_if_eq (tgt := 79) hx hb dX11_trySends_71 (by decide) (fun _ => ?_) (fun c => absurd (by decide) c)
          refine lv_aload_n hx hb dX11_trySends_79 rfl (lv_at hl 1 rfl) ?_
          refine va_get (D := (dC, dI)) (ci := 11) (v := .int sf) (C := RX11) (T := TX11) (N := 41) hx hb hts iX11 hown hK hP 0 rfl rfl 36 (by decide) (hts _ qw1163) (fun _ h9 => h9) rfl dX11_trySends_80 ?_
          refine va_put (D := (dC, dI)) (ci := 11) (v := .int sf) (ty := .int) (C := RX11) (T := TX11) (N := 41) hx hb hts iX11 tyX11 tyX11_ok nmX11 hown hK hP hD hS 0 rfl rfl 36 (by decide) (hts _ qw1163) (fun _ h9 => h9) rfl (by decide +kernel) rfl rfl (Nat.le_of_ble_eq_true rfl) dX11_trySends_83 (fun H locs hP9 hD9 hS9 => ?_)
          clear hP hD hS
          obtain ⟨hP, hD⟩ := zst (wX := [(h0, .inr (11, [.int th, .ref tB, .int tsz, .int tat, .int wr, .int dp, .ref rC, .ref rV, .ref rD, .ref rK, .ref rT, .ref rS, .ref rU, .int lw, .int tx, .ref rL, .ref rX, .ref qR, .ref qB, .ref qP, .int qnb, .int qnp, .ref aR, .ref aB, .ref aP, .int nb, .int np, .ref aN, .ref rf, .int ho, .int br, .ref aK, .int ac, .long dw, .ref aE, .int sr, .int sf, .ref aA, .ref aH, .ref aI, .int hi])), (aP, .inl (cI, 20, .inl fPa))]) hP9 hD9 rfl
          have hS := hS9
          clear hP9 hD9 hS9
          rw [hQ]
          exact W.vret hx hb hr (fun t ht hW => ⟨⟨(sr, sf), rfl, (by (try dsimp only); exact fun kc s hP hI => chU_n hI (by omega) (by omega)), ⟨by rw [ht]; exact hP, hD⟩⟩, hS.F ht⟩) hS.2.2 dX11_trySends_86
        · have c31 : p4.toInt = sf.toInt := z5 rfl rfl c31
          refine lv_iload hx hb dX11_trySends_34 (lv_at hl 4 rfl) ?_
          refine lv_aload_n hx hb dX11_trySends_36 rfl (lv_at hl 0 rfl) ?_
          refine va_get (D := (dC, dI)) (ci := 11) (v := .int sr) (C := RX11) (T := TX11) (N := 41) hx hb hts iX11 hown hK hP 0 rfl rfl 35 (by decide) (hts _ qw1162) (fun _ h9 => h9) rfl dX11_trySends_37 ?_
          refine lv_icmp_ge (tgt := 47) hx hb dX11_trySends_40 (by decide) (fun c40 => ?_) (fun c40 => ?_)
          · have c40 : sr.toInt ≤ p3.toInt := z3 rfl rfl c40
            refine lv_iconst (v := 0) hx hb dX11_trySends_47 (by decide) ?_
            refine lv_istore (lv' := [(6, .int 0), (0, .ref h0), (1, .int 0), (2, .int p1), (3, .int p2), (4, .int p3), (5, .int p4)]) hx hb dX11_trySends_48 hl (by decide) rfl (fun ls hl => ?_)
            refine lv_aload_n hx hb dX11_trySends_50 rfl (lv_at hl 1 rfl) ?_
            refine lv_iload hx hb dX11_trySends_51 (lv_at hl 0 rfl) ?_
            refine lv_if_eq (tgt := 61) hx hb dX11_trySends_53 (by decide) (fun _ => ?_) (fun c => absurd (by decide) c)
            refine lv_aload_n hx hb dX11_trySends_61 rfl (lv_at hl 1 rfl) ?_
            refine va_get (D := (dC, dI)) (ci := 11) (v := .int sr) (C := RX11) (T := TX11) (N := 41) hx hb hts iX11 hown hK hP 0 rfl rfl 35 (by decide) (hts _ qw1162) (fun _ h9 => h9) rfl dX11_trySends_62 ?_
            refine va_put (D := (dC, dI)) (ci := 11) (v := .int sr) (ty := .int) (C := RX11) (T := TX11) (N := 41) hx hb hts iX11 tyX11 tyX11_ok nmX11 hown hK hP hD hS 0 rfl rfl 35 (by decide) (hts _ qw1162) (fun _ h9 => h9) rfl (by decide +kernel) rfl rfl (Nat.le_of_ble_eq_true rfl) dX11_trySends_65 (fun H locs hP9 hD9 hS9 => ?_)
            clear hP hD hS
            obtain ⟨hP, hD⟩ := zst (wX := [(h0, .inr (11, [.int th, .ref tB, .int tsz, .int tat, .int wr, .int dp, .ref rC, .ref rV, .ref rD, .ref rK, .ref rT, .ref rS, .ref rU, .int lw, .int tx, .ref rL, .ref rX, .ref qR, .ref qB, .ref qP, .int qnb, .int qnp, .ref aR, .ref aB, .ref aP, .int nb, .int np, .ref aN, .ref rf, .int ho, .int br, .ref aK, .int ac, .long dw, .ref aE, .int sr, .int sf, .ref aA, .ref aH, .ref aI, .int hi])), (aP, .inl (cI, 20, .inl fPa))]) hP9 hD9 rfl
            have hS := hS9
            clear hP9 hD9 hS9
            refine lv_aload_n hx hb dX11_trySends_68 rfl (lv_at hl 1 rfl) ?_
            refine lv_iload hx hb dX11_trySends_69 (lv_at hl 0 rfl) ?_
            refine lv_if_eq (tgt := 79) hx hb dX11_trySends_71 (by decide) (fun _ => ?_) (fun c => absurd (by decide) c)
            refine lv_aload_n hx hb dX11_trySends_79 rfl (lv_at hl 1 rfl) ?_
            refine va_get (D := (dC, dI)) (ci := 11) (v := .int sf) (C := RX11) (T := TX11) (N := 41) hx hb hts iX11 hown hK hP 0 rfl rfl 36 (by decide) (hts _ qw1163) (fun _ h9 => h9) rfl dX11_trySends_80 ?_
            refine va_put (D := (dC, dI)) (ci := 11) (v := .int sf) (ty := .int) (C := RX11) (T := TX11) (N := 41) hx hb hts iX11 tyX11 tyX11_ok nmX11 hown hK hP hD hS 0 rfl rfl 36 (by decide) (hts _ qw1163) (fun _ h9 => h9) rfl (by decide +kernel) rfl rfl (Nat.le_of_ble_eq_true rfl) dX11_trySends_83 (fun H locs hP9 hD9 hS9 => ?_)
            clear hP hD hS
            obtain ⟨hP, hD⟩ := zst (wX := [(h0, .inr (11, [.int th, .ref tB, .int tsz, .int tat, .int wr, .int dp, .ref rC, .ref rV, .ref rD, .ref rK, .ref rT, .ref rS, .ref rU, .int lw, .int tx, .ref rL, .ref rX, .ref qR, .ref qB, .ref qP, .int qnb, .int qnp, .ref aR, .ref aB, .ref aP, .int nb, .int np, .ref aN, .ref rf, .int ho, .int br, .ref aK, .int ac, .long dw, .ref aE, .int sr, .int sf, .ref aA, .ref aH, .ref aI, .int hi])), (aP, .inl (cI, 20, .inl fPa))]) hP9 hD9 rfl
            have hS := hS9
            clear hP9 hD9 hS9
            rw [hQ]
            exact W.vret hx hb hr (fun t ht hW => ⟨⟨(sr, sf), rfl, (by (try dsimp only); exact fun kc s hP hI => chU_n hI (by omega) (by omega)), ⟨by rw [ht]; exact hP, hD⟩⟩, hS.F ht⟩) hS.2.2 dX11_trySends_86
          · have c40 : p3.toInt < sr.toInt := z4 rfl rfl c40
            refine lv_iconst (v := 1) hx hb dX11_trySends_43 (by decide) ?_
            refine lv_goto (tgt := 48) hx hb dX11_trySends_44 (by decide) ?_
            refine lv_istore (lv' := [(6, .int 1), (0, .ref h0), (1, .int 0), (2, .int p1), (3, .int p2), (4, .int p3), (5, .int p4)]) hx hb dX11_trySends_48 hl (by decide) rfl (fun ls hl => ?_)
            refine lv_aload_n hx hb dX11_trySends_50 rfl (lv_at hl 1 rfl) ?_
            refine lv_iload hx hb dX11_trySends_51 (lv_at hl 0 rfl) ?_
            refine lv_if_eq (tgt := 61) hx hb dX11_trySends_53 (by decide) (fun c => absurd c (by decide)) (fun _ => ?_)
            refine lv_iload hx hb dX11_trySends_56 (lv_at hl 5 rfl) ?_
            refine lv_goto (tgt := 65) hx hb dX11_trySends_58 (by decide) ?_
            refine va_put (D := (dC, dI)) (ci := 11) (v := .int p3) (ty := .int) (C := RX11) (T := TX11) (N := 41) hx hb hts iX11 tyX11 tyX11_ok nmX11 hown hK hP hD hS 0 rfl rfl 35 (by decide) (hts _ qw1162) (fun _ h9 => h9) rfl (by decide +kernel) rfl rfl (Nat.le_of_ble_eq_true rfl) dX11_trySends_65 (fun H locs hP9 hD9 hS9 => ?_)
            clear hP hD hS
            obtain ⟨hP, hD⟩ := zst (wX := [(h0, .inr (11, [.int th, .ref tB, .int tsz, .int tat, .int wr, .int dp, .ref rC, .ref rV, .ref rD, .ref rK, .ref rT, .ref rS, .ref rU, .int lw, .int tx, .ref rL, .ref rX, .ref qR, .ref qB, .ref qP, .int qnb, .int qnp, .ref aR, .ref aB, .ref aP, .int nb, .int np, .ref aN, .ref rf, .int ho, .int br, .ref aK, .int ac, .long dw, .ref aE, .int p3, .int sf, .ref aA, .ref aH, .ref aI, .int hi])), (aP, .inl (cI, 20, .inl fPa))]) hP9 hD9 rfl
            have hS := hS9
            clear hP9 hD9 hS9
            refine lv_aload_n hx hb dX11_trySends_68 rfl (lv_at hl 1 rfl) ?_
            refine lv_iload hx hb dX11_trySends_69 (lv_at hl 0 rfl) ?_
            refine lv_if_eq (tgt := 79) hx hb dX11_trySends_71 (by decide) (fun c => absurd c (by decide)) (fun _ => ?_)
            refine lv_iload hx hb dX11_trySends_74 (lv_at hl 6 rfl) ?_
            refine lv_goto (tgt := 83) hx hb dX11_trySends_76 (by decide) ?_
            refine va_put (D := (dC, dI)) (ci := 11) (v := .int p4) (ty := .int) (C := RX11) (T := TX11) (N := 41) hx hb hts iX11 tyX11 tyX11_ok nmX11 hown hK hP hD hS 0 rfl rfl 36 (by decide) (hts _ qw1163) (fun _ h9 => h9) rfl (by decide +kernel) rfl rfl (Nat.le_of_ble_eq_true rfl) dX11_trySends_83 (fun H locs hP9 hD9 hS9 => ?_)
            clear hP hD hS
            obtain ⟨hP, hD⟩ := zst (wX := [(h0, .inr (11, [.int th, .ref tB, .int tsz, .int tat, .int wr, .int dp, .ref rC, .ref rV, .ref rD, .ref rK, .ref rT, .ref rS, .ref rU, .int lw, .int tx, .ref rL, .ref rX, .ref qR, .ref qB, .ref qP, .int qnb, .int qnp, .ref aR, .ref aB, .ref aP, .int nb, .int np, .ref aN, .ref rf, .int ho, .int br, .ref aK, .int ac, .long dw, .ref aE, .int p3, .int p4, .ref aA, .ref aH, .ref aI, .int hi])), (aP, .inl (cI, 20, .inl fPa))]) hP9 hD9 rfl
            have hS := hS9
            clear hP9 hD9 hS9
            rw [hQ]
            exact W.vret hx hb hr (fun t ht hW => ⟨⟨(p3, p4), rfl, (by (try dsimp only); exact fun kc s hP hI => chU_y hI (by omega) (by omega)), ⟨by rw [ht]; exact hP, hD⟩⟩, hS.F ht⟩) hS.2.2 dX11_trySends_86
set_option maxHeartbeats 4000000 in
set_option maxRecDepth 100000 in
theorem g_X11_cheapest (l : Launch) (dC : Nat → ClassId) (dI : Nat → Nat → Nat) (cI cJ : ClassId) (h0 : Nat) (p0 : Int32) (p1 : Int32) (th : Int32) (tB : Nat) (tsz : Int32) (tat : Int32) (wr : Int32) (dp : Int32) (rC : Nat) (rV : Nat) (rD : Nat) (rK : Nat) (rT : Nat) (rS : Nat) (rU : Nat) (lw : Int32) (tx : Int32) (rL : Nat) (rX : Nat) (qR : Nat) (qB : Nat) (qP : Nat) (qnb : Int32) (qnp : Int32) (aR : Nat) (aB : Nat) (aP : Nat) (nb : Int32) (np : Int32) (aN : Nat) (rf : Nat) (ho : Int32) (br : Int32) (aK : Nat) (ac : Int32) (dw : Int64) (aE : Nat) (sr : Int32) (sf : Int32) (aA : Nat) (aH : Nat) (aI : Nat) (hi : Int32) (fPa : Nat → Int32) (sz : Nat) (n_ac : 0 ≤ ac.toInt ∧ ac.toInt ≤ 40) (n_hi : 0 ≤ hi.toInt ∧ hi.toInt ≤ 1) (n_ho : (-1) ≤ ho.toInt ∧ ho.toInt ≤ 3) (n_lw : 0 ≤ lw.toInt ∧ lw.toInt ≤ 4) (n_nb : 0 ≤ nb.toInt ∧ nb.toInt ≤ 6) (n_np : 0 ≤ np.toInt ∧ np.toInt ≤ 5) (n_qnb : 0 ≤ qnb.toInt ∧ qnb.toInt ≤ 6) (n_qnp : 0 ≤ qnp.toInt ∧ qnp.toInt ≤ 5) (n_tat : 0 ≤ tat.toInt ∧ tat.toInt ≤ 260) (n_tsz : 0 ≤ tsz.toInt ∧ tsz.toInt ≤ 240) (n_wr : (-1) ≤ wr.toInt ∧ wr.toInt ≤ 260)    : Met l yX11_cheapest (.code yX11_cheapest cX11_cheapest 3 (some .int) :: wA) ({ frames := 7, cells := 0, slots := 0, locals := 182 }) (zP (dC, dI) [(cI, .int), (cJ, .long)] [.ref h0, .int p0, .int p1] sz [(h0, .inr (11, [.int th, .ref tB, .int tsz, .int tat, .int wr, .int dp, .ref rC, .ref rV, .ref rD, .ref rK, .ref rT, .ref rS, .ref rU, .int lw, .int tx, .ref rL, .ref rX, .ref qR, .ref qB, .ref qP, .int qnb, .int qnp, .ref aR, .ref aB, .ref aP, .int nb, .int np, .ref aN, .ref rf, .int ho, .int br, .ref aK, .int ac, .long dw, .ref aE, .int sr, .int sf, .ref aA, .ref aH, .ref aI, .int hi])), (aP, .inl (cI, 20, .inl fPa))]) (va_Qi (fun (r : Int32) (u : Int32 × Int32) => (∀ (kc : zK3) (kT : zT) (q_fR : Nat → Int32) (q_fBr : Nat → Int32) (q_fN : Nat → Int32) (q_fKp : Nat → Int32) (q_frf : Nat → Int32), zCn q_fR q_fBr fPa nb.toInt np.toInt kc → zKo nb.toInt np.toInt kc kT → zTr nb.toInt np.toInt kT q_fN q_fKp ac q_frf → r.toInt = sV_che nb.toInt np.toInt kc p0 p1)) (fun (u : Int32 × Int32) (t : State) => va_P (dC, dI) vwCl [(h0, .inr (11, [.int th, .ref tB, .int tsz, .int tat, .int wr, .int dp, .ref rC, .ref rV, .ref rD, .ref rK, .ref rT, .ref rS, .ref rU, .int lw, .int tx, .ref rL, .ref rX, .ref qR, .ref qB, .ref qP, .int qnb, .int qnp, .ref aR, .ref aB, .ref aP, .int nb, .int np, .ref aN, .ref rf, .int ho, .int br, .ref aK, .int ac, .long dw, .ref aE, .int u.1, .int u.2, .ref aA, .ref aH, .ref aI, .int hi])), (aP, .inl (cI, 20, .inl fPa))] t.heap ∧ va_D (va_A [(h0, .inr (11, [.int th, .ref tB, .int tsz, .int tat, .int wr, .int dp, .ref rC, .ref rV, .ref rD, .ref rK, .ref rT, .ref rS, .ref rU, .int lw, .int tx, .ref rL, .ref rX, .ref qR, .ref qB, .ref qP, .int qnb, .int qnp, .ref aR, .ref aB, .ref aP, .int nb, .int np, .ref aN, .ref rf, .int ho, .int br, .ref aK, .int ac, .long dw, .ref aE, .int sr, .int sf, .ref aA, .ref aH, .ref aI, .int hi])), (aP, .inl (cI, 20, .inl fPa))] sz) [(h0, .inr (11, [.int th, .ref tB, .int tsz, .int tat, .int wr, .int dp, .ref rC, .ref rV, .ref rD, .ref rK, .ref rT, .ref rS, .ref rU, .int lw, .int tx, .ref rL, .ref rX, .ref qR, .ref qB, .ref qP, .int qnb, .int qnp, .ref aR, .ref aB, .ref aP, .int nb, .int np, .ref aN, .ref rf, .int ho, .int br, .ref aK, .int ac, .long dw, .ref aE, .int u.1, .int u.2, .ref aA, .ref aH, .ref aI, .int hi])), (aP, .inl (cI, 20, .inl fPa))]) (va_A [(h0, .inr (11, [.int th, .ref tB, .int tsz, .int tat, .int wr, .int dp, .ref rC, .ref rV, .ref rD, .ref rK, .ref rT, .ref rS, .ref rU, .int lw, .int tx, .ref rL, .ref rX, .ref qR, .ref qB, .ref qP, .int qnb, .int qnp, .ref aR, .ref aB, .ref aP, .int nb, .int np, .ref aN, .ref rf, .int ho, .int br, .ref aK, .int ac, .long dw, .ref aE, .int sr, .int sf, .ref aA, .ref aH, .ref aI, .int hi])), (aP, .inl (cI, 20, .inl fPa))] sz)) 0 0 (va_A [(h0, .inr (11, [.int th, .ref tB, .int tsz, .int tat, .int wr, .int dp, .ref rC, .ref rV, .ref rD, .ref rK, .ref rT, .ref rS, .ref rU, .int lw, .int tx, .ref rL, .ref rX, .ref qR, .ref qB, .ref qP, .int qnb, .int qnp, .ref aR, .ref aB, .ref aP, .int nb, .int np, .ref aN, .ref rf, .int ho, .int br, .ref aK, .int ac, .long dw, .ref aE, .int sr, .int sf, .ref aA, .ref aH, .ref aI, .int hi])), (aP, .inl (cI, 20, .inl fPa))] sz) := by
  refine Met.ofW (cc := cX11_cheapest) (maxL := 3) (ret := (some .int)) (by decide) rfl ?_
  intro p e s m args below meth c s₁ B hml hv
  have y_ac : zHid (0 ≤ ac.toInt ∧ ac.toInt ≤ 40) := n_ac
  have y_hi : zHid (0 ≤ hi.toInt ∧ hi.toInt ≤ 1) := n_hi
  have y_ho : zHid ((-1) ≤ ho.toInt ∧ ho.toInt ≤ 3) := n_ho
  have y_lw : zHid (0 ≤ lw.toInt ∧ lw.toInt ≤ 4) := n_lw
  have y_qnb : zHid (0 ≤ qnb.toInt ∧ qnb.toInt ≤ 6) := n_qnb
  have y_qnp : zHid (0 ≤ qnp.toInt ∧ qnp.toInt ≤ 5) := n_qnp
  have y_tat : zHid (0 ≤ tat.toInt ∧ tat.toInt ≤ 260) := n_tat
  have y_tsz : zHid (0 ≤ tsz.toInt ∧ tsz.toInt ≤ 240) := n_tsz
  have y_wr : zHid ((-1) ≤ wr.toInt ∧ wr.toInt ≤ 260) := n_wr
  clear n_ac n_hi n_ho n_lw n_qnb n_qnp n_tat n_tsz n_wr
  obtain ⟨hargs, hsz, hP, hK, hT⟩ := hv
  have hx := B.exec
  have hb := B.bytes
  have hr := B.returns
  have hts : ∀ w ∈ wA, w.before args s = true := fun w h => atoms_spec (ws := .code yX11_cheapest cX11_cheapest 3 (some .int) :: wA) B.pre w (List.mem_cons_of_mem _ h)
  have hown : s.vm.findClass RX11 = some m.cls := findClass_of_methodNamed B.named
  have hlocks := B.notSynchronized
  subst hsz
  have hD := hT.self (sz := s.heap.size)
  generalize hAe : va_A [(h0, .inr (11, [.int th, .ref tB, .int tsz, .int tat, .int wr, .int dp, .ref rC, .ref rV, .ref rD, .ref rK, .ref rT, .ref rS, .ref rU, .int lw, .int tx, .ref rL, .ref rX, .ref qR, .ref qB, .ref qP, .int qnb, .int qnp, .ref aR, .ref aB, .ref aP, .int nb, .int np, .ref aN, .ref rf, .int ho, .int br, .ref aK, .int ac, .long dw, .ref aE, .int sr, .int sf, .ref aA, .ref aH, .ref aI, .int hi])), (aP, .inl (cI, 20, .inl fPa))] s.heap.size = A at hD ⊢
  have hA : ∀ q : Nat, s.heap.size ≤ q → A q := fun q h => by rw [← hAe]; exact Or.inr h
  have hl := lv_entry ([.ref h0, .int p0, .int p1]) (n := 3) (Nat.le_of_ble_eq_true rfl)
  rw [show entryFrame m args 3 = entryFrame m ([.ref h0, .int p0, .int p1] : List Value).toArray 3 by rw [hargs], lg_entry_eq]
  generalize (lg_sl ([.ref h0, .int p0, .int p1]) ++ List.replicate (3 - (lg_sl ([.ref h0, .int p0, .int p1])).length) Slot.unset).toArray = ls at hl ⊢
  have hl : lv_has ls 3 [(0, .ref h0), (1, .int p0), (2, .int p1)] := hl
  refine zstart (fun H hH => ?_)
  rw [← hH] at hP
  have hS : va_S A s.heap H [] := by rw [hH]; exact va_S.rf
  generalize ([] : List Loc) = locs at hS ⊢
  refine zgen (fun R Q hR hQ => ?_)
  refine lv_aload_n hx hb dX11_cheapest_0 rfl (lv_at hl 0 rfl) ?_
  refine va_get (D := (dC, dI)) (ci := 11) (v := .int nb) (C := RX11) (T := TX11) (N := 41) hx hb hts iX11 hown hK hP 0 rfl rfl 25 (by decide) (hts _ qw1152) (fun _ h9 => h9) rfl dX11_cheapest_1 ?_
  refine lv_if_eq (tgt := 32) hx hb dX11_cheapest_4 (by decide) (fun c4 => ?_) (fun c4 => ?_)
  · have c4 : nb.toInt = 0 := z5 rfl (by decide) c4
    refine lv_iconst (v := (-1)) hx hb dX11_cheapest_32 (by decide) ?_
    have zr0 : ((-1) : Int32).toInt = (-1) := by decide
    rw [hQ]
    exact W.iret (v := ((-1))) hx hb hr (fun t ht hW => ⟨⟨(-1), (sr, sf), rfl, (by (try dsimp only); exact fun kc kT q_fR q_fBr q_fN q_fKp q_frf hc hb h => by unfold sV_che; rw [if_neg (fun z => by obtain ⟨z1, z2, z3, -⟩ := z; omega)]; decide), ⟨by rw [ht]; exact hP, hD⟩⟩, hS.F ht⟩) hS.2.2 dX11_cheapest_33
  · have c4 : ¬ nb.toInt = 0 := z6 rfl (by decide) c4
    refine lv_iload_n hx hb dX11_cheapest_7 rfl (lv_at hl 1 rfl) ?_
    refine lv_iconst (v := 1) hx hb dX11_cheapest_8 (by decide) ?_
    refine lv_iconst (v := 1) hx hb dX11_cheapest_9 (by decide) ?_
    refine lv_aload_n hx hb dX11_cheapest_10 rfl (lv_at hl 0 rfl) ?_
    refine va_get (D := (dC, dI)) (ci := 11) (v := .int nb) (C := RX11) (T := TX11) (N := 41) hx hb hts iX11 hown hK hP 0 rfl rfl 25 (by decide) (hts _ qw1152) (fun _ h9 => h9) rfl dX11_cheapest_11 ?_
    refine lv_ishl hx hb dX11_cheapest_14 ?_
    refine lv_topi (fun v14 e14 => ?_)
    have i14 : v14.toInt = pw2 nb.toInt.toNat ∧ 1 ≤ v14.toInt ∧ v14.toInt ≤ 64 := zpw e14 (by omega) (by omega)
    refine lv_iconst (v := 1) hx hb dX11_cheapest_15 (by decide) ?_
    refine lv_isub hx hb dX11_cheapest_16 ?_
    refine lv_topi (fun v16 e16 => ?_)
    have i16 : v16.toInt = v14.toInt - 1 := zsub e16 rfl (by decide) (by omega) (by omega)
    have hPc : va_P (dC, dI) vwCl [] H := zP0
    have hDc : va_D (fun _ => True) [] := zD0
    have hFc := zfr hS hA
    refine va_calli (va_runS (As := [.int p0, .int 1, .int v16]) (rest := []) ⟨hx, hb, hml, hown, hts⟩ (g_X11_in l dC dI cI cJ p0 1 v16 H.size) (cwS 3 hts (zgS qw1305 qw1306 qw108 qw1307) rfl rfl rfl hd_X11_in ⟨by rw [hR]; exact Nat.le_of_ble_eq_true rfl, by rw [hR]; exact Nat.le_of_ble_eq_true rfl⟩) (zPS hPc hK hDc) rfl rfl hl.1 rfl (lv_room (Nat.le_of_ble_eq_true rfl)) dX11_cheapest_17 ⟨Nat.zero_le _, Nat.zero_le _⟩) hS (fun q _ h => hFc q h) hFc (fun v17 u17 t H locs ht hvm hw hB hz1 hk1 hS9 => ?_)
    replace hP := zkeep hP hk1
    replace hS := hS9
    clear hPc hDc hFc hk1 hz1 hvm hS9
    have zn17_1 : (1 : Int32).toInt = 1 := by decide
    obtain ⟨f17_0, f17_1, f17_2, f17_3⟩ : (0 ≤ v17.toInt) ∧ (v17.toInt ≤ 1) ∧ (¬ v17.toInt = 0 → ((1 : Int32).toInt ≤ p0.toInt ∧ p0.toInt ≤ v16.toInt)) ∧ (v17.toInt = 0 → (p0.toInt < (1 : Int32).toInt ∨ v16.toInt < p0.toInt)) := hw
    refine lv_if_eq (tgt := 32) hx hb dX11_cheapest_20 (by decide) (fun c20 => ?_) (fun c20 => ?_)
    · have c20 : v17.toInt = 0 := z5 rfl (by decide) c20
      refine lv_iconst (v := (-1)) hx hb dX11_cheapest_32 (by decide) ?_
      have zr0 : ((-1) : Int32).toInt = (-1) := by decide
      rw [hQ]
      exact W.iret (v := ((-1))) hx hb hr (fun t ht hW => ⟨⟨(-1), (sr, sf), rfl, (by (try dsimp only); exact fun kc kT q_fR q_fBr q_fN q_fKp q_frf hc hb h => by unfold sV_che; rw [if_neg (fun z => by obtain ⟨z1, z2, z3, -⟩ := z; omega)]; decide), ⟨by rw [ht]; exact hP, hD⟩⟩, hS.F ht⟩) hS.2.2 dX11_cheapest_33
    · have c20 : ¬ v17.toInt = 0 := z6 rfl (by decide) c20
      refine lv_iload_n hx hb dX11_cheapest_23 rfl (lv_at hl 2 rfl) ?_
      refine lv_iconst (v := 0) hx hb dX11_cheapest_24 (by decide) ?_
      refine lv_iconst (v := 1) hx hb dX11_cheapest_25 (by decide) ?_
      have hPc : va_P (dC, dI) vwCl [] H := zP0
      have hDc : va_D (fun _ => True) [] := zD0
      have hFc := zfr hS hA
      refine va_calli (va_runS (As := [.int p1, .int 0, .int 1]) (rest := []) ⟨hx, hb, hml, hown, hts⟩ (g_X11_in l dC dI cI cJ p1 0 1 H.size) (cwS 3 hts (zgS qw1305 qw1306 qw108 qw1307) rfl rfl rfl hd_X11_in ⟨by rw [hR]; exact Nat.le_of_ble_eq_true rfl, by rw [hR]; exact Nat.le_of_ble_eq_true rfl⟩) (zPS hPc hK hDc) rfl rfl hl.1 rfl (lv_room (Nat.le_of_ble_eq_true rfl)) dX11_cheapest_26 ⟨Nat.zero_le _, Nat.zero_le _⟩) hS (fun q _ h => hFc q h) hFc (fun v26 u26 t H locs ht hvm hw hB hz1 hk1 hS9 => ?_)
      replace hP := zkeep hP hk1
      replace hS := hS9
      clear hPc hDc hFc hk1 hz1 hvm hS9
      have zn26_0 : (0 : Int32).toInt = 0 := by decide
      have zn26_1 : (1 : Int32).toInt = 1 := by decide
      obtain ⟨f26_0, f26_1, f26_2, f26_3⟩ : (0 ≤ v26.toInt) ∧ (v26.toInt ≤ 1) ∧ (¬ v26.toInt = 0 → ((0 : Int32).toInt ≤ p1.toInt ∧ p1.toInt ≤ (1 : Int32).toInt)) ∧ (v26.toInt = 0 → (p1.toInt < (0 : Int32).toInt ∨ (1 : Int32).toInt < p1.toInt)) := hw
      refine lv_if_ne (tgt := 34) hx hb dX11_cheapest_29 (by decide) (fun c29 => ?_) (fun c29 => ?_)
      · have c29 : ¬ v26.toInt = 0 := z6 rfl (by decide) c29
        refine lv_aload_n hx hb dX11_cheapest_34 rfl (lv_at hl 0 rfl) ?_
        refine lv_iconst (v := (-1)) hx hb dX11_cheapest_35 (by decide) ?_
        refine va_put (D := (dC, dI)) (ci := 11) (v := .int (-1)) (ty := .int) (C := RX11) (T := TX11) (N := 41) hx hb hts iX11 tyX11 tyX11_ok nmX11 hown hK hP hD hS 0 rfl rfl 35 (by decide) (hts _ qw1162) (fun _ h9 => h9) rfl (by decide +kernel) rfl rfl (Nat.le_of_ble_eq_true rfl) dX11_cheapest_36 (fun H locs hP9 hD9 hS9 => ?_)
        clear hP hD hS
        obtain ⟨hP, hD⟩ := zst (wX := [(h0, .inr (11, [.int th, .ref tB, .int tsz, .int tat, .int wr, .int dp, .ref rC, .ref rV, .ref rD, .ref rK, .ref rT, .ref rS, .ref rU, .int lw, .int tx, .ref rL, .ref rX, .ref qR, .ref qB, .ref qP, .int qnb, .int qnp, .ref aR, .ref aB, .ref aP, .int nb, .int np, .ref aN, .ref rf, .int ho, .int br, .ref aK, .int ac, .long dw, .ref aE, .int (-1), .int sf, .ref aA, .ref aH, .ref aI, .int hi])), (aP, .inl (cI, 20, .inl fPa))]) hP9 hD9 rfl
        have hS := hS9
        clear hP9 hD9 hS9
        refine lv_aload_n hx hb dX11_cheapest_39 rfl (lv_at hl 0 rfl) ?_
        refine lv_iconst (v := 0) hx hb dX11_cheapest_40 (by decide) ?_
        refine lv_iload_n hx hb dX11_cheapest_41 rfl (lv_at hl 1 rfl) ?_
        refine lv_iconst (v := 0) hx hb dX11_cheapest_42 (by decide) ?_
        refine lv_iconst (v := 0) hx hb dX11_cheapest_43 (by decide) ?_
        refine lv_iconst (v := 0) hx hb dX11_cheapest_44 (by decide) ?_
        obtain ⟨hPc, hDc, hFc⟩ := zc3 (wc := [(h0, .inr (11, [.int th, .ref tB, .int tsz, .int tat, .int wr, .int dp, .ref rC, .ref rV, .ref rD, .ref rK, .ref rT, .ref rS, .ref rU, .int lw, .int tx, .ref rL, .ref rX, .ref qR, .ref qB, .ref qP, .int qnb, .int qnp, .ref aR, .ref aB, .ref aP, .int nb, .int np, .ref aN, .ref rf, .int ho, .int br, .ref aK, .int ac, .long dw, .ref aE, .int (-1), .int sf, .ref aA, .ref aH, .ref aI, .int hi])), (aP, .inl (cI, 20, .inl fPa))]) hP hD hS hA [0, 1] (by decide +kernel) rfl
        refine va_callv (va_runV (As := [.int 0, .int p0, .int 0, .int 0, .int 0]) (rest := []) ⟨hx, hb, hml, hown, hts⟩ (g_X11_trySends_0 l dC dI cI cJ h0 p0 0 0 0 th tB tsz tat wr dp rC rV rD rK rT rS rU lw tx rL rX qR qB qP qnb qnp aR aB aP nb np aN rf ho br aK ac dw aE ((-1)) sf aA aH aI hi fPa H.size y_ac y_hi y_ho y_lw n_nb n_np y_qnb y_qnp y_tat y_tsz y_wr) (cwV 5 hts (zgV qw1683 qw1685 qw91 qw108 qw1686) rfl rfl rfl hd_X11_trySends ⟨by rw [hR]; exact Nat.le_of_ble_eq_true rfl, by rw [hR]; exact Nat.le_of_ble_eq_true rfl⟩) (zPV hPc hK hDc (va_recv (q := (RX11, TX11, 41)) hK hP (ci := 11) (q0 := 0) rfl rfl)) rfl rfl hl.1 rfl (lv_room (Nat.le_of_ble_eq_true rfl)) dX11_cheapest_45 ⟨Nat.zero_le _, Nat.zero_le _⟩) hS (fun q _ h => hFc q h) hFc (fun u45 t H locs ht hvm hw hB hz1 hk1 hS9 => ?_)
        obtain ⟨u45_0, u45_1⟩ := u45
        obtain ⟨hP9, hD9⟩ := zj2 (wX := [(h0, .inr (11, [.int th, .ref tB, .int tsz, .int tat, .int wr, .int dp, .ref rC, .ref rV, .ref rD, .ref rK, .ref rT, .ref rS, .ref rU, .int lw, .int tx, .ref rL, .ref rX, .ref qR, .ref qB, .ref qP, .int qnb, .int qnp, .ref aR, .ref aB, .ref aP, .int nb, .int np, .ref aN, .ref rf, .int ho, .int br, .ref aK, .int ac, .long dw, .ref aE, .int u45_0, .int u45_1, .ref aA, .ref aH, .ref aI, .int hi])), (aP, .inl (cI, 20, .inl fPa))]) hP hD hk1 hFc ht hB [0, 1] [(true, 0), (true, 1)] rfl (by decide +kernel) (by decide +kernel) rfl
        clear hP hD hS hPc hDc hFc hB hk1 hz1 hvm
        have hP := hP9
        have hD := hD9
        have hS := hS9
        clear hP9 hD9 hS9
        have zn45_m1 : (-1 : Int32).toInt = -1 := by decide
        have f45_0 : (∀ (kc : zK3) (s : List Nat), chP fPa np.toInt kc → chI kc np.toInt.toNat 0 0 0 s 0 → (u45_0.toInt, u45_1.toInt) = chX (chf kc) np.toInt.toNat (chBt p0) (nb.toInt.toNat - 0) 0 s ((-1 : Int32).toInt, sf.toInt)) := hw
        have F45 := f45_0
        refine lv_aload_n hx hb dX11_cheapest_48 rfl (lv_at hl 0 rfl) ?_
        refine va_get (D := (dC, dI)) (ci := 11) (v := .int u45_0) (C := RX11) (T := TX11) (N := 41) hx hb hts iX11 hown hK hP 0 rfl rfl 35 (by decide) (hts _ qw1162) (fun _ h9 => h9) rfl dX11_cheapest_49 ?_
        refine lv_iconst (v := (-1)) hx hb dX11_cheapest_52 (by decide) ?_
        refine lv_icmp_eq (tgt := 61) hx hb dX11_cheapest_53 (by decide) (fun c53 => ?_) (fun c53 => ?_)
        · have c53 : u45_0.toInt = (-1) := z5 rfl (by decide) c53
          refine lv_aload_n hx hb dX11_cheapest_61 rfl (lv_at hl 0 rfl) ?_
          refine va_get (D := (dC, dI)) (ci := 11) (v := .int u45_0) (C := RX11) (T := TX11) (N := 41) hx hb hts iX11 hown hK hP 0 rfl rfl 35 (by decide) (hts _ qw1162) (fun _ h9 => h9) rfl dX11_cheapest_62 ?_
          refine lv_goto (tgt := 72) hx hb dX11_cheapest_65 (by decide) ?_
          rw [hQ]
          exact W.iret (v := u45_0) hx hb hr (fun t ht hW => ⟨⟨u45_0, (u45_0, u45_1), rfl, (by (try dsimp only); exact fun kc kT q_fR q_fBr q_fN q_fKp q_frf hc hb h => by have hP := chP_of hc hb (by omega) (by omega); have g := F45 kc [] hP chI_0; exact sV_cheR ⟨by omega, by omega⟩ (by omega) ⟨by omega, by omega⟩ ⟨by omega, by omega⟩ g (by omega)), ⟨by rw [ht]; exact hP, hD⟩⟩, hS.F ht⟩) hS.2.2 dX11_cheapest_72
        · have c53 : ¬ u45_0.toInt = (-1) := z6 rfl (by decide) c53
          refine lv_iload_n hx hb dX11_cheapest_56 rfl (lv_at hl 2 rfl) ?_
          refine lv_iconst (v := 1) hx hb dX11_cheapest_57 (by decide) ?_
          refine lv_icmp_ne (tgt := 68) hx hb dX11_cheapest_58 (by decide) (fun c58 => ?_) (fun c58 => ?_)
          · have c58 : ¬ p1.toInt = 1 := z6 rfl (by decide) c58
            refine lv_aload_n hx hb dX11_cheapest_68 rfl (lv_at hl 0 rfl) ?_
            refine va_get (D := (dC, dI)) (ci := 11) (v := .int u45_1) (C := RX11) (T := TX11) (N := 41) hx hb hts iX11 hown hK hP 0 rfl rfl 36 (by decide) (hts _ qw1163) (fun _ h9 => h9) rfl dX11_cheapest_69 ?_
            rw [hQ]
            exact W.iret (v := u45_1) hx hb hr (fun t ht hW => ⟨⟨u45_1, (u45_0, u45_1), rfl, (by (try dsimp only); exact fun kc kT q_fR q_fBr q_fN q_fKp q_frf hc hb h => by have hP := chP_of hc hb (by omega) (by omega); have g := F45 kc [] hP chI_0; exact sV_cheR ⟨by omega, by omega⟩ (by omega) ⟨by omega, by omega⟩ ⟨by omega, by omega⟩ g (by omega)), ⟨by rw [ht]; exact hP, hD⟩⟩, hS.F ht⟩) hS.2.2 dX11_cheapest_72
          · have c58 : p1.toInt = 1 := z5 rfl (by decide) c58
            refine lv_aload_n hx hb dX11_cheapest_61 rfl (lv_at hl 0 rfl) ?_
            refine va_get (D := (dC, dI)) (ci := 11) (v := .int u45_0) (C := RX11) (T := TX11) (N := 41) hx hb hts iX11 hown hK hP 0 rfl rfl 35 (by decide) (hts _ qw1162) (fun _ h9 => h9) rfl dX11_cheapest_62 ?_
            refine lv_goto (tgt := 72) hx hb dX11_cheapest_65 (by decide) ?_
            rw [hQ]
            exact W.iret (v := u45_0) hx hb hr (fun t ht hW => ⟨⟨u45_0, (u45_0, u45_1), rfl, (by (try dsimp only); exact fun kc kT q_fR q_fBr q_fN q_fKp q_frf hc hb h => by have hP := chP_of hc hb (by omega) (by omega); have g := F45 kc [] hP chI_0; exact sV_cheR ⟨by omega, by omega⟩ (by omega) ⟨by omega, by omega⟩ ⟨by omega, by omega⟩ g (by omega)), ⟨by rw [ht]; exact hP, hD⟩⟩, hS.F ht⟩) hS.2.2 dX11_cheapest_72
      · have c29 : v26.toInt = 0 := z5 rfl (by decide) c29
        refine lv_iconst (v := (-1)) hx hb dX11_cheapest_32 (by decide) ?_
        have zr0 : ((-1) : Int32).toInt = (-1) := by decide
        rw [hQ]
        exact W.iret (v := ((-1))) hx hb hr (fun t ht hW => ⟨⟨(-1), (sr, sf), rfl, (by (try dsimp only); exact fun kc kT q_fR q_fBr q_fN q_fKp q_frf hc hb h => by unfold sV_che; rw [if_neg (fun z => by obtain ⟨z1, z2, z3, -⟩ := z; omega)]; decide), ⟨by rw [ht]; exact hP, hD⟩⟩, hS.F ht⟩) hS.2.2 dX11_cheapest_33
set_option maxHeartbeats 4000000 in
set_option maxRecDepth 100000 in
theorem g_X11_feed (l : Launch) (dC : Nat → ClassId) (dI : Nat → Nat → Nat) (cI cJ : ClassId) (h0 : Nat) (p0 : Int32) (p1 : Int32) (p2 : Int32) (p3 : Int32) (p4 : Int32) (th : Int32) (tB : Nat) (tsz : Int32) (tat : Int32) (wr : Int32) (dp : Int32) (rC : Nat) (rV : Nat) (rD : Nat) (rK : Nat) (rT : Nat) (rS : Nat) (rU : Nat) (lw : Int32) (tx : Int32) (rL : Nat) (rX : Nat) (qR : Nat) (qB : Nat) (qP : Nat) (qnb : Int32) (qnp : Int32) (aR : Nat) (aB : Nat) (aP : Nat) (nb : Int32) (np : Int32) (aN : Nat) (rf : Nat) (ho : Int32) (br : Int32) (aK : Nat) (ac : Int32) (dw : Int64) (aE : Nat) (sr : Int32) (sf : Int32) (aA : Nat) (aH : Nat) (aI : Nat) (hi : Int32) (fB : Nat → Int32) (sz : Nat) (n_ac : 0 ≤ ac.toInt ∧ ac.toInt ≤ 40) (n_hi : 0 ≤ hi.toInt ∧ hi.toInt ≤ 1) (n_ho : (-1) ≤ ho.toInt ∧ ho.toInt ≤ 3) (n_lw : 0 ≤ lw.toInt ∧ lw.toInt ≤ 4) (n_nb : 0 ≤ nb.toInt ∧ nb.toInt ≤ 6) (n_np : 0 ≤ np.toInt ∧ np.toInt ≤ 5) (n_qnb : 0 ≤ qnb.toInt ∧ qnb.toInt ≤ 6) (n_qnp : 0 ≤ qnp.toInt ∧ qnp.toInt ≤ 5) (n_tat : 0 ≤ tat.toInt ∧ tat.toInt ≤ 260) (n_tsz : 0 ≤ tsz.toInt ∧ tsz.toInt ≤ 240) (n_wr : (-1) ≤ wr.toInt ∧ wr.toInt ≤ 260) (hty : zTy tsz fB)   : Met l yX11_feed (.code yX11_feed cX11_feed 9 (some .int) :: wA) ({ frames := 1, cells := 0, slots := 0, locals := 26 }) (zP (dC, dI) [(cI, .int), (cJ, .long)] [.ref h0, .int p0, .int p1, .int p2, .int p3, .int p4] sz [(h0, .inr (11, [.int th, .ref tB, .int tsz, .int tat, .int wr, .int dp, .ref rC, .ref rV, .ref rD, .ref rK, .ref rT, .ref rS, .ref rU, .int lw, .int tx, .ref rL, .ref rX, .ref qR, .ref qB, .ref qP, .int qnb, .int qnp, .ref aR, .ref aB, .ref aP, .int nb, .int np, .ref aN, .ref rf, .int ho, .int br, .ref aK, .int ac, .long dw, .ref aE, .int sr, .int sf, .ref aA, .ref aH, .ref aI, .int hi])), (tB, .inl (cI, 240, .inl fB))]) (va_Qi (fun (r : Int32) (u : Int32 × (Nat → Int32)) => ((-1) ≤ r.toInt) ∧ (r.toInt ≤ 240) ∧ (0 ≤ u.1.toInt) ∧ (u.1.toInt ≤ 240) ∧ (zFd fB tsz p0 p1 p2 p3 p4 r u.2 u.1) ∧ (zTy u.1 u.2)) (fun (u : Int32 × (Nat → Int32)) (t : State) => va_P (dC, dI) vwCl [(h0, .inr (11, [.int th, .ref tB, .int u.1, .int tat, .int wr, .int dp, .ref rC, .ref rV, .ref rD, .ref rK, .ref rT, .ref rS, .ref rU, .int lw, .int tx, .ref rL, .ref rX, .ref qR, .ref qB, .ref qP, .int qnb, .int qnp, .ref aR, .ref aB, .ref aP, .int nb, .int np, .ref aN, .ref rf, .int ho, .int br, .ref aK, .int ac, .long dw, .ref aE, .int sr, .int sf, .ref aA, .ref aH, .ref aI, .int hi])), (tB, .inl (cI, 240, .inl u.2))] t.heap ∧ va_D (va_A [(h0, .inr (11, [.int th, .ref tB, .int tsz, .int tat, .int wr, .int dp, .ref rC, .ref rV, .ref rD, .ref rK, .ref rT, .ref rS, .ref rU, .int lw, .int tx, .ref rL, .ref rX, .ref qR, .ref qB, .ref qP, .int qnb, .int qnp, .ref aR, .ref aB, .ref aP, .int nb, .int np, .ref aN, .ref rf, .int ho, .int br, .ref aK, .int ac, .long dw, .ref aE, .int sr, .int sf, .ref aA, .ref aH, .ref aI, .int hi])), (tB, .inl (cI, 240, .inl fB))] sz) [(h0, .inr (11, [.int th, .ref tB, .int u.1, .int tat, .int wr, .int dp, .ref rC, .ref rV, .ref rD, .ref rK, .ref rT, .ref rS, .ref rU, .int lw, .int tx, .ref rL, .ref rX, .ref qR, .ref qB, .ref qP, .int qnb, .int qnp, .ref aR, .ref aB, .ref aP, .int nb, .int np, .ref aN, .ref rf, .int ho, .int br, .ref aK, .int ac, .long dw, .ref aE, .int sr, .int sf, .ref aA, .ref aH, .ref aI, .int hi])), (tB, .inl (cI, 240, .inl u.2))]) (va_A [(h0, .inr (11, [.int th, .ref tB, .int tsz, .int tat, .int wr, .int dp, .ref rC, .ref rV, .ref rD, .ref rK, .ref rT, .ref rS, .ref rU, .int lw, .int tx, .ref rL, .ref rX, .ref qR, .ref qB, .ref qP, .int qnb, .int qnp, .ref aR, .ref aB, .ref aP, .int nb, .int np, .ref aN, .ref rf, .int ho, .int br, .ref aK, .int ac, .long dw, .ref aE, .int sr, .int sf, .ref aA, .ref aH, .ref aI, .int hi])), (tB, .inl (cI, 240, .inl fB))] sz)) 0 0 (va_A [(h0, .inr (11, [.int th, .ref tB, .int tsz, .int tat, .int wr, .int dp, .ref rC, .ref rV, .ref rD, .ref rK, .ref rT, .ref rS, .ref rU, .int lw, .int tx, .ref rL, .ref rX, .ref qR, .ref qB, .ref qP, .int qnb, .int qnp, .ref aR, .ref aB, .ref aP, .int nb, .int np, .ref aN, .ref rf, .int ho, .int br, .ref aK, .int ac, .long dw, .ref aE, .int sr, .int sf, .ref aA, .ref aH, .ref aI, .int hi])), (tB, .inl (cI, 240, .inl fB))] sz) := by
  refine Met.ofW (cc := cX11_feed) (maxL := 9) (ret := (some .int)) (by decide) rfl ?_
  intro p e s m args below meth c s₁ B hml hv
  have y_ac : zHid (0 ≤ ac.toInt ∧ ac.toInt ≤ 40) := n_ac
  have y_hi : zHid (0 ≤ hi.toInt ∧ hi.toInt ≤ 1) := n_hi
  have y_ho : zHid ((-1) ≤ ho.toInt ∧ ho.toInt ≤ 3) := n_ho
  have y_lw : zHid (0 ≤ lw.toInt ∧ lw.toInt ≤ 4) := n_lw
  have y_nb : zHid (0 ≤ nb.toInt ∧ nb.toInt ≤ 6) := n_nb
  have y_np : zHid (0 ≤ np.toInt ∧ np.toInt ≤ 5) := n_np
  have y_qnb : zHid (0 ≤ qnb.toInt ∧ qnb.toInt ≤ 6) := n_qnb
  have y_qnp : zHid (0 ≤ qnp.toInt ∧ qnp.toInt ≤ 5) := n_qnp
  have y_tat : zHid (0 ≤ tat.toInt ∧ tat.toInt ≤ 260) := n_tat
  have y_wr : zHid ((-1) ≤ wr.toInt ∧ wr.toInt ≤ 260) := n_wr
  clear n_ac n_hi n_ho n_lw n_nb n_np n_qnb n_qnp n_tat n_wr
  obtain ⟨hargs, hsz, hP, hK, hT⟩ := hv
  have hx := B.exec
  have hb := B.bytes
  have hr := B.returns
  have hts : ∀ w ∈ wA, w.before args s = true := fun w h => atoms_spec (ws := .code yX11_feed cX11_feed 9 (some .int) :: wA) B.pre w (List.mem_cons_of_mem _ h)
  have hown : s.vm.findClass RX11 = some m.cls := findClass_of_methodNamed B.named
  have hlocks := B.notSynchronized
  subst hsz
  have hD := hT.self (sz := s.heap.size)
  generalize hAe : va_A [(h0, .inr (11, [.int th, .ref tB, .int tsz, .int tat, .int wr, .int dp, .ref rC, .ref rV, .ref rD, .ref rK, .ref rT, .ref rS, .ref rU, .int lw, .int tx, .ref rL, .ref rX, .ref qR, .ref qB, .ref qP, .int qnb, .int qnp, .ref aR, .ref aB, .ref aP, .int nb, .int np, .ref aN, .ref rf, .int ho, .int br, .ref aK, .int ac, .long dw, .ref aE, .int sr, .int sf, .ref aA, .ref aH, .ref aI, .int hi])), (tB, .inl (cI, 240, .inl fB))] s.heap.size = A at hD ⊢
  have hA : ∀ q : Nat, s.heap.size ≤ q → A q := fun q h => by rw [← hAe]; exact Or.inr h
  have hl := lv_entry ([.ref h0, .int p0, .int p1, .int p2, .int p3, .int p4]) (n := 9) (Nat.le_of_ble_eq_true rfl)
  rw [show entryFrame m args 9 = entryFrame m ([.ref h0, .int p0, .int p1, .int p2, .int p3, .int p4] : List Value).toArray 9 by rw [hargs], lg_entry_eq]
  generalize (lg_sl ([.ref h0, .int p0, .int p1, .int p2, .int p3, .int p4]) ++ List.replicate (9 - (lg_sl ([.ref h0, .int p0, .int p1, .int p2, .int p3, .int p4])).length) Slot.unset).toArray = ls at hl ⊢
  have hl : lv_has ls 9 [(0, .ref h0), (1, .int p0), (2, .int p1), (3, .int p2), (4, .int p3), (5, .int p4)] := hl
  refine zstart (fun H hH => ?_)
  rw [← hH] at hP
  have hS : va_S A s.heap H [] := by rw [hH]; exact va_S.rf
  generalize ([] : List Loc) = locs at hS ⊢
  refine zgen (fun R Q hR hQ => ?_)
  have q0 : zBc p0 p1 p2 p3 p4 (0 : Int32).toInt.toNat = 0 := rfl
  refine lv_iconst (v := 0) hx hb dX11_feed_0 (by decide) ?_
  refine lv_istore (lv' := [(6, .int 0), (0, .ref h0), (1, .int p0), (2, .int p1), (3, .int p2), (4, .int p3), (5, .int p4)]) hx hb dX11_feed_1 hl (by decide) rfl (fun ls hl => ?_)
  refine lv_iconst (v := 0) hx hb dX11_feed_3 (by decide) ?_
  have J6 : ∀ (n : Nat) (m6_L_6 : Int32) (m6_L_7 : Int32), (0 ≤ m6_L_6.toInt ∧ m6_L_6.toInt ≤ 20) → (0 ≤ m6_L_7.toInt ∧ m6_L_7.toInt ≤ 20) → (m6_L_6.toInt = (zBc p0 p1 p2 p3 p4 m6_L_7.toInt.toNat : Int) ∧ 0 ≤ m6_L_6.toInt ∧ m6_L_6.toInt ≤ m6_L_7.toInt) → (21 - m6_L_7.toInt).toNat = n → ∀ (H : Heap) (locs : List Loc) (ls : Array Slot), va_P (dC, dI) vwCl [(h0, .inr (11, [.int th, .ref tB, .int tsz, .int tat, .int wr, .int dp, .ref rC, .ref rV, .ref rD, .ref rK, .ref rT, .ref rS, .ref rU, .int lw, .int tx, .ref rL, .ref rX, .ref qR, .ref qB, .ref qP, .int qnb, .int qnp, .ref aR, .ref aB, .ref aP, .int nb, .int np, .ref aN, .ref rf, .int ho, .int br, .ref aK, .int ac, .long dw, .ref aE, .int sr, .int sf, .ref aA, .ref aH, .ref aI, .int hi])), (tB, .inl (cI, 240, .inl fB))] H → va_D A [(h0, .inr (11, [.int th, .ref tB, .int tsz, .int tat, .int wr, .int dp, .ref rC, .ref rV, .ref rD, .ref rK, .ref rT, .ref rS, .ref rU, .int lw, .int tx, .ref rL, .ref rX, .ref qR, .ref qB, .ref qP, .int qnb, .int qnp, .ref aR, .ref aB, .ref aP, .int nb, .int np, .ref aN, .ref rf, .int ho, .int br, .ref aK, .int ac, .long dw, .ref aE, .int sr, .int sf, .ref aA, .ref aH, .ref aI, .int hi])), (tB, .inl (cI, 240, .inl fB))] → va_S A s.heap H locs → lv_has ls 9 [(7, .int m6_L_7), (6, .int m6_L_6), (0, .ref h0), (1, .int p0), (2, .int p1), (3, .int p2), (4, .int p3), (5, .int p4)] → W p l e R s m args below meth c H locs 0 0 Q (F0 m 6 ls []) := by
    intro n6
    induction n6 using Nat.strongRecOn with
    | _ n6 ih6 =>
      intro m6_L_6 m6_L_7 jf6_0 jf6_1 jf6_2 hmu6 H locs ls hP hD hS hl
      refine lv_iload hx hb dX11_feed_6 (lv_at hl 0 rfl) ?_
      refine lv_bipush (v := 20) hx hb dX11_feed_8 (by decide) ?_
      refine lv_icmp_ge (tgt := 44) hx hb dX11_feed_10 (by decide) (fun c10 => ?_) (fun c10 => ?_)
      · have c10 : 20 ≤ m6_L_7.toInt := z3 (by decide) rfl c10
        have q44 : m6_L_7.toInt.toNat = 20 := by omega
        have q44b : 0 ≤ m6_L_6.toInt ∧ m6_L_6.toInt ≤ 20 := by omega
        have q44c : zBc p0 p1 p2 p3 p4 m6_L_7.toInt.toNat = zBc p0 p1 p2 p3 p4 20 := by rw [q44]
        refine lv_aload_n hx hb dX11_feed_44 rfl (lv_at hl 2 rfl) ?_
        refine va_get (D := (dC, dI)) (ci := 11) (v := .int tsz) (C := RX11) (T := TX11) (N := 41) hx hb hts iX11 hown hK hP 0 rfl rfl 2 (by decide) (hts _ qw1129) (fun _ h9 => h9) rfl dX11_feed_45 ?_
        refine lv_iload hx hb dX11_feed_48 (lv_at hl 1 rfl) ?_
        refine lv_iadd hx hb dX11_feed_50 ?_
        refine lv_topi (fun v50 e50 => ?_)
        have i50 : v50.toInt = tsz.toInt + m6_L_6.toInt := zadd e50 rfl rfl (by omega) (by omega)
        refine lv_sipush (v := 240) hx hb dX11_feed_51 (by decide) ?_
        refine lv_icmp_le (tgt := 59) hx hb dX11_feed_54 (by decide) (fun c54 => ?_) (fun c54 => ?_)
        · have c54 : v50.toInt ≤ 240 := z3 rfl (by decide) c54
          refine lv_iconst (v := 0) hx hb dX11_feed_59 (by decide) ?_
          have J62 : ∀ (n : Nat) (m62_A_tB : Nat → Int32) (m62_F_h0_2 : Int32) (m62_L_7 : Int32), (0 ≤ m62_F_h0_2.toInt ∧ m62_F_h0_2.toInt ≤ 240) → (0 ≤ m62_L_7.toInt ∧ m62_L_7.toInt ≤ 20) → (m62_F_h0_2.toInt = tsz.toInt + (zBc p0 p1 p2 p3 p4 m62_L_7.toInt.toNat : Int)) → (zFr fB tsz p0 p1 p2 p3 p4 m62_A_tB m62_F_h0_2 m62_L_7) → (zTy m62_F_h0_2 m62_A_tB) → (21 - m62_L_7.toInt).toNat = n → ∀ (H : Heap) (locs : List Loc) (ls : Array Slot), va_P (dC, dI) vwCl [(h0, .inr (11, [.int th, .ref tB, .int m62_F_h0_2, .int tat, .int wr, .int dp, .ref rC, .ref rV, .ref rD, .ref rK, .ref rT, .ref rS, .ref rU, .int lw, .int tx, .ref rL, .ref rX, .ref qR, .ref qB, .ref qP, .int qnb, .int qnp, .ref aR, .ref aB, .ref aP, .int nb, .int np, .ref aN, .ref rf, .int ho, .int br, .ref aK, .int ac, .long dw, .ref aE, .int sr, .int sf, .ref aA, .ref aH, .ref aI, .int hi])), (tB, .inl (cI, 240, .inl m62_A_tB))] H → va_D A [(h0, .inr (11, [.int th, .ref tB, .int m62_F_h0_2, .int tat, .int wr, .int dp, .ref rC, .ref rV, .ref rD, .ref rK, .ref rT, .ref rS, .ref rU, .int lw, .int tx, .ref rL, .ref rX, .ref qR, .ref qB, .ref qP, .int qnb, .int qnp, .ref aR, .ref aB, .ref aP, .int nb, .int np, .ref aN, .ref rf, .int ho, .int br, .ref aK, .int ac, .long dw, .ref aE, .int sr, .int sf, .ref aA, .ref aH, .ref aI, .int hi])), (tB, .inl (cI, 240, .inl m62_A_tB))] → va_S A s.heap H locs → lv_has ls 9 [(7, .int m62_L_7), (6, .int m6_L_6), (0, .ref h0), (1, .int p0), (2, .int p1), (3, .int p2), (4, .int p3), (5, .int p4)] → W p l e R s m args below meth c H locs 0 0 Q (F0 m 62 ls []) := by
            intro n62
            induction n62 using Nat.strongRecOn with
            | _ n62 ih62 =>
              intro m62_A_tB m62_F_h0_2 m62_L_7 jf62_0 jf62_1 jf62_2 jv62_0 jv62_1 hmu62 H locs ls hP hD hS hl
              refine lv_iload hx hb dX11_feed_62 (lv_at hl 0 rfl) ?_
              refine lv_bipush (v := 20) hx hb dX11_feed_64 (by decide) ?_
              refine lv_icmp_ge (tgt := 115) hx hb dX11_feed_66 (by decide) (fun c66 => ?_) (fun c66 => ?_)
              · have c66 : 20 ≤ m62_L_7.toInt := z3 (by decide) rfl c66
                refine lv_aload_n hx hb dX11_feed_115 rfl (lv_at hl 2 rfl) ?_
                refine va_get (D := (dC, dI)) (ci := 11) (v := .int m62_F_h0_2) (C := RX11) (T := TX11) (N := 41) hx hb hts iX11 hown hK hP 0 rfl rfl 2 (by decide) (hts _ qw1129) (fun _ h9 => h9) rfl dX11_feed_116 ?_
                rw [hQ]
                exact W.iret (v := m62_F_h0_2) hx hb hr (fun t ht hW => ⟨⟨m62_F_h0_2, (m62_F_h0_2, m62_A_tB), rfl, ⟨by (try dsimp only); omega, by (try dsimp only); omega, by (try dsimp only); omega, by (try dsimp only); omega, by (try dsimp only); exact zfrB jv62_0 (by omega) (by omega), by (try dsimp only); exact jv62_1⟩, ⟨by rw [ht]; exact hP, hD⟩⟩, hS.F ht⟩) hS.2.2 dX11_feed_119
              · have c66 : m62_L_7.toInt < 20 := z4 (by decide) rfl c66
                refine lv_iload_n hx hb dX11_feed_69 rfl (lv_at hl 3 rfl) ?_
                refine lv_iload_n hx hb dX11_feed_70 rfl (lv_at hl 4 rfl) ?_
                refine lv_iload_n hx hb dX11_feed_71 rfl (lv_at hl 5 rfl) ?_
                refine lv_iload hx hb dX11_feed_72 (lv_at hl 6 rfl) ?_
                refine lv_iload hx hb dX11_feed_74 (lv_at hl 7 rfl) ?_
                refine lv_iload hx hb dX11_feed_76 (lv_at hl 0 rfl) ?_
                have hPc : va_P (dC, dI) vwCl [] H := zP0
                have hDc : va_D (fun _ => True) [] := zD0
                have hFc := zfr hS hA
                refine va_calli (va_runS (As := [.int p0, .int p1, .int p2, .int p3, .int p4, .int m62_L_7]) (rest := []) ⟨hx, hb, hml, hown, hts⟩ (g_X11_byteOf l dC dI cI cJ p0 p1 p2 p3 p4 m62_L_7 H.size) (cwS 6 hts (zgS qw1255 qw1256 qw108 qw1257) rfl rfl rfl hd_X11_byteOf ⟨by rw [hR]; exact Nat.le_of_ble_eq_true rfl, by rw [hR]; exact Nat.le_of_ble_eq_true rfl⟩) (zPS hPc hK hDc) rfl rfl hl.1 rfl (lv_room (Nat.le_of_ble_eq_true rfl)) dX11_feed_78 ⟨Nat.zero_le _, Nat.zero_le _⟩) hS (fun q _ h => hFc q h) hFc (fun v78 u78 t H locs ht hvm hw hB hz1 hk1 hS9 => ?_)
                replace hP := zkeep hP hk1
                replace hS := hS9
                clear hPc hDc hFc hk1 hz1 hvm hS9
                obtain ⟨f78_0, f78_1, f78_2⟩ : (0 ≤ v78.toInt) ∧ (v78.toInt ≤ 255) ∧ (v78 = zBy p0 p1 p2 p3 p4 m62_L_7) := hw
                refine lv_istore (lv' := [(8, .int v78), (7, .int m62_L_7), (6, .int m6_L_6), (0, .ref h0), (1, .int p0), (2, .int p1), (3, .int p2), (4, .int p3), (5, .int p4)]) hx hb dX11_feed_81 hl (by decide) rfl (fun ls hl => ?_)
                refine lv_iload hx hb dX11_feed_83 (lv_at hl 0 rfl) ?_
                refine lv_if_eq (tgt := 109) hx hb dX11_feed_85 (by decide) (fun c85 => ?_) (fun c85 => ?_)
                · have c85 : v78.toInt = 0 := z5 rfl (by decide) c85
                  obtain ⟨v109, e109⟩ : ∃ y : Int32, y = m62_L_7 + Int32.ofInt (1) := ⟨_, rfl⟩
                  refine lv_iinc (v := v109) (lv' := [(7, .int v109), (8, .int v78), (6, .int m6_L_6), (0, .ref h0), (1, .int p0), (2, .int p1), (3, .int p2), (4, .int p3), (5, .int p4)]) hx hb dX11_feed_109 hl (k := 1) rfl e109.symm (by decide) rfl (fun ls hl => ?_)
                  have i109 : v109.toInt = m62_L_7.toInt + 1 := zaddI e109 (by decide) (by omega) (by omega)
                  have q112 := zBc_s f78_2 (by omega) i109
                  refine lv_goto (tgt := 62) hx hb dX11_feed_112 (by decide) ?_
                  exact ih62 _ (by omega) m62_A_tB m62_F_h0_2 v109 jf62_0 (by omega) (by omega) (by first | exact zFrS1 jv62_0 f78_2 (by omega) i109 (by omega) e98 i105 (by omega) | exact zFrS0 jv62_0 f78_2 (by omega) i109 (by omega)) (by first | exact zTyS jv62_1 e98 i105 (by omega) (by omega) (by omega) | exact jv62_1) rfl H locs ls hP hD hS (lv_sub hl [0, 2, 3, 4, 5, 6, 7, 8] rfl)
                · have c85 : ¬ v78.toInt = 0 := z6 rfl (by decide) c85
                  have q88 := zBc_s (k' := m62_L_7 + 1) f78_2 (by omega) (zadd rfl rfl (by decide) (by omega) (by omega))
                  have q88b := zBc_le (a := p0) (b := p1) (c := p2) (d := p3) (e := p4) (i := (m62_L_7 + 1).toInt.toNat) (n := 20) (by have := zadd (v := m62_L_7 + 1) rfl rfl (show (1 : Int32).toInt = 1 by decide) (by omega) (by omega); omega)
                  have q88c : m62_F_h0_2.toInt ≤ 239 := by omega
                  refine lv_aload_n hx hb dX11_feed_88 rfl (lv_at hl 3 rfl) ?_
                  refine va_get (D := (dC, dI)) (ci := 11) (v := .ref tB) (C := RX11) (T := TX11) (N := 41) hx hb hts iX11 hown hK hP 0 rfl rfl 1 (by decide) (hts _ qw1128) (fun _ h9 => h9) rfl dX11_feed_89 ?_
                  refine lv_aload_n hx hb dX11_feed_92 rfl (lv_at hl 3 rfl) ?_
                  refine va_get (D := (dC, dI)) (ci := 11) (v := .int m62_F_h0_2) (C := RX11) (T := TX11) (N := 41) hx hb hts iX11 hown hK hP 0 rfl rfl 2 (by decide) (hts _ qw1129) (fun _ h9 => h9) rfl dX11_feed_93 ?_
                  refine lv_iload hx hb dX11_feed_96 (lv_at hl 0 rfl) ?_
                  refine va_iast hx hb hK hP hD hS 1 0 rfl rfl (vp_in_iff.mpr ⟨by omega, by omega⟩) dX11_feed_98 (fun H locs hP9 hD9 hS9 => ?_)
                  clear hP hD hS
                  obtain ⟨v98_f, e98⟩ : ∃ g : Nat → Int32, g = upd m62_A_tB (m62_F_h0_2).toNatClampNeg v78 := ⟨_, rfl⟩
                  rw [← e98] at hP9 hD9
                  obtain ⟨hP, hD⟩ := zst (wX := [(h0, .inr (11, [.int th, .ref tB, .int m62_F_h0_2, .int tat, .int wr, .int dp, .ref rC, .ref rV, .ref rD, .ref rK, .ref rT, .ref rS, .ref rU, .int lw, .int tx, .ref rL, .ref rX, .ref qR, .ref qB, .ref qP, .int qnb, .int qnp, .ref aR, .ref aB, .ref aP, .int nb, .int np, .ref aN, .ref rf, .int ho, .int br, .ref aK, .int ac, .long dw, .ref aE, .int sr, .int sf, .ref aA, .ref aH, .ref aI, .int hi])), (tB, .inl (cI, 240, .inl v98_f))]) hP9 hD9 rfl
                  have hS := hS9
                  clear hP9 hD9 hS9
                  refine lv_aload_n hx hb dX11_feed_99 rfl (lv_at hl 3 rfl) ?_
                  refine lv_dup hx hb dX11_feed_100 rfl ?_
                  refine va_get (D := (dC, dI)) (ci := 11) (v := .int m62_F_h0_2) (C := RX11) (T := TX11) (N := 41) hx hb hts iX11 hown hK hP 0 rfl rfl 2 (by decide) (hts _ qw1129) (fun _ h9 => h9) rfl dX11_feed_101 ?_
                  refine lv_iconst (v := 1) hx hb dX11_feed_104 (by decide) ?_
                  refine lv_iadd hx hb dX11_feed_105 ?_
                  refine lv_topi (fun v105 e105 => ?_)
                  have i105 : v105.toInt = m62_F_h0_2.toInt + 1 := zadd e105 rfl (by decide) (by omega) (by omega)
                  refine va_put (D := (dC, dI)) (ci := 11) (v := .int v105) (ty := .int) (C := RX11) (T := TX11) (N := 41) hx hb hts iX11 tyX11 tyX11_ok nmX11 hown hK hP hD hS 0 rfl rfl 2 (by decide) (hts _ qw1129) (fun _ h9 => h9) rfl (by decide +kernel) rfl rfl (Nat.le_of_ble_eq_true rfl) dX11_feed_106 (fun H locs hP9 hD9 hS9 => ?_)
                  clear hP hD hS
                  obtain ⟨hP, hD⟩ := zst (wX := [(h0, .inr (11, [.int th, .ref tB, .int v105, .int tat, .int wr, .int dp, .ref rC, .ref rV, .ref rD, .ref rK, .ref rT, .ref rS, .ref rU, .int lw, .int tx, .ref rL, .ref rX, .ref qR, .ref qB, .ref qP, .int qnb, .int qnp, .ref aR, .ref aB, .ref aP, .int nb, .int np, .ref aN, .ref rf, .int ho, .int br, .ref aK, .int ac, .long dw, .ref aE, .int sr, .int sf, .ref aA, .ref aH, .ref aI, .int hi])), (tB, .inl (cI, 240, .inl v98_f))]) hP9 hD9 rfl
                  have hS := hS9
                  clear hP9 hD9 hS9
                  obtain ⟨v109, e109⟩ : ∃ y : Int32, y = m62_L_7 + Int32.ofInt (1) := ⟨_, rfl⟩
                  refine lv_iinc (v := v109) (lv' := [(7, .int v109), (8, .int v78), (6, .int m6_L_6), (0, .ref h0), (1, .int p0), (2, .int p1), (3, .int p2), (4, .int p3), (5, .int p4)]) hx hb dX11_feed_109 hl (k := 1) rfl e109.symm (by decide) rfl (fun ls hl => ?_)
                  have i109 : v109.toInt = m62_L_7.toInt + 1 := zaddI e109 (by decide) (by omega) (by omega)
                  have q112 := zBc_s f78_2 (by omega) i109
                  refine lv_goto (tgt := 62) hx hb dX11_feed_112 (by decide) ?_
                  exact ih62 _ (by omega) v98_f v105 v109 (by omega) (by omega) (by omega) (by first | exact zFrS1 jv62_0 f78_2 (by omega) i109 (by omega) e98 i105 (by omega) | exact zFrS0 jv62_0 f78_2 (by omega) i109 (by omega)) (by first | exact zTyS jv62_1 e98 i105 (by omega) (by omega) (by omega) | exact jv62_1) rfl H locs ls hP hD hS (lv_sub hl [0, 2, 3, 4, 5, 6, 7, 8] rfl)
          refine lv_istore (lv' := [(7, .int 0), (6, .int m6_L_6), (0, .ref h0), (1, .int p0), (2, .int p1), (3, .int p2), (4, .int p3), (5, .int p4)]) hx hb dX11_feed_60 hl (by decide) rfl (fun ls hl => ?_)
          have zj62_m62_L_7 : (0 : Int32).toInt = 0 := by decide
          exact J62 _ fB tsz 0 n_tsz (by decide) (by omega) (zFr0) (hty) rfl H locs ls hP hD hS (lv_sub hl [0, 1, 2, 3, 4, 5, 6, 7] rfl)
        · have c54 : 240 < v50.toInt := z4 rfl (by decide) c54
          refine lv_iconst (v := (-1)) hx hb dX11_feed_57 (by decide) ?_
          have zr0 : ((-1) : Int32).toInt = (-1) := by decide
          rw [hQ]
          exact W.iret (v := ((-1))) hx hb hr (fun t ht hW => ⟨⟨(-1), (tsz, fB), rfl, ⟨by (try dsimp only); omega, by (try dsimp only); omega, by (try dsimp only); omega, by (try dsimp only); omega, by (try dsimp only); exact zfrA (by omega), by (try dsimp only); exact hty⟩, ⟨by rw [ht]; exact hP, hD⟩⟩, hS.F ht⟩) hS.2.2 dX11_feed_58
      · have c10 : m6_L_7.toInt < 20 := z4 (by decide) rfl c10
        have q13 : 0 ≤ m6_L_6.toInt ∧ m6_L_6.toInt ≤ 19 := by omega
        refine lv_iload hx hb dX11_feed_13 (lv_at hl 1 rfl) ?_
        refine lv_iload_n hx hb dX11_feed_15 rfl (lv_at hl 3 rfl) ?_
        refine lv_iload_n hx hb dX11_feed_16 rfl (lv_at hl 4 rfl) ?_
        refine lv_iload_n hx hb dX11_feed_17 rfl (lv_at hl 5 rfl) ?_
        refine lv_iload hx hb dX11_feed_18 (lv_at hl 6 rfl) ?_
        refine lv_iload hx hb dX11_feed_20 (lv_at hl 7 rfl) ?_
        refine lv_iload hx hb dX11_feed_22 (lv_at hl 0 rfl) ?_
        have hPc : va_P (dC, dI) vwCl [] H := zP0
        have hDc : va_D (fun _ => True) [] := zD0
        have hFc := zfr hS hA
        refine va_calli (va_runS (As := [.int p0, .int p1, .int p2, .int p3, .int p4, .int m6_L_7]) (rest := [.int m6_L_6]) ⟨hx, hb, hml, hown, hts⟩ (g_X11_byteOf l dC dI cI cJ p0 p1 p2 p3 p4 m6_L_7 H.size) (cwS 6 hts (zgS qw1255 qw1256 qw108 qw1257) rfl rfl rfl hd_X11_byteOf ⟨by rw [hR]; exact Nat.le_of_ble_eq_true rfl, by rw [hR]; exact Nat.le_of_ble_eq_true rfl⟩) (zPS hPc hK hDc) rfl rfl hl.1 rfl (lv_room (Nat.le_of_ble_eq_true rfl)) dX11_feed_24 ⟨Nat.zero_le _, Nat.zero_le _⟩) hS (fun q _ h => hFc q h) hFc (fun v24 u24 t H locs ht hvm hw hB hz1 hk1 hS9 => ?_)
        replace hP := zkeep hP hk1
        replace hS := hS9
        clear hPc hDc hFc hk1 hz1 hvm hS9
        obtain ⟨f24_0, f24_1, f24_2⟩ : (0 ≤ v24.toInt) ∧ (v24.toInt ≤ 255) ∧ (v24 = zBy p0 p1 p2 p3 p4 m6_L_7) := hw
        refine lv_if_eq (tgt := 34) hx hb dX11_feed_27 (by decide) (fun c27 => ?_) (fun c27 => ?_)
        · have c27 : v24.toInt = 0 := z5 rfl (by decide) c27
          refine lv_iconst (v := 0) hx hb dX11_feed_34 (by decide) ?_
          refine lv_iadd hx hb dX11_feed_35 ?_
          refine lv_topi (fun v35 e35 => ?_)
          have i35 : v35.toInt = m6_L_6.toInt + 0 := zadd e35 rfl (by decide) (by omega) (by omega)
          refine lv_istore (lv' := [(6, .int v35), (7, .int m6_L_7), (0, .ref h0), (1, .int p0), (2, .int p1), (3, .int p2), (4, .int p3), (5, .int p4)]) hx hb dX11_feed_36 hl (by decide) rfl (fun ls hl => ?_)
          obtain ⟨v38, e38⟩ : ∃ y : Int32, y = m6_L_7 + Int32.ofInt (1) := ⟨_, rfl⟩
          refine lv_iinc (v := v38) (lv' := [(7, .int v38), (6, .int v35), (0, .ref h0), (1, .int p0), (2, .int p1), (3, .int p2), (4, .int p3), (5, .int p4)]) hx hb dX11_feed_38 hl (k := 1) rfl e38.symm (by decide) rfl (fun ls hl => ?_)
          have i38 : v38.toInt = m6_L_7.toInt + 1 := zaddI e38 (by decide) (by omega) (by omega)
          have q41 := zBc_s f24_2 (by omega) i38
          refine lv_goto (tgt := 6) hx hb dX11_feed_41 (by decide) ?_
          exact ih6 _ (by omega) v35 v38 (by omega) (by omega) (by omega) rfl H locs ls hP hD hS (lv_sub hl [0, 1, 2, 3, 4, 5, 6, 7] rfl)
        · have c27 : ¬ v24.toInt = 0 := z6 rfl (by decide) c27
          refine lv_iconst (v := 1) hx hb dX11_feed_30 (by decide) ?_
          refine lv_goto (tgt := 35) hx hb dX11_feed_31 (by decide) ?_
          refine lv_iadd hx hb dX11_feed_35 ?_
          refine lv_topi (fun v35 e35 => ?_)
          have i35 : v35.toInt = m6_L_6.toInt + 1 := zadd e35 rfl (by decide) (by omega) (by omega)
          refine lv_istore (lv' := [(6, .int v35), (7, .int m6_L_7), (0, .ref h0), (1, .int p0), (2, .int p1), (3, .int p2), (4, .int p3), (5, .int p4)]) hx hb dX11_feed_36 hl (by decide) rfl (fun ls hl => ?_)
          obtain ⟨v38, e38⟩ : ∃ y : Int32, y = m6_L_7 + Int32.ofInt (1) := ⟨_, rfl⟩
          refine lv_iinc (v := v38) (lv' := [(7, .int v38), (6, .int v35), (0, .ref h0), (1, .int p0), (2, .int p1), (3, .int p2), (4, .int p3), (5, .int p4)]) hx hb dX11_feed_38 hl (k := 1) rfl e38.symm (by decide) rfl (fun ls hl => ?_)
          have i38 : v38.toInt = m6_L_7.toInt + 1 := zaddI e38 (by decide) (by omega) (by omega)
          have q41 := zBc_s f24_2 (by omega) i38
          refine lv_goto (tgt := 6) hx hb dX11_feed_41 (by decide) ?_
          exact ih6 _ (by omega) v35 v38 (by omega) (by omega) (by omega) rfl H locs ls hP hD hS (lv_sub hl [0, 1, 2, 3, 4, 5, 6, 7] rfl)
  refine lv_istore (lv' := [(7, .int 0), (6, .int 0), (0, .ref h0), (1, .int p0), (2, .int p1), (3, .int p2), (4, .int p3), (5, .int p4)]) hx hb dX11_feed_4 hl (by decide) rfl (fun ls hl => ?_)
  have zj6_m6_L_6 : (0 : Int32).toInt = 0 := by decide
  have zj6_m6_L_7 : (0 : Int32).toInt = 0 := by decide
  exact J6 _ 0 0 (by decide) (by decide) (by omega) rfl H locs ls hP hD hS (lv_sub hl [0, 1, 2, 3, 4, 5, 6, 7] rfl)
