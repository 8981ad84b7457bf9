set_option maxHeartbeats 4000000 in
set_option maxRecDepth 100000 in
theorem g_X11_keep (l : Launch) (dC : Nat → ClassId) (dI : Nat → Nat → Nat) (cI cJ : ClassId) (h0 : Nat) (th : Int32) (tB : Nat) (tsz : Int32) (tat : Int32) (wr : Int32) (dp : Int32) (rC : Nat) (rV : Nat) (rD : Nat) (rK : Nat) (rT : Nat) (rS : Nat) (rU : Nat) (lw : Int32) (tx : Int32) (rL : Nat) (rX : Nat) (qR : Nat) (qB : Nat) (qP : Nat) (qnb : Int32) (qnp : Int32) (aR : Nat) (aB : Nat) (aP : Nat) (nb : Int32) (np : Int32) (aN : Nat) (rf : Nat) (ho : Int32) (br : Int32) (aK : Nat) (ac : Int32) (dw : Int64) (aE : Nat) (sr : Int32) (sf : Int32) (aA : Nat) (aH : Nat) (aI : Nat) (hi : Int32) (fN : Nat → Int32) (fKp : Nat → Int32) (sz : Nat) (n_ac : 0 ≤ ac.toInt ∧ ac.toInt ≤ 40) (n_hi : 0 ≤ hi.toInt ∧ hi.toInt ≤ 1) (n_ho : (-1) ≤ ho.toInt ∧ ho.toInt ≤ 3) (n_lw : 0 ≤ lw.toInt ∧ lw.toInt ≤ 4) (n_nb : 0 ≤ nb.toInt ∧ nb.toInt ≤ 6) (n_np : 0 ≤ np.toInt ∧ np.toInt ≤ 5) (n_qnb : 0 ≤ qnb.toInt ∧ qnb.toInt ≤ 6) (n_qnp : 0 ≤ qnp.toInt ∧ qnp.toInt ≤ 5) (n_tat : 0 ≤ tat.toInt ∧ tat.toInt ≤ 260) (n_tsz : 0 ≤ tsz.toInt ∧ tsz.toInt ≤ 240) (n_wr : (-1) ≤ wr.toInt ∧ wr.toInt ≤ 260)  (ci_fKp_zKp_np__F_h0_32_ : zKp np ac fKp) (ci_fN_zNw_np : zNw np fN)  : Met l yX11_keep (.code yX11_keep cX11_keep 2 none :: wA) ({ frames := 0, cells := 0, slots := 0, locals := 0 }) (zP (dC, dI) [(cI, .int), (cJ, .long)] [.ref h0] sz [(h0, .inr (11, [.int th, .ref tB, .int tsz, .int tat, .int wr, .int dp, .ref rC, .ref rV, .ref rD, .ref rK, .ref rT, .ref rS, .ref rU, .int lw, .int tx, .ref rL, .ref rX, .ref qR, .ref qB, .ref qP, .int qnb, .int qnp, .ref aR, .ref aB, .ref aP, .int nb, .int np, .ref aN, .ref rf, .int ho, .int br, .ref aK, .int ac, .long dw, .ref aE, .int sr, .int sf, .ref aA, .ref aH, .ref aI, .int hi])), (aN, .inl (cI, 97, .inl fN)), (aK, .inl (cI, 3880, .inl fKp))]) (va_Qv (fun (u : Int32 × (Nat → Int32)) => (1 ≤ u.1.toInt) ∧ (u.1.toInt ≤ 40) ∧ (zKe fKp u.2 fN ac u.1) ∧ (zKp np u.1 u.2)) (fun (u : Int32 × (Nat → Int32)) (t : State) => va_P (dC, dI) vwCl [(h0, .inr (11, [.int th, .ref tB, .int tsz, .int tat, .int wr, .int dp, .ref rC, .ref rV, .ref rD, .ref rK, .ref rT, .ref rS, .ref rU, .int lw, .int tx, .ref rL, .ref rX, .ref qR, .ref qB, .ref qP, .int qnb, .int qnp, .ref aR, .ref aB, .ref aP, .int nb, .int np, .ref aN, .ref rf, .int ho, .int br, .ref aK, .int u.1, .long dw, .ref aE, .int sr, .int sf, .ref aA, .ref aH, .ref aI, .int hi])), (aN, .inl (cI, 97, .inl fN)), (aK, .inl (cI, 3880, .inl u.2))] t.heap ∧ va_D (va_A [(h0, .inr (11, [.int th, .ref tB, .int tsz, .int tat, .int wr, .int dp, .ref rC, .ref rV, .ref rD, .ref rK, .ref rT, .ref rS, .ref rU, .int lw, .int tx, .ref rL, .ref rX, .ref qR, .ref qB, .ref qP, .int qnb, .int qnp, .ref aR, .ref aB, .ref aP, .int nb, .int np, .ref aN, .ref rf, .int ho, .int br, .ref aK, .int ac, .long dw, .ref aE, .int sr, .int sf, .ref aA, .ref aH, .ref aI, .int hi])), (aN, .inl (cI, 97, .inl fN)), (aK, .inl (cI, 3880, .inl fKp))] sz) [(h0, .inr (11, [.int th, .ref tB, .int tsz, .int tat, .int wr, .int dp, .ref rC, .ref rV, .ref rD, .ref rK, .ref rT, .ref rS, .ref rU, .int lw, .int tx, .ref rL, .ref rX, .ref qR, .ref qB, .ref qP, .int qnb, .int qnp, .ref aR, .ref aB, .ref aP, .int nb, .int np, .ref aN, .ref rf, .int ho, .int br, .ref aK, .int u.1, .long dw, .ref aE, .int sr, .int sf, .ref aA, .ref aH, .ref aI, .int hi])), (aN, .inl (cI, 97, .inl fN)), (aK, .inl (cI, 3880, .inl u.2))]) (va_A [(h0, .inr (11, [.int th, .ref tB, .int tsz, .int tat, .int wr, .int dp, .ref rC, .ref rV, .ref rD, .ref rK, .ref rT, .ref rS, .ref rU, .int lw, .int tx, .ref rL, .ref rX, .ref qR, .ref qB, .ref qP, .int qnb, .int qnp, .ref aR, .ref aB, .ref aP, .int nb, .int np, .ref aN, .ref rf, .int ho, .int br, .ref aK, .int ac, .long dw, .ref aE, .int sr, .int sf, .ref aA, .ref aH, .ref aI, .int hi])), (aN, .inl (cI, 97, .inl fN)), (aK, .inl (cI, 3880, .inl fKp))] sz)) 0 0 (va_A [(h0, .inr (11, [.int th, .ref tB, .int tsz, .int tat, .int wr, .int dp, .ref rC, .ref rV, .ref rD, .ref rK, .ref rT, .ref rS, .ref rU, .int lw, .int tx, .ref rL, .ref rX, .ref qR, .ref qB, .ref qP, .int qnb, .int qnp, .ref aR, .ref aB, .ref aP, .int nb, .int np, .ref aN, .ref rf, .int ho, .int br, .ref aK, .int ac, .long dw, .ref aE, .int sr, .int sf, .ref aA, .ref aH, .ref aI, .int hi])), (aN, .inl (cI, 97, .inl fN)), (aK, .inl (cI, 3880, .inl fKp))] sz) := by
  refine Met.ofW (cc := cX11_keep) (maxL := 2) (ret := none) (by decide) rfl ?_
  intro p e s m args below meth c s₁ B hml hv
  obtain ⟨hargs, hsz, hP, hK, hT⟩ := hv
  have hx := B.exec
  have hb := B.bytes
  have hr := B.returns
  have hts : ∀ w ∈ wA, w.before args s = true := fun w h => atoms_spec (ws := .code yX11_keep cX11_keep 2 none :: wA) B.pre w (List.mem_cons_of_mem _ h)
  have hown : s.vm.findClass RX11 = some m.cls := findClass_of_methodNamed B.named
  have hlocks := B.notSynchronized
  subst hsz
  have hD := hT.self (sz := s.heap.size)
  generalize hAe : va_A [(h0, .inr (11, [.int th, .ref tB, .int tsz, .int tat, .int wr, .int dp, .ref rC, .ref rV, .ref rD, .ref rK, .ref rT, .ref rS, .ref rU, .int lw, .int tx, .ref rL, .ref rX, .ref qR, .ref qB, .ref qP, .int qnb, .int qnp, .ref aR, .ref aB, .ref aP, .int nb, .int np, .ref aN, .ref rf, .int ho, .int br, .ref aK, .int ac, .long dw, .ref aE, .int sr, .int sf, .ref aA, .ref aH, .ref aI, .int hi])), (aN, .inl (cI, 97, .inl fN)), (aK, .inl (cI, 3880, .inl fKp))] s.heap.size = A at hD ⊢
  have hA : ∀ q : Nat, s.heap.size ≤ q → A q := fun q h => by rw [← hAe]; exact Or.inr h
  have hl := lv_entry ([.ref h0]) (n := 2) (Nat.le_of_ble_eq_true rfl)
  rw [show entryFrame m args 2 = entryFrame m ([.ref h0] : List Value).toArray 2 by rw [hargs], lg_entry_eq]
  generalize (lg_sl ([.ref h0]) ++ List.replicate (2 - (lg_sl ([.ref h0])).length) Slot.unset).toArray = ls at hl ⊢
  have hl : lv_has ls 2 [(0, .ref h0)] := hl
  refine zstart (fun H hH => ?_)
  rw [← hH] at hP
  have hS : va_S A s.heap H [] := by rw [hH]; exact va_S.rf
  generalize ([] : List Loc) = locs at hS ⊢
  refine zgen (fun R Q hR hQ => ?_)
  refine lv_aload_n hx hb dX11_keep_0 rfl (lv_at hl 0 rfl) ?_
  refine va_get (D := (dC, dI)) (ci := 11) (v := .int ac) (C := RX11) (T := TX11) (N := 41) hx hb hts iX11 hown hK hP 0 rfl rfl 32 (by decide) (hts _ qw1159) (fun _ h9 => h9) rfl dX11_keep_1 ?_
  refine lv_bipush (v := 40) hx hb dX11_keep_4 (by decide) ?_
  have J50 : ∀ (m50_A_aK : Nat → Int32) (m50_F_h0_32 : Int32), (0 ≤ m50_F_h0_32.toInt ∧ m50_F_h0_32.toInt ≤ 39) → (zKq fKp m50_A_aK ac m50_F_h0_32) → (zKp np m50_F_h0_32 m50_A_aK) → ∀ (H : Heap) (locs : List Loc) (ls : Array Slot), va_P (dC, dI) vwCl [(h0, .inr (11, [.int th, .ref tB, .int tsz, .int tat, .int wr, .int dp, .ref rC, .ref rV, .ref rD, .ref rK, .ref rT, .ref rS, .ref rU, .int lw, .int tx, .ref rL, .ref rX, .ref qR, .ref qB, .ref qP, .int qnb, .int qnp, .ref aR, .ref aB, .ref aP, .int nb, .int np, .ref aN, .ref rf, .int ho, .int br, .ref aK, .int m50_F_h0_32, .long dw, .ref aE, .int sr, .int sf, .ref aA, .ref aH, .ref aI, .int hi])), (aN, .inl (cI, 97, .inl fN)), (aK, .inl (cI, 3880, .inl m50_A_aK))] H → va_D A [(h0, .inr (11, [.int th, .ref tB, .int tsz, .int tat, .int wr, .int dp, .ref rC, .ref rV, .ref rD, .ref rK, .ref rT, .ref rS, .ref rU, .int lw, .int tx, .ref rL, .ref rX, .ref qR, .ref qB, .ref qP, .int qnb, .int qnp, .ref aR, .ref aB, .ref aP, .int nb, .int np, .ref aN, .ref rf, .int ho, .int br, .ref aK, .int m50_F_h0_32, .long dw, .ref aE, .int sr, .int sf, .ref aA, .ref aH, .ref aI, .int hi])), (aN, .inl (cI, 97, .inl fN)), (aK, .inl (cI, 3880, .inl m50_A_aK))] → va_S A s.heap H locs → lv_has ls 2 [(0, .ref h0)] → W p l e R s m args below meth c H locs 0 0 Q (F0 m 50 ls []) := by
    intro m50_A_aK m50_F_h0_32 jf50_0 jv50_0 jf50_2 H locs ls hP hD hS hl
    refine lv_iconst (v := 0) hx hb dX11_keep_50 (by decide) ?_
    have J52 : ∀ (n : Nat) (m52_A_aK : Nat → Int32) (m52_F_h0_32 : Int32) (m52_L_1 : Int32), (0 ≤ m52_F_h0_32.toInt ∧ m52_F_h0_32.toInt ≤ 39) → (0 ≤ m52_L_1.toInt ∧ m52_L_1.toInt ≤ 98) → (zNr np m52_F_h0_32 m52_A_aK fN m52_L_1) → (zKq fKp m52_A_aK ac m52_F_h0_32) → (99 - m52_L_1.toInt).toNat = n → ∀ (H : Heap) (locs : List Loc) (ls : Array Slot), va_P (dC, dI) vwCl [(h0, .inr (11, [.int th, .ref tB, .int tsz, .int tat, .int wr, .int dp, .ref rC, .ref rV, .ref rD, .ref rK, .ref rT, .ref rS, .ref rU, .int lw, .int tx, .ref rL, .ref rX, .ref qR, .ref qB, .ref qP, .int qnb, .int qnp, .ref aR, .ref aB, .ref aP, .int nb, .int np, .ref aN, .ref rf, .int ho, .int br, .ref aK, .int m52_F_h0_32, .long dw, .ref aE, .int sr, .int sf, .ref aA, .ref aH, .ref aI, .int hi])), (aN, .inl (cI, 97, .inl fN)), (aK, .inl (cI, 3880, .inl m52_A_aK))] H → va_D A [(h0, .inr (11, [.int th, .ref tB, .int tsz, .int tat, .int wr, .int dp, .ref rC, .ref rV, .ref rD, .ref rK, .ref rT, .ref rS, .ref rU, .int lw, .int tx, .ref rL, .ref rX, .ref qR, .ref qB, .ref qP, .int qnb, .int qnp, .ref aR, .ref aB, .ref aP, .int nb, .int np, .ref aN, .ref rf, .int ho, .int br, .ref aK, .int m52_F_h0_32, .long dw, .ref aE, .int sr, .int sf, .ref aA, .ref aH, .ref aI, .int hi])), (aN, .inl (cI, 97, .inl fN)), (aK, .inl (cI, 3880, .inl m52_A_aK))] → va_S A s.heap H locs → lv_has ls 2 [(1, .int m52_L_1), (0, .ref h0)] → W p l e R s m args below meth c H locs 0 0 Q (F0 m 52 ls []) := by
      intro n52
      induction n52 using Nat.strongRecOn with
      | _ n52 ih52 =>
        intro m52_A_aK m52_F_h0_32 m52_L_1 jf52_0 jf52_1 jv52_0 jv52_1 hmu52 H locs ls hP hD hS hl
        refine lv_iload_n hx hb dX11_keep_52 rfl (lv_at hl 0 rfl) ?_
        refine lv_bipush (v := 97) hx hb dX11_keep_53 (by decide) ?_
        refine lv_icmp_ge (tgt := 84) hx hb dX11_keep_55 (by decide) (fun c55 => ?_) (fun c55 => ?_)
        · have c55 : 97 ≤ m52_L_1.toInt := z3 (by decide) rfl c55
          refine lv_aload_n hx hb dX11_keep_84 rfl (lv_at hl 1 rfl) ?_
          refine lv_dup hx hb dX11_keep_85 rfl ?_
          refine va_get (D := (dC, dI)) (ci := 11) (v := .int m52_F_h0_32) (C := RX11) (T := TX11) (N := 41) hx hb hts iX11 hown hK hP 0 rfl rfl 32 (by decide) (hts _ qw1159) (fun _ h9 => h9) rfl dX11_keep_86 ?_
          refine lv_iconst (v := 1) hx hb dX11_keep_89 (by decide) ?_
          refine lv_iadd hx hb dX11_keep_90 ?_
          refine lv_topi (fun v90 e90 => ?_)
          have i90 : v90.toInt = m52_F_h0_32.toInt + 1 := zadd e90 rfl (by decide) (by omega) (by omega)
          refine va_put (D := (dC, dI)) (ci := 11) (v := .int v90) (ty := .int) (C := RX11) (T := TX11) (N := 41) hx hb hts iX11 tyX11 tyX11_ok nmX11 hown hK hP hD hS 0 rfl rfl 32 (by decide) (hts _ qw1159) (fun _ h9 => h9) rfl (by decide +kernel) rfl rfl (Nat.le_of_ble_eq_true rfl) dX11_keep_91 (fun H locs hP hD hS => ?_)
          have hP : va_P (dC, dI) vwCl [(h0, .inr (11, [.int th, .ref tB, .int tsz, .int tat, .int wr, .int dp, .ref rC, .ref rV, .ref rD, .ref rK, .ref rT, .ref rS, .ref rU, .int lw, .int tx, .ref rL, .ref rX, .ref qR, .ref qB, .ref qP, .int qnb, .int qnp, .ref aR, .ref aB, .ref aP, .int nb, .int np, .ref aN, .ref rf, .int ho, .int br, .ref aK, .int v90, .long dw, .ref aE, .int sr, .int sf, .ref aA, .ref aH, .ref aI, .int hi])), (aN, .inl (cI, 97, .inl fN)), (aK, .inl (cI, 3880, .inl m52_A_aK))] H := hP
          have hD : va_D A [(h0, .inr (11, [.int th, .ref tB, .int tsz, .int tat, .int wr, .int dp, .ref rC, .ref rV, .ref rD, .ref rK, .ref rT, .ref rS, .ref rU, .int lw, .int tx, .ref rL, .ref rX, .ref qR, .ref qB, .ref qP, .int qnb, .int qnp, .ref aR, .ref aB, .ref aP, .int nb, .int np, .ref aN, .ref rf, .int ho, .int br, .ref aK, .int v90, .long dw, .ref aE, .int sr, .int sf, .ref aA, .ref aH, .ref aI, .int hi])), (aN, .inl (cI, 97, .inl fN)), (aK, .inl (cI, 3880, .inl m52_A_aK))] := hD
          have cs94_0 : zKp np v90 m52_A_aK := zKp_new jv52_0 ci_fN_zNw_np (by omega) (by omega) (by omega)
          rw [hQ]
          exact W.vret hx hb hr (fun t ht hW => ⟨⟨(v90, m52_A_aK), rfl, ⟨by (try dsimp only); omega, by (try dsimp only); omega, by (try dsimp only); exact zKe_mk jv52_1 jv52_0 (by omega) (by omega) (by omega), cs94_0⟩, ⟨by rw [ht]; exact hP, hD⟩⟩, hS.F ht⟩) hS.2.2 dX11_keep_94
        · have c55 : m52_L_1.toInt < 97 := z4 (by decide) rfl c55
          refine lv_aload_n hx hb dX11_keep_58 rfl (lv_at hl 1 rfl) ?_
          refine va_get (D := (dC, dI)) (ci := 11) (v := .ref aK) (C := RX11) (T := TX11) (N := 41) hx hb hts iX11 hown hK hP 0 rfl rfl 31 (by decide) (hts _ qw1158) (fun _ h9 => h9) rfl dX11_keep_59 ?_
          refine lv_bipush (v := 97) hx hb dX11_keep_62 (by decide) ?_
          refine lv_aload_n hx hb dX11_keep_64 rfl (lv_at hl 1 rfl) ?_
          refine va_get (D := (dC, dI)) (ci := 11) (v := .int m52_F_h0_32) (C := RX11) (T := TX11) (N := 41) hx hb hts iX11 hown hK hP 0 rfl rfl 32 (by decide) (hts _ qw1159) (fun _ h9 => h9) rfl dX11_keep_65 ?_
          refine lv_imul hx hb dX11_keep_68 ?_
          refine lv_topi (fun v68 e68 => ?_)
          have i68 : v68.toInt = 97 * m52_F_h0_32.toInt := zmul e68 (by decide) rfl (by omega) (by omega)
          refine lv_iload_n hx hb dX11_keep_69 rfl (lv_at hl 0 rfl) ?_
          refine lv_iadd hx hb dX11_keep_70 ?_
          refine lv_topi (fun v70 e70 => ?_)
          have i70 : v70.toInt = v68.toInt + m52_L_1.toInt := zadd e70 rfl rfl (by omega) (by omega)
          refine lv_aload_n hx hb dX11_keep_71 rfl (lv_at hl 1 rfl) ?_
          refine va_get (D := (dC, dI)) (ci := 11) (v := .ref aN) (C := RX11) (T := TX11) (N := 41) hx hb hts iX11 hown hK hP 0 rfl rfl 27 (by decide) (hts _ qw1154) (fun _ h9 => h9) rfl dX11_keep_72 ?_
          refine lv_iload_n hx hb dX11_keep_75 rfl (lv_at hl 0 rfl) ?_
          refine va_iald hx hb hK hP 1 0 rfl rfl (vp_in_iff.mpr ⟨by omega, by omega⟩) dX11_keep_76 ?_
          refine lv_topi (fun v76 e76 => ?_)
          refine va_iast hx hb hK hP hD hS 2 0 rfl rfl (vp_in_iff.mpr ⟨by omega, by omega⟩) dX11_keep_77 (fun H locs hP hD hS => ?_)
          obtain ⟨v77_f, e77⟩ : ∃ g : Nat → Int32, g = upd m52_A_aK (v70).toNatClampNeg v76 := ⟨_, rfl⟩
          rw [← e77] at hP hD
          have hP : va_P (dC, dI) vwCl [(h0, .inr (11, [.int th, .ref tB, .int tsz, .int tat, .int wr, .int dp, .ref rC, .ref rV, .ref rD, .ref rK, .ref rT, .ref rS, .ref rU, .int lw, .int tx, .ref rL, .ref rX, .ref qR, .ref qB, .ref qP, .int qnb, .int qnp, .ref aR, .ref aB, .ref aP, .int nb, .int np, .ref aN, .ref rf, .int ho, .int br, .ref aK, .int m52_F_h0_32, .long dw, .ref aE, .int sr, .int sf, .ref aA, .ref aH, .ref aI, .int hi])), (aN, .inl (cI, 97, .inl fN)), (aK, .inl (cI, 3880, .inl v77_f))] H := hP
          have hD : va_D A [(h0, .inr (11, [.int th, .ref tB, .int tsz, .int tat, .int wr, .int dp, .ref rC, .ref rV, .ref rD, .ref rK, .ref rT, .ref rS, .ref rU, .int lw, .int tx, .ref rL, .ref rX, .ref qR, .ref qB, .ref qP, .int qnb, .int qnp, .ref aR, .ref aB, .ref aP, .int nb, .int np, .ref aN, .ref rf, .int ho, .int br, .ref aK, .int m52_F_h0_32, .long dw, .ref aE, .int sr, .int sf, .ref aA, .ref aH, .ref aI, .int hi])), (aN, .inl (cI, 97, .inl fN)), (aK, .inl (cI, 3880, .inl v77_f))] := hD
          obtain ⟨v78, e78⟩ : ∃ y : Int32, y = m52_L_1 + Int32.ofInt (1) := ⟨_, rfl⟩
          refine lv_iinc (v := v78) (lv' := [(1, .int v78), (0, .ref h0)]) hx hb dX11_keep_78 hl (k := 0) rfl e78.symm (by decide) rfl (fun ls hl => ?_)
          have i78 : v78.toInt = m52_L_1.toInt + 1 := zaddI e78 (by decide) (by omega) (by omega)
          refine lv_goto (tgt := 52) hx hb dX11_keep_81 (by decide) ?_
          exact ih52 _ (by omega) v77_f m52_F_h0_32 v78 (by omega) (by omega) (zNr_s jv52_0 e76 e77 (by omega) (by omega) (by omega) (by omega) (by omega)) (zKq_s jv52_1 e77 (by omega)) rfl H locs ls hP hD hS (lv_sub hl [0, 1] rfl)
    refine lv_istore_n (lv' := [(1, .int 0), (0, .ref h0)]) hx hb dX11_keep_51 rfl hl (by decide) rfl (fun ls hl => ?_)
    have zj52_m52_L_1 : (0 : Int32).toInt = 0 := by decide
    exact J52 _ m50_A_aK m50_F_h0_32 0 (by omega) (by decide) (zNr_0 (by assumption)) (jv50_0) rfl H locs ls hP hD hS (lv_sub hl [0, 1] rfl)
  refine lv_icmp_ne (tgt := 50) hx hb dX11_keep_6 (by decide) (fun c6 => ?_) (fun c6 => ?_)
  · have c6 : ¬ ac.toInt = 40 := z6 rfl (by decide) c6
    exact J50 fKp ac (by omega) (by first | exact zKq_a (by omega) | exact zKq_b jv12_0 (by omega) (by omega) (by omega) | fail) ci_fKp_zKp_np__F_h0_32_ H locs ls hP hD hS (lv_sub hl [0] rfl)
  · have c6 : ac.toInt = 40 := z5 rfl (by decide) c6
    refine lv_bipush (v := 97) hx hb dX11_keep_9 (by decide) ?_
    have J12 : ∀ (n : Nat) (m12_A_aK : Nat → Int32) (m12_L_1 : Int32), (97 ≤ m12_L_1.toInt ∧ m12_L_1.toInt ≤ 3920) → (zSf m12_A_aK fKp m12_L_1) → (3921 - m12_L_1.toInt).toNat = n → ∀ (H : Heap) (locs : List Loc) (ls : Array Slot), va_P (dC, dI) vwCl [(h0, .inr (11, [.int th, .ref tB, .int tsz, .int tat, .int wr, .int dp, .ref rC, .ref rV, .ref rD, .ref rK, .ref rT, .ref rS, .ref rU, .int lw, .int tx, .ref rL, .ref rX, .ref qR, .ref qB, .ref qP, .int qnb, .int qnp, .ref aR, .ref aB, .ref aP, .int nb, .int np, .ref aN, .ref rf, .int ho, .int br, .ref aK, .int ac, .long dw, .ref aE, .int sr, .int sf, .ref aA, .ref aH, .ref aI, .int hi])), (aN, .inl (cI, 97, .inl fN)), (aK, .inl (cI, 3880, .inl m12_A_aK))] H → va_D A [(h0, .inr (11, [.int th, .ref tB, .int tsz, .int tat, .int wr, .int dp, .ref rC, .ref rV, .ref rD, .ref rK, .ref rT, .ref rS, .ref rU, .int lw, .int tx, .ref rL, .ref rX, .ref qR, .ref qB, .ref qP, .int qnb, .int qnp, .ref aR, .ref aB, .ref aP, .int nb, .int np, .ref aN, .ref rf, .int ho, .int br, .ref aK, .int ac, .long dw, .ref aE, .int sr, .int sf, .ref aA, .ref aH, .ref aI, .int hi])), (aN, .inl (cI, 97, .inl fN)), (aK, .inl (cI, 3880, .inl m12_A_aK))] → va_S A s.heap H locs → lv_has ls 2 [(1, .int m12_L_1), (0, .ref h0)] → W p l e R s m args below meth c H locs 0 0 Q (F0 m 12 ls []) := by
      intro n12
      induction n12 using Nat.strongRecOn with
      | _ n12 ih12 =>
        intro m12_A_aK m12_L_1 jf12_0 jv12_0 hmu12 H locs ls hP hD hS hl
        refine lv_iload_n hx hb dX11_keep_12 rfl (lv_at hl 0 rfl) ?_
        refine lv_sipush (v := 3880) hx hb dX11_keep_13 (by decide) ?_
        refine lv_icmp_ge (tgt := 40) hx hb dX11_keep_16 (by decide) (fun c16 => ?_) (fun c16 => ?_)
        · have c16 : 3880 ≤ m12_L_1.toInt := z3 (by decide) rfl c16
          refine lv_aload_n hx hb dX11_keep_40 rfl (lv_at hl 1 rfl) ?_
          refine lv_dup hx hb dX11_keep_41 rfl ?_
          refine va_get (D := (dC, dI)) (ci := 11) (v := .int ac) (C := RX11) (T := TX11) (N := 41) hx hb hts iX11 hown hK hP 0 rfl rfl 32 (by decide) (hts _ qw1159) (fun _ h9 => h9) rfl dX11_keep_42 ?_
          refine lv_iconst (v := 1) hx hb dX11_keep_45 (by decide) ?_
          refine lv_isub hx hb dX11_keep_46 ?_
          refine lv_topi (fun v46 e46 => ?_)
          have i46 : v46.toInt = ac.toInt - 1 := zsub e46 rfl (by decide) (by omega) (by omega)
          refine va_put (D := (dC, dI)) (ci := 11) (v := .int v46) (ty := .int) (C := RX11) (T := TX11) (N := 41) hx hb hts iX11 tyX11 tyX11_ok nmX11 hown hK hP hD hS 0 rfl rfl 32 (by decide) (hts _ qw1159) (fun _ h9 => h9) rfl (by decide +kernel) rfl rfl (Nat.le_of_ble_eq_true rfl) dX11_keep_47 (fun H locs hP hD hS => ?_)
          have hP : va_P (dC, dI) vwCl [(h0, .inr (11, [.int th, .ref tB, .int tsz, .int tat, .int wr, .int dp, .ref rC, .ref rV, .ref rD, .ref rK, .ref rT, .ref rS, .ref rU, .int lw, .int tx, .ref rL, .ref rX, .ref qR, .ref qB, .ref qP, .int qnb, .int qnp, .ref aR, .ref aB, .ref aP, .int nb, .int np, .ref aN, .ref rf, .int ho, .int br, .ref aK, .int v46, .long dw, .ref aE, .int sr, .int sf, .ref aA, .ref aH, .ref aI, .int hi])), (aN, .inl (cI, 97, .inl fN)), (aK, .inl (cI, 3880, .inl m12_A_aK))] H := hP
          have hD : va_D A [(h0, .inr (11, [.int th, .ref tB, .int tsz, .int tat, .int wr, .int dp, .ref rC, .ref rV, .ref rD, .ref rK, .ref rT, .ref rS, .ref rU, .int lw, .int tx, .ref rL, .ref rX, .ref qR, .ref qB, .ref qP, .int qnb, .int qnp, .ref aR, .ref aB, .ref aP, .int nb, .int np, .ref aN, .ref rf, .int ho, .int br, .ref aK, .int v46, .long dw, .ref aE, .int sr, .int sf, .ref aA, .ref aH, .ref aI, .int hi])), (aN, .inl (cI, 97, .inl fN)), (aK, .inl (cI, 3880, .inl m12_A_aK))] := hD
          have cs50_0 : zKp np v46 m12_A_aK := zKp_sf ci_fKp_zKp_np__F_h0_32_ jv12_0 (by omega) (by omega) (by omega)
          exact J50 m12_A_aK v46 (by omega) (by first | exact zKq_a (by omega) | exact zKq_b jv12_0 (by omega) (by omega) (by omega) | fail) cs50_0 H locs ls hP hD hS (lv_sub hl [1] rfl)
        · have c16 : m12_L_1.toInt < 3880 := z4 (by decide) rfl c16
          refine lv_aload_n hx hb dX11_keep_19 rfl (lv_at hl 1 rfl) ?_
          refine va_get (D := (dC, dI)) (ci := 11) (v := .ref aK) (C := RX11) (T := TX11) (N := 41) hx hb hts iX11 hown hK hP 0 rfl rfl 31 (by decide) (hts _ qw1158) (fun _ h9 => h9) rfl dX11_keep_20 ?_
          refine lv_iload_n hx hb dX11_keep_23 rfl (lv_at hl 0 rfl) ?_
          refine lv_bipush (v := 97) hx hb dX11_keep_24 (by decide) ?_
          refine lv_isub hx hb dX11_keep_26 ?_
          refine lv_topi (fun v26 e26 => ?_)
          have i26 : v26.toInt = m12_L_1.toInt - 97 := zsub e26 rfl (by decide) (by omega) (by omega)
          refine lv_aload_n hx hb dX11_keep_27 rfl (lv_at hl 1 rfl) ?_
          refine va_get (D := (dC, dI)) (ci := 11) (v := .ref aK) (C := RX11) (T := TX11) (N := 41) hx hb hts iX11 hown hK hP 0 rfl rfl 31 (by decide) (hts _ qw1158) (fun _ h9 => h9) rfl dX11_keep_28 ?_
          refine lv_iload_n hx hb dX11_keep_31 rfl (lv_at hl 0 rfl) ?_
          refine va_iald hx hb hK hP 2 0 rfl rfl (vp_in_iff.mpr ⟨by omega, by omega⟩) dX11_keep_32 ?_
          refine lv_topi (fun v32 e32 => ?_)
          refine va_iast hx hb hK hP hD hS 2 0 rfl rfl (vp_in_iff.mpr ⟨by omega, by omega⟩) dX11_keep_33 (fun H locs hP hD hS => ?_)
          obtain ⟨v33_f, e33⟩ : ∃ g : Nat → Int32, g = upd m12_A_aK (v26).toNatClampNeg v32 := ⟨_, rfl⟩
          rw [← e33] at hP hD
          have hP : va_P (dC, dI) vwCl [(h0, .inr (11, [.int th, .ref tB, .int tsz, .int tat, .int wr, .int dp, .ref rC, .ref rV, .ref rD, .ref rK, .ref rT, .ref rS, .ref rU, .int lw, .int tx, .ref rL, .ref rX, .ref qR, .ref qB, .ref qP, .int qnb, .int qnp, .ref aR, .ref aB, .ref aP, .int nb, .int np, .ref aN, .ref rf, .int ho, .int br, .ref aK, .int ac, .long dw, .ref aE, .int sr, .int sf, .ref aA, .ref aH, .ref aI, .int hi])), (aN, .inl (cI, 97, .inl fN)), (aK, .inl (cI, 3880, .inl v33_f))] H := hP
          have hD : va_D A [(h0, .inr (11, [.int th, .ref tB, .int tsz, .int tat, .int wr, .int dp, .ref rC, .ref rV, .ref rD, .ref rK, .ref rT, .ref rS, .ref rU, .int lw, .int tx, .ref rL, .ref rX, .ref qR, .ref qB, .ref qP, .int qnb, .int qnp, .ref aR, .ref aB, .ref aP, .int nb, .int np, .ref aN, .ref rf, .int ho, .int br, .ref aK, .int ac, .long dw, .ref aE, .int sr, .int sf, .ref aA, .ref aH, .ref aI, .int hi])), (aN, .inl (cI, 97, .inl fN)), (aK, .inl (cI, 3880, .inl v33_f))] := hD
          obtain ⟨v34, e34⟩ : ∃ y : Int32, y = m12_L_1 + Int32.ofInt (1) := ⟨_, rfl⟩
          refine lv_iinc (v := v34) (lv' := [(1, .int v34), (0, .ref h0)]) hx hb dX11_keep_34 hl (k := 0) rfl e34.symm (by decide) rfl (fun ls hl => ?_)
          have i34 : v34.toInt = m12_L_1.toInt + 1 := zaddI e34 (by decide) (by omega) (by omega)
          refine lv_goto (tgt := 12) hx hb dX11_keep_37 (by decide) ?_
          exact ih12 _ (by omega) v33_f v34 (by omega) (zSf_s jv12_0 e32 e33 (by omega) (by omega) (by omega) (by omega)) rfl H locs ls hP hD hS (lv_sub hl [0, 1] rfl)
    refine lv_istore_n (lv' := [(1, .int 97), (0, .ref h0)]) hx hb dX11_keep_11 rfl hl (by decide) rfl (fun ls hl => ?_)
    have zj12_m12_L_1 : (97 : Int32).toInt = 97 := by decide
    exact J12 _ fKp 97 (by decide) (zSf_0 (by decide)) rfl H locs ls hP hD hS (lv_sub hl [0, 1] rfl)
set_option maxHeartbeats 4000000 in
set_option maxRecDepth 100000 in
theorem g_X11_isRefused (l : Launch) (dC : Nat → ClassId) (dI : Nat → Nat → Nat) (cI cJ : ClassId) (h0 : Nat) (p0 : Int32) (th : Int32) (tB : Nat) (tsz : Int32) (tat : Int32) (wr : Int32) (dp : Int32) (rC : Nat) (rV : Nat) (rD : Nat) (rK : Nat) (rT : Nat) (rS : Nat) (rU : Nat) (lw : Int32) (tx : Int32) (rL : Nat) (rX : Nat) (qR : Nat) (qB : Nat) (qP : Nat) (qnb : Int32) (qnp : Int32) (aR : Nat) (aB : Nat) (aP : Nat) (nb : Int32) (np : Int32) (aN : Nat) (rf : Nat) (ho : Int32) (br : Int32) (aK : Nat) (ac : Int32) (dw : Int64) (aE : Nat) (sr : Int32) (sf : Int32) (aA : Nat) (aH : Nat) (aI : Nat) (hi : Int32) (frf : Nat → Int32) (sz : Nat) (n_ac : 0 ≤ ac.toInt ∧ ac.toInt ≤ 40) (n_hi : 0 ≤ hi.toInt ∧ hi.toInt ≤ 1) (n_ho : (-1) ≤ ho.toInt ∧ ho.toInt ≤ 3) (n_lw : 0 ≤ lw.toInt ∧ lw.toInt ≤ 4) (n_nb : 0 ≤ nb.toInt ∧ nb.toInt ≤ 6) (n_np : 0 ≤ np.toInt ∧ np.toInt ≤ 5) (n_p0 : (-1) ≤ p0.toInt ∧ p0.toInt ≤ 4) (n_qnb : 0 ≤ qnb.toInt ∧ qnb.toInt ≤ 6) (n_qnp : 0 ≤ qnp.toInt ∧ qnp.toInt ≤ 5) (n_tat : 0 ≤ tat.toInt ∧ tat.toInt ≤ 260) (n_tsz : 0 ≤ tsz.toInt ∧ tsz.toInt ≤ 240) (n_wr : (-1) ≤ wr.toInt ∧ wr.toInt ≤ 260)    : Met l yX11_isRefused (.code yX11_isRefused cX11_isRefused 2 (some .boolean) :: wA) ({ frames := 0, cells := 0, slots := 0, locals := 0 }) (zP (dC, dI) [(cI, .int), (cJ, .long)] [.ref h0, .int p0] sz [(h0, .inr (11, [.int th, .ref tB, .int tsz, .int tat, .int wr, .int dp, .ref rC, .ref rV, .ref rD, .ref rK, .ref rT, .ref rS, .ref rU, .int lw, .int tx, .ref rL, .ref rX, .ref qR, .ref qB, .ref qP, .int qnb, .int qnp, .ref aR, .ref aB, .ref aP, .int nb, .int np, .ref aN, .ref rf, .int ho, .int br, .ref aK, .int ac, .long dw, .ref aE, .int sr, .int sf, .ref aA, .ref aH, .ref aI, .int hi])), (rf, .inl (cI, 5, .inl frf))]) (va_Qi (fun (r : Int32) (u : (Nat → Int32)) => (0 ≤ r.toInt) ∧ (r.toInt ≤ 1) ∧ (r.toInt = 0 → p0.toInt = -1) ∧ ((r.toInt = 0 ∧ p0.toInt = -1 ∧ u = frf) ∨ (r.toInt = 1 ∧ ¬ p0.toInt = -1 ∧ zRf frf u p0.toInt))) (fun (u : (Nat → Int32)) (t : State) => va_P (dC, dI) vwCl [(h0, .inr (11, [.int th, .ref tB, .int tsz, .int tat, .int wr, .int dp, .ref rC, .ref rV, .ref rD, .ref rK, .ref rT, .ref rS, .ref rU, .int lw, .int tx, .ref rL, .ref rX, .ref qR, .ref qB, .ref qP, .int qnb, .int qnp, .ref aR, .ref aB, .ref aP, .int nb, .int np, .ref aN, .ref rf, .int ho, .int br, .ref aK, .int ac, .long dw, .ref aE, .int sr, .int sf, .ref aA, .ref aH, .ref aI, .int hi])), (rf, .inl (cI, 5, .inl u))] t.heap ∧ va_D (va_A [(h0, .inr (11, [.int th, .ref tB, .int tsz, .int tat, .int wr, .int dp, .ref rC, .ref rV, .ref rD, .ref rK, .ref rT, .ref rS, .ref rU, .int lw, .int tx, .ref rL, .ref rX, .ref qR, .ref qB, .ref qP, .int qnb, .int qnp, .ref aR, .ref aB, .ref aP, .int nb, .int np, .ref aN, .ref rf, .int ho, .int br, .ref aK, .int ac, .long dw, .ref aE, .int sr, .int sf, .ref aA, .ref aH, .ref aI, .int hi])), (rf, .inl (cI, 5, .inl frf))] sz) [(h0, .inr (11, [.int th, .ref tB, .int tsz, .int tat, .int wr, .int dp, .ref rC, .ref rV, .ref rD, .ref rK, .ref rT, .ref rS, .ref rU, .int lw, .int tx, .ref rL, .ref rX, .ref qR, .ref qB, .ref qP, .int qnb, .int qnp, .ref aR, .ref aB, .ref aP, .int nb, .int np, .ref aN, .ref rf, .int ho, .int br, .ref aK, .int ac, .long dw, .ref aE, .int sr, .int sf, .ref aA, .ref aH, .ref aI, .int hi])), (rf, .inl (cI, 5, .inl u))]) (va_A [(h0, .inr (11, [.int th, .ref tB, .int tsz, .int tat, .int wr, .int dp, .ref rC, .ref rV, .ref rD, .ref rK, .ref rT, .ref rS, .ref rU, .int lw, .int tx, .ref rL, .ref rX, .ref qR, .ref qB, .ref qP, .int qnb, .int qnp, .ref aR, .ref aB, .ref aP, .int nb, .int np, .ref aN, .ref rf, .int ho, .int br, .ref aK, .int ac, .long dw, .ref aE, .int sr, .int sf, .ref aA, .ref aH, .ref aI, .int hi])), (rf, .inl (cI, 5, .inl frf))] sz)) 0 0 (va_A [(h0, .inr (11, [.int th, .ref tB, .int tsz, .int tat, .int wr, .int dp, .ref rC, .ref rV, .ref rD, .ref rK, .ref rT, .ref rS, .ref rU, .int lw, .int tx, .ref rL, .ref rX, .ref qR, .ref qB, .ref qP, .int qnb, .int qnp, .ref aR, .ref aB, .ref aP, .int nb, .int np, .ref aN, .ref rf, .int ho, .int br, .ref aK, .int ac, .long dw, .ref aE, .int sr, .int sf, .ref aA, .ref aH, .ref aI, .int hi])), (rf, .inl (cI, 5, .inl frf))] sz) := by
  refine Met.ofW (cc := cX11_isRefused) (maxL := 2) (ret := (some .boolean)) (by decide) rfl ?_
  intro p e s m args below meth c s₁ B hml hv
  obtain ⟨hargs, hsz, hP, hK, hT⟩ := hv
  have hx := B.exec
  have hb := B.bytes
  have hr := B.returns
  have hts : ∀ w ∈ wA, w.before args s = true := fun w h => atoms_spec (ws := .code yX11_isRefused cX11_isRefused 2 (some .boolean) :: wA) B.pre w (List.mem_cons_of_mem _ h)
  have hown : s.vm.findClass RX11 = some m.cls := findClass_of_methodNamed B.named
  have hlocks := B.notSynchronized
  subst hsz
  have hD := hT.self (sz := s.heap.size)
  generalize hAe : va_A [(h0, .inr (11, [.int th, .ref tB, .int tsz, .int tat, .int wr, .int dp, .ref rC, .ref rV, .ref rD, .ref rK, .ref rT, .ref rS, .ref rU, .int lw, .int tx, .ref rL, .ref rX, .ref qR, .ref qB, .ref qP, .int qnb, .int qnp, .ref aR, .ref aB, .ref aP, .int nb, .int np, .ref aN, .ref rf, .int ho, .int br, .ref aK, .int ac, .long dw, .ref aE, .int sr, .int sf, .ref aA, .ref aH, .ref aI, .int hi])), (rf, .inl (cI, 5, .inl frf))] s.heap.size = A at hD ⊢
  have hA : ∀ q : Nat, s.heap.size ≤ q → A q := fun q h => by rw [← hAe]; exact Or.inr h
  have hl := lv_entry ([.ref h0, .int p0]) (n := 2) (Nat.le_of_ble_eq_true rfl)
  rw [show entryFrame m args 2 = entryFrame m ([.ref h0, .int p0] : List Value).toArray 2 by rw [hargs], lg_entry_eq]
  generalize (lg_sl ([.ref h0, .int p0]) ++ List.replicate (2 - (lg_sl ([.ref h0, .int p0])).length) Slot.unset).toArray = ls at hl ⊢
  have hl : lv_has ls 2 [(0, .ref h0), (1, .int p0)] := hl
  refine zstart (fun H hH => ?_)
  rw [← hH] at hP
  have hS : va_S A s.heap H [] := by rw [hH]; exact va_S.rf
  generalize ([] : List Loc) = locs at hS ⊢
  refine zgen (fun R Q hR hQ => ?_)
  refine lv_iload_n hx hb dX11_isRefused_0 rfl (lv_at hl 1 rfl) ?_
  refine lv_iconst (v := (-1)) hx hb dX11_isRefused_1 (by decide) ?_
  refine lv_icmp_eq (tgt := 15) hx hb dX11_isRefused_2 (by decide) (fun c2 => ?_) (fun c2 => ?_)
  · have c2 : p0.toInt = (-1) := z5 rfl (by decide) c2
    refine lv_iload_n hx hb dX11_isRefused_15 rfl (lv_at hl 1 rfl) ?_
    refine lv_iconst (v := (-1)) hx hb dX11_isRefused_16 (by decide) ?_
    refine lv_icmp_eq (tgt := 24) hx hb dX11_isRefused_17 (by decide) (fun c17 => ?_) (fun c17 => by exfalso; have c17 : ¬ p0.toInt = (-1) := z6 rfl (by decide) c17; omega)
    have c17 : p0.toInt = (-1) := z5 rfl (by decide) c17
    refine lv_iconst (v := 0) hx hb dX11_isRefused_24 (by decide) ?_
    have zr0 : (0 : Int32).toInt = 0 := by decide
    rw [hQ]
    exact W.zret (v := 0) (ty := .boolean) hx hb hr rfl (fun t ht hW => ⟨⟨0, frf, rfl, ⟨by (try dsimp only); omega, by (try dsimp only); omega, by (try dsimp only); omega, by (try dsimp only); exact Or.inl ⟨by decide, by omega, rfl⟩⟩, ⟨by rw [ht]; exact hP, hD⟩⟩, hS.F ht⟩) hS.2.2 dX11_isRefused_25
  · have c2 : ¬ p0.toInt = (-1) := z6 rfl (by decide) c2
    refine lv_aload_n hx hb dX11_isRefused_5 rfl (lv_at hl 0 rfl) ?_
    refine va_get (D := (dC, dI)) (ci := 11) (v := .ref rf) (C := RX11) (T := TX11) (N := 41) hx hb hts iX11 hown hK hP 0 rfl rfl 28 (by decide) (hts _ qw1155) (fun _ h9 => h9) rfl dX11_isRefused_6 ?_
    refine lv_iload_n hx hb dX11_isRefused_9 rfl (lv_at hl 1 rfl) ?_
    refine lv_dup2_11 hx hb dX11_isRefused_10 rfl rfl ?_
    refine va_iald hx hb hK hP 1 0 rfl rfl (vp_in_iff.mpr ⟨by omega, by omega⟩) dX11_isRefused_11 ?_
    refine lv_topi (fun v11 e11 => ?_)
    refine lv_iconst (v := 1) hx hb dX11_isRefused_12 (by decide) ?_
    refine lv_iadd hx hb dX11_isRefused_13 ?_
    refine lv_topi (fun v13 e13 => ?_)
    refine va_iast hx hb hK hP hD hS 1 0 rfl rfl (vp_in_iff.mpr ⟨by omega, by omega⟩) dX11_isRefused_14 (fun H locs hP hD hS => ?_)
    obtain ⟨v14_f, e14⟩ : ∃ g : Nat → Int32, g = upd frf (p0).toNatClampNeg v13 := ⟨_, rfl⟩
    rw [← e14] at hP hD
    have hP : va_P (dC, dI) vwCl [(h0, .inr (11, [.int th, .ref tB, .int tsz, .int tat, .int wr, .int dp, .ref rC, .ref rV, .ref rD, .ref rK, .ref rT, .ref rS, .ref rU, .int lw, .int tx, .ref rL, .ref rX, .ref qR, .ref qB, .ref qP, .int qnb, .int qnp, .ref aR, .ref aB, .ref aP, .int nb, .int np, .ref aN, .ref rf, .int ho, .int br, .ref aK, .int ac, .long dw, .ref aE, .int sr, .int sf, .ref aA, .ref aH, .ref aI, .int hi])), (rf, .inl (cI, 5, .inl v14_f))] H := hP
    have hD : va_D A [(h0, .inr (11, [.int th, .ref tB, .int tsz, .int tat, .int wr, .int dp, .ref rC, .ref rV, .ref rD, .ref rK, .ref rT, .ref rS, .ref rU, .int lw, .int tx, .ref rL, .ref rX, .ref qR, .ref qB, .ref qP, .int qnb, .int qnp, .ref aR, .ref aB, .ref aP, .int nb, .int np, .ref aN, .ref rf, .int ho, .int br, .ref aK, .int ac, .long dw, .ref aE, .int sr, .int sf, .ref aA, .ref aH, .ref aI, .int hi])), (rf, .inl (cI, 5, .inl v14_f))] := hD
    refine lv_iload_n hx hb dX11_isRefused_15 rfl (lv_at hl 1 rfl) ?_
    refine lv_iconst (v := (-1)) hx hb dX11_isRefused_16 (by decide) ?_
    refine lv_icmp_eq (tgt := 24) hx hb dX11_isRefused_17 (by decide) (fun c17 => by exfalso; have c17 : p0.toInt = (-1) := z5 rfl (by decide) c17; omega) (fun c17 => ?_)
    have c17 : ¬ p0.toInt = (-1) := z6 rfl (by decide) c17
    refine lv_iconst (v := 1) hx hb dX11_isRefused_20 (by decide) ?_
    refine lv_goto (tgt := 25) hx hb dX11_isRefused_21 (by decide) ?_
    have zr0 : (1 : Int32).toInt = 1 := by decide
    rw [hQ]
    exact W.zret (v := 1) (ty := .boolean) hx hb hr rfl (fun t ht hW => ⟨⟨1, v14_f, rfl, ⟨by (try dsimp only); omega, by (try dsimp only); omega, by (try dsimp only); omega, by (try dsimp only); exact Or.inr ⟨by decide, by omega, zRf_mk (by omega) (by omega) e11 e13 e14⟩⟩, ⟨by rw [ht]; exact hP, hD⟩⟩, hS.F ht⟩) hS.2.2 dX11_isRefused_25
set_option maxHeartbeats 4000000 in
set_option maxRecDepth 100000 in
theorem g_X11_undo (l : Launch) (dC : Nat → ClassId) (dI : Nat → Nat → Nat) (cI cJ : ClassId) (h0 : Nat) (th : Int32) (tB : Nat) (tsz : Int32) (tat : Int32) (wr : Int32) (dp : Int32) (rC : Nat) (rV : Nat) (rD : Nat) (rK : Nat) (rT : Nat) (rS : Nat) (rU : Nat) (lw : Int32) (tx : Int32) (rL : Nat) (rX : Nat) (qR : Nat) (qB : Nat) (qP : Nat) (qnb : Int32) (qnp : Int32) (aR : Nat) (aB : Nat) (aP : Nat) (nb : Int32) (np : Int32) (aN : Nat) (rf : Nat) (ho : Int32) (br : Int32) (aK : Nat) (ac : Int32) (dw : Int64) (aE : Nat) (sr : Int32) (sf : Int32) (aA : Nat) (aH : Nat) (aI : Nat) (hi : Int32) (fN : Nat → Int32) (fKp : Nat → Int32) (sz : Nat) (n_ac : 0 ≤ ac.toInt ∧ ac.toInt ≤ 40) (n_hi : 0 ≤ hi.toInt ∧ hi.toInt ≤ 1) (n_ho : (-1) ≤ ho.toInt ∧ ho.toInt ≤ 3) (n_lw : 0 ≤ lw.toInt ∧ lw.toInt ≤ 4) (n_nb : 0 ≤ nb.toInt ∧ nb.toInt ≤ 6) (n_np : 0 ≤ np.toInt ∧ np.toInt ≤ 5) (n_qnb : 0 ≤ qnb.toInt ∧ qnb.toInt ≤ 6) (n_qnp : 0 ≤ qnp.toInt ∧ qnp.toInt ≤ 5) (n_tat : 0 ≤ tat.toInt ∧ tat.toInt ≤ 260) (n_tsz : 0 ≤ tsz.toInt ∧ tsz.toInt ≤ 240) (n_wr : (-1) ≤ wr.toInt ∧ wr.toInt ≤ 260)  (ci_fKp_zKp_np__F_h0_32_ : zKp np ac fKp) (ci_fN_zNw_np : zNw np fN)  : Met l yX11_undo (.code yX11_undo cX11_undo 2 (some .int) :: wA) ({ frames := 0, cells := 0, slots := 0, locals := 0 }) (zP (dC, dI) [(cI, .int), (cJ, .long)] [.ref h0] sz [(h0, .inr (11, [.int th, .ref tB, .int tsz, .int tat, .int wr, .int dp, .ref rC, .ref rV, .ref rD, .ref rK, .ref rT, .ref rS, .ref rU, .int lw, .int tx, .ref rL, .ref rX, .ref qR, .ref qB, .ref qP, .int qnb, .int qnp, .ref aR, .ref aB, .ref aP, .int nb, .int np, .ref aN, .ref rf, .int ho, .int br, .ref aK, .int ac, .long dw, .ref aE, .int sr, .int sf, .ref aA, .ref aH, .ref aI, .int hi])), (aN, .inl (cI, 97, .inl fN)), (aK, .inl (cI, 3880, .inl fKp))]) (va_Qi (fun (r : Int32) (u : Int32 × (Nat → Int32)) => ((-1) ≤ r.toInt) ∧ (r.toInt ≤ 39) ∧ (0 ≤ u.1.toInt) ∧ (u.1.toInt ≤ 39) ∧ (u.1.toInt ≤ ac.toInt) ∧ (∀ (kc : zK3) (kT : zT) (q_fR : Nat → Int32) (q_fBr : Nat → Int32) (q_fPa : Nat → Int32) (q_frf : Nat → Int32), zCn q_fR q_fBr q_fPa nb.toInt np.toInt kc → zKo nb.toInt np.toInt kc kT → zTr nb.toInt np.toInt kT fN fKp ac q_frf → r.toInt = sV_und kT ∧ zTr nb.toInt np.toInt (sT_und kT) u.2 fKp u.1 q_frf) ∧ (zNw np u.2)) (fun (u : Int32 × (Nat → Int32)) (t : State) => va_P (dC, dI) vwCl [(h0, .inr (11, [.int th, .ref tB, .int tsz, .int tat, .int wr, .int dp, .ref rC, .ref rV, .ref rD, .ref rK, .ref rT, .ref rS, .ref rU, .int lw, .int tx, .ref rL, .ref rX, .ref qR, .ref qB, .ref qP, .int qnb, .int qnp, .ref aR, .ref aB, .ref aP, .int nb, .int np, .ref aN, .ref rf, .int ho, .int br, .ref aK, .int u.1, .long dw, .ref aE, .int sr, .int sf, .ref aA, .ref aH, .ref aI, .int hi])), (aN, .inl (cI, 97, .inl u.2)), (aK, .inl (cI, 3880, .inl fKp))] t.heap ∧ va_D (va_A [(h0, .inr (11, [.int th, .ref tB, .int tsz, .int tat, .int wr, .int dp, .ref rC, .ref rV, .ref rD, .ref rK, .ref rT, .ref rS, .ref rU, .int lw, .int tx, .ref rL, .ref rX, .ref qR, .ref qB, .ref qP, .int qnb, .int qnp, .ref aR, .ref aB, .ref aP, .int nb, .int np, .ref aN, .ref rf, .int ho, .int br, .ref aK, .int ac, .long dw, .ref aE, .int sr, .int sf, .ref aA, .ref aH, .ref aI, .int hi])), (aN, .inl (cI, 97, .inl fN)), (aK, .inl (cI, 3880, .inl fKp))] sz) [(h0, .inr (11, [.int th, .ref tB, .int tsz, .int tat, .int wr, .int dp, .ref rC, .ref rV, .ref rD, .ref rK, .ref rT, .ref rS, .ref rU, .int lw, .int tx, .ref rL, .ref rX, .ref qR, .ref qB, .ref qP, .int qnb, .int qnp, .ref aR, .ref aB, .ref aP, .int nb, .int np, .ref aN, .ref rf, .int ho, .int br, .ref aK, .int u.1, .long dw, .ref aE, .int sr, .int sf, .ref aA, .ref aH, .ref aI, .int hi])), (aN, .inl (cI, 97, .inl u.2)), (aK, .inl (cI, 3880, .inl fKp))]) (va_A [(h0, .inr (11, [.int th, .ref tB, .int tsz, .int tat, .int wr, .int dp, .ref rC, .ref rV, .ref rD, .ref rK, .ref rT, .ref rS, .ref rU, .int lw, .int tx, .ref rL, .ref rX, .ref qR, .ref qB, .ref qP, .int qnb, .int qnp, .ref aR, .ref aB, .ref aP, .int nb, .int np, .ref aN, .ref rf, .int ho, .int br, .ref aK, .int ac, .long dw, .ref aE, .int sr, .int sf, .ref aA, .ref aH, .ref aI, .int hi])), (aN, .inl (cI, 97, .inl fN)), (aK, .inl (cI, 3880, .inl fKp))] sz)) 0 0 (va_A [(h0, .inr (11, [.int th, .ref tB, .int tsz, .int tat, .int wr, .int dp, .ref rC, .ref rV, .ref rD, .ref rK, .ref rT, .ref rS, .ref rU, .int lw, .int tx, .ref rL, .ref rX, .ref qR, .ref qB, .ref qP, .int qnb, .int qnp, .ref aR, .ref aB, .ref aP, .int nb, .int np, .ref aN, .ref rf, .int ho, .int br, .ref aK, .int ac, .long dw, .ref aE, .int sr, .int sf, .ref aA, .ref aH, .ref aI, .int hi])), (aN, .inl (cI, 97, .inl fN)), (aK, .inl (cI, 3880, .inl fKp))] sz) := by
  refine Met.ofW (cc := cX11_undo) (maxL := 2) (ret := (some .int)) (by decide) rfl ?_
  intro p e s m args below meth c s₁ B hml hv
  obtain ⟨hargs, hsz, hP, hK, hT⟩ := hv
  have hx := B.exec
  have hb := B.bytes
  have hr := B.returns
  have hts : ∀ w ∈ wA, w.before args s = true := fun w h => atoms_spec (ws := .code yX11_undo cX11_undo 2 (some .int) :: wA) B.pre w (List.mem_cons_of_mem _ h)
  have hown : s.vm.findClass RX11 = some m.cls := findClass_of_methodNamed B.named
  have hlocks := B.notSynchronized
  subst hsz
  have hD := hT.self (sz := s.heap.size)
  generalize hAe : va_A [(h0, .inr (11, [.int th, .ref tB, .int tsz, .int tat, .int wr, .int dp, .ref rC, .ref rV, .ref rD, .ref rK, .ref rT, .ref rS, .ref rU, .int lw, .int tx, .ref rL, .ref rX, .ref qR, .ref qB, .ref qP, .int qnb, .int qnp, .ref aR, .ref aB, .ref aP, .int nb, .int np, .ref aN, .ref rf, .int ho, .int br, .ref aK, .int ac, .long dw, .ref aE, .int sr, .int sf, .ref aA, .ref aH, .ref aI, .int hi])), (aN, .inl (cI, 97, .inl fN)), (aK, .inl (cI, 3880, .inl fKp))] s.heap.size = A at hD ⊢
  have hA : ∀ q : Nat, s.heap.size ≤ q → A q := fun q h => by rw [← hAe]; exact Or.inr h
  have hl := lv_entry ([.ref h0]) (n := 2) (Nat.le_of_ble_eq_true rfl)
  rw [show entryFrame m args 2 = entryFrame m ([.ref h0] : List Value).toArray 2 by rw [hargs], lg_entry_eq]
  generalize (lg_sl ([.ref h0]) ++ List.replicate (2 - (lg_sl ([.ref h0])).length) Slot.unset).toArray = ls at hl ⊢
  have hl : lv_has ls 2 [(0, .ref h0)] := hl
  refine zstart (fun H hH => ?_)
  rw [← hH] at hP
  have hS : va_S A s.heap H [] := by rw [hH]; exact va_S.rf
  generalize ([] : List Loc) = locs at hS ⊢
  refine zgen (fun R Q hR hQ => ?_)
  refine lv_aload_n hx hb dX11_undo_0 rfl (lv_at hl 0 rfl) ?_
  refine va_get (D := (dC, dI)) (ci := 11) (v := .int ac) (C := RX11) (T := TX11) (N := 41) hx hb hts iX11 hown hK hP 0 rfl rfl 32 (by decide) (hts _ qw1159) (fun _ h9 => h9) rfl dX11_undo_1 ?_
  refine lv_if_ne (tgt := 9) hx hb dX11_undo_4 (by decide) (fun c4 => ?_) (fun c4 => ?_)
  · have c4 : ¬ ac.toInt = 0 := z6 rfl (by decide) c4
    refine lv_aload_n hx hb dX11_undo_9 rfl (lv_at hl 0 rfl) ?_
    refine lv_dup hx hb dX11_undo_10 rfl ?_
    refine va_get (D := (dC, dI)) (ci := 11) (v := .int ac) (C := RX11) (T := TX11) (N := 41) hx hb hts iX11 hown hK hP 0 rfl rfl 32 (by decide) (hts _ qw1159) (fun _ h9 => h9) rfl dX11_undo_11 ?_
    refine lv_iconst (v := 1) hx hb dX11_undo_14 (by decide) ?_
    refine lv_isub hx hb dX11_undo_15 ?_
    refine lv_topi (fun v15 e15 => ?_)
    have i15 : v15.toInt = ac.toInt - 1 := zsub e15 rfl (by decide) (by omega) (by omega)
    refine va_put (D := (dC, dI)) (ci := 11) (v := .int v15) (ty := .int) (C := RX11) (T := TX11) (N := 41) hx hb hts iX11 tyX11 tyX11_ok nmX11 hown hK hP hD hS 0 rfl rfl 32 (by decide) (hts _ qw1159) (fun _ h9 => h9) rfl (by decide +kernel) rfl rfl (Nat.le_of_ble_eq_true rfl) dX11_undo_16 (fun H locs hP hD hS => ?_)
    have hP : va_P (dC, dI) vwCl [(h0, .inr (11, [.int th, .ref tB, .int tsz, .int tat, .int wr, .int dp, .ref rC, .ref rV, .ref rD, .ref rK, .ref rT, .ref rS, .ref rU, .int lw, .int tx, .ref rL, .ref rX, .ref qR, .ref qB, .ref qP, .int qnb, .int qnp, .ref aR, .ref aB, .ref aP, .int nb, .int np, .ref aN, .ref rf, .int ho, .int br, .ref aK, .int v15, .long dw, .ref aE, .int sr, .int sf, .ref aA, .ref aH, .ref aI, .int hi])), (aN, .inl (cI, 97, .inl fN)), (aK, .inl (cI, 3880, .inl fKp))] H := hP
    have hD : va_D A [(h0, .inr (11, [.int th, .ref tB, .int tsz, .int tat, .int wr, .int dp, .ref rC, .ref rV, .ref rD, .ref rK, .ref rT, .ref rS, .ref rU, .int lw, .int tx, .ref rL, .ref rX, .ref qR, .ref qB, .ref qP, .int qnb, .int qnp, .ref aR, .ref aB, .ref aP, .int nb, .int np, .ref aN, .ref rf, .int ho, .int br, .ref aK, .int v15, .long dw, .ref aE, .int sr, .int sf, .ref aA, .ref aH, .ref aI, .int hi])), (aN, .inl (cI, 97, .inl fN)), (aK, .inl (cI, 3880, .inl fKp))] := hD
    refine lv_iconst (v := 0) hx hb dX11_undo_19 (by decide) ?_
    have J21 : ∀ (n : Nat) (m21_A_aN : Nat → Int32) (m21_L_1 : Int32), (0 ≤ m21_L_1.toInt ∧ m21_L_1.toInt ≤ 98) → (zEq m21_A_aN fKp (97 * v15.toInt.toNat) m21_L_1) → (99 - m21_L_1.toInt).toNat = n → ∀ (H : Heap) (locs : List Loc) (ls : Array Slot), va_P (dC, dI) vwCl [(h0, .inr (11, [.int th, .ref tB, .int tsz, .int tat, .int wr, .int dp, .ref rC, .ref rV, .ref rD, .ref rK, .ref rT, .ref rS, .ref rU, .int lw, .int tx, .ref rL, .ref rX, .ref qR, .ref qB, .ref qP, .int qnb, .int qnp, .ref aR, .ref aB, .ref aP, .int nb, .int np, .ref aN, .ref rf, .int ho, .int br, .ref aK, .int v15, .long dw, .ref aE, .int sr, .int sf, .ref aA, .ref aH, .ref aI, .int hi])), (aN, .inl (cI, 97, .inl m21_A_aN)), (aK, .inl (cI, 3880, .inl fKp))] H → va_D A [(h0, .inr (11, [.int th, .ref tB, .int tsz, .int tat, .int wr, .int dp, .ref rC, .ref rV, .ref rD, .ref rK, .ref rT, .ref rS, .ref rU, .int lw, .int tx, .ref rL, .ref rX, .ref qR, .ref qB, .ref qP, .int qnb, .int qnp, .ref aR, .ref aB, .ref aP, .int nb, .int np, .ref aN, .ref rf, .int ho, .int br, .ref aK, .int v15, .long dw, .ref aE, .int sr, .int sf, .ref aA, .ref aH, .ref aI, .int hi])), (aN, .inl (cI, 97, .inl m21_A_aN)), (aK, .inl (cI, 3880, .inl fKp))] → va_S A s.heap H locs → lv_has ls 2 [(1, .int m21_L_1), (0, .ref h0)] → W p l e R s m args below meth c H locs 0 0 Q (F0 m 21 ls []) := by
      intro n21
      induction n21 using Nat.strongRecOn with
      | _ n21 ih21 =>
        intro m21_A_aN m21_L_1 jf21_0 jv21_0 hmu21 H locs ls hP hD hS hl
        refine lv_iload_n hx hb dX11_undo_21 rfl (lv_at hl 0 rfl) ?_
        refine lv_bipush (v := 97) hx hb dX11_undo_22 (by decide) ?_
        refine lv_icmp_ge (tgt := 53) hx hb dX11_undo_24 (by decide) (fun c24 => ?_) (fun c24 => ?_)
        · have c24 : 97 ≤ m21_L_1.toInt := z3 (by decide) rfl c24
          have cs53_0 : zNw np m21_A_aN := zNw_row ci_fKp_zKp_np__F_h0_32_ jv21_0 (by omega) (by omega) (by omega)
          refine lv_aload_n hx hb dX11_undo_53 rfl (lv_at hl 1 rfl) ?_
          refine va_get (D := (dC, dI)) (ci := 11) (v := .int v15) (C := RX11) (T := TX11) (N := 41) hx hb hts iX11 hown hK hP 0 rfl rfl 32 (by decide) (hts _ qw1159) (fun _ h9 => h9) rfl dX11_undo_54 ?_
          rw [hQ]
          exact W.iret (v := v15) hx hb hr (fun t ht hW => ⟨⟨v15, (v15, m21_A_aN), rfl, ⟨by (try dsimp only); omega, by (try dsimp only); omega, by (try dsimp only); omega, by (try dsimp only); omega, by (try dsimp only); omega, by (try dsimp only); exact fun kc kT q_fR q_fBr q_fPa q_frf hc hb h => zTr_u1 h hb.2 jv21_0 (by omega) (by omega) (by omega), cs53_0⟩, ⟨by rw [ht]; exact hP, hD⟩⟩, hS.F ht⟩) hS.2.2 dX11_undo_57
        · have c24 : m21_L_1.toInt < 97 := z4 (by decide) rfl c24
          refine lv_aload_n hx hb dX11_undo_27 rfl (lv_at hl 1 rfl) ?_
          refine va_get (D := (dC, dI)) (ci := 11) (v := .ref aN) (C := RX11) (T := TX11) (N := 41) hx hb hts iX11 hown hK hP 0 rfl rfl 27 (by decide) (hts _ qw1154) (fun _ h9 => h9) rfl dX11_undo_28 ?_
          refine lv_iload_n hx hb dX11_undo_31 rfl (lv_at hl 0 rfl) ?_
          refine lv_aload_n hx hb dX11_undo_32 rfl (lv_at hl 1 rfl) ?_
          refine va_get (D := (dC, dI)) (ci := 11) (v := .ref aK) (C := RX11) (T := TX11) (N := 41) hx hb hts iX11 hown hK hP 0 rfl rfl 31 (by decide) (hts _ qw1158) (fun _ h9 => h9) rfl dX11_undo_33 ?_
          refine lv_bipush (v := 97) hx hb dX11_undo_36 (by decide) ?_
          refine lv_aload_n hx hb dX11_undo_38 rfl (lv_at hl 1 rfl) ?_
          refine va_get (D := (dC, dI)) (ci := 11) (v := .int v15) (C := RX11) (T := TX11) (N := 41) hx hb hts iX11 hown hK hP 0 rfl rfl 32 (by decide) (hts _ qw1159) (fun _ h9 => h9) rfl dX11_undo_39 ?_
          refine lv_imul hx hb dX11_undo_42 ?_
          refine lv_topi (fun v42 e42 => ?_)
          have i42 : v42.toInt = 97 * v15.toInt := zmul e42 (by decide) rfl (by omega) (by omega)
          refine lv_iload_n hx hb dX11_undo_43 rfl (lv_at hl 0 rfl) ?_
          refine lv_iadd hx hb dX11_undo_44 ?_
          refine lv_topi (fun v44 e44 => ?_)
          have i44 : v44.toInt = v42.toInt + m21_L_1.toInt := zadd e44 rfl rfl (by omega) (by omega)
          refine va_iald hx hb hK hP 2 0 rfl rfl (vp_in_iff.mpr ⟨by omega, by omega⟩) dX11_undo_45 ?_
          refine lv_topi (fun v45 e45 => ?_)
          refine va_iast hx hb hK hP hD hS 1 0 rfl rfl (vp_in_iff.mpr ⟨by omega, by omega⟩) dX11_undo_46 (fun H locs hP hD hS => ?_)
          obtain ⟨v46_f, e46⟩ : ∃ g : Nat → Int32, g = upd m21_A_aN (m21_L_1).toNatClampNeg v45 := ⟨_, rfl⟩
          rw [← e46] at hP hD
          have hP : va_P (dC, dI) vwCl [(h0, .inr (11, [.int th, .ref tB, .int tsz, .int tat, .int wr, .int dp, .ref rC, .ref rV, .ref rD, .ref rK, .ref rT, .ref rS, .ref rU, .int lw, .int tx, .ref rL, .ref rX, .ref qR, .ref qB, .ref qP, .int qnb, .int qnp, .ref aR, .ref aB, .ref aP, .int nb, .int np, .ref aN, .ref rf, .int ho, .int br, .ref aK, .int v15, .long dw, .ref aE, .int sr, .int sf, .ref aA, .ref aH, .ref aI, .int hi])), (aN, .inl (cI, 97, .inl v46_f)), (aK, .inl (cI, 3880, .inl fKp))] H := hP
          have hD : va_D A [(h0, .inr (11, [.int th, .ref tB, .int tsz, .int tat, .int wr, .int dp, .ref rC, .ref rV, .ref rD, .ref rK, .ref rT, .ref rS, .ref rU, .int lw, .int tx, .ref rL, .ref rX, .ref qR, .ref qB, .ref qP, .int qnb, .int qnp, .ref aR, .ref aB, .ref aP, .int nb, .int np, .ref aN, .ref rf, .int ho, .int br, .ref aK, .int v15, .long dw, .ref aE, .int sr, .int sf, .ref aA, .ref aH, .ref aI, .int hi])), (aN, .inl (cI, 97, .inl v46_f)), (aK, .inl (cI, 3880, .inl fKp))] := hD
          obtain ⟨v47, e47⟩ : ∃ y : Int32, y = m21_L_1 + Int32.ofInt (1) := ⟨_, rfl⟩
          refine lv_iinc (v := v47) (lv' := [(1, .int v47), (0, .ref h0)]) hx hb dX11_undo_47 hl (k := 0) rfl e47.symm (by decide) rfl (fun ls hl => ?_)
          have i47 : v47.toInt = m21_L_1.toInt + 1 := zaddI e47 (by decide) (by omega) (by omega)
          refine lv_goto (tgt := 21) hx hb dX11_undo_50 (by decide) ?_
          exact ih21 _ (by omega) v46_f v47 (by omega) (zEq_s jv21_0 e45 e46 (by omega) (by omega) (by omega) (by omega)) rfl H locs ls hP hD hS (lv_sub hl [0, 1] rfl)
    refine lv_istore_n (lv' := [(1, .int 0), (0, .ref h0)]) hx hb dX11_undo_20 rfl hl (by decide) rfl (fun ls hl => ?_)
    have zj21_m21_L_1 : (0 : Int32).toInt = 0 := by decide
    exact J21 _ fN 0 (by decide) (zEq_0) rfl H locs ls hP hD hS (lv_sub hl [0, 1] rfl)
  · have c4 : ac.toInt = 0 := z5 rfl (by decide) c4
    refine lv_iconst (v := (-1)) hx hb dX11_undo_7 (by decide) ?_
    have zr0 : ((-1) : Int32).toInt = (-1) := by decide
    rw [hQ]
    exact W.iret (v := ((-1))) hx hb hr (fun t ht hW => ⟨⟨(-1), (ac, fN), rfl, ⟨by (try dsimp only); omega, by (try dsimp only); omega, by (try dsimp only); omega, by (try dsimp only); omega, by (try dsimp only); omega, by (try dsimp only); exact fun kc kT q_fR q_fBr q_fPa q_frf hc hb h => zTr_u0 h (by omega), ci_fN_zNw_np⟩, ⟨by rw [ht]; exact hP, hD⟩⟩, hS.F ht⟩) hS.2.2 dX11_undo_8
