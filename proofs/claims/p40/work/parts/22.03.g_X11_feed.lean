set_option maxHeartbeats 4000000 in
set_option maxRecDepth 100000 in
theorem g_X11_feed (l : Launch) (dC : Nat → ClassId) (dI : Nat → Nat → Nat) (cI cJ : ClassId) (h0 : Nat) (p0 : Int32) (p1 : Int32) (p2 : Int32) (p3 : Int32) (p4 : Int32) (th : Int32) (tB : Nat) (tsz : Int32) (tat : Int32) (wr : Int32) (dp : Int32) (rC : Nat) (rV : Nat) (rD : Nat) (rK : Nat) (rT : Nat) (rS : Nat) (rU : Nat) (lw : Int32) (tx : Int32) (rL : Nat) (rX : Nat) (qR : Nat) (qB : Nat) (qP : Nat) (qnb : Int32) (qnp : Int32) (aR : Nat) (aB : Nat) (aP : Nat) (nb : Int32) (np : Int32) (aN : Nat) (rf : Nat) (ho : Int32) (br : Int32) (aK : Nat) (ac : Int32) (dw : Int64) (aE : Nat) (sr : Int32) (sf : Int32) (aA : Nat) (aH : Nat) (aI : Nat) (hi : Int32) (fB : Nat → Int32) (sz : Nat) (n_ac : 0 ≤ ac.toInt ∧ ac.toInt ≤ 40) (n_hi : 0 ≤ hi.toInt ∧ hi.toInt ≤ 1) (n_ho : (-1) ≤ ho.toInt ∧ ho.toInt ≤ 3) (n_lw : 0 ≤ lw.toInt ∧ lw.toInt ≤ 4) (n_nb : 0 ≤ nb.toInt ∧ nb.toInt ≤ 6) (n_np : 0 ≤ np.toInt ∧ np.toInt ≤ 5) (n_qnb : 0 ≤ qnb.toInt ∧ qnb.toInt ≤ 6) (n_qnp : 0 ≤ qnp.toInt ∧ qnp.toInt ≤ 5) (n_tat : 0 ≤ tat.toInt ∧ tat.toInt ≤ 260) (n_tsz : 0 ≤ tsz.toInt ∧ tsz.toInt ≤ 240) (n_wr : (-1) ≤ wr.toInt ∧ wr.toInt ≤ 260) (hty : zTy tsz fB)   : Met l yX11_feed (.code yX11_feed cX11_feed 9 (some .int) :: wA) ({ frames := 1, cells := 0, slots := 0, locals := 26 }) (zP (dC, dI) [(cI, .int), (cJ, .long)] [.ref h0, .int p0, .int p1, .int p2, .int p3, .int p4] sz [(h0, .inr (11, [.int th, .ref tB, .int tsz, .int tat, .int wr, .int dp, .ref rC, .ref rV, .ref rD, .ref rK, .ref rT, .ref rS, .ref rU, .int lw, .int tx, .ref rL, .ref rX, .ref qR, .ref qB, .ref qP, .int qnb, .int qnp, .ref aR, .ref aB, .ref aP, .int nb, .int np, .ref aN, .ref rf, .int ho, .int br, .ref aK, .int ac, .long dw, .ref aE, .int sr, .int sf, .ref aA, .ref aH, .ref aI, .int hi])), (tB, .inl (cI, 240, .inl fB))]) (va_Qi (fun (r : Int32) (u : Int32 × (Nat → Int32)) => ((-1) ≤ r.toInt) ∧ (r.toInt ≤ 240) ∧ (0 ≤ u.1.toInt) ∧ (u.1.toInt ≤ 240) ∧ (zFd fB tsz p0 p1 p2 p3 p4 r u.2 u.1) ∧ (zTy u.1 u.2)) (fun (u : Int32 × (Nat → Int32)) (t : State) => va_P (dC, dI) vwCl [(h0, .inr (11, [.int th, .ref tB, .int u.1, .int tat, .int wr, .int dp, .ref rC, .ref rV, .ref rD, .ref rK, .ref rT, .ref rS, .ref rU, .int lw, .int tx, .ref rL, .ref rX, .ref qR, .ref qB, .ref qP, .int qnb, .int qnp, .ref aR, .ref aB, .ref aP, .int nb, .int np, .ref aN, .ref rf, .int ho, .int br, .ref aK, .int ac, .long dw, .ref aE, .int sr, .int sf, .ref aA, .ref aH, .ref aI, .int hi])), (tB, .inl (cI, 240, .inl u.2))] t.heap ∧ va_D (va_A [(h0, .inr (11, [.int th, .ref tB, .int tsz, .int tat, .int wr, .int dp, .ref rC, .ref rV, .ref rD, .ref rK, .ref rT, .ref rS, .ref rU, .int lw, .int tx, .ref rL, .ref rX, .ref qR, .ref qB, .ref qP, .int qnb, .int qnp, .ref aR, .ref aB, .ref aP, .int nb, .int np, .ref aN, .ref rf, .int ho, .int br, .ref aK, .int ac, .long dw, .ref aE, .int sr, .int sf, .ref aA, .ref aH, .ref aI, .int hi])), (tB, .inl (cI, 240, .inl fB))] sz) [(h0, .inr (11, [.int th, .ref tB, .int u.1, .int tat, .int wr, .int dp, .ref rC, .ref rV, .ref rD, .ref rK, .ref rT, .ref rS, .ref rU, .int lw, .int tx, .ref rL, .ref rX, .ref qR, .ref qB, .ref qP, .int qnb, .int qnp, .ref aR, .ref aB, .ref aP, .int nb, .int np, .ref aN, .ref rf, .int ho, .int br, .ref aK, .int ac, .long dw, .ref aE, .int sr, .int sf, .ref aA, .ref aH, .ref aI, .int hi])), (tB, .inl (cI, 240, .inl u.2))]) (va_A [(h0, .inr (11, [.int th, .ref tB, .int tsz, .int tat, .int wr, .int dp, .ref rC, .ref rV, .ref rD, .ref rK, .ref rT, .ref rS, .ref rU, .int lw, .int tx, .ref rL, .ref rX, .ref qR, .ref qB, .ref qP, .int qnb, .int qnp, .ref aR, .ref aB, .ref aP, .int nb, .int np, .ref aN, .ref rf, .int ho, .int br, .ref aK, .int ac, .long dw, .ref aE, .int sr, .int sf, .ref aA, .ref aH, .ref aI, .int hi])), (tB, .inl (cI, 240, .inl fB))] sz)) 0 0 (va_A [(h0, .inr (11, [.int th, .ref tB, .int tsz, .int tat, .int wr, .int dp, .ref rC, .ref rV, .ref rD, .ref rK, .ref rT, .ref rS, .ref rU, .int lw, .int tx, .ref rL, .ref rX, .ref qR, .ref qB, .ref qP, .int qnb, .int qnp, .ref aR, .ref aB, .ref aP, .int nb, .int np, .ref aN, .ref rf, .int ho, .int br, .ref aK, .int ac, .long dw, .ref aE, .int sr, .int sf, .ref aA, .ref aH, .ref aI, .int hi])), (tB, .inl (cI, 240, .inl fB))] sz) := by
  refine Met.ofW (cc := cX11_feed) (maxL := 9) (ret := (some .int)) (by decide) rfl ?_
  intro p e s m args below meth c s₁ B hml hv
  have y_ac : zHid (0 ≤ ac.toInt ∧ ac.toInt ≤ 40) := n_ac
  have y_hi : zHid (0 ≤ hi.toInt ∧ hi.toInt ≤ 1) := n_hi
  have y_ho : zHid ((-1) ≤ ho.toInt ∧ ho.toInt ≤ 3) := n_ho
  have y_lw : zHid (0 ≤ lw.toInt ∧ lw.toInt ≤ 4) := n_lw
  have y_nb : zHid (0 ≤ nb.toInt ∧ nb.toInt ≤ 6) := n_nb
  have y_np : zHid (0 ≤ np.toInt ∧ np.toInt ≤ 5) := n_np
  have y_qnb : zHid (0 ≤ qnb.toInt ∧ qnb.toInt ≤ 6) := n_qnb
  have y_qnp : zHid (0 ≤ qnp.toInt ∧ qnp.toInt ≤ 5) := n_qnp
  have y_tat : zHid (0 ≤ tat.toInt ∧ tat.toInt ≤ 260) := n_tat
  have y_wr : zHid ((-1) ≤ wr.toInt ∧ wr.toInt ≤ 260) := n_wr
  clear n_ac n_hi n_ho n_lw n_nb n_np n_qnb n_qnp n_tat n_wr
  obtain ⟨hargs, hsz, hP, hK, hT⟩ := hv
  have hx := B.exec
  have hb := B.bytes
  have hr := B.returns
  have hts : ∀ w ∈ wA, w.before args s = true := fun w h => atoms_spec (ws := .code yX11_feed cX11_feed 9 (some .int) :: wA) B.pre w (List.mem_cons_of_mem _ h)
  have hown : s.vm.findClass RX11 = some m.cls := findClass_of_methodNamed B.named
  have hlocks := B.notSynchronized
  subst hsz
  have hD := hT.self (sz := s.heap.size)
  generalize hAe : va_A [(h0, .inr (11, [.int th, .ref tB, .int tsz, .int tat, .int wr, .int dp, .ref rC, .ref rV, .ref rD, .ref rK, .ref rT, .ref rS, .ref rU, .int lw, .int tx, .ref rL, .ref rX, .ref qR, .ref qB, .ref qP, .int qnb, .int qnp, .ref aR, .ref aB, .ref aP, .int nb, .int np, .ref aN, .ref rf, .int ho, .int br, .ref aK, .int ac, .long dw, .ref aE, .int sr, .int sf, .ref aA, .ref aH, .ref aI, .int hi])), (tB, .inl (cI, 240, .inl fB))] s.heap.size = A at hD ⊢
  have hA : ∀ q : Nat, s.heap.size ≤ q → A q := fun q h => by rw [← hAe]; exact Or.inr h
  have hl := lv_entry ([.ref h0, .int p0, .int p1, .int p2, .int p3, .int p4]) (n := 9) (Nat.le_of_ble_eq_true rfl)
  rw [show entryFrame m args 9 = entryFrame m ([.ref h0, .int p0, .int p1, .int p2, .int p3, .int p4] : List Value).toArray 9 by rw [hargs], lg_entry_eq]
  generalize (lg_sl ([.ref h0, .int p0, .int p1, .int p2, .int p3, .int p4]) ++ List.replicate (9 - (lg_sl ([.ref h0, .int p0, .int p1, .int p2, .int p3, .int p4])).length) Slot.unset).toArray = ls at hl ⊢
  have hl : lv_has ls 9 [(0, .ref h0), (1, .int p0), (2, .int p1), (3, .int p2), (4, .int p3), (5, .int p4)] := hl
  refine zstart (fun H hH => ?_)
  rw [← hH] at hP
  have hS : va_S A s.heap H [] := by rw [hH]; exact va_S.rf
  generalize ([] : List Loc) = locs at hS ⊢
  refine zgen (fun R Q hR hQ => ?_)
  have q0 : zBc p0 p1 p2 p3 p4 (0 : Int32).toInt.toNat = 0 := rfl
  refine lv_iconst (v := 0) hx hb dX11_feed_0 (by decide) ?_
  refine lv_istore (lv' := [(6, .int 0), (0, .ref h0), (1, .int p0), (2, .int p1), (3, .int p2), (4, .int p3), (5, .int p4)]) hx hb dX11_feed_1 hl (by decide) rfl (fun ls hl => ?_)
  refine lv_iconst (v := 0) hx hb dX11_feed_3 (by decide) ?_
  have J6 : ∀ (n : Nat) (m6_L_6 : Int32) (m6_L_7 : Int32), (0 ≤ m6_L_6.toInt ∧ m6_L_6.toInt ≤ 20) → (0 ≤ m6_L_7.toInt ∧ m6_L_7.toInt ≤ 20) → (m6_L_6.toInt = (zBc p0 p1 p2 p3 p4 m6_L_7.toInt.toNat : Int) ∧ 0 ≤ m6_L_6.toInt ∧ m6_L_6.toInt ≤ m6_L_7.toInt) → (21 - m6_L_7.toInt).toNat = n → ∀ (H : Heap) (locs : List Loc) (ls : Array Slot), va_P (dC, dI) vwCl [(h0, .inr (11, [.int th, .ref tB, .int tsz, .int tat, .int wr, .int dp, .ref rC, .ref rV, .ref rD, .ref rK, .ref rT, .ref rS, .ref rU, .int lw, .int tx, .ref rL, .ref rX, .ref qR, .ref qB, .ref qP, .int qnb, .int qnp, .ref aR, .ref aB, .ref aP, .int nb, .int np, .ref aN, .ref rf, .int ho, .int br, .ref aK, .int ac, .long dw, .ref aE, .int sr, .int sf, .ref aA, .ref aH, .ref aI, .int hi])), (tB, .inl (cI, 240, .inl fB))] H → va_D A [(h0, .inr (11, [.int th, .ref tB, .int tsz, .int tat, .int wr, .int dp, .ref rC, .ref rV, .ref rD, .ref rK, .ref rT, .ref rS, .ref rU, .int lw, .int tx, .ref rL, .ref rX, .ref qR, .ref qB, .ref qP, .int qnb, .int qnp, .ref aR, .ref aB, .ref aP, .int nb, .int np, .ref aN, .ref rf, .int ho, .int br, .ref aK, .int ac, .long dw, .ref aE, .int sr, .int sf, .ref aA, .ref aH, .ref aI, .int hi])), (tB, .inl (cI, 240, .inl fB))] → va_S A s.heap H locs → lv_has ls 9 [(7, .int m6_L_7), (6, .int m6_L_6), (0, .ref h0), (1, .int p0), (2, .int p1), (3, .int p2), (4, .int p3), (5, .int p4)] → W p l e R s m args below meth c H locs 0 0 Q (F0 m 6 ls []) := by
    intro n6
    induction n6 using Nat.strongRecOn with
    | _ n6 ih6 =>
      intro m6_L_6 m6_L_7 jf6_0 jf6_1 jf6_2 hmu6 H locs ls hP hD hS hl
      refine lv_iload hx hb dX11_feed_6 (lv_at hl 0 rfl) ?_
      refine lv_bipush (v := 20) hx hb dX11_feed_8 (by decide) ?_
      refine lv_icmp_ge (tgt := 44) hx hb dX11_feed_10 (by decide) (fun c10 => ?_) (fun c10 => ?_)
      · have c10 : 20 ≤ m6_L_7.toInt := z3 (by decide) rfl c10
        have q44 : m6_L_7.toInt.toNat = 20 := by omega
        have q44b : 0 ≤ m6_L_6.toInt ∧ m6_L_6.toInt ≤ 20 := by omega
        have q44c : zBc p0 p1 p2 p3 p4 m6_L_7.toInt.toNat = zBc p0 p1 p2 p3 p4 20 := by rw [q44]
        refine lv_aload_n hx hb dX11_feed_44 rfl (lv_at hl 2 rfl) ?_
        refine va_get (D := (dC, dI)) (ci := 11) (v := .int tsz) (C := RX11) (T := TX11) (N := 41) hx hb hts iX11 hown hK hP 0 rfl rfl 2 (by decide) (hts _ qw1129) (fun _ h9 => h9) rfl dX11_feed_45 ?_
        refine lv_iload hx hb dX11_feed_48 (lv_at hl 1 rfl) ?_
        refine lv_iadd hx hb dX11_feed_50 ?_
        refine lv_topi (fun v50 e50 => ?_)
        have i50 : v50.toInt = tsz.toInt + m6_L_6.toInt := zadd e50 rfl rfl (by omega) (by omega)
        refine lv_sipush (v := 240) hx hb dX11_feed_51 (by decide) ?_
        refine lv_icmp_le (tgt := 59) hx hb dX11_feed_54 (by decide) (fun c54 => ?_) (fun c54 => ?_)
        · have c54 : v50.toInt ≤ 240 := z3 rfl (by decide) c54
          refine lv_iconst (v := 0) hx hb dX11_feed_59 (by decide) ?_
          have J62 : ∀ (n : Nat) (m62_A_tB : Nat → Int32) (m62_F_h0_2 : Int32) (m62_L_7 : Int32), (0 ≤ m62_F_h0_2.toInt ∧ m62_F_h0_2.toInt ≤ 240) → (0 ≤ m62_L_7.toInt ∧ m62_L_7.toInt ≤ 20) → (m62_F_h0_2.toInt = tsz.toInt + (zBc p0 p1 p2 p3 p4 m62_L_7.toInt.toNat : Int)) → (zFr fB tsz p0 p1 p2 p3 p4 m62_A_tB m62_F_h0_2 m62_L_7) → (zTy m62_F_h0_2 m62_A_tB) → (21 - m62_L_7.toInt).toNat = n → ∀ (H : Heap) (locs : List Loc) (ls : Array Slot), va_P (dC, dI) vwCl [(h0, .inr (11, [.int th, .ref tB, .int m62_F_h0_2, .int tat, .int wr, .int dp, .ref rC, .ref rV, .ref rD, .ref rK, .ref rT, .ref rS, .ref rU, .int lw, .int tx, .ref rL, .ref rX, .ref qR, .ref qB, .ref qP, .int qnb, .int qnp, .ref aR, .ref aB, .ref aP, .int nb, .int np, .ref aN, .ref rf, .int ho, .int br, .ref aK, .int ac, .long dw, .ref aE, .int sr, .int sf, .ref aA, .ref aH, .ref aI, .int hi])), (tB, .inl (cI, 240, .inl m62_A_tB))] H → va_D A [(h0, .inr (11, [.int th, .ref tB, .int m62_F_h0_2, .int tat, .int wr, .int dp, .ref rC, .ref rV, .ref rD, .ref rK, .ref rT, .ref rS, .ref rU, .int lw, .int tx, .ref rL, .ref rX, .ref qR, .ref qB, .ref qP, .int qnb, .int qnp, .ref aR, .ref aB, .ref aP, .int nb, .int np, .ref aN, .ref rf, .int ho, .int br, .ref aK, .int ac, .long dw, .ref aE, .int sr, .int sf, .ref aA, .ref aH, .ref aI, .int hi])), (tB, .inl (cI, 240, .inl m62_A_tB))] → va_S A s.heap H locs → lv_has ls 9 [(7, .int m62_L_7), (6, .int m6_L_6), (0, .ref h0), (1, .int p0), (2, .int p1), (3, .int p2), (4, .int p3), (5, .int p4)] → W p l e R s m args below meth c H locs 0 0 Q (F0 m 62 ls []) := by
            intro n62
            induction n62 using Nat.strongRecOn with
            | _ n62 ih62 =>
              intro m62_A_tB m62_F_h0_2 m62_L_7 jf62_0 jf62_1 jf62_2 jv62_0 jv62_1 hmu62 H locs ls hP hD hS hl
              refine lv_iload hx hb dX11_feed_62 (lv_at hl 0 rfl) ?_
              refine lv_bipush (v := 20) hx hb dX11_feed_64 (by decide) ?_
              refine lv_icmp_ge (tgt := 115) hx hb dX11_feed_66 (by decide) (fun c66 => ?_) (fun c66 => ?_)
              · have c66 : 20 ≤ m62_L_7.toInt := z3 (by decide) rfl c66
                refine lv_aload_n hx hb dX11_feed_115 rfl (lv_at hl 2 rfl) ?_
                refine va_get (D := (dC, dI)) (ci := 11) (v := .int m62_F_h0_2) (C := RX11) (T := TX11) (N := 41) hx hb hts iX11 hown hK hP 0 rfl rfl 2 (by decide) (hts _ qw1129) (fun _ h9 => h9) rfl dX11_feed_116 ?_
                rw [hQ]
                exact W.iret (v := m62_F_h0_2) hx hb hr (fun t ht hW => ⟨⟨m62_F_h0_2, (m62_F_h0_2, m62_A_tB), rfl, ⟨by (try dsimp only); omega, by (try dsimp only); omega, by (try dsimp only); omega, by (try dsimp only); omega, by (try dsimp only); exact zfrB jv62_0 (by omega) (by omega), by (try dsimp only); exact jv62_1⟩, ⟨by rw [ht]; exact hP, hD⟩⟩, hS.F ht⟩) hS.2.2 dX11_feed_119
              · have c66 : m62_L_7.toInt < 20 := z4 (by decide) rfl c66
                refine lv_iload_n hx hb dX11_feed_69 rfl (lv_at hl 3 rfl) ?_
                refine lv_iload_n hx hb dX11_feed_70 rfl (lv_at hl 4 rfl) ?_
                refine lv_iload_n hx hb dX11_feed_71 rfl (lv_at hl 5 rfl) ?_
                refine lv_iload hx hb dX11_feed_72 (lv_at hl 6 rfl) ?_
                refine lv_iload hx hb dX11_feed_74 (lv_at hl 7 rfl) ?_
                refine lv_iload hx hb dX11_feed_76 (lv_at hl 0 rfl) ?_
                have hPc : va_P (dC, dI) vwCl [] H := zP0
                have hDc : va_D (fun _ => True) [] := zD0
                have hFc := zfr hS hA
                refine va_calli (va_runS (As := [.int p0, .int p1, .int p2, .int p3, .int p4, .int m62_L_7]) (rest := []) ⟨hx, hb, hml, hown, hts⟩ (g_X11_byteOf l dC dI cI cJ p0 p1 p2 p3 p4 m62_L_7 H.size) (cwS 6 hts (zgS qw1255 qw1256 qw108 qw1257) rfl rfl rfl hd_X11_byteOf ⟨by rw [hR]; exact Nat.le_of_ble_eq_true rfl, by rw [hR]; exact Nat.le_of_ble_eq_true rfl⟩) (zPS hPc hK hDc) rfl rfl hl.1 rfl (lv_room (Nat.le_of_ble_eq_true rfl)) dX11_feed_78 ⟨Nat.zero_le _, Nat.zero_le _⟩) hS (fun q _ h => hFc q h) hFc (fun v78 u78 t H locs ht hvm hw hB hz1 hk1 hS9 => ?_)
                replace hP := zkeep hP hk1
                replace hS := hS9
                clear hPc hDc hFc hk1 hz1 hvm hS9
                obtain ⟨f78_0, f78_1, f78_2⟩ : (0 ≤ v78.toInt) ∧ (v78.toInt ≤ 255) ∧ (v78 = zBy p0 p1 p2 p3 p4 m62_L_7) := hw
                refine lv_istore (lv' := [(8, .int v78), (7, .int m62_L_7), (6, .int m6_L_6), (0, .ref h0), (1, .int p0), (2, .int p1), (3, .int p2), (4, .int p3), (5, .int p4)]) hx hb dX11_feed_81 hl (by decide) rfl (fun ls hl => ?_)
                refine lv_iload hx hb dX11_feed_83 (lv_at hl 0 rfl) ?_
                refine lv_if_eq (tgt := 109) hx hb dX11_feed_85 (by decide) (fun c85 => ?_) (fun c85 => ?_)
                · have c85 : v78.toInt = 0 := z5 rfl (by decide) c85
                  obtain ⟨v109, e109⟩ : ∃ y : Int32, y = m62_L_7 + Int32.ofInt (1) := ⟨_, rfl⟩
                  refine lv_iinc (v := v109) (lv' := [(7, .int v109), (8, .int v78), (6, .int m6_L_6), (0, .ref h0), (1, .int p0), (2, .int p1), (3, .int p2), (4, .int p3), (5, .int p4)]) hx hb dX11_feed_109 hl (k := 1) rfl e109.symm (by decide) rfl (fun ls hl => ?_)
                  have i109 : v109.toInt = m62_L_7.toInt + 1 := zaddI e109 (by decide) (by omega) (by omega)
                  have q112 := zBc_s f78_2 (by omega) i109
                  refine lv_goto (tgt := 62) hx hb dX11_feed_112 (by decide) ?_
                  exact ih62 _ (by omega) m62_A_tB m62_F_h0_2 v109 jf62_0 (by omega) (by omega) (by first | exact zFrS1 jv62_0 f78_2 (by omega) i109 (by omega) e98 i105 (by omega) | exact zFrS0 jv62_0 f78_2 (by omega) i109 (by omega)) (by first | exact zTyS jv62_1 e98 i105 (by omega) (by omega) (by omega) | exact jv62_1) rfl H locs ls hP hD hS (lv_sub hl [0, 2, 3, 4, 5, 6, 7, 8] rfl)
                · have c85 : ¬ v78.toInt = 0 := z6 rfl (by decide) c85
                  have q88 := zBc_s (k' := m62_L_7 + 1) f78_2 (by omega) (zadd rfl rfl (by decide) (by omega) (by omega))
                  have q88b := zBc_le (a := p0) (b := p1) (c := p2) (d := p3) (e := p4) (i := (m62_L_7 + 1).toInt.toNat) (n := 20) (by have := zadd (v := m62_L_7 + 1) rfl rfl (show (1 : Int32).toInt = 1 by decide) (by omega) (by omega); omega)
                  have q88c : m62_F_h0_2.toInt ≤ 239 := by omega
                  refine lv_aload_n hx hb dX11_feed_88 rfl (lv_at hl 3 rfl) ?_
                  refine va_get (D := (dC, dI)) (ci := 11) (v := .ref tB) (C := RX11) (T := TX11) (N := 41) hx hb hts iX11 hown hK hP 0 rfl rfl 1 (by decide) (hts _ qw1128) (fun _ h9 => h9) rfl dX11_feed_89 ?_
                  refine lv_aload_n hx hb dX11_feed_92 rfl (lv_at hl 3 rfl) ?_
                  refine va_get (D := (dC, dI)) (ci := 11) (v := .int m62_F_h0_2) (C := RX11) (T := TX11) (N := 41) hx hb hts iX11 hown hK hP 0 rfl rfl 2 (by decide) (hts _ qw1129) (fun _ h9 => h9) rfl dX11_feed_93 ?_
                  refine lv_iload hx hb dX11_feed_96 (lv_at hl 0 rfl) ?_
                  refine va_iast hx hb hK hP hD hS 1 0 rfl rfl (vp_in_iff.mpr ⟨by omega, by omega⟩) dX11_feed_98 (fun H locs hP9 hD9 hS9 => ?_)
                  clear hP hD hS
                  obtain ⟨v98_f, e98⟩ : ∃ g : Nat → Int32, g = upd m62_A_tB (m62_F_h0_2).toNatClampNeg v78 := ⟨_, rfl⟩
                  rw [← e98] at hP9 hD9
                  obtain ⟨hP, hD⟩ := zst (wX := [(h0, .inr (11, [.int th, .ref tB, .int m62_F_h0_2, .int tat, .int wr, .int dp, .ref rC, .ref rV, .ref rD, .ref rK, .ref rT, .ref rS, .ref rU, .int lw, .int tx, .ref rL, .ref rX, .ref qR, .ref qB, .ref qP, .int qnb, .int qnp, .ref aR, .ref aB, .ref aP, .int nb, .int np, .ref aN, .ref rf, .int ho, .int br, .ref aK, .int ac, .long dw, .ref aE, .int sr, .int sf, .ref aA, .ref aH, .ref aI, .int hi])), (tB, .inl (cI, 240, .inl v98_f))]) hP9 hD9 rfl
                  have hS := hS9
                  clear hP9 hD9 hS9
                  refine lv_aload_n hx hb dX11_feed_99 rfl (lv_at hl 3 rfl) ?_
                  refine lv_dup hx hb dX11_feed_100 rfl ?_
                  refine va_get (D := (dC, dI)) (ci := 11) (v := .int m62_F_h0_2) (C := RX11) (T := TX11) (N := 41) hx hb hts iX11 hown hK hP 0 rfl rfl 2 (by decide) (hts _ qw1129) (fun _ h9 => h9) rfl dX11_feed_101 ?_
                  refine lv_iconst (v := 1) hx hb dX11_feed_104 (by decide) ?_
                  refine lv_iadd hx hb dX11_feed_105 ?_
                  refine lv_topi (fun v105 e105 => ?_)
                  have i105 : v105.toInt = m62_F_h0_2.toInt + 1 := zadd e105 rfl (by decide) (by omega) (by omega)
                  refine va_put (D := (dC, dI)) (ci := 11) (v := .int v105) (ty := .int) (C := RX11) (T := TX11) (N := 41) hx hb hts iX11 tyX11 tyX11_ok nmX11 hown hK hP hD hS 0 rfl rfl 2 (by decide) (hts _ qw1129) (fun _ h9 => h9) rfl (by decide +kernel) rfl rfl (Nat.le_of_ble_eq_true rfl) dX11_feed_106 (fun H locs hP9 hD9 hS9 => ?_)
                  clear hP hD hS
                  obtain ⟨hP, hD⟩ := zst (wX := [(h0, .inr (11, [.int th, .ref tB, .int v105, .int tat, .int wr, .int dp, .ref rC, .ref rV, .ref rD, .ref rK, .ref rT, .ref rS, .ref rU, .int lw, .int tx, .ref rL, .ref rX, .ref qR, .ref qB, .ref qP, .int qnb, .int qnp, .ref aR, .ref aB, .ref aP, .int nb, .int np, .ref aN, .ref rf, .int ho, .int br, .ref aK, .int ac, .long dw, .ref aE, .int sr, .int sf, .ref aA, .ref aH, .ref aI, .int hi])), (tB, .inl (cI, 240, .inl v98_f))]) hP9 hD9 rfl
                  have hS := hS9
                  clear hP9 hD9 hS9
                  obtain ⟨v109, e109⟩ : ∃ y : Int32, y = m62_L_7 + Int32.ofInt (1) := ⟨_, rfl⟩
                  refine lv_iinc (v := v109) (lv' := [(7, .int v109), (8, .int v78), (6, .int m6_L_6), (0, .ref h0), (1, .int p0), (2, .int p1), (3, .int p2), (4, .int p3), (5, .int p4)]) hx hb dX11_feed_109 hl (k := 1) rfl e109.symm (by decide) rfl (fun ls hl => ?_)
                  have i109 : v109.toInt = m62_L_7.toInt + 1 := zaddI e109 (by decide) (by omega) (by omega)
                  have q112 := zBc_s f78_2 (by omega) i109
                  refine lv_goto (tgt := 62) hx hb dX11_feed_112 (by decide) ?_
                  exact ih62 _ (by omega) v98_f v105 v109 (by omega) (by omega) (by omega) (by first | exact zFrS1 jv62_0 f78_2 (by omega) i109 (by omega) e98 i105 (by omega) | exact zFrS0 jv62_0 f78_2 (by omega) i109 (by omega)) (by first | exact zTyS jv62_1 e98 i105 (by omega) (by omega) (by omega) | exact jv62_1) rfl H locs ls hP hD hS (lv_sub hl [0, 2, 3, 4, 5, 6, 7, 8] rfl)
          refine lv_istore (lv' := [(7, .int 0), (6, .int m6_L_6), (0, .ref h0), (1, .int p0), (2, .int p1), (3, .int p2), (4, .int p3), (5, .int p4)]) hx hb dX11_feed_60 hl (by decide) rfl (fun ls hl => ?_)
          have zj62_m62_L_7 : (0 : Int32).toInt = 0 := by decide
          exact J62 _ fB tsz 0 n_tsz (by decide) (by omega) (zFr0) (hty) rfl H locs ls hP hD hS (lv_sub hl [0, 1, 2, 3, 4, 5, 6, 7] rfl)
        · have c54 : 240 < v50.toInt := z4 rfl (by decide) c54
          refine lv_iconst (v := (-1)) hx hb dX11_feed_57 (by decide) ?_
          have zr0 : ((-1) : Int32).toInt = (-1) := by decide
          rw [hQ]
          exact W.iret (v := ((-1))) hx hb hr (fun t ht hW => ⟨⟨(-1), (tsz, fB), rfl, ⟨by (try dsimp only); omega, by (try dsimp only); omega, by (try dsimp only); omega, by (try dsimp only); omega, by (try dsimp only); exact zfrA (by omega), by (try dsimp only); exact hty⟩, ⟨by rw [ht]; exact hP, hD⟩⟩, hS.F ht⟩) hS.2.2 dX11_feed_58
      · have c10 : m6_L_7.toInt < 20 := z4 (by decide) rfl c10
        have q13 : 0 ≤ m6_L_6.toInt ∧ m6_L_6.toInt ≤ 19 := by omega
        refine lv_iload hx hb dX11_feed_13 (lv_at hl 1 rfl) ?_
        refine lv_iload_n hx hb dX11_feed_15 rfl (lv_at hl 3 rfl) ?_
        refine lv_iload_n hx hb dX11_feed_16 rfl (lv_at hl 4 rfl) ?_
        refine lv_iload_n hx hb dX11_feed_17 rfl (lv_at hl 5 rfl) ?_
        refine lv_iload hx hb dX11_feed_18 (lv_at hl 6 rfl) ?_
        refine lv_iload hx hb dX11_feed_20 (lv_at hl 7 rfl) ?_
        refine lv_iload hx hb dX11_feed_22 (lv_at hl 0 rfl) ?_
        have hPc : va_P (dC, dI) vwCl [] H := zP0
        have hDc : va_D (fun _ => True) [] := zD0
        have hFc := zfr hS hA
        refine va_calli (va_runS (As := [.int p0, .int p1, .int p2, .int p3, .int p4, .int m6_L_7]) (rest := [.int m6_L_6]) ⟨hx, hb, hml, hown, hts⟩ (g_X11_byteOf l dC dI cI cJ p0 p1 p2 p3 p4 m6_L_7 H.size) (cwS 6 hts (zgS qw1255 qw1256 qw108 qw1257) rfl rfl rfl hd_X11_byteOf ⟨by rw [hR]; exact Nat.le_of_ble_eq_true rfl, by rw [hR]; exact Nat.le_of_ble_eq_true rfl⟩) (zPS hPc hK hDc) rfl rfl hl.1 rfl (lv_room (Nat.le_of_ble_eq_true rfl)) dX11_feed_24 ⟨Nat.zero_le _, Nat.zero_le _⟩) hS (fun q _ h => hFc q h) hFc (fun v24 u24 t H locs ht hvm hw hB hz1 hk1 hS9 => ?_)
        replace hP := zkeep hP hk1
        replace hS := hS9
        clear hPc hDc hFc hk1 hz1 hvm hS9
        obtain ⟨f24_0, f24_1, f24_2⟩ : (0 ≤ v24.toInt) ∧ (v24.toInt ≤ 255) ∧ (v24 = zBy p0 p1 p2 p3 p4 m6_L_7) := hw
        refine lv_if_eq (tgt := 34) hx hb dX11_feed_27 (by decide) (fun c27 => ?_) (fun c27 => ?_)
        · have c27 : v24.toInt = 0 := z5 rfl (by decide) c27
          refine lv_iconst (v := 0) hx hb dX11_feed_34 (by decide) ?_
          refine lv_iadd hx hb dX11_feed_35 ?_
          refine lv_topi (fun v35 e35 => ?_)
          have i35 : v35.toInt = m6_L_6.toInt + 0 := zadd e35 rfl (by decide) (by omega) (by omega)
          refine lv_istore (lv' := [(6, .int v35), (7, .int m6_L_7), (0, .ref h0), (1, .int p0), (2, .int p1), (3, .int p2), (4, .int p3), (5, .int p4)]) hx hb dX11_feed_36 hl (by decide) rfl (fun ls hl => ?_)
          obtain ⟨v38, e38⟩ : ∃ y : Int32, y = m6_L_7 + Int32.ofInt (1) := ⟨_, rfl⟩
          refine lv_iinc (v := v38) (lv' := [(7, .int v38), (6, .int v35), (0, .ref h0), (1, .int p0), (2, .int p1), (3, .int p2), (4, .int p3), (5, .int p4)]) hx hb dX11_feed_38 hl (k := 1) rfl e38.symm (by decide) rfl (fun ls hl => ?_)
          have i38 : v38.toInt = m6_L_7.toInt + 1 := zaddI e38 (by decide) (by omega) (by omega)
          have q41 := zBc_s f24_2 (by omega) i38
          refine lv_goto (tgt := 6) hx hb dX11_feed_41 (by decide) ?_
          exact ih6 _ (by omega) v35 v38 (by omega) (by omega) (by omega) rfl H locs ls hP hD hS (lv_sub hl [0, 1, 2, 3, 4, 5, 6, 7] rfl)
        · have c27 : ¬ v24.toInt = 0 := z6 rfl (by decide) c27
          refine lv_iconst (v := 1) hx hb dX11_feed_30 (by decide) ?_
          refine lv_goto (tgt := 35) hx hb dX11_feed_31 (by decide) ?_
          refine lv_iadd hx hb dX11_feed_35 ?_
          refine lv_topi (fun v35 e35 => ?_)
          have i35 : v35.toInt = m6_L_6.toInt + 1 := zadd e35 rfl (by decide) (by omega) (by omega)
          refine lv_istore (lv' := [(6, .int v35), (7, .int m6_L_7), (0, .ref h0), (1, .int p0), (2, .int p1), (3, .int p2), (4, .int p3), (5, .int p4)]) hx hb dX11_feed_36 hl (by decide) rfl (fun ls hl => ?_)
          obtain ⟨v38, e38⟩ : ∃ y : Int32, y = m6_L_7 + Int32.ofInt (1) := ⟨_, rfl⟩
          refine lv_iinc (v := v38) (lv' := [(7, .int v38), (6, .int v35), (0, .ref h0), (1, .int p0), (2, .int p1), (3, .int p2), (4, .int p3), (5, .int p4)]) hx hb dX11_feed_38 hl (k := 1) rfl e38.symm (by decide) rfl (fun ls hl => ?_)
          have i38 : v38.toInt = m6_L_7.toInt + 1 := zaddI e38 (by decide) (by omega) (by omega)
          have q41 := zBc_s f24_2 (by omega) i38
          refine lv_goto (tgt := 6) hx hb dX11_feed_41 (by decide) ?_
          exact ih6 _ (by omega) v35 v38 (by omega) (by omega) (by omega) rfl H locs ls hP hD hS (lv_sub hl [0, 1, 2, 3, 4, 5, 6, 7] rfl)
  refine lv_istore (lv' := [(7, .int 0), (6, .int 0), (0, .ref h0), (1, .int p0), (2, .int p1), (3, .int p2), (4, .int p3), (5, .int p4)]) hx hb dX11_feed_4 hl (by decide) rfl (fun ls hl => ?_)
  have zj6_m6_L_6 : (0 : Int32).toInt = 0 := by decide
  have zj6_m6_L_7 : (0 : Int32).toInt = 0 := by decide
  exact J6 _ 0 0 (by decide) (by decide) (by omega) rfl H locs ls hP hD hS (lv_sub hl [0, 1, 2, 3, 4, 5, 6, 7] rfl)
