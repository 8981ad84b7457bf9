set_option maxHeartbeats 4000000 in
set_option maxRecDepth 100000 in
theorem k_X10_worth {p : Program} {l : Launch} {e : Env} {s : State} {m : MethodId} {args : Array Value} {below : List Frame} {meth : Method} {c : Code} {H : Heap} {locs : List Loc} {k n : Nat} {Q : State → Prop} {dC : Nat → ClassId} {dI : Nat → Nat → Nat} {cI cJ cQ : ClassId} {h0 : Nat} {sg : zSy} {C rs : va_W} {A : Nat → Prop} {pc : Nat} {ls : Array Slot} {rest : List Value} {p0 : Int32} {p1 : Int32} (hcf : CallFix p m c code 7 s args wA RL) (hK3 : va_K (dC, dI) vwCl [(cI, .int), (cJ, .long), (cQ, .object "NinePortraits$Law")] s) (hV : zV A s) (hC : zCi cI cJ cQ h0 sg C) (hO : zOkG sg) (hP : va_P (dC, dI) vwCl (C ++ rs) H) (hD : va_D A (C ++ rs)) (hS : va_S A s.heap H locs) (hA : ∀ q : Nat, s.heap.size ≤ q → A q) (hl1 : ls.size = 7) (hrest : (rest.map fun v => v.category).sum ≤ 8) (hk : k + 0 ≤ room_1.cells) (hn : n + 0 ≤ room_1.slots) (hdg : decode code pc = .ok (.invokevirtual 145, 3)) (kk : ∀ (v : Int32) (C : va_W) (H : Heap) (locs : List Loc), v = sV_worth sg.2.2.2.1 p0 p1 → zCi cI cJ cQ h0 sg C → va_P (dC, dI) vwCl (C ++ rs) H → va_D A (C ++ rs) → va_S A s.heap H locs → W p l e room_1 s m args below meth c H locs k n Q (F0 m (pc + 3) ls (.int v :: rest))) : W p l e room_1 s m args below meth c H locs k n Q (F0 m pc ls (.int p1 :: .int p0 :: .ref h0 :: rest)) := by
  have hC0 := hC
  have hP00 := hP
  have hD00 := hD
  refine zCiE hC hO hP hD (fun pl w_tp w_cr w_lr w_xC w_aC w_lq w_g0 w_k0 w_ac w_sd w_mi w_dw w_rf w_lc w_lh w_br w_hi w_tB w_tl w_ta w_fB w_cr_tape w_cr_court w_hsr w_lS w_sz5 w_lr_tape w_fS w_xR w_xB w_xP w_dnb w_dnp w_dfr w_dfb w_dfp w_aR w_aB w_aP w_nb w_np w_fr w_fb w_fp w_fq w_gY w_gF w_gP w_gpn w_glt w_gsh w_gwd w_gpu w_gmo w_gfY w_gfF w_gfP w_kY w_kF w_kP w_kpn w_klt w_ksh w_kwd w_kpu w_kmo w_kfY w_kfF w_kfP w_aW w_pl w_cn w_fR w_w1 w_w2 w_aL w_aK w_lwv w_fw1 w_fw2 w_fL w_fK w_mW w_mt w_lf w_mV w_mA w_mT w_fW w_fV w_fA w_fT w_x0 w_frf hBd hAc hPl hHd hcn hko hP hD => ?_)
  obtain ⟨a_tp, a_lw, a_br, a_ct, a_lh, a_st, a_im⟩ := id hAc
  have hty := a_tp.2.2
  have en := a_ct.1
  have ep := a_ct.2.1
  obtain ⟨b_cn, b_dnb, b_dnp, b_gpn, b_gwd, b_hi, b_hsr, b_kpn, b_kwd, b_lc, b_lf, b_nb, b_np, b_pl, b_sz5, b_ta, b_tl, b_gfP, b_kfP, b_fR, b_fS⟩ := hBd
  have hts := hcf.2.2.2.2
  have hK : va_K (dC, dI) vwCl [(cI, .int), (cJ, .long)] s := hK3.sub [0, 1] rfl
  have hPc := hP.sub (ws' := [(h0, .inr (10, [.ref w_tp, .ref w_cr, .ref w_lr, .ref w_xC, .ref w_aC, .ref w_lq, .ref w_g0, .ref w_k0, .ref w_ac, .ref w_sd, .ref w_mi, .ref w_dw, .ref w_rf, .int (w_lc), .int (w_lh), .int (w_br), .int (w_hi)])), (w_aC, .inr (1, [.ref w_aR, .ref w_aB, .ref w_aP, .int (w_nb), .int (w_np)])), (w_aR, .inl (cI, 3, .inl (w_fr))), (w_aB, .inl (cI, 24, .inl (w_fb)))]) [0, 10, 11, 12] rfl
  have hDc := hD.sub (ws' := [(h0, .inr (10, [.ref w_tp, .ref w_cr, .ref w_lr, .ref w_xC, .ref w_aC, .ref w_lq, .ref w_g0, .ref w_k0, .ref w_ac, .ref w_sd, .ref w_mi, .ref w_dw, .ref w_rf, .int (w_lc), .int (w_lh), .int (w_br), .int (w_hi)])), (w_aC, .inr (1, [.ref w_aR, .ref w_aB, .ref w_aP, .int (w_nb), .int (w_np)])), (w_aR, .inl (cI, 3, .inl (w_fr))), (w_aB, .inl (cI, 24, .inl (w_fb)))]) [0, 10, 11, 12] (by decide +kernel) rfl
  have hFc := zfr hS hA
  refine va_calli (va_runV (As := [.int p0, .int p1]) (rest := rest) hcf (g_X10_worth l dC dI cI cJ h0 p0 p1 (w_tp) (.ref w_cr) (.ref w_lr) (.ref w_xC) (w_aC) (.ref w_lq) (w_g0) (w_k0) (w_ac) (w_sd) (w_mi) (w_dw) (w_rf) (w_lc) (w_lh) (w_br) (w_hi) (w_aR) (w_aB) (w_aP) (w_nb) (w_np) (w_fr) (w_fb) H.size (by omega) (by omega) (by omega) (by omega)) (cwV 2 hts (zgV qw902 qw903 qw904 qw98 qw905) rfl rfl rfl hd_X10_worth ⟨Nat.le_of_ble_eq_true rfl, Nat.le_of_ble_eq_true rfl⟩) (zPV hPc hK hDc (va_recv hK hP (ci := 10) (q0 := 0) rfl rfl)) rfl rfl hl1 rfl (lv_room hrest) hdg ⟨hk, hn⟩) hS (fun q _ h => hFc q h) hFc (fun v0 u0 t H locs ht hvm hw hB hz1 hk1 hS => ?_)
  have hP := zkeep hP hk1
  have f0_0 : (((0 ≤ p0.toInt ∧ p0.toInt < (w_nb).toInt) ∧ 0 ≤ p1.toInt ∧ p1.toInt ≤ 9 → v0 = zWo p1 ((w_fr) 1) ((w_fb) (4 * p0.toInt.toNat + 1)) ((w_fr) 2)) ∧ (¬ ((0 ≤ p0.toInt ∧ p0.toInt < (w_nb).toInt) ∧ 0 ≤ p1.toInt ∧ p1.toInt ≤ 9) → v0 = -1)) := hw
  have F0 := f0_0
  exact kk v0 _ H locs (zs_worth F0 a_ct) hC0 (zkeep hP00 hk1) hD00 hS
