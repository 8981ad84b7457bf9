set_option maxHeartbeats 4000000 in
set_option maxRecDepth 100000 in
theorem g_X8_fillLooks_n (l : Launch) (dC : Nat → ClassId) (dI : Nat → Nat → Nat) (cI cJ : ClassId) (h0 : Nat) (p0 : Int32) (p1 : Int32) (rw : Nat) (w1 : Nat) (w2 : Nat) (aC : Nat) (g0 : Nat) (aL : Nat) (aK : Nat) (aR : Nat) (aB : Nat) (aP : Nat) (nb : Int32) (np : Int32) (fb : Nat → Int32) (gY : Nat) (gF : Nat) (gP : Nat) (gpn : Int32) (glt : Int32) (gsh : Int32) (gwd : Int32) (gpu : Int32) (gmo : Int32) (gfF : Nat → Int32) (frw : Nat → Int32) (sz : Nat) (n_p0 : 0 ≤ p0.toInt ∧ p0.toInt ≤ 4) (n_p1 : 0 ≤ p1.toInt ∧ p1.toInt ≤ 5)    : Met l yX8_fillLooks (.code yX8_fillLooks cX8_fillLooks 5 none :: wA) ({ frames := 3, cells := 0, slots := 0, locals := 77 }) (zP (dC, dI) [(cI, .int), (cJ, .long)] [.ref h0, .int p0, .int p1, .ref rw] sz [(h0, .inr (8, [.ref w1, .ref w2, .ref aC, .ref g0, .ref aL, .ref aK, .null])), (aC, .inr (1, [.ref aR, .ref aB, .ref aP, .int nb, .int np])), (aB, .inl (cI, 24, .inl fb)), (g0, .inr (7, [.ref gY, .ref gF, .ref gP, .int gpn, .int glt, .int gsh, .int gwd, .int gpu, .int gmo])), (gF, .inl (cI, 5, .inl gfF)), (rw, .inl (cI, 10, .inl frw))]) (va_Qv (fun (u : (Nat → Int32)) => (∀ (kc : zK3) (kT : zT) (q_fr : Nat → Int32) (q_fp : Nat → Int32) (q_gfY : Nat → Int32) (q_gfP : Nat → Int32), zCn q_fr fb q_fp nb.toInt np.toInt kc → zKo nb.toInt np.toInt kc kT → zSc nb.toInt np.toInt kT.1 q_gfY gfF q_gfP gpn glt gsh gwd gpu gmo → (0 ≤ p0.toInt ∧ p0.toInt < np.toInt) → (0 ≤ p1.toInt ∧ p1.toInt < nb.toInt) → ∀ j : Nat, j < 10 → u j = sRow kc kT.1 none p0 p1 j)) (fun (u : (Nat → Int32)) (t : State) => va_P (dC, dI) vwCl [(h0, .inr (8, [.ref w1, .ref w2, .ref aC, .ref g0, .ref aL, .ref aK, .null])), (aC, .inr (1, [.ref aR, .ref aB, .ref aP, .int nb, .int np])), (aB, .inl (cI, 24, .inl fb)), (g0, .inr (7, [.ref gY, .ref gF, .ref gP, .int gpn, .int glt, .int gsh, .int gwd, .int gpu, .int gmo])), (gF, .inl (cI, 5, .inl gfF)), (rw, .inl (cI, 10, .inl u))] t.heap ∧ va_D (va_A [(h0, .inr (8, [.ref w1, .ref w2, .ref aC, .ref g0, .ref aL, .ref aK, .null])), (aC, .inr (1, [.ref aR, .ref aB, .ref aP, .int nb, .int np])), (aB, .inl (cI, 24, .inl fb)), (g0, .inr (7, [.ref gY, .ref gF, .ref gP, .int gpn, .int glt, .int gsh, .int gwd, .int gpu, .int gmo])), (gF, .inl (cI, 5, .inl gfF)), (rw, .inl (cI, 10, .inl frw))] sz) [(h0, .inr (8, [.ref w1, .ref w2, .ref aC, .ref g0, .ref aL, .ref aK, .null])), (aC, .inr (1, [.ref aR, .ref aB, .ref aP, .int nb, .int np])), (aB, .inl (cI, 24, .inl fb)), (g0, .inr (7, [.ref gY, .ref gF, .ref gP, .int gpn, .int glt, .int gsh, .int gwd, .int gpu, .int gmo])), (gF, .inl (cI, 5, .inl gfF)), (rw, .inl (cI, 10, .inl u))]) (va_A [(h0, .inr (8, [.ref w1, .ref w2, .ref aC, .ref g0, .ref aL, .ref aK, .null])), (aC, .inr (1, [.ref aR, .ref aB, .ref aP, .int nb, .int np])), (aB, .inl (cI, 24, .inl fb)), (g0, .inr (7, [.ref gY, .ref gF, .ref gP, .int gpn, .int glt, .int gsh, .int gwd, .int gpu, .int gmo])), (gF, .inl (cI, 5, .inl gfF)), (rw, .inl (cI, 10, .inl frw))] sz)) 0 0 (va_A [(h0, .inr (8, [.ref w1, .ref w2, .ref aC, .ref g0, .ref aL, .ref aK, .null])), (aC, .inr (1, [.ref aR, .ref aB, .ref aP, .int nb, .int np])), (aB, .inl (cI, 24, .inl fb)), (g0, .inr (7, [.ref gY, .ref gF, .ref gP, .int gpn, .int glt, .int gsh, .int gwd, .int gpu, .int gmo])), (gF, .inl (cI, 5, .inl gfF)), (rw, .inl (cI, 10, .inl frw))] sz) := by
  refine Met.ofW (cc := cX8_fillLooks) (maxL := 5) (ret := none) (by decide) rfl ?_
  intro p e s m args below meth c s₁ B hml hv
  obtain ⟨hargs, hsz, hP, hK, hT⟩ := hv
  have hx := B.exec
  have hb := B.bytes
  have hr := B.returns
  have hts : ∀ w ∈ wA, w.before args s = true := fun w h => atoms_spec (ws := .code yX8_fillLooks cX8_fillLooks 5 none :: wA) B.pre w (List.mem_cons_of_mem _ h)
  have hown : s.vm.findClass RX8 = some m.cls := findClass_of_methodNamed B.named
  have hlocks := B.notSynchronized
  subst hsz
  have hD := hT.self (sz := s.heap.size)
  generalize hAe : va_A [(h0, .inr (8, [.ref w1, .ref w2, .ref aC, .ref g0, .ref aL, .ref aK, .null])), (aC, .inr (1, [.ref aR, .ref aB, .ref aP, .int nb, .int np])), (aB, .inl (cI, 24, .inl fb)), (g0, .inr (7, [.ref gY, .ref gF, .ref gP, .int gpn, .int glt, .int gsh, .int gwd, .int gpu, .int gmo])), (gF, .inl (cI, 5, .inl gfF)), (rw, .inl (cI, 10, .inl frw))] s.heap.size = A at hD ⊢
  have hA : ∀ q : Nat, s.heap.size ≤ q → A q := fun q h => by rw [← hAe]; exact Or.inr h
  have hl := lv_entry ([.ref h0, .int p0, .int p1, .ref rw]) (n := 5) (Nat.le_of_ble_eq_true rfl)
  rw [show entryFrame m args 5 = entryFrame m ([.ref h0, .int p0, .int p1, .ref rw] : List Value).toArray 5 by rw [hargs], lg_entry_eq]
  generalize (lg_sl ([.ref h0, .int p0, .int p1, .ref rw]) ++ List.replicate (5 - (lg_sl ([.ref h0, .int p0, .int p1, .ref rw])).length) Slot.unset).toArray = ls at hl ⊢
  have hl : lv_has ls 5 [(0, .ref h0), (1, .int p0), (2, .int p1), (3, .ref rw)] := hl
  refine zstart (fun H hH => ?_)
  rw [← hH] at hP
  have hS : va_S A s.heap H [] := by rw [hH]; exact va_S.rf
  generalize ([] : List Loc) = locs at hS ⊢
  refine zgen (fun R Q hR hQ => ?_)
  refine lv_iconst (v := 0) hx hb dX8_fillLooks_0 (by decide) ?_
  have J3 : ∀ (n : Nat) (m3_A_rw : Nat → Int32) (m3_L_4 : Int32), (0 ≤ m3_L_4.toInt ∧ m3_L_4.toInt ≤ 10) → (∀ (kc : zK3) (kT : zT) (q_fr : Nat → Int32) (q_fp : Nat → Int32) (q_gfY : Nat → Int32) (q_gfP : Nat → Int32), zCn q_fr fb q_fp nb.toInt np.toInt kc → zKo nb.toInt np.toInt kc kT → zSc nb.toInt np.toInt kT.1 q_gfY gfF q_gfP gpn glt gsh gwd gpu gmo → (0 ≤ p0.toInt ∧ p0.toInt < np.toInt) → (0 ≤ p1.toInt ∧ p1.toInt < nb.toInt) → ∀ j : Nat, (j : Int) < m3_L_4.toInt → m3_A_rw j = sRow kc kT.1 none p0 p1 j) → (11 - m3_L_4.toInt).toNat = n → ∀ (H : Heap) (locs : List Loc) (ls : Array Slot), va_P (dC, dI) vwCl [(h0, .inr (8, [.ref w1, .ref w2, .ref aC, .ref g0, .ref aL, .ref aK, .null])), (aC, .inr (1, [.ref aR, .ref aB, .ref aP, .int nb, .int np])), (aB, .inl (cI, 24, .inl fb)), (g0, .inr (7, [.ref gY, .ref gF, .ref gP, .int gpn, .int glt, .int gsh, .int gwd, .int gpu, .int gmo])), (gF, .inl (cI, 5, .inl gfF)), (rw, .inl (cI, 10, .inl m3_A_rw))] H → va_D A [(h0, .inr (8, [.ref w1, .ref w2, .ref aC, .ref g0, .ref aL, .ref aK, .null])), (aC, .inr (1, [.ref aR, .ref aB, .ref aP, .int nb, .int np])), (aB, .inl (cI, 24, .inl fb)), (g0, .inr (7, [.ref gY, .ref gF, .ref gP, .int gpn, .int glt, .int gsh, .int gwd, .int gpu, .int gmo])), (gF, .inl (cI, 5, .inl gfF)), (rw, .inl (cI, 10, .inl m3_A_rw))] → va_S A s.heap H locs → lv_has ls 5 [(4, .int m3_L_4), (0, .ref h0), (1, .int p0), (2, .int p1), (3, .ref rw)] → W p l e R s m args below meth c H locs 0 0 Q (F0 m 3 ls []) := by
    intro n3
    induction n3 using Nat.strongRecOn with
    | _ n3 ih3 =>
      intro m3_A_rw m3_L_4 jf3_0 jv3_0 hmu3 H locs ls hP hD hS hl
      refine lv_iload hx hb dX8_fillLooks_3 (lv_at hl 0 rfl) ?_
      refine lv_aload_n hx hb dX8_fillLooks_5 rfl (lv_at hl 4 rfl) ?_
      refine va_alen (v := 10) hx hb hK hP 5 0 rfl rfl rfl dX8_fillLooks_6 ?_
      refine lv_icmp_ge (tgt := 36) hx hb dX8_fillLooks_7 (by decide) (fun c7 => ?_) (fun c7 => ?_)
      · have c7 : 10 ≤ m3_L_4.toInt := z3 (by decide) rfl c7
        rw [hQ]
        exact W.vret hx hb hr (fun t ht hW => ⟨⟨m3_A_rw, rfl, (fun kc kT q_fr q_fp q_gfY q_gfP hc hb h hp hq => fun j hj => (jv3_0 kc kT _ _ _ _ hc hb h hp hq) j (by omega)), ⟨by rw [ht]; exact hP, hD⟩⟩, hS.F ht⟩) hS.2.2 dX8_fillLooks_36
      · have c7 : m3_L_4.toInt < 10 := z4 (by decide) rfl c7
        refine lv_aload_n hx hb dX8_fillLooks_10 rfl (lv_at hl 4 rfl) ?_
        refine lv_iload hx hb dX8_fillLooks_11 (lv_at hl 0 rfl) ?_
        refine lv_aload_n hx hb dX8_fillLooks_13 rfl (lv_at hl 1 rfl) ?_
        refine lv_iload_n hx hb dX8_fillLooks_14 rfl (lv_at hl 2 rfl) ?_
        refine lv_iload_n hx hb dX8_fillLooks_15 rfl (lv_at hl 3 rfl) ?_
        refine lv_aload_n hx hb dX8_fillLooks_16 rfl (lv_at hl 1 rfl) ?_
        refine va_get (D := (dC, dI)) (ci := 8) (v := .ref aC) (C := RX8) (T := TX8) (N := 7) hx hb hts iX8 hown hK hP 0 rfl rfl 2 (by decide) (hts _ qw289) (fun _ h9 => h9) rfl dX8_fillLooks_17 ?_
        refine lv_iload_n hx hb dX8_fillLooks_20 rfl (lv_at hl 3 rfl) ?_
        obtain ⟨hPc, hDc⟩ := zc2 (wc := [(aC, .inr (1, [.ref aR, .ref aB, .ref aP, .int nb, .int np])), (aB, .inl (cI, 24, .inl fb))]) hP hD [1, 2] (by decide +kernel) rfl
        have hFc := zfr hS hA
        refine va_calli (va_runV (As := [.int p1]) (rest := [.int p1, .int p0, .ref h0, .int m3_L_4, .ref rw]) ⟨hx, hb, hml, hown, hts⟩ (g_X1_faceOf l dC dI cI cJ aC p1 aR aB aP nb np fb H.size n_p1) (cwV 1 hts (zgV qw948 qw703 qw704 qw102 qw705) rfl rfl rfl hd_X1_faceOf ⟨by rw [hR]; exact Nat.le_of_ble_eq_true rfl, by rw [hR]; exact Nat.le_of_ble_eq_true rfl⟩) (zPV hPc hK hDc (va_recv (q := (RX1, TX1, 5)) hK hP (ci := 1) (q0 := 1) rfl rfl)) rfl rfl hl.1 rfl (lv_room (Nat.le_of_ble_eq_true rfl)) dX8_fillLooks_21 ⟨Nat.zero_le _, Nat.zero_le _⟩) hS (fun q _ h => hFc q h) hFc (fun v21 u21 t H locs ht hvm hw hB hz1 hk1 hS9 => ?_)
        replace hP := zkeep hP hk1
        replace hS := hS9
        clear hPc hDc hFc hk1 hz1 hvm hS9
        have f21_0 : (v21 = fb (4 * p1.toInt.toNat)) := hw
        have F21 := f21_0
        refine lv_iload hx hb dX8_fillLooks_24 (lv_at hl 0 rfl) ?_
        obtain ⟨hPc, hDc⟩ := zc2 (wc := [(h0, .inr (8, [.ref w1, .ref w2, .ref aC, .ref g0, .ref aL, .ref aK, .null])), (aC, .inr (1, [.ref aR, .ref aB, .ref aP, .int nb, .int np])), (aB, .inl (cI, 24, .inl fb)), (g0, .inr (7, [.ref gY, .ref gF, .ref gP, .int gpn, .int glt, .int gsh, .int gwd, .int gpu, .int gmo])), (gF, .inl (cI, 5, .inl gfF))]) hP hD [0, 1, 2, 3, 4] (by decide +kernel) rfl
        have hFc := zfr hS hA
        refine va_calli (va_runV (As := [.int p0, .int p1, .int v21, .int m3_L_4]) (rest := [.int m3_L_4, .ref rw]) ⟨hx, hb, hml, hown, hts⟩ (g_X8_lookOf_n l dC dI cI cJ h0 p0 p1 v21 m3_L_4 w1 w2 aC g0 aL aK aR aB aP nb np fb gY gF gP gpn glt gsh gwd gpu gmo gfF H.size n_p0 n_p1) (cwV 4 hts (zgV qw657 qw658 qw659 qw105 qw660) rfl rfl rfl hd_X8_lookOf ⟨by rw [hR]; exact Nat.le_of_ble_eq_true rfl, by rw [hR]; exact Nat.le_of_ble_eq_true rfl⟩) (zPV hPc hK hDc (va_recv (q := (RX8, TX8, 7)) hK hP (ci := 8) (q0 := 0) rfl rfl)) rfl rfl hl.1 rfl (lv_room (Nat.le_of_ble_eq_true rfl)) dX8_fillLooks_26 ⟨Nat.zero_le _, Nat.zero_le _⟩) hS (fun q _ h => hFc q h) hFc (fun v26 u26 t H locs ht hvm hw hB hz1 hk1 hS9 => ?_)
        replace hP := zkeep hP hk1
        replace hS := hS9
        clear hPc hDc hFc hk1 hz1 hvm hS9
        obtain ⟨f26_0, f26_1, f26_2⟩ : (0 ≤ v26.toInt) ∧ (v26.toInt ≤ 9) ∧ (∀ sk mo : Int32, v26 = zLkv none v21 (fb (4 * p1.toInt.toNat + 2)) m3_L_4 sk (gfF p0.toInt.toNat) mo) := hw
        have F26 := f26_2
        refine va_iast hx hb hK hP hD hS 5 0 rfl rfl (vp_in_iff.mpr ⟨by omega, by omega⟩) dX8_fillLooks_29 (fun H locs hP9 hD9 hS9 => ?_)
        clear hP hD hS
        obtain ⟨v29_f, e29⟩ : ∃ g : Nat → Int32, g = upd m3_A_rw (m3_L_4).toNatClampNeg v26 := ⟨_, rfl⟩
        rw [← e29] at hP9 hD9
        obtain ⟨hP, hD⟩ := zst (wX := [(h0, .inr (8, [.ref w1, .ref w2, .ref aC, .ref g0, .ref aL, .ref aK, .null])), (aC, .inr (1, [.ref aR, .ref aB, .ref aP, .int nb, .int np])), (aB, .inl (cI, 24, .inl fb)), (g0, .inr (7, [.ref gY, .ref gF, .ref gP, .int gpn, .int glt, .int gsh, .int gwd, .int gpu, .int gmo])), (gF, .inl (cI, 5, .inl gfF)), (rw, .inl (cI, 10, .inl v29_f))]) hP9 hD9 rfl
        have hS := hS9
        clear hP9 hD9 hS9
        obtain ⟨v30, e30⟩ : ∃ y : Int32, y = m3_L_4 + Int32.ofInt (1) := ⟨_, rfl⟩
        refine lv_iinc (v := v30) (lv' := [(4, .int v30), (0, .ref h0), (1, .int p0), (2, .int p1), (3, .ref rw)]) hx hb dX8_fillLooks_30 hl (k := 0) rfl e30.symm (by decide) rfl (fun ls hl => ?_)
        have i30 : v30.toInt = m3_L_4.toInt + 1 := zaddI e30 (by decide) (by omega) (by omega)
        refine lv_goto (tgt := 3) hx hb dX8_fillLooks_33 (by decide) ?_
        exact ih3 _ (by omega) v29_f v30 (by omega) (fun kc kT q_fr q_fp q_gfY q_gfP hc hb h hp hq => by have y21 : v21 = kc.2.1 (4 * p1.toInt.toNat) := F21.trans (hc.2.1 _ (by omega)); exact zBlS (B := sRow kc kT.1 none p0 p1) (jv3_0 kc kT _ _ _ _ hc hb h hp hq) (by omega) i30 e29 (show v26 = sLk kc kT.1 none p0 p1 (kc.2.1 (4 * p1.toInt.toNat)) (Int32.ofNat m3_L_4.toInt.toNat) by rw [← zk32 (show 0 ≤ m3_L_4.toInt by omega), ← y21]; exact sLk_n hc h hp hq F26)) rfl H locs ls hP hD hS (lv_sub hl [0, 1, 2, 3, 4] rfl)
  refine lv_istore (lv' := [(4, .int 0), (0, .ref h0), (1, .int p0), (2, .int p1), (3, .ref rw)]) hx hb dX8_fillLooks_1 hl (by decide) rfl (fun ls hl => ?_)
  have zj3_m3_L_4 : (0 : Int32).toInt = 0 := by decide
  exact J3 _ frw 0 (by decide) (fun kc kT q_fr q_fp q_gfY q_gfP hc hb h hp hq => fun j hj => by exfalso; have z1 : (0 : Int32).toInt = 0 := (by decide); omega) rfl H locs ls hP hD hS (lv_sub hl [0, 1, 2, 3, 4] rfl)
set_option maxHeartbeats 4000000 in
set_option maxRecDepth 100000 in
theorem g_X8_fillLooks_l (l : Launch) (dC : Nat → ClassId) (dI : Nat → Nat → Nat) (cI cJ : ClassId) (h0 : Nat) (p0 : Int32) (p1 : Int32) (rw : Nat) (w1 : Nat) (w2 : Nat) (aC : Nat) (g0 : Nat) (aL : Nat) (aK : Nat) (lw : Nat) (aR : Nat) (aB : Nat) (aP : Nat) (nb : Int32) (np : Int32) (fb : Nat → Int32) (fp : Nat → Int32) (gY : Nat) (gF : Nat) (gP : Nat) (gpn : Int32) (glt : Int32) (gsh : Int32) (gwd : Int32) (gpu : Int32) (gmo : Int32) (gfF : Nat → Int32) (fL : Nat → Int32) (fK : Nat → Int32) (lS : Nat) (fS : Nat → Int32) (lk : Nat) (frw : Nat → Int32) (sz : Nat) (n_p0 : 0 ≤ p0.toInt ∧ p0.toInt ≤ 4) (n_p1 : 0 ≤ p1.toInt ∧ p1.toInt ≤ 5) (hlk : lk ≤ 241) (ci_fS_zSt : zSt fS)  : Met l yX8_fillLooks (.code yX8_fillLooks cX8_fillLooks 5 none :: wA) ({ frames := 3, cells := 0, slots := 0, locals := 77 }) (zP (dC, dI) [(cI, .int), (cJ, .long)] [.ref h0, .int p0, .int p1, .ref rw] sz [(h0, .inr (8, [.ref w1, .ref w2, .ref aC, .ref g0, .ref aL, .ref aK, .ref lw])), (aC, .inr (1, [.ref aR, .ref aB, .ref aP, .int nb, .int np])), (aB, .inl (cI, 24, .inl fb)), (aP, .inl (cI, 20, .inl fp)), (g0, .inr (7, [.ref gY, .ref gF, .ref gP, .int gpn, .int glt, .int gsh, .int gwd, .int gpu, .int gmo])), (gF, .inl (cI, 5, .inl gfF)), (aL, .inl (cI, 6, .inl fL)), (aK, .inl (cI, 32, .inl fK)), (lw, .inr (4, [.ref lS])), (lS, .inl (cI, lk, .inl fS)), (rw, .inl (cI, 10, .inl frw))]) (va_Qv (fun (u : (Nat → Int32) × (Nat → Int32) × (Nat → Int32)) => (∀ (kc : zK3) (kT : zT) (q_fr : Nat → Int32) (q_gfY : Nat → Int32) (q_gfP : Nat → Int32) (kt : (Int → Int) × Int), zCn q_fr fb fp nb.toInt np.toInt kc → zKo nb.toInt np.toInt kc kT → zSc nb.toInt np.toInt kT.1 q_gfY gfF q_gfP gpn glt gsh gwd gpu gmo → zLwC fS lk kt → (0 ≤ p0.toInt ∧ p0.toInt < np.toInt) → (0 ≤ p1.toInt ∧ p1.toInt < nb.toInt) → ∀ j : Nat, j < 10 → u.2.2 j = sRow kc kT.1 (some kt) p0 p1 j)) (fun (u : (Nat → Int32) × (Nat → Int32) × (Nat → Int32)) (t : State) => va_P (dC, dI) vwCl [(h0, .inr (8, [.ref w1, .ref w2, .ref aC, .ref g0, .ref aL, .ref aK, .ref lw])), (aC, .inr (1, [.ref aR, .ref aB, .ref aP, .int nb, .int np])), (aB, .inl (cI, 24, .inl fb)), (aP, .inl (cI, 20, .inl fp)), (g0, .inr (7, [.ref gY, .ref gF, .ref gP, .int gpn, .int glt, .int gsh, .int gwd, .int gpu, .int gmo])), (gF, .inl (cI, 5, .inl gfF)), (aL, .inl (cI, 6, .inl u.1)), (aK, .inl (cI, 32, .inl u.2.1)), (lw, .inr (4, [.ref lS])), (lS, .inl (cI, lk, .inl fS)), (rw, .inl (cI, 10, .inl u.2.2))] t.heap ∧ va_D (va_A [(h0, .inr (8, [.ref w1, .ref w2, .ref aC, .ref g0, .ref aL, .ref aK, .ref lw])), (aC, .inr (1, [.ref aR, .ref aB, .ref aP, .int nb, .int np])), (aB, .inl (cI, 24, .inl fb)), (aP, .inl (cI, 20, .inl fp)), (g0, .inr (7, [.ref gY, .ref gF, .ref gP, .int gpn, .int glt, .int gsh, .int gwd, .int gpu, .int gmo])), (gF, .inl (cI, 5, .inl gfF)), (aL, .inl (cI, 6, .inl fL)), (aK, .inl (cI, 32, .inl fK)), (lw, .inr (4, [.ref lS])), (lS, .inl (cI, lk, .inl fS)), (rw, .inl (cI, 10, .inl frw))] sz) [(h0, .inr (8, [.ref w1, .ref w2, .ref aC, .ref g0, .ref aL, .ref aK, .ref lw])), (aC, .inr (1, [.ref aR, .ref aB, .ref aP, .int nb, .int np])), (aB, .inl (cI, 24, .inl fb)), (aP, .inl (cI, 20, .inl fp)), (g0, .inr (7, [.ref gY, .ref gF, .ref gP, .int gpn, .int glt, .int gsh, .int gwd, .int gpu, .int gmo])), (gF, .inl (cI, 5, .inl gfF)), (aL, .inl (cI, 6, .inl u.1)), (aK, .inl (cI, 32, .inl u.2.1)), (lw, .inr (4, [.ref lS])), (lS, .inl (cI, lk, .inl fS)), (rw, .inl (cI, 10, .inl u.2.2))]) (va_A [(h0, .inr (8, [.ref w1, .ref w2, .ref aC, .ref g0, .ref aL, .ref aK, .ref lw])), (aC, .inr (1, [.ref aR, .ref aB, .ref aP, .int nb, .int np])), (aB, .inl (cI, 24, .inl fb)), (aP, .inl (cI, 20, .inl fp)), (g0, .inr (7, [.ref gY, .ref gF, .ref gP, .int gpn, .int glt, .int gsh, .int gwd, .int gpu, .int gmo])), (gF, .inl (cI, 5, .inl gfF)), (aL, .inl (cI, 6, .inl fL)), (aK, .inl (cI, 32, .inl fK)), (lw, .inr (4, [.ref lS])), (lS, .inl (cI, lk, .inl fS)), (rw, .inl (cI, 10, .inl frw))] sz)) 0 0 (va_A [(h0, .inr (8, [.ref w1, .ref w2, .ref aC, .ref g0, .ref aL, .ref aK, .ref lw])), (aC, .inr (1, [.ref aR, .ref aB, .ref aP, .int nb, .int np])), (aB, .inl (cI, 24, .inl fb)), (aP, .inl (cI, 20, .inl fp)), (g0, .inr (7, [.ref gY, .ref gF, .ref gP, .int gpn, .int glt, .int gsh, .int gwd, .int gpu, .int gmo])), (gF, .inl (cI, 5, .inl gfF)), (aL, .inl (cI, 6, .inl fL)), (aK, .inl (cI, 32, .inl fK)), (lw, .inr (4, [.ref lS])), (lS, .inl (cI, lk, .inl fS)), (rw, .inl (cI, 10, .inl frw))] sz) := by
  refine Met.ofW (cc := cX8_fillLooks) (maxL := 5) (ret := none) (by decide) rfl ?_
  intro p e s m args below meth c s₁ B hml hv
  obtain ⟨hargs, hsz, hP, hK, hT⟩ := hv
  have hx := B.exec
  have hb := B.bytes
  have hr := B.returns
  have hts : ∀ w ∈ wA, w.before args s = true := fun w h => atoms_spec (ws := .code yX8_fillLooks cX8_fillLooks 5 none :: wA) B.pre w (List.mem_cons_of_mem _ h)
  have hown : s.vm.findClass RX8 = some m.cls := findClass_of_methodNamed B.named
  have hlocks := B.notSynchronized
  subst hsz
  have hD := hT.self (sz := s.heap.size)
  generalize hAe : va_A [(h0, .inr (8, [.ref w1, .ref w2, .ref aC, .ref g0, .ref aL, .ref aK, .ref lw])), (aC, .inr (1, [.ref aR, .ref aB, .ref aP, .int nb, .int np])), (aB, .inl (cI, 24, .inl fb)), (aP, .inl (cI, 20, .inl fp)), (g0, .inr (7, [.ref gY, .ref gF, .ref gP, .int gpn, .int glt, .int gsh, .int gwd, .int gpu, .int gmo])), (gF, .inl (cI, 5, .inl gfF)), (aL, .inl (cI, 6, .inl fL)), (aK, .inl (cI, 32, .inl fK)), (lw, .inr (4, [.ref lS])), (lS, .inl (cI, lk, .inl fS)), (rw, .inl (cI, 10, .inl frw))] s.heap.size = A at hD ⊢
  have hA : ∀ q : Nat, s.heap.size ≤ q → A q := fun q h => by rw [← hAe]; exact Or.inr h
  have hl := lv_entry ([.ref h0, .int p0, .int p1, .ref rw]) (n := 5) (Nat.le_of_ble_eq_true rfl)
  rw [show entryFrame m args 5 = entryFrame m ([.ref h0, .int p0, .int p1, .ref rw] : List Value).toArray 5 by rw [hargs], lg_entry_eq]
  generalize (lg_sl ([.ref h0, .int p0, .int p1, .ref rw]) ++ List.replicate (5 - (lg_sl ([.ref h0, .int p0, .int p1, .ref rw])).length) Slot.unset).toArray = ls at hl ⊢
  have hl : lv_has ls 5 [(0, .ref h0), (1, .int p0), (2, .int p1), (3, .ref rw)] := hl
  refine zstart (fun H hH => ?_)
  rw [← hH] at hP
  have hS : va_S A s.heap H [] := by rw [hH]; exact va_S.rf
  generalize ([] : List Loc) = locs at hS ⊢
  refine zgen (fun R Q hR hQ => ?_)
  refine lv_iconst (v := 0) hx hb dX8_fillLooks_0 (by decide) ?_
  have J3 : ∀ (n : Nat) (m3_A_aK : Nat → Int32) (m3_A_aL : Nat → Int32) (m3_A_rw : Nat → Int32) (m3_L_4 : Int32), (0 ≤ m3_L_4.toInt ∧ m3_L_4.toInt ≤ 10) → (∀ (kc : zK3) (kT : zT) (q_fr : Nat → Int32) (q_gfY : Nat → Int32) (q_gfP : Nat → Int32) (kt : (Int → Int) × Int), zCn q_fr fb fp nb.toInt np.toInt kc → zKo nb.toInt np.toInt kc kT → zSc nb.toInt np.toInt kT.1 q_gfY gfF q_gfP gpn glt gsh gwd gpu gmo → zLwC fS lk kt → (0 ≤ p0.toInt ∧ p0.toInt < np.toInt) → (0 ≤ p1.toInt ∧ p1.toInt < nb.toInt) → ∀ j : Nat, (j : Int) < m3_L_4.toInt → m3_A_rw j = sRow kc kT.1 (some kt) p0 p1 j) → (11 - m3_L_4.toInt).toNat = n → ∀ (H : Heap) (locs : List Loc) (ls : Array Slot), va_P (dC, dI) vwCl [(h0, .inr (8, [.ref w1, .ref w2, .ref aC, .ref g0, .ref aL, .ref aK, .ref lw])), (aC, .inr (1, [.ref aR, .ref aB, .ref aP, .int nb, .int np])), (aB, .inl (cI, 24, .inl fb)), (aP, .inl (cI, 20, .inl fp)), (g0, .inr (7, [.ref gY, .ref gF, .ref gP, .int gpn, .int glt, .int gsh, .int gwd, .int gpu, .int gmo])), (gF, .inl (cI, 5, .inl gfF)), (aL, .inl (cI, 6, .inl m3_A_aL)), (aK, .inl (cI, 32, .inl m3_A_aK)), (lw, .inr (4, [.ref lS])), (lS, .inl (cI, lk, .inl fS)), (rw, .inl (cI, 10, .inl m3_A_rw))] H → va_D A [(h0, .inr (8, [.ref w1, .ref w2, .ref aC, .ref g0, .ref aL, .ref aK, .ref lw])), (aC, .inr (1, [.ref aR, .ref aB, .ref aP, .int nb, .int np])), (aB, .inl (cI, 24, .inl fb)), (aP, .inl (cI, 20, .inl fp)), (g0, .inr (7, [.ref gY, .ref gF, .ref gP, .int gpn, .int glt, .int gsh, .int gwd, .int gpu, .int gmo])), (gF, .inl (cI, 5, .inl gfF)), (aL, .inl (cI, 6, .inl m3_A_aL)), (aK, .inl (cI, 32, .inl m3_A_aK)), (lw, .inr (4, [.ref lS])), (lS, .inl (cI, lk, .inl fS)), (rw, .inl (cI, 10, .inl m3_A_rw))] → va_S A s.heap H locs → lv_has ls 5 [(4, .int m3_L_4), (0, .ref h0), (1, .int p0), (2, .int p1), (3, .ref rw)] → W p l e R s m args below meth c H locs 0 0 Q (F0 m 3 ls []) := by
    intro n3
    induction n3 using Nat.strongRecOn with
    | _ n3 ih3 =>
      intro m3_A_aK m3_A_aL m3_A_rw m3_L_4 jf3_0 jv3_0 hmu3 H locs ls hP hD hS hl
      refine lv_iload hx hb dX8_fillLooks_3 (lv_at hl 0 rfl) ?_
      refine lv_aload_n hx hb dX8_fillLooks_5 rfl (lv_at hl 4 rfl) ?_
      refine va_alen (v := 10) hx hb hK hP 10 0 rfl rfl rfl dX8_fillLooks_6 ?_
      refine lv_icmp_ge (tgt := 36) hx hb dX8_fillLooks_7 (by decide) (fun c7 => ?_) (fun c7 => ?_)
      · have c7 : 10 ≤ m3_L_4.toInt := z3 (by decide) rfl c7
        rw [hQ]
        exact W.vret hx hb hr (fun t ht hW => ⟨⟨(m3_A_aL, m3_A_aK, m3_A_rw), rfl, (fun kc kT q_fr q_gfY q_gfP kt hc hb h ht hp hq => fun j hj => (jv3_0 kc kT _ _ _ kt hc hb h ht hp hq) j (by omega)), ⟨by rw [ht]; exact hP, hD⟩⟩, hS.F ht⟩) hS.2.2 dX8_fillLooks_36
      · have c7 : m3_L_4.toInt < 10 := z4 (by decide) rfl c7
        refine lv_aload_n hx hb dX8_fillLooks_10 rfl (lv_at hl 4 rfl) ?_
        refine lv_iload hx hb dX8_fillLooks_11 (lv_at hl 0 rfl) ?_
        refine lv_aload_n hx hb dX8_fillLooks_13 rfl (lv_at hl 1 rfl) ?_
        refine lv_iload_n hx hb dX8_fillLooks_14 rfl (lv_at hl 2 rfl) ?_
        refine lv_iload_n hx hb dX8_fillLooks_15 rfl (lv_at hl 3 rfl) ?_
        refine lv_aload_n hx hb dX8_fillLooks_16 rfl (lv_at hl 1 rfl) ?_
        refine va_get (D := (dC, dI)) (ci := 8) (v := .ref aC) (C := RX8) (T := TX8) (N := 7) hx hb hts iX8 hown hK hP 0 rfl rfl 2 (by decide) (hts _ qw289) (fun _ h9 => h9) rfl dX8_fillLooks_17 ?_
        refine lv_iload_n hx hb dX8_fillLooks_20 rfl (lv_at hl 3 rfl) ?_
        obtain ⟨hPc, hDc⟩ := zc2 (wc := [(aC, .inr (1, [.ref aR, .ref aB, .ref aP, .int nb, .int np])), (aB, .inl (cI, 24, .inl fb))]) hP hD [1, 2] (by decide +kernel) rfl
        have hFc := zfr hS hA
        refine va_calli (va_runV (As := [.int p1]) (rest := [.int p1, .int p0, .ref h0, .int m3_L_4, .ref rw]) ⟨hx, hb, hml, hown, hts⟩ (g_X1_faceOf l dC dI cI cJ aC p1 aR aB aP nb np fb H.size n_p1) (cwV 1 hts (zgV qw948 qw703 qw704 qw102 qw705) rfl rfl rfl hd_X1_faceOf ⟨by rw [hR]; exact Nat.le_of_ble_eq_true rfl, by rw [hR]; exact Nat.le_of_ble_eq_true rfl⟩) (zPV hPc hK hDc (va_recv (q := (RX1, TX1, 5)) hK hP (ci := 1) (q0 := 1) rfl rfl)) rfl rfl hl.1 rfl (lv_room (Nat.le_of_ble_eq_true rfl)) dX8_fillLooks_21 ⟨Nat.zero_le _, Nat.zero_le _⟩) hS (fun q _ h => hFc q h) hFc (fun v21 u21 t H locs ht hvm hw hB hz1 hk1 hS9 => ?_)
        replace hP := zkeep hP hk1
        replace hS := hS9
        clear hPc hDc hFc hk1 hz1 hvm hS9
        have f21_0 : (v21 = fb (4 * p1.toInt.toNat)) := hw
        have F21 := f21_0
        refine lv_iload hx hb dX8_fillLooks_24 (lv_at hl 0 rfl) ?_
        obtain ⟨hPc, hDc, hFc⟩ := zc3 (wc := [(h0, .inr (8, [.ref w1, .ref w2, .ref aC, .ref g0, .ref aL, .ref aK, .ref lw])), (aC, .inr (1, [.ref aR, .ref aB, .ref aP, .int nb, .int np])), (aB, .inl (cI, 24, .inl fb)), (aP, .inl (cI, 20, .inl fp)), (g0, .inr (7, [.ref gY, .ref gF, .ref gP, .int gpn, .int glt, .int gsh, .int gwd, .int gpu, .int gmo])), (gF, .inl (cI, 5, .inl gfF)), (aL, .inl (cI, 6, .inl m3_A_aL)), (aK, .inl (cI, 32, .inl m3_A_aK)), (lw, .inr (4, [.ref lS])), (lS, .inl (cI, lk, .inl fS))]) hP hD hS hA [0, 1, 2, 3, 4, 5, 6, 7, 8, 9] (by decide +kernel) rfl
        refine va_calli (va_runV (As := [.int p0, .int p1, .int v21, .int m3_L_4]) (rest := [.int m3_L_4, .ref rw]) ⟨hx, hb, hml, hown, hts⟩ (g_X8_lookOf_l l dC dI cI cJ h0 p0 p1 v21 m3_L_4 w1 w2 aC g0 aL aK lw aR aB aP nb np fb fp gY gF gP gpn glt gsh gwd gpu gmo gfF m3_A_aL m3_A_aK lS fS lk H.size n_p0 n_p1 (hlk) ci_fS_zSt) (cwV 4 hts (zgV qw657 qw658 qw659 qw105 qw660) rfl rfl rfl hd_X8_lookOf ⟨by rw [hR]; exact Nat.le_of_ble_eq_true rfl, by rw [hR]; exact Nat.le_of_ble_eq_true rfl⟩) (zPV hPc hK hDc (va_recv (q := (RX8, TX8, 7)) hK hP (ci := 8) (q0 := 0) rfl rfl)) rfl rfl hl.1 rfl (lv_room (Nat.le_of_ble_eq_true rfl)) dX8_fillLooks_26 ⟨Nat.zero_le _, Nat.zero_le _⟩) hS (fun q _ h => hFc q h) hFc (fun v26 u26 t H locs ht hvm hw hB hz1 hk1 hS9 => ?_)
        obtain ⟨u26_0, u26_1⟩ := u26
        obtain ⟨hP9, hD9⟩ := zj2 (wX := [(h0, .inr (8, [.ref w1, .ref w2, .ref aC, .ref g0, .ref aL, .ref aK, .ref lw])), (aC, .inr (1, [.ref aR, .ref aB, .ref aP, .int nb, .int np])), (aB, .inl (cI, 24, .inl fb)), (aP, .inl (cI, 20, .inl fp)), (g0, .inr (7, [.ref gY, .ref gF, .ref gP, .int gpn, .int glt, .int gsh, .int gwd, .int gpu, .int gmo])), (gF, .inl (cI, 5, .inl gfF)), (aL, .inl (cI, 6, .inl u26_0)), (aK, .inl (cI, 32, .inl u26_1)), (lw, .inr (4, [.ref lS])), (lS, .inl (cI, lk, .inl fS)), (rw, .inl (cI, 10, .inl m3_A_rw))]) hP hD hk1 hFc ht hB [0, 1, 2, 3, 4, 5, 6, 7, 8, 9] [(true, 0), (true, 1), (true, 2), (true, 3), (true, 4), (true, 5), (true, 6), (true, 7), (true, 8), (true, 9), (false, 10)] rfl (by decide +kernel) (by decide +kernel) rfl
        clear hP hD hS hPc hDc hFc hB hk1 hz1 hvm
        have hP := hP9
        have hD := hD9
        have hS := hS9
        clear hP9 hD9 hS9
        obtain ⟨f26_0, f26_1, f26_2⟩ : (0 ≤ v26.toInt) ∧ (v26.toInt ≤ 9) ∧ (∀ t : (Int → Int) × Int, zLwC fS lk t → zB5 v21 (fb (4 * p1.toInt.toNat + 2)) m3_L_4 (fp (4 * p0.toInt.toNat)) (gfF p0.toInt.toNat) gmo → v26 = zLkv (some t) v21 (fb (4 * p1.toInt.toNat + 2)) m3_L_4 (fp (4 * p0.toInt.toNat)) (gfF p0.toInt.toNat) gmo) := hw
        have F26 := f26_2
        refine va_iast hx hb hK hP hD hS 10 0 rfl rfl (vp_in_iff.mpr ⟨by omega, by omega⟩) dX8_fillLooks_29 (fun H locs hP9 hD9 hS9 => ?_)
        clear hP hD hS
        obtain ⟨v29_f, e29⟩ : ∃ g : Nat → Int32, g = upd m3_A_rw (m3_L_4).toNatClampNeg v26 := ⟨_, rfl⟩
        rw [← e29] at hP9 hD9
        obtain ⟨hP, hD⟩ := zst (wX := [(h0, .inr (8, [.ref w1, .ref w2, .ref aC, .ref g0, .ref aL, .ref aK, .ref lw])), (aC, .inr (1, [.ref aR, .ref aB, .ref aP, .int nb, .int np])), (aB, .inl (cI, 24, .inl fb)), (aP, .inl (cI, 20, .inl fp)), (g0, .inr (7, [.ref gY, .ref gF, .ref gP, .int gpn, .int glt, .int gsh, .int gwd, .int gpu, .int gmo])), (gF, .inl (cI, 5, .inl gfF)), (aL, .inl (cI, 6, .inl u26_0)), (aK, .inl (cI, 32, .inl u26_1)), (lw, .inr (4, [.ref lS])), (lS, .inl (cI, lk, .inl fS)), (rw, .inl (cI, 10, .inl v29_f))]) hP9 hD9 rfl
        have hS := hS9
        clear hP9 hD9 hS9
        obtain ⟨v30, e30⟩ : ∃ y : Int32, y = m3_L_4 + Int32.ofInt (1) := ⟨_, rfl⟩
        refine lv_iinc (v := v30) (lv' := [(4, .int v30), (0, .ref h0), (1, .int p0), (2, .int p1), (3, .ref rw)]) hx hb dX8_fillLooks_30 hl (k := 0) rfl e30.symm (by decide) rfl (fun ls hl => ?_)
        have i30 : v30.toInt = m3_L_4.toInt + 1 := zaddI e30 (by decide) (by omega) (by omega)
        refine lv_goto (tgt := 3) hx hb dX8_fillLooks_33 (by decide) ?_
        exact ih3 _ (by omega) u26_1 u26_0 v29_f v30 (by omega) (fun kc kT q_fr q_gfY q_gfP kt hc hb h ht hp hq => by have y21 : v21 = kc.2.1 (4 * p1.toInt.toNat) := F21.trans (hc.2.1 _ (by omega)); exact zBlS (B := sRow kc kT.1 (some kt) p0 p1) (jv3_0 kc kT _ _ _ kt hc hb h ht hp hq) (by omega) i30 e29 (show v26 = sLk kc kT.1 (some kt) p0 p1 (kc.2.1 (4 * p1.toInt.toNat)) (Int32.ofNat m3_L_4.toInt.toNat) by rw [← zk32 (show 0 ≤ m3_L_4.toInt by omega), ← y21]; exact sLk_l hc hb h hp hq (by rw [y21]; exact zFace_b hb hq) (by omega) ht F26)) rfl H locs ls hP hD hS (lv_sub hl [0, 1, 2, 3, 4] rfl)
  refine lv_istore (lv' := [(4, .int 0), (0, .ref h0), (1, .int p0), (2, .int p1), (3, .ref rw)]) hx hb dX8_fillLooks_1 hl (by decide) rfl (fun ls hl => ?_)
  have zj3_m3_L_4 : (0 : Int32).toInt = 0 := by decide
  exact J3 _ fK fL frw 0 (by decide) (fun kc kT q_fr q_gfY q_gfP kt hc hb h ht hp hq => fun j hj => by exfalso; have z1 : (0 : Int32).toInt = 0 := (by decide); omega) rfl H locs ls hP hD hS (lv_sub hl [0, 1, 2, 3, 4] rfl)
set_option maxHeartbeats 4000000 in
set_option maxRecDepth 100000 in
theorem g_X10_shown_n (l : Launch) (dC : Nat → ClassId) (dI : Nat → Nat → Nat) (cI cJ : ClassId) (h0 : Nat) (p0 : Int32) (p1 : Int32) (p2 : Int32) (tp : Nat) (h0_courtReader : Value) (h0_lawReader : Value) (h0_draft : Value) (aC : Nat) (h0_laws : Value) (g0 : Nat) (k0 : Nat) (ac : Nat) (sd : Nat) (mi : Nat) (dw : Nat) (rf : Nat) (lc : Int32) (lh : Int32) (br : Int32) (hi : Int32) (aR : Nat) (aB : Nat) (aP : Nat) (nb : Int32) (np : Int32) (fb : Nat → Int32) (fp : Nat → Int32) (gY : Nat) (gF : Nat) (gP : Nat) (gpn : Int32) (glt : Int32) (gsh : Int32) (gwd : Int32) (gpu : Int32) (gmo : Int32) (gfY : Nat → Int32) (gfF : Nat → Int32) (gfP : Nat → Int32) (w1 : Nat) (w2 : Nat) (aL : Nat) (aK : Nat) (sz : Nat) (n_gpn : 0 ≤ gpn.toInt ∧ gpn.toInt ≤ 20) (n_gwd : (-1) ≤ gwd.toInt ∧ gwd.toInt ≤ 5) (n_hi : 0 ≤ hi.toInt ∧ hi.toInt ≤ 1) (n_lc : 0 ≤ lc.toInt ∧ lc.toInt ≤ 4) (n_nb : 0 ≤ nb.toInt ∧ nb.toInt ≤ 6) (n_np : 0 ≤ np.toInt ∧ np.toInt ≤ 5)  (ci_gfP_zPo : zPo gfP)  : Met l yX10_shown (.code yX10_shown cX10_shown 4 (some .int) :: wA) ({ frames := 4, cells := 0, slots := 0, locals := 103 }) (zP (dC, dI) [(cI, .int), (cJ, .long)] [.ref h0, .int p0, .int p1, .int p2] sz [(h0, .inr (10, [.ref tp, h0_courtReader, h0_lawReader, h0_draft, .ref aC, h0_laws, .ref g0, .ref k0, .ref ac, .ref sd, .ref mi, .ref dw, .ref rf, .int lc, .int lh, .int br, .int hi])), (aC, .inr (1, [.ref aR, .ref aB, .ref aP, .int nb, .int np])), (aB, .inl (cI, 24, .inl fb)), (aP, .inl (cI, 20, .inl fp)), (g0, .inr (7, [.ref gY, .ref gF, .ref gP, .int gpn, .int glt, .int gsh, .int gwd, .int gpu, .int gmo])), (gY, .inl (cI, 6, .inl gfY)), (gF, .inl (cI, 5, .inl gfF)), (gP, .inl (cI, 80, .inl gfP)), (sd, .inr (8, [.ref w1, .ref w2, .ref aC, .ref g0, .ref aL, .ref aK, .null]))]) (va_Qi (fun (r : Int32) (u : Unit) => ((-1) ≤ r.toInt) ∧ (r.toInt ≤ 9) ∧ (∀ (kc : zK3) (kT : zT) (q_fr : Nat → Int32) (q_fR : Nat → Int32) (q_pl : Int32) (q_cn : Int32) (q_frf : Nat → Int32), zCn q_fr fb fp nb.toInt np.toInt kc → zKo nb.toInt np.toInt kc kT → zTc nb.toInt np.toInt kT gfY gfF gfP gpn glt gsh gwd gpu gmo q_fR q_pl q_cn q_frf → r = sV_sho nb.toInt np.toInt kc kT.1 none p0 p1 p2)) (fun (_ : Unit) (_ : State) => True) (va_A [] sz)) 0 0 (va_A [] sz) := by
  refine Met.ofW (cc := cX10_shown) (maxL := 4) (ret := (some .int)) (by decide) rfl ?_
  intro p e s m args below meth c s₁ B hml hv
  have y_gwd : zHid ((-1) ≤ gwd.toInt ∧ gwd.toInt ≤ 5) := n_gwd
  have y_hi : zHid (0 ≤ hi.toInt ∧ hi.toInt ≤ 1) := n_hi
  have y_lc : zHid (0 ≤ lc.toInt ∧ lc.toInt ≤ 4) := n_lc
  clear n_gwd n_hi n_lc
  obtain ⟨hargs, hsz, hP, hK, hT⟩ := hv
  have hx := B.exec
  have hb := B.bytes
  have hr := B.returns
  have hts : ∀ w ∈ wA, w.before args s = true := fun w h => atoms_spec (ws := .code yX10_shown cX10_shown 4 (some .int) :: wA) B.pre w (List.mem_cons_of_mem _ h)
  have hown : s.vm.findClass RX10 = some m.cls := findClass_of_methodNamed B.named
  have hlocks := B.notSynchronized
  subst hsz
  have hD : va_D (va_A [] s.heap.size) [] := zD0
  generalize hAe : va_A [] s.heap.size = A at hD ⊢
  have hA : ∀ q : Nat, s.heap.size ≤ q → A q := fun q h => by rw [← hAe]; exact Or.inr h
  have hl := lv_entry ([.ref h0, .int p0, .int p1, .int p2]) (n := 4) (Nat.le_of_ble_eq_true rfl)
  rw [show entryFrame m args 4 = entryFrame m ([.ref h0, .int p0, .int p1, .int p2] : List Value).toArray 4 by rw [hargs], lg_entry_eq]
  generalize (lg_sl ([.ref h0, .int p0, .int p1, .int p2]) ++ List.replicate (4 - (lg_sl ([.ref h0, .int p0, .int p1, .int p2])).length) Slot.unset).toArray = ls at hl ⊢
  have hl : lv_has ls 4 [(0, .ref h0), (1, .int p0), (2, .int p1), (3, .int p2)] := hl
  refine zstart (fun H hH => ?_)
  rw [← hH] at hP
  have hS : va_S A s.heap H [] := by rw [hH]; exact va_S.rf
  generalize ([] : List Loc) = locs at hS ⊢
  refine zgen (fun R Q hR hQ => ?_)
  refine lv_aload_n hx hb dX10_shown_0 rfl (lv_at hl 0 rfl) ?_
  refine lv_iload_n hx hb dX10_shown_1 rfl (lv_at hl 1 rfl) ?_
  obtain ⟨hPc, hDc⟩ := zc2 (wc := [(h0, .inr (10, [.ref tp, h0_courtReader, h0_lawReader, h0_draft, .ref aC, h0_laws, .ref g0, .ref k0, .ref ac, .ref sd, .ref mi, .ref dw, .ref rf, .int lc, .int lh, .int br, .int hi])), (aC, .inr (1, [.ref aR, .ref aB, .ref aP, .int nb, .int np]))]) hP hT [0, 1] (by decide +kernel) rfl
  have hFc := zfr hS hA
  refine va_calli (va_runV (As := [.int p0]) (rest := []) ⟨hx, hb, hml, hown, hts⟩ (g_X10_isPainter l dC dI cI cJ h0 p0 (.ref tp) h0_courtReader h0_lawReader h0_draft aC h0_laws (.ref g0) (.ref k0) (.ref ac) (.ref sd) (.ref mi) (.ref dw) (.ref rf) (.int lc) (.int lh) (.int br) (.int hi) aR aB aP nb np H.size n_np) (cwV 1 hts (zgV qw600 qw602 qw11 qw98 qw603) rfl rfl rfl hd_X10_isPainter ⟨by rw [hR]; exact Nat.le_of_ble_eq_true rfl, by rw [hR]; exact Nat.le_of_ble_eq_true rfl⟩) (zPV hPc hK hDc (va_recv (q := (RX10, TX10, 17)) hK hP (ci := 10) (q0 := 0) rfl rfl)) rfl rfl hl.1 rfl (lv_room (Nat.le_of_ble_eq_true rfl)) dX10_shown_2 ⟨Nat.zero_le _, Nat.zero_le _⟩) hS (fun q _ h => hFc q h) hFc (fun v2 u2 t H locs ht hvm hw hB hz1 hk1 hS9 => ?_)
  replace hP := zkeep hP hk1
  replace hS := hS9
  clear hPc hDc hFc hk1 hz1 hvm hS9
  obtain ⟨f2_0, f2_1, f2_2, f2_3⟩ : (0 ≤ v2.toInt) ∧ (v2.toInt ≤ 1) ∧ (¬ v2.toInt = 0 → (0 ≤ p0.toInt ∧ p0.toInt < np.toInt)) ∧ (v2.toInt = 0 → ¬ (0 ≤ p0.toInt ∧ p0.toInt < np.toInt)) := hw
  refine lv_if_eq (tgt := 23) hx hb dX10_shown_5 (by decide) (fun c5 => ?_) (fun c5 => ?_)
  · have c5 : v2.toInt = 0 := z5 rfl (by decide) c5
    refine lv_iconst (v := (-1)) hx hb dX10_shown_23 (by decide) ?_
    have zr0 : ((-1) : Int32).toInt = (-1) := by decide
    rw [hQ]
    exact W.iret (v := ((-1))) hx hb hr (fun t ht hW => ⟨⟨(-1), (), rfl, ⟨by (try dsimp only); omega, by (try dsimp only); omega, fun kc kT q_fr q_fR q_pl q_cn q_frf hc hb h => by unfold sV_sho; rw [if_neg (by omega)]; ⟩, trivial⟩, hS.F ht⟩) hS.2.2 dX10_shown_24
  · have c5 : ¬ v2.toInt = 0 := z6 rfl (by decide) c5
    refine lv_aload_n hx hb dX10_shown_8 rfl (lv_at hl 0 rfl) ?_
    refine lv_iload_n hx hb dX10_shown_9 rfl (lv_at hl 2 rfl) ?_
    obtain ⟨hPc, hDc⟩ := zc2 (wc := [(h0, .inr (10, [.ref tp, h0_courtReader, h0_lawReader, h0_draft, .ref aC, h0_laws, .ref g0, .ref k0, .ref ac, .ref sd, .ref mi, .ref dw, .ref rf, .int lc, .int lh, .int br, .int hi])), (aC, .inr (1, [.ref aR, .ref aB, .ref aP, .int nb, .int np]))]) hP hT [0, 1] (by decide +kernel) rfl
    have hFc := zfr hS hA
    refine va_calli (va_runV (As := [.int p1]) (rest := []) ⟨hx, hb, hml, hown, hts⟩ (g_X10_isBride l dC dI cI cJ h0 p1 (.ref tp) h0_courtReader h0_lawReader h0_draft aC h0_laws (.ref g0) (.ref k0) (.ref ac) (.ref sd) (.ref mi) (.ref dw) (.ref rf) (.int lc) (.int lh) (.int br) (.int hi) aR aB aP nb np H.size n_nb) (cwV 1 hts (zgV qw625 qw627 qw12 qw98 qw628) rfl rfl rfl hd_X10_isBride ⟨by rw [hR]; exact Nat.le_of_ble_eq_true rfl, by rw [hR]; exact Nat.le_of_ble_eq_true rfl⟩) (zPV hPc hK hDc (va_recv (q := (RX10, TX10, 17)) hK hP (ci := 10) (q0 := 0) rfl rfl)) rfl rfl hl.1 rfl (lv_room (Nat.le_of_ble_eq_true rfl)) dX10_shown_10 ⟨Nat.zero_le _, Nat.zero_le _⟩) hS (fun q _ h => hFc q h) hFc (fun v10 u10 t H locs ht hvm hw hB hz1 hk1 hS9 => ?_)
    replace hP := zkeep hP hk1
    replace hS := hS9
    clear hPc hDc hFc hk1 hz1 hvm hS9
    obtain ⟨f10_0, f10_1, f10_2, f10_3⟩ : (0 ≤ v10.toInt) ∧ (v10.toInt ≤ 1) ∧ (¬ v10.toInt = 0 → (0 ≤ p1.toInt ∧ p1.toInt < nb.toInt)) ∧ (v10.toInt = 0 → ¬ (0 ≤ p1.toInt ∧ p1.toInt < nb.toInt)) := hw
    refine lv_if_eq (tgt := 23) hx hb dX10_shown_13 (by decide) (fun c13 => ?_) (fun c13 => ?_)
    · have c13 : v10.toInt = 0 := z5 rfl (by decide) c13
      refine lv_iconst (v := (-1)) hx hb dX10_shown_23 (by decide) ?_
      have zr0 : ((-1) : Int32).toInt = (-1) := by decide
      rw [hQ]
      exact W.iret (v := ((-1))) hx hb hr (fun t ht hW => ⟨⟨(-1), (), rfl, ⟨by (try dsimp only); omega, by (try dsimp only); omega, fun kc kT q_fr q_fR q_pl q_cn q_frf hc hb h => by unfold sV_sho; rw [if_neg (by omega)]; ⟩, trivial⟩, hS.F ht⟩) hS.2.2 dX10_shown_24
    · have c13 : ¬ v10.toInt = 0 := z6 rfl (by decide) c13
      refine lv_iload_n hx hb dX10_shown_16 rfl (lv_at hl 3 rfl) ?_
      have hPc : va_P (dC, dI) vwCl [] H := zP0
      have hDc : va_D (fun _ => True) [] := zD0
      have hFc := zfr hS hA
      refine va_calli (va_runS (As := [.int p2]) (rest := []) ⟨hx, hb, hml, hown, hts⟩ (g_X10_isFace l dC dI cI cJ p2 H.size) (cwS 1 hts (zgS qw640 qw641 qw98 qw642) rfl rfl rfl hd_X10_isFace ⟨by rw [hR]; exact Nat.le_of_ble_eq_true rfl, by rw [hR]; exact Nat.le_of_ble_eq_true rfl⟩) (zPS hPc hK hDc) rfl rfl hl.1 rfl (lv_room (Nat.le_of_ble_eq_true rfl)) dX10_shown_17 ⟨Nat.zero_le _, Nat.zero_le _⟩) hS (fun q _ h => hFc q h) hFc (fun v17 u17 t H locs ht hvm hw hB hz1 hk1 hS9 => ?_)
      replace hP := zkeep hP hk1
      replace hS := hS9
      clear hPc hDc hFc hk1 hz1 hvm hS9
      obtain ⟨f17_0, f17_1, f17_2, f17_3⟩ : (0 ≤ v17.toInt) ∧ (v17.toInt ≤ 1) ∧ (¬ v17.toInt = 0 → (0 ≤ p2.toInt ∧ p2.toInt ≤ 9)) ∧ (v17.toInt = 0 → ¬ (0 ≤ p2.toInt ∧ p2.toInt ≤ 9)) := hw
      refine lv_if_ne (tgt := 25) hx hb dX10_shown_20 (by decide) (fun c20 => ?_) (fun c20 => ?_)
      · have c20 : ¬ v17.toInt = 0 := z6 rfl (by decide) c20
        refine lv_aload_n hx hb dX10_shown_25 rfl (lv_at hl 0 rfl) ?_
        refine va_get (D := (dC, dI)) (ci := 10) (v := .ref sd) (C := RX10) (T := TX10) (N := 17) hx hb hts iX10 hown hK hP 0 rfl rfl 9 (by decide) (hts _ qw365) (fun _ h9 => h9) rfl dX10_shown_26 ?_
        refine lv_iload_n hx hb dX10_shown_29 rfl (lv_at hl 1 rfl) ?_
        refine lv_iload_n hx hb dX10_shown_30 rfl (lv_at hl 2 rfl) ?_
        refine lv_iload_n hx hb dX10_shown_31 rfl (lv_at hl 3 rfl) ?_
        obtain ⟨hPc, hDc⟩ := zc2 (wc := [(sd, .inr (8, [.ref w1, .ref w2, .ref aC, .ref g0, .ref aL, .ref aK, .null])), (aC, .inr (1, [.ref aR, .ref aB, .ref aP, .int nb, .int np])), (aB, .inl (cI, 24, .inl fb)), (aP, .inl (cI, 20, .inl fp)), (g0, .inr (7, [.ref gY, .ref gF, .ref gP, .int gpn, .int glt, .int gsh, .int gwd, .int gpu, .int gmo])), (gY, .inl (cI, 6, .inl gfY)), (gF, .inl (cI, 5, .inl gfF)), (gP, .inl (cI, 80, .inl gfP))]) hP hT [8, 1, 2, 3, 4, 5, 6, 7] (by decide +kernel) rfl
        have hFc := zfr hS hA
        refine va_calli (va_runV (As := [.int p0, .int p1, .int p2]) (rest := []) ⟨hx, hb, hml, hown, hts⟩ (g_X8_showOf_n l dC dI cI cJ sd p0 p1 p2 w1 w2 aC g0 aL aK aR aB aP nb np fb fp gY gF gP gpn glt gsh gwd gpu gmo gfY gfF gfP H.size n_gpn (by omega) (by omega) ci_gfP_zPo) (cwV 3 hts (zgV qw643 qw644 qw645 qw105 qw646) rfl rfl rfl hd_X8_showOf ⟨by rw [hR]; exact Nat.le_of_ble_eq_true rfl, by rw [hR]; exact Nat.le_of_ble_eq_true rfl⟩) (zPV hPc hK hDc (va_recv (q := (RX8, TX8, 7)) hK hP (ci := 8) (q0 := 8) rfl rfl)) rfl rfl hl.1 rfl (lv_room (Nat.le_of_ble_eq_true rfl)) dX10_shown_32 ⟨Nat.zero_le _, Nat.zero_le _⟩) hS (fun q _ h => hFc q h) hFc (fun v32 u32 t H locs ht hvm hw hB hz1 hk1 hS9 => ?_)
        replace hP := zkeep hP hk1
        replace hS := hS9
        clear hPc hDc hFc hk1 hz1 hvm hS9
        obtain ⟨f32_0, f32_1, f32_2⟩ : (0 ≤ v32.toInt) ∧ (v32.toInt ≤ 9) ∧ (∀ sk mo : Int32, v32 = zSh (fp (4 * p0.toInt.toNat + 3)) (zLat gfP p0 gpn.toInt.toNat) (zLkv none p2 (fb (4 * p1.toInt.toNat + 2)) (gfY p1.toInt.toNat) sk (gfF p0.toInt.toNat) mo)) := hw
        have F32 := f32_2
        rw [hQ]
        exact W.iret (v := v32) hx hb hr (fun t ht hW => ⟨⟨v32, (), rfl, ⟨by (try dsimp only); omega, by (try dsimp only); omega, fun kc kT q_fr q_fR q_pl q_cn q_frf hc hb h => by unfold sV_sho; rw [if_pos (by omega)]; exact sShow_n hc h.1 (by omega) (by omega) F32⟩, trivial⟩, hS.F ht⟩) hS.2.2 dX10_shown_35
      · have c20 : v17.toInt = 0 := z5 rfl (by decide) c20
        refine lv_iconst (v := (-1)) hx hb dX10_shown_23 (by decide) ?_
        have zr0 : ((-1) : Int32).toInt = (-1) := by decide
        rw [hQ]
        exact W.iret (v := ((-1))) hx hb hr (fun t ht hW => ⟨⟨(-1), (), rfl, ⟨by (try dsimp only); omega, by (try dsimp only); omega, fun kc kT q_fr q_fR q_pl q_cn q_frf hc hb h => by unfold sV_sho; rw [if_neg (by omega)]; ⟩, trivial⟩, hS.F ht⟩) hS.2.2 dX10_shown_24
set_option maxHeartbeats 4000000 in
set_option maxRecDepth 100000 in
theorem g_X10_shown_l (l : Launch) (dC : Nat → ClassId) (dI : Nat → Nat → Nat) (cI cJ : ClassId) (h0 : Nat) (p0 : Int32) (p1 : Int32) (p2 : Int32) (tp : Nat) (h0_courtReader : Value) (h0_lawReader : Value) (h0_draft : Value) (aC : Nat) (h0_laws : Value) (g0 : Nat) (k0 : Nat) (ac : Nat) (sd : Nat) (mi : Nat) (dw : Nat) (rf : Nat) (lc : Int32) (lh : Int32) (br : Int32) (hi : Int32) (aR : Nat) (aB : Nat) (aP : Nat) (nb : Int32) (np : Int32) (fb : Nat → Int32) (fp : Nat → Int32) (gY : Nat) (gF : Nat) (gP : Nat) (gpn : Int32) (glt : Int32) (gsh : Int32) (gwd : Int32) (gpu : Int32) (gmo : Int32) (gfY : Nat → Int32) (gfF : Nat → Int32) (gfP : Nat → Int32) (w1 : Nat) (w2 : Nat) (aL : Nat) (aK : Nat) (lw : Nat) (fL : Nat → Int32) (fK : Nat → Int32) (lS : Nat) (fS : Nat → Int32) (lk : Nat) (sz : Nat) (n_gpn : 0 ≤ gpn.toInt ∧ gpn.toInt ≤ 20) (n_gwd : (-1) ≤ gwd.toInt ∧ gwd.toInt ≤ 5) (n_hi : 0 ≤ hi.toInt ∧ hi.toInt ≤ 1) (n_lc : 0 ≤ lc.toInt ∧ lc.toInt ≤ 4) (n_nb : 0 ≤ nb.toInt ∧ nb.toInt ≤ 6) (n_np : 0 ≤ np.toInt ∧ np.toInt ≤ 5) (hlk : lk ≤ 241) (ci_fS_zSt : zSt fS) (ci_gfP_zPo : zPo gfP)  : Met l yX10_shown (.code yX10_shown cX10_shown 4 (some .int) :: wA) ({ frames := 4, cells := 0, slots := 0, locals := 103 }) (zP (dC, dI) [(cI, .int), (cJ, .long)] [.ref h0, .int p0, .int p1, .int p2] sz [(h0, .inr (10, [.ref tp, h0_courtReader, h0_lawReader, h0_draft, .ref aC, h0_laws, .ref g0, .ref k0, .ref ac, .ref sd, .ref mi, .ref dw, .ref rf, .int lc, .int lh, .int br, .int hi])), (aC, .inr (1, [.ref aR, .ref aB, .ref aP, .int nb, .int np])), (aB, .inl (cI, 24, .inl fb)), (aP, .inl (cI, 20, .inl fp)), (g0, .inr (7, [.ref gY, .ref gF, .ref gP, .int gpn, .int glt, .int gsh, .int gwd, .int gpu, .int gmo])), (gY, .inl (cI, 6, .inl gfY)), (gF, .inl (cI, 5, .inl gfF)), (gP, .inl (cI, 80, .inl gfP)), (sd, .inr (8, [.ref w1, .ref w2, .ref aC, .ref g0, .ref aL, .ref aK, .ref lw])), (aL, .inl (cI, 6, .inl fL)), (aK, .inl (cI, 32, .inl fK)), (lw, .inr (4, [.ref lS])), (lS, .inl (cI, lk, .inl fS))]) (va_Qi (fun (r : Int32) (u : (Nat → Int32) × (Nat → Int32)) => ((-1) ≤ r.toInt) ∧ (r.toInt ≤ 9) ∧ (∀ (kc : zK3) (kT : zT) (q_fr : Nat → Int32) (q_fR : Nat → Int32) (q_pl : Int32) (q_cn : Int32) (q_frf : Nat → Int32) (kt : (Int → Int) × Int), zCn q_fr fb fp nb.toInt np.toInt kc → zKo nb.toInt np.toInt kc kT → zTc nb.toInt np.toInt kT gfY gfF gfP gpn glt gsh gwd gpu gmo q_fR q_pl q_cn q_frf → zLwC fS lk kt → r = sV_sho nb.toInt np.toInt kc kT.1 (some kt) p0 p1 p2)) (fun (u : (Nat → Int32) × (Nat → Int32)) (t : State) => va_P (dC, dI) vwCl [(h0, .inr (10, [.ref tp, h0_courtReader, h0_lawReader, h0_draft, .ref aC, h0_laws, .ref g0, .ref k0, .ref ac, .ref sd, .ref mi, .ref dw, .ref rf, .int lc, .int lh, .int br, .int hi])), (aC, .inr (1, [.ref aR, .ref aB, .ref aP, .int nb, .int np])), (aB, .inl (cI, 24, .inl fb)), (aP, .inl (cI, 20, .inl fp)), (g0, .inr (7, [.ref gY, .ref gF, .ref gP, .int gpn, .int glt, .int gsh, .int gwd, .int gpu, .int gmo])), (gY, .inl (cI, 6, .inl gfY)), (gF, .inl (cI, 5, .inl gfF)), (gP, .inl (cI, 80, .inl gfP)), (sd, .inr (8, [.ref w1, .ref w2, .ref aC, .ref g0, .ref aL, .ref aK, .ref lw])), (aL, .inl (cI, 6, .inl u.1)), (aK, .inl (cI, 32, .inl u.2)), (lw, .inr (4, [.ref lS])), (lS, .inl (cI, lk, .inl fS))] t.heap ∧ va_D (va_A [(h0, .inr (10, [.ref tp, h0_courtReader, h0_lawReader, h0_draft, .ref aC, h0_laws, .ref g0, .ref k0, .ref ac, .ref sd, .ref mi, .ref dw, .ref rf, .int lc, .int lh, .int br, .int hi])), (aC, .inr (1, [.ref aR, .ref aB, .ref aP, .int nb, .int np])), (aB, .inl (cI, 24, .inl fb)), (aP, .inl (cI, 20, .inl fp)), (g0, .inr (7, [.ref gY, .ref gF, .ref gP, .int gpn, .int glt, .int gsh, .int gwd, .int gpu, .int gmo])), (gY, .inl (cI, 6, .inl gfY)), (gF, .inl (cI, 5, .inl gfF)), (gP, .inl (cI, 80, .inl gfP)), (sd, .inr (8, [.ref w1, .ref w2, .ref aC, .ref g0, .ref aL, .ref aK, .ref lw])), (aL, .inl (cI, 6, .inl fL)), (aK, .inl (cI, 32, .inl fK)), (lw, .inr (4, [.ref lS])), (lS, .inl (cI, lk, .inl fS))] sz) [(h0, .inr (10, [.ref tp, h0_courtReader, h0_lawReader, h0_draft, .ref aC, h0_laws, .ref g0, .ref k0, .ref ac, .ref sd, .ref mi, .ref dw, .ref rf, .int lc, .int lh, .int br, .int hi])), (aC, .inr (1, [.ref aR, .ref aB, .ref aP, .int nb, .int np])), (aB, .inl (cI, 24, .inl fb)), (aP, .inl (cI, 20, .inl fp)), (g0, .inr (7, [.ref gY, .ref gF, .ref gP, .int gpn, .int glt, .int gsh, .int gwd, .int gpu, .int gmo])), (gY, .inl (cI, 6, .inl gfY)), (gF, .inl (cI, 5, .inl gfF)), (gP, .inl (cI, 80, .inl gfP)), (sd, .inr (8, [.ref w1, .ref w2, .ref aC, .ref g0, .ref aL, .ref aK, .ref lw])), (aL, .inl (cI, 6, .inl u.1)), (aK, .inl (cI, 32, .inl u.2)), (lw, .inr (4, [.ref lS])), (lS, .inl (cI, lk, .inl fS))]) (va_A [(h0, .inr (10, [.ref tp, h0_courtReader, h0_lawReader, h0_draft, .ref aC, h0_laws, .ref g0, .ref k0, .ref ac, .ref sd, .ref mi, .ref dw, .ref rf, .int lc, .int lh, .int br, .int hi])), (aC, .inr (1, [.ref aR, .ref aB, .ref aP, .int nb, .int np])), (aB, .inl (cI, 24, .inl fb)), (aP, .inl (cI, 20, .inl fp)), (g0, .inr (7, [.ref gY, .ref gF, .ref gP, .int gpn, .int glt, .int gsh, .int gwd, .int gpu, .int gmo])), (gY, .inl (cI, 6, .inl gfY)), (gF, .inl (cI, 5, .inl gfF)), (gP, .inl (cI, 80, .inl gfP)), (sd, .inr (8, [.ref w1, .ref w2, .ref aC, .ref g0, .ref aL, .ref aK, .ref lw])), (aL, .inl (cI, 6, .inl fL)), (aK, .inl (cI, 32, .inl fK)), (lw, .inr (4, [.ref lS])), (lS, .inl (cI, lk, .inl fS))] sz)) 0 0 (va_A [(h0, .inr (10, [.ref tp, h0_courtReader, h0_lawReader, h0_draft, .ref aC, h0_laws, .ref g0, .ref k0, .ref ac, .ref sd, .ref mi, .ref dw, .ref rf, .int lc, .int lh, .int br, .int hi])), (aC, .inr (1, [.ref aR, .ref aB, .ref aP, .int nb, .int np])), (aB, .inl (cI, 24, .inl fb)), (aP, .inl (cI, 20, .inl fp)), (g0, .inr (7, [.ref gY, .ref gF, .ref gP, .int gpn, .int glt, .int gsh, .int gwd, .int gpu, .int gmo])), (gY, .inl (cI, 6, .inl gfY)), (gF, .inl (cI, 5, .inl gfF)), (gP, .inl (cI, 80, .inl gfP)), (sd, .inr (8, [.ref w1, .ref w2, .ref aC, .ref g0, .ref aL, .ref aK, .ref lw])), (aL, .inl (cI, 6, .inl fL)), (aK, .inl (cI, 32, .inl fK)), (lw, .inr (4, [.ref lS])), (lS, .inl (cI, lk, .inl fS))] sz) := by
  refine Met.ofW (cc := cX10_shown) (maxL := 4) (ret := (some .int)) (by decide) rfl ?_
  intro p e s m args below meth c s₁ B hml hv
  have y_gwd : zHid ((-1) ≤ gwd.toInt ∧ gwd.toInt ≤ 5) := n_gwd
  have y_hi : zHid (0 ≤ hi.toInt ∧ hi.toInt ≤ 1) := n_hi
  have y_lc : zHid (0 ≤ lc.toInt ∧ lc.toInt ≤ 4) := n_lc
  clear n_gwd n_hi n_lc
  obtain ⟨hargs, hsz, hP, hK, hT⟩ := hv
  have hx := B.exec
  have hb := B.bytes
  have hr := B.returns
  have hts : ∀ w ∈ wA, w.before args s = true := fun w h => atoms_spec (ws := .code yX10_shown cX10_shown 4 (some .int) :: wA) B.pre w (List.mem_cons_of_mem _ h)
  have hown : s.vm.findClass RX10 = some m.cls := findClass_of_methodNamed B.named
  have hlocks := B.notSynchronized
  subst hsz
  have hD := hT.self (sz := s.heap.size)
  generalize hAe : va_A [(h0, .inr (10, [.ref tp, h0_courtReader, h0_lawReader, h0_draft, .ref aC, h0_laws, .ref g0, .ref k0, .ref ac, .ref sd, .ref mi, .ref dw, .ref rf, .int lc, .int lh, .int br, .int hi])), (aC, .inr (1, [.ref aR, .ref aB, .ref aP, .int nb, .int np])), (aB, .inl (cI, 24, .inl fb)), (aP, .inl (cI, 20, .inl fp)), (g0, .inr (7, [.ref gY, .ref gF, .ref gP, .int gpn, .int glt, .int gsh, .int gwd, .int gpu, .int gmo])), (gY, .inl (cI, 6, .inl gfY)), (gF, .inl (cI, 5, .inl gfF)), (gP, .inl (cI, 80, .inl gfP)), (sd, .inr (8, [.ref w1, .ref w2, .ref aC, .ref g0, .ref aL, .ref aK, .ref lw])), (aL, .inl (cI, 6, .inl fL)), (aK, .inl (cI, 32, .inl fK)), (lw, .inr (4, [.ref lS])), (lS, .inl (cI, lk, .inl fS))] s.heap.size = A at hD ⊢
  have hA : ∀ q : Nat, s.heap.size ≤ q → A q := fun q h => by rw [← hAe]; exact Or.inr h
  have hl := lv_entry ([.ref h0, .int p0, .int p1, .int p2]) (n := 4) (Nat.le_of_ble_eq_true rfl)
  rw [show entryFrame m args 4 = entryFrame m ([.ref h0, .int p0, .int p1, .int p2] : List Value).toArray 4 by rw [hargs], lg_entry_eq]
  generalize (lg_sl ([.ref h0, .int p0, .int p1, .int p2]) ++ List.replicate (4 - (lg_sl ([.ref h0, .int p0, .int p1, .int p2])).length) Slot.unset).toArray = ls at hl ⊢
  have hl : lv_has ls 4 [(0, .ref h0), (1, .int p0), (2, .int p1), (3, .int p2)] := hl
  refine zstart (fun H hH => ?_)
  rw [← hH] at hP
  have hS : va_S A s.heap H [] := by rw [hH]; exact va_S.rf
  generalize ([] : List Loc) = locs at hS ⊢
  refine zgen (fun R Q hR hQ => ?_)
  refine lv_aload_n hx hb dX10_shown_0 rfl (lv_at hl 0 rfl) ?_
  refine lv_iload_n hx hb dX10_shown_1 rfl (lv_at hl 1 rfl) ?_
  obtain ⟨hPc, hDc⟩ := zc2 (wc := [(h0, .inr (10, [.ref tp, h0_courtReader, h0_lawReader, h0_draft, .ref aC, h0_laws, .ref g0, .ref k0, .ref ac, .ref sd, .ref mi, .ref dw, .ref rf, .int lc, .int lh, .int br, .int hi])), (aC, .inr (1, [.ref aR, .ref aB, .ref aP, .int nb, .int np]))]) hP hD [0, 1] (by decide +kernel) rfl
  have hFc := zfr hS hA
  refine va_calli (va_runV (As := [.int p0]) (rest := []) ⟨hx, hb, hml, hown, hts⟩ (g_X10_isPainter l dC dI cI cJ h0 p0 (.ref tp) h0_courtReader h0_lawReader h0_draft aC h0_laws (.ref g0) (.ref k0) (.ref ac) (.ref sd) (.ref mi) (.ref dw) (.ref rf) (.int lc) (.int lh) (.int br) (.int hi) aR aB aP nb np H.size n_np) (cwV 1 hts (zgV qw600 qw602 qw11 qw98 qw603) rfl rfl rfl hd_X10_isPainter ⟨by rw [hR]; exact Nat.le_of_ble_eq_true rfl, by rw [hR]; exact Nat.le_of_ble_eq_true rfl⟩) (zPV hPc hK hDc (va_recv (q := (RX10, TX10, 17)) hK hP (ci := 10) (q0 := 0) rfl rfl)) rfl rfl hl.1 rfl (lv_room (Nat.le_of_ble_eq_true rfl)) dX10_shown_2 ⟨Nat.zero_le _, Nat.zero_le _⟩) hS (fun q _ h => hFc q h) hFc (fun v2 u2 t H locs ht hvm hw hB hz1 hk1 hS9 => ?_)
  replace hP := zkeep hP hk1
  replace hS := hS9
  clear hPc hDc hFc hk1 hz1 hvm hS9
  obtain ⟨f2_0, f2_1, f2_2, f2_3⟩ : (0 ≤ v2.toInt) ∧ (v2.toInt ≤ 1) ∧ (¬ v2.toInt = 0 → (0 ≤ p0.toInt ∧ p0.toInt < np.toInt)) ∧ (v2.toInt = 0 → ¬ (0 ≤ p0.toInt ∧ p0.toInt < np.toInt)) := hw
  refine lv_if_eq (tgt := 23) hx hb dX10_shown_5 (by decide) (fun c5 => ?_) (fun c5 => ?_)
  · have c5 : v2.toInt = 0 := z5 rfl (by decide) c5
    refine lv_iconst (v := (-1)) hx hb dX10_shown_23 (by decide) ?_
    have zr0 : ((-1) : Int32).toInt = (-1) := by decide
    rw [hQ]
    exact W.iret (v := ((-1))) hx hb hr (fun t ht hW => ⟨⟨(-1), (fL, fK), rfl, ⟨by (try dsimp only); omega, by (try dsimp only); omega, by (try dsimp only); exact fun kc kT q_fr q_fR q_pl q_cn q_frf kt hc hb h ht => by unfold sV_sho; rw [if_neg (by omega)]; ⟩, ⟨by rw [ht]; exact hP, hD⟩⟩, hS.F ht⟩) hS.2.2 dX10_shown_24
  · have c5 : ¬ v2.toInt = 0 := z6 rfl (by decide) c5
    refine lv_aload_n hx hb dX10_shown_8 rfl (lv_at hl 0 rfl) ?_
    refine lv_iload_n hx hb dX10_shown_9 rfl (lv_at hl 2 rfl) ?_
    obtain ⟨hPc, hDc⟩ := zc2 (wc := [(h0, .inr (10, [.ref tp, h0_courtReader, h0_lawReader, h0_draft, .ref aC, h0_laws, .ref g0, .ref k0, .ref ac, .ref sd, .ref mi, .ref dw, .ref rf, .int lc, .int lh, .int br, .int hi])), (aC, .inr (1, [.ref aR, .ref aB, .ref aP, .int nb, .int np]))]) hP hD [0, 1] (by decide +kernel) rfl
    have hFc := zfr hS hA
    refine va_calli (va_runV (As := [.int p1]) (rest := []) ⟨hx, hb, hml, hown, hts⟩ (g_X10_isBride l dC dI cI cJ h0 p1 (.ref tp) h0_courtReader h0_lawReader h0_draft aC h0_laws (.ref g0) (.ref k0) (.ref ac) (.ref sd) (.ref mi) (.ref dw) (.ref rf) (.int lc) (.int lh) (.int br) (.int hi) aR aB aP nb np H.size n_nb) (cwV 1 hts (zgV qw625 qw627 qw12 qw98 qw628) rfl rfl rfl hd_X10_isBride ⟨by rw [hR]; exact Nat.le_of_ble_eq_true rfl, by rw [hR]; exact Nat.le_of_ble_eq_true rfl⟩) (zPV hPc hK hDc (va_recv (q := (RX10, TX10, 17)) hK hP (ci := 10) (q0 := 0) rfl rfl)) rfl rfl hl.1 rfl (lv_room (Nat.le_of_ble_eq_true rfl)) dX10_shown_10 ⟨Nat.zero_le _, Nat.zero_le _⟩) hS (fun q _ h => hFc q h) hFc (fun v10 u10 t H locs ht hvm hw hB hz1 hk1 hS9 => ?_)
    replace hP := zkeep hP hk1
    replace hS := hS9
    clear hPc hDc hFc hk1 hz1 hvm hS9
    obtain ⟨f10_0, f10_1, f10_2, f10_3⟩ : (0 ≤ v10.toInt) ∧ (v10.toInt ≤ 1) ∧ (¬ v10.toInt = 0 → (0 ≤ p1.toInt ∧ p1.toInt < nb.toInt)) ∧ (v10.toInt = 0 → ¬ (0 ≤ p1.toInt ∧ p1.toInt < nb.toInt)) := hw
    refine lv_if_eq (tgt := 23) hx hb dX10_shown_13 (by decide) (fun c13 => ?_) (fun c13 => ?_)
    · have c13 : v10.toInt = 0 := z5 rfl (by decide) c13
      refine lv_iconst (v := (-1)) hx hb dX10_shown_23 (by decide) ?_
      have zr0 : ((-1) : Int32).toInt = (-1) := by decide
      rw [hQ]
      exact W.iret (v := ((-1))) hx hb hr (fun t ht hW => ⟨⟨(-1), (fL, fK), rfl, ⟨by (try dsimp only); omega, by (try dsimp only); omega, by (try dsimp only); exact fun kc kT q_fr q_fR q_pl q_cn q_frf kt hc hb h ht => by unfold sV_sho; rw [if_neg (by omega)]; ⟩, ⟨by rw [ht]; exact hP, hD⟩⟩, hS.F ht⟩) hS.2.2 dX10_shown_24
    · have c13 : ¬ v10.toInt = 0 := z6 rfl (by decide) c13
      refine lv_iload_n hx hb dX10_shown_16 rfl (lv_at hl 3 rfl) ?_
      have hPc : va_P (dC, dI) vwCl [] H := zP0
      have hDc : va_D (fun _ => True) [] := zD0
      have hFc := zfr hS hA
      refine va_calli (va_runS (As := [.int p2]) (rest := []) ⟨hx, hb, hml, hown, hts⟩ (g_X10_isFace l dC dI cI cJ p2 H.size) (cwS 1 hts (zgS qw640 qw641 qw98 qw642) rfl rfl rfl hd_X10_isFace ⟨by rw [hR]; exact Nat.le_of_ble_eq_true rfl, by rw [hR]; exact Nat.le_of_ble_eq_true rfl⟩) (zPS hPc hK hDc) rfl rfl hl.1 rfl (lv_room (Nat.le_of_ble_eq_true rfl)) dX10_shown_17 ⟨Nat.zero_le _, Nat.zero_le _⟩) hS (fun q _ h => hFc q h) hFc (fun v17 u17 t H locs ht hvm hw hB hz1 hk1 hS9 => ?_)
      replace hP := zkeep hP hk1
      replace hS := hS9
      clear hPc hDc hFc hk1 hz1 hvm hS9
      obtain ⟨f17_0, f17_1, f17_2, f17_3⟩ : (0 ≤ v17.toInt) ∧ (v17.toInt ≤ 1) ∧ (¬ v17.toInt = 0 → (0 ≤ p2.toInt ∧ p2.toInt ≤ 9)) ∧ (v17.toInt = 0 → ¬ (0 ≤ p2.toInt ∧ p2.toInt ≤ 9)) := hw
      refine lv_if_ne (tgt := 25) hx hb dX10_shown_20 (by decide) (fun c20 => ?_) (fun c20 => ?_)
      · have c20 : ¬ v17.toInt = 0 := z6 rfl (by decide) c20
        refine lv_aload_n hx hb dX10_shown_25 rfl (lv_at hl 0 rfl) ?_
        refine va_get (D := (dC, dI)) (ci := 10) (v := .ref sd) (C := RX10) (T := TX10) (N := 17) hx hb hts iX10 hown hK hP 0 rfl rfl 9 (by decide) (hts _ qw365) (fun _ h9 => h9) rfl dX10_shown_26 ?_
        refine lv_iload_n hx hb dX10_shown_29 rfl (lv_at hl 1 rfl) ?_
        refine lv_iload_n hx hb dX10_shown_30 rfl (lv_at hl 2 rfl) ?_
        refine lv_iload_n hx hb dX10_shown_31 rfl (lv_at hl 3 rfl) ?_
        obtain ⟨hPc, hDc, hFc⟩ := zc3 (wc := [(sd, .inr (8, [.ref w1, .ref w2, .ref aC, .ref g0, .ref aL, .ref aK, .ref lw])), (aC, .inr (1, [.ref aR, .ref aB, .ref aP, .int nb, .int np])), (aB, .inl (cI, 24, .inl fb)), (aP, .inl (cI, 20, .inl fp)), (g0, .inr (7, [.ref gY, .ref gF, .ref gP, .int gpn, .int glt, .int gsh, .int gwd, .int gpu, .int gmo])), (gY, .inl (cI, 6, .inl gfY)), (gF, .inl (cI, 5, .inl gfF)), (gP, .inl (cI, 80, .inl gfP)), (aL, .inl (cI, 6, .inl fL)), (aK, .inl (cI, 32, .inl fK)), (lw, .inr (4, [.ref lS])), (lS, .inl (cI, lk, .inl fS))]) hP hD hS hA [8, 1, 2, 3, 4, 5, 6, 7, 9, 10, 11, 12] (by decide +kernel) rfl
        refine va_calli (va_runV (As := [.int p0, .int p1, .int p2]) (rest := []) ⟨hx, hb, hml, hown, hts⟩ (g_X8_showOf_l l dC dI cI cJ sd p0 p1 p2 w1 w2 aC g0 aL aK lw aR aB aP nb np fb fp gY gF gP gpn glt gsh gwd gpu gmo gfY gfF gfP fL fK lS fS lk H.size n_gpn (by omega) (by omega) (hlk) ci_fS_zSt ci_gfP_zPo) (cwV 3 hts (zgV qw643 qw644 qw645 qw105 qw646) rfl rfl rfl hd_X8_showOf ⟨by rw [hR]; exact Nat.le_of_ble_eq_true rfl, by rw [hR]; exact Nat.le_of_ble_eq_true rfl⟩) (zPV hPc hK hDc (va_recv (q := (RX8, TX8, 7)) hK hP (ci := 8) (q0 := 8) rfl rfl)) rfl rfl hl.1 rfl (lv_room (Nat.le_of_ble_eq_true rfl)) dX10_shown_32 ⟨Nat.zero_le _, Nat.zero_le _⟩) hS (fun q _ h => hFc q h) hFc (fun v32 u32 t H locs ht hvm hw hB hz1 hk1 hS9 => ?_)
        obtain ⟨u32_0, u32_1⟩ := u32
        obtain ⟨hP9, hD9⟩ := zj2 (wX := [(h0, .inr (10, [.ref tp, h0_courtReader, h0_lawReader, h0_draft, .ref aC, h0_laws, .ref g0, .ref k0, .ref ac, .ref sd, .ref mi, .ref dw, .ref rf, .int lc, .int lh, .int br, .int hi])), (aC, .inr (1, [.ref aR, .ref aB, .ref aP, .int nb, .int np])), (aB, .inl (cI, 24, .inl fb)), (aP, .inl (cI, 20, .inl fp)), (g0, .inr (7, [.ref gY, .ref gF, .ref gP, .int gpn, .int glt, .int gsh, .int gwd, .int gpu, .int gmo])), (gY, .inl (cI, 6, .inl gfY)), (gF, .inl (cI, 5, .inl gfF)), (gP, .inl (cI, 80, .inl gfP)), (sd, .inr (8, [.ref w1, .ref w2, .ref aC, .ref g0, .ref aL, .ref aK, .ref lw])), (aL, .inl (cI, 6, .inl u32_0)), (aK, .inl (cI, 32, .inl u32_1)), (lw, .inr (4, [.ref lS])), (lS, .inl (cI, lk, .inl fS))]) hP hD hk1 hFc ht hB [8, 1, 2, 3, 4, 5, 6, 7, 9, 10, 11, 12] [(false, 0), (true, 1), (true, 2), (true, 3), (true, 4), (true, 5), (true, 6), (true, 7), (true, 0), (true, 8), (true, 9), (true, 10), (true, 11)] rfl (by decide +kernel) (by decide +kernel) rfl
        clear hP hD hS hPc hDc hFc hB hk1 hz1 hvm
        have hP := hP9
        have hD := hD9
        have hS := hS9
        clear hP9 hD9 hS9
        obtain ⟨f32_0, f32_1, f32_2⟩ : (0 ≤ v32.toInt) ∧ (v32.toInt ≤ 9) ∧ (∀ t : (Int → Int) × Int, zLwC fS lk t → zB5 p2 (fb (4 * p1.toInt.toNat + 2)) (gfY p1.toInt.toNat) (fp (4 * p0.toInt.toNat)) (gfF p0.toInt.toNat) gmo → v32 = zSh (fp (4 * p0.toInt.toNat + 3)) (zLat gfP p0 gpn.toInt.toNat) (zLkv (some t) p2 (fb (4 * p1.toInt.toNat + 2)) (gfY p1.toInt.toNat) (fp (4 * p0.toInt.toNat)) (gfF p0.toInt.toNat) gmo)) := hw
        have F32 := f32_2
        rw [hQ]
        exact W.iret (v := v32) hx hb hr (fun t ht hW => ⟨⟨v32, (u32_0, u32_1), rfl, ⟨by (try dsimp only); omega, by (try dsimp only); omega, by (try dsimp only); exact fun kc kT q_fr q_fR q_pl q_cn q_frf kt hc hb h ht => by unfold sV_sho; rw [if_pos (by omega)]; exact sShow_l hc hb h.1 (by omega) (by omega) (by omega) ht F32⟩, ⟨by rw [ht]; exact hP, hD⟩⟩, hS.F ht⟩) hS.2.2 dX10_shown_35
      · have c20 : v17.toInt = 0 := z5 rfl (by decide) c20
        refine lv_iconst (v := (-1)) hx hb dX10_shown_23 (by decide) ?_
        have zr0 : ((-1) : Int32).toInt = (-1) := by decide
        rw [hQ]
        exact W.iret (v := ((-1))) hx hb hr (fun t ht hW => ⟨⟨(-1), (fL, fK), rfl, ⟨by (try dsimp only); omega, by (try dsimp only); omega, by (try dsimp only); exact fun kc kT q_fr q_fR q_pl q_cn q_frf kt hc hb h ht => by unfold sV_sho; rw [if_neg (by omega)]; ⟩, ⟨by rw [ht]; exact hP, hD⟩⟩, hS.F ht⟩) hS.2.2 dX10_shown_24
set_option maxHeartbeats 4000000 in
set_option maxRecDepth 100000 in
theorem g_X10_paintNow_n (l : Launch) (dC : Nat → ClassId) (dI : Nat → Nat → Nat) (cI cJ : ClassId) (h0 : Nat) (p0 : Int32) (p1 : Int32) (tp : Nat) (h0_courtReader : Value) (h0_lawReader : Value) (h0_draft : Value) (aC : Nat) (h0_laws : Value) (g0 : Nat) (k0 : Nat) (ac : Nat) (sd : Nat) (mi : Nat) (dw : Nat) (rf : Nat) (lc : Int32) (lh : Int32) (br : Int32) (hi : Int32) (aR : Nat) (aB : Nat) (aP : Nat) (nb : Int32) (np : Int32) (fb : Nat → Int32) (fp : Nat → Int32) (gY : Nat) (gF : Nat) (gP : Nat) (gpn : Int32) (glt : Int32) (gsh : Int32) (gwd : Int32) (gpu : Int32) (gmo : Int32) (gfY : Nat → Int32) (gfF : Nat → Int32) (gfP : Nat → Int32) (w1 : Nat) (w2 : Nat) (aL : Nat) (aK : Nat) (sz : Nat) (n_gpn : 0 ≤ gpn.toInt ∧ gpn.toInt ≤ 19) (n_gwd : (-1) ≤ gwd.toInt ∧ gwd.toInt ≤ 5) (n_hi : 0 ≤ hi.toInt ∧ hi.toInt ≤ 1) (n_lc : 0 ≤ lc.toInt ∧ lc.toInt ≤ 4) (n_nb : 0 ≤ nb.toInt ∧ nb.toInt ≤ 6) (n_np : 0 ≤ np.toInt ∧ np.toInt ≤ 5) (n_p0 : 0 ≤ p0.toInt ∧ p0.toInt ≤ 4) (n_p1 : 0 ≤ p1.toInt ∧ p1.toInt ≤ 5)  (ci_gfP_zPo : zPo gfP)  : Met l yX10_paintNow (.code yX10_paintNow cX10_paintNow 4 (some .int) :: wA) ({ frames := 4, cells := 0, slots := 0, locals := 103 }) (zP (dC, dI) [(cI, .int), (cJ, .long)] [.ref h0, .int p0, .int p1] sz [(h0, .inr (10, [.ref tp, h0_courtReader, h0_lawReader, h0_draft, .ref aC, h0_laws, .ref g0, .ref k0, .ref ac, .ref sd, .ref mi, .ref dw, .ref rf, .int lc, .int lh, .int br, .int hi])), (aC, .inr (1, [.ref aR, .ref aB, .ref aP, .int nb, .int np])), (aB, .inl (cI, 24, .inl fb)), (aP, .inl (cI, 20, .inl fp)), (g0, .inr (7, [.ref gY, .ref gF, .ref gP, .int gpn, .int glt, .int gsh, .int gwd, .int gpu, .int gmo])), (gY, .inl (cI, 6, .inl gfY)), (gF, .inl (cI, 5, .inl gfF)), (gP, .inl (cI, 80, .inl gfP)), (sd, .inr (8, [.ref w1, .ref w2, .ref aC, .ref g0, .ref aL, .ref aK, .null]))]) (va_Qi (fun (r : Int32) (u : Int32 × Int32 × (Nat → Int32)) => (0 ≤ r.toInt) ∧ (r.toInt ≤ 9) ∧ (1 ≤ u.1.toInt) ∧ (u.1.toInt ≤ 20) ∧ (∀ (kc : zK3) (kT : zT) (q_fr : Nat → Int32), zCn q_fr fb fp nb.toInt np.toInt kc → zKo nb.toInt np.toInt kc kT → zSc nb.toInt np.toInt kT.1 gfY gfF gfP gpn glt gsh gwd gpu gmo → (0 ≤ p0.toInt ∧ p0.toInt < np.toInt) → (0 ≤ p1.toInt ∧ p1.toInt < nb.toInt) → r = sV_pnt kc kT.1 none p0 p1 ∧ zSc nb.toInt np.toInt (sN_pnt kc kT.1 none p0 p1) gfY gfF u.2.2 u.1 glt gsh gwd u.2.1 gmo ∧ ∀ i : Nat, (i : Int) < 4 * gpn.toInt → u.2.2 i = gfP i) ∧ (zPo u.2.2)) (fun (u : Int32 × Int32 × (Nat → Int32)) (t : State) => va_P (dC, dI) vwCl [(h0, .inr (10, [.ref tp, h0_courtReader, h0_lawReader, h0_draft, .ref aC, h0_laws, .ref g0, .ref k0, .ref ac, .ref sd, .ref mi, .ref dw, .ref rf, .int lc, .int lh, .int br, .int hi])), (aC, .inr (1, [.ref aR, .ref aB, .ref aP, .int nb, .int np])), (aB, .inl (cI, 24, .inl fb)), (aP, .inl (cI, 20, .inl fp)), (g0, .inr (7, [.ref gY, .ref gF, .ref gP, .int u.1, .int glt, .int gsh, .int gwd, .int u.2.1, .int gmo])), (gY, .inl (cI, 6, .inl gfY)), (gF, .inl (cI, 5, .inl gfF)), (gP, .inl (cI, 80, .inl u.2.2)), (sd, .inr (8, [.ref w1, .ref w2, .ref aC, .ref g0, .ref aL, .ref aK, .null]))] t.heap ∧ va_D (va_A [(h0, .inr (10, [.ref tp, h0_courtReader, h0_lawReader, h0_draft, .ref aC, h0_laws, .ref g0, .ref k0, .ref ac, .ref sd, .ref mi, .ref dw, .ref rf, .int lc, .int lh, .int br, .int hi])), (aC, .inr (1, [.ref aR, .ref aB, .ref aP, .int nb, .int np])), (aB, .inl (cI, 24, .inl fb)), (aP, .inl (cI, 20, .inl fp)), (g0, .inr (7, [.ref gY, .ref gF, .ref gP, .int gpn, .int glt, .int gsh, .int gwd, .int gpu, .int gmo])), (gY, .inl (cI, 6, .inl gfY)), (gF, .inl (cI, 5, .inl gfF)), (gP, .inl (cI, 80, .inl gfP)), (sd, .inr (8, [.ref w1, .ref w2, .ref aC, .ref g0, .ref aL, .ref aK, .null]))] sz) [(h0, .inr (10, [.ref tp, h0_courtReader, h0_lawReader, h0_draft, .ref aC, h0_laws, .ref g0, .ref k0, .ref ac, .ref sd, .ref mi, .ref dw, .ref rf, .int lc, .int lh, .int br, .int hi])), (aC, .inr (1, [.ref aR, .ref aB, .ref aP, .int nb, .int np])), (aB, .inl (cI, 24, .inl fb)), (aP, .inl (cI, 20, .inl fp)), (g0, .inr (7, [.ref gY, .ref gF, .ref gP, .int u.1, .int glt, .int gsh, .int gwd, .int u.2.1, .int gmo])), (gY, .inl (cI, 6, .inl gfY)), (gF, .inl (cI, 5, .inl gfF)), (gP, .inl (cI, 80, .inl u.2.2)), (sd, .inr (8, [.ref w1, .ref w2, .ref aC, .ref g0, .ref aL, .ref aK, .null]))]) (va_A [(h0, .inr (10, [.ref tp, h0_courtReader, h0_lawReader, h0_draft, .ref aC, h0_laws, .ref g0, .ref k0, .ref ac, .ref sd, .ref mi, .ref dw, .ref rf, .int lc, .int lh, .int br, .int hi])), (aC, .inr (1, [.ref aR, .ref aB, .ref aP, .int nb, .int np])), (aB, .inl (cI, 24, .inl fb)), (aP, .inl (cI, 20, .inl fp)), (g0, .inr (7, [.ref gY, .ref gF, .ref gP, .int gpn, .int glt, .int gsh, .int gwd, .int gpu, .int gmo])), (gY, .inl (cI, 6, .inl gfY)), (gF, .inl (cI, 5, .inl gfF)), (gP, .inl (cI, 80, .inl gfP)), (sd, .inr (8, [.ref w1, .ref w2, .ref aC, .ref g0, .ref aL, .ref aK, .null]))] sz)) 0 0 (va_A [(h0, .inr (10, [.ref tp, h0_courtReader, h0_lawReader, h0_draft, .ref aC, h0_laws, .ref g0, .ref k0, .ref ac, .ref sd, .ref mi, .ref dw, .ref rf, .int lc, .int lh, .int br, .int hi])), (aC, .inr (1, [.ref aR, .ref aB, .ref aP, .int nb, .int np])), (aB, .inl (cI, 24, .inl fb)), (aP, .inl (cI, 20, .inl fp)), (g0, .inr (7, [.ref gY, .ref gF, .ref gP, .int gpn, .int glt, .int gsh, .int gwd, .int gpu, .int gmo])), (gY, .inl (cI, 6, .inl gfY)), (gF, .inl (cI, 5, .inl gfF)), (gP, .inl (cI, 80, .inl gfP)), (sd, .inr (8, [.ref w1, .ref w2, .ref aC, .ref g0, .ref aL, .ref aK, .null]))] sz) := by
  refine Met.ofW (cc := cX10_paintNow) (maxL := 4) (ret := (some .int)) (by decide) rfl ?_
  intro p e s m args below meth c s₁ B hml hv
  have y_gwd : zHid ((-1) ≤ gwd.toInt ∧ gwd.toInt ≤ 5) := n_gwd
  have y_hi : zHid (0 ≤ hi.toInt ∧ hi.toInt ≤ 1) := n_hi
  have y_lc : zHid (0 ≤ lc.toInt ∧ lc.toInt ≤ 4) := n_lc
  clear n_gwd n_hi n_lc
  obtain ⟨hargs, hsz, hP, hK, hT⟩ := hv
  have hx := B.exec
  have hb := B.bytes
  have hr := B.returns
  have hts : ∀ w ∈ wA, w.before args s = true := fun w h => atoms_spec (ws := .code yX10_paintNow cX10_paintNow 4 (some .int) :: wA) B.pre w (List.mem_cons_of_mem _ h)
  have hown : s.vm.findClass RX10 = some m.cls := findClass_of_methodNamed B.named
  have hlocks := B.notSynchronized
  subst hsz
  have hD := hT.self (sz := s.heap.size)
  generalize hAe : va_A [(h0, .inr (10, [.ref tp, h0_courtReader, h0_lawReader, h0_draft, .ref aC, h0_laws, .ref g0, .ref k0, .ref ac, .ref sd, .ref mi, .ref dw, .ref rf, .int lc, .int lh, .int br, .int hi])), (aC, .inr (1, [.ref aR, .ref aB, .ref aP, .int nb, .int np])), (aB, .inl (cI, 24, .inl fb)), (aP, .inl (cI, 20, .inl fp)), (g0, .inr (7, [.ref gY, .ref gF, .ref gP, .int gpn, .int glt, .int gsh, .int gwd, .int gpu, .int gmo])), (gY, .inl (cI, 6, .inl gfY)), (gF, .inl (cI, 5, .inl gfF)), (gP, .inl (cI, 80, .inl gfP)), (sd, .inr (8, [.ref w1, .ref w2, .ref aC, .ref g0, .ref aL, .ref aK, .null]))] s.heap.size = A at hD ⊢
  have hA : ∀ q : Nat, s.heap.size ≤ q → A q := fun q h => by rw [← hAe]; exact Or.inr h
  have hl := lv_entry ([.ref h0, .int p0, .int p1]) (n := 4) (Nat.le_of_ble_eq_true rfl)
  rw [show entryFrame m args 4 = entryFrame m ([.ref h0, .int p0, .int p1] : List Value).toArray 4 by rw [hargs], lg_entry_eq]
  generalize (lg_sl ([.ref h0, .int p0, .int p1]) ++ List.replicate (4 - (lg_sl ([.ref h0, .int p0, .int p1])).length) Slot.unset).toArray = ls at hl ⊢
  have hl : lv_has ls 4 [(0, .ref h0), (1, .int p0), (2, .int p1)] := hl
  refine zstart (fun H hH => ?_)
  rw [← hH] at hP
  have hS : va_S A s.heap H [] := by rw [hH]; exact va_S.rf
  generalize ([] : List Loc) = locs at hS ⊢
  refine zgen (fun R Q hR hQ => ?_)
  refine lv_aload_n hx hb dX10_paintNow_0 rfl (lv_at hl 0 rfl) ?_
  refine va_get (D := (dC, dI)) (ci := 10) (v := .ref sd) (C := RX10) (T := TX10) (N := 17) hx hb hts iX10 hown hK hP 0 rfl rfl 9 (by decide) (hts _ qw365) (fun _ h9 => h9) rfl dX10_paintNow_1 ?_
  refine lv_iload_n hx hb dX10_paintNow_4 rfl (lv_at hl 1 rfl) ?_
  refine lv_iload_n hx hb dX10_paintNow_5 rfl (lv_at hl 2 rfl) ?_
  refine lv_aload_n hx hb dX10_paintNow_6 rfl (lv_at hl 0 rfl) ?_
  refine va_get (D := (dC, dI)) (ci := 10) (v := .ref aC) (C := RX10) (T := TX10) (N := 17) hx hb hts iX10 hown hK hP 0 rfl rfl 4 (by decide) (hts _ qw360) (fun _ h9 => h9) rfl dX10_paintNow_7 ?_
  refine lv_iload_n hx hb dX10_paintNow_10 rfl (lv_at hl 2 rfl) ?_
  obtain ⟨hPc, hDc⟩ := zc2 (wc := [(aC, .inr (1, [.ref aR, .ref aB, .ref aP, .int nb, .int np])), (aB, .inl (cI, 24, .inl fb))]) hP hD [1, 2] (by decide +kernel) rfl
  have hFc := zfr hS hA
  refine va_calli (va_runV (As := [.int p1]) (rest := [.int p1, .int p0, .ref sd]) ⟨hx, hb, hml, hown, hts⟩ (g_X1_faceOf l dC dI cI cJ aC p1 aR aB aP nb np fb H.size n_p1) (cwV 1 hts (zgV qw702 qw703 qw704 qw102 qw705) rfl rfl rfl hd_X1_faceOf ⟨by rw [hR]; exact Nat.le_of_ble_eq_true rfl, by rw [hR]; exact Nat.le_of_ble_eq_true rfl⟩) (zPV hPc hK hDc (va_recv (q := (RX1, TX1, 5)) hK hP (ci := 1) (q0 := 1) rfl rfl)) rfl rfl hl.1 rfl (lv_room (Nat.le_of_ble_eq_true rfl)) dX10_paintNow_11 ⟨Nat.zero_le _, Nat.zero_le _⟩) hS (fun q _ h => hFc q h) hFc (fun v11 u11 t H locs ht hvm hw hB hz1 hk1 hS9 => ?_)
  replace hP := zkeep hP hk1
  replace hS := hS9
  clear hPc hDc hFc hk1 hz1 hvm hS9
  have f11_0 : (v11 = fb (4 * p1.toInt.toNat)) := hw
  have F11 := f11_0
  obtain ⟨hPc, hDc⟩ := zc2 (wc := [(sd, .inr (8, [.ref w1, .ref w2, .ref aC, .ref g0, .ref aL, .ref aK, .null])), (aC, .inr (1, [.ref aR, .ref aB, .ref aP, .int nb, .int np])), (aB, .inl (cI, 24, .inl fb)), (aP, .inl (cI, 20, .inl fp)), (g0, .inr (7, [.ref gY, .ref gF, .ref gP, .int gpn, .int glt, .int gsh, .int gwd, .int gpu, .int gmo])), (gY, .inl (cI, 6, .inl gfY)), (gF, .inl (cI, 5, .inl gfF)), (gP, .inl (cI, 80, .inl gfP))]) hP hD [8, 1, 2, 3, 4, 5, 6, 7] (by decide +kernel) rfl
  have hFc := zfr hS hA
  refine va_calli (va_runV (As := [.int p0, .int p1, .int v11]) (rest := []) ⟨hx, hb, hml, hown, hts⟩ (g_X8_showOf_n l dC dI cI cJ sd p0 p1 v11 w1 w2 aC g0 aL aK aR aB aP nb np fb fp gY gF gP gpn glt gsh gwd gpu gmo gfY gfF gfP H.size (by omega) n_p0 n_p1 ci_gfP_zPo) (cwV 3 hts (zgV qw643 qw644 qw645 qw105 qw646) rfl rfl rfl hd_X8_showOf ⟨by rw [hR]; exact Nat.le_of_ble_eq_true rfl, by rw [hR]; exact Nat.le_of_ble_eq_true rfl⟩) (zPV hPc hK hDc (va_recv (q := (RX8, TX8, 7)) hK hP (ci := 8) (q0 := 8) rfl rfl)) rfl rfl hl.1 rfl (lv_room (Nat.le_of_ble_eq_true rfl)) dX10_paintNow_14 ⟨Nat.zero_le _, Nat.zero_le _⟩) hS (fun q _ h => hFc q h) hFc (fun v14 u14 t H locs ht hvm hw hB hz1 hk1 hS9 => ?_)
  replace hP := zkeep hP hk1
  replace hS := hS9
  clear hPc hDc hFc hk1 hz1 hvm hS9
  obtain ⟨f14_0, f14_1, f14_2⟩ : (0 ≤ v14.toInt) ∧ (v14.toInt ≤ 9) ∧ (∀ sk mo : Int32, v14 = zSh (fp (4 * p0.toInt.toNat + 3)) (zLat gfP p0 gpn.toInt.toNat) (zLkv none v11 (fb (4 * p1.toInt.toNat + 2)) (gfY p1.toInt.toNat) sk (gfF p0.toInt.toNat) mo)) := hw
  have F14 := f14_2
  refine lv_istore_n (lv' := [(3, .int v14), (0, .ref h0), (1, .int p0), (2, .int p1)]) hx hb dX10_paintNow_17 rfl hl (by decide) rfl (fun ls hl => ?_)
  refine lv_aload_n hx hb dX10_paintNow_18 rfl (lv_at hl 1 rfl) ?_
  refine va_get (D := (dC, dI)) (ci := 10) (v := .ref g0) (C := RX10) (T := TX10) (N := 17) hx hb hts iX10 hown hK hP 0 rfl rfl 6 (by decide) (hts _ qw362) (fun _ h9 => h9) rfl dX10_paintNow_19 ?_
  refine lv_iload_n hx hb dX10_paintNow_22 rfl (lv_at hl 3 rfl) ?_
  refine lv_iload_n hx hb dX10_paintNow_23 rfl (lv_at hl 2 rfl) ?_
  refine lv_iload_n hx hb dX10_paintNow_24 rfl (lv_at hl 0 rfl) ?_
  obtain ⟨hPc, hDc, hFc⟩ := zc3 (wc := [(g0, .inr (7, [.ref gY, .ref gF, .ref gP, .int gpn, .int glt, .int gsh, .int gwd, .int gpu, .int gmo])), (gP, .inl (cI, 80, .inl gfP))]) hP hD hS hA [4, 7] (by decide +kernel) rfl
  refine va_callv (va_runV (As := [.int p1, .int p0, .int v14]) (rest := []) ⟨hx, hb, hml, hown, hts⟩ (g_X7_hang l dC dI cI cJ g0 p1 p0 v14 gY gF gP gpn glt gsh gwd gpu gmo gfP H.size n_p1 n_p0 ⟨f14_0, f14_1⟩ n_gpn ci_gfP_zPo) (cwV 3 hts (zgV qw706 qw707 qw708 qw103 qw709) rfl rfl rfl hd_X7_hang ⟨by rw [hR]; exact Nat.le_of_ble_eq_true rfl, by rw [hR]; exact Nat.le_of_ble_eq_true rfl⟩) (zPV hPc hK hDc (va_recv (q := (RX7, TX7, 9)) hK hP (ci := 7) (q0 := 4) rfl rfl)) rfl rfl hl.1 rfl (lv_room (Nat.le_of_ble_eq_true rfl)) dX10_paintNow_25 ⟨Nat.zero_le _, Nat.zero_le _⟩) hS (fun q _ h => hFc q h) hFc (fun u25 t H locs ht hvm hw hB hz1 hk1 hS9 => ?_)
  obtain ⟨u25_0, u25_1⟩ := u25
  obtain ⟨hP9, hD9⟩ := zj2 (wX := [(h0, .inr (10, [.ref tp, h0_courtReader, h0_lawReader, h0_draft, .ref aC, h0_laws, .ref g0, .ref k0, .ref ac, .ref sd, .ref mi, .ref dw, .ref rf, .int lc, .int lh, .int br, .int hi])), (aC, .inr (1, [.ref aR, .ref aB, .ref aP, .int nb, .int np])), (aB, .inl (cI, 24, .inl fb)), (aP, .inl (cI, 20, .inl fp)), (g0, .inr (7, [.ref gY, .ref gF, .ref gP, .int u25_0, .int glt, .int gsh, .int gwd, .int gpu, .int gmo])), (gY, .inl (cI, 6, .inl gfY)), (gF, .inl (cI, 5, .inl gfF)), (gP, .inl (cI, 80, .inl u25_1)), (sd, .inr (8, [.ref w1, .ref w2, .ref aC, .ref g0, .ref aL, .ref aK, .null]))]) hP hD hk1 hFc ht hB [4, 7] [(false, 0), (false, 1), (false, 2), (false, 3), (true, 0), (false, 5), (false, 6), (true, 1), (false, 8)] rfl (by decide +kernel) (by decide +kernel) rfl
  clear hP hD hS hPc hDc hFc hB hk1 hz1 hvm
  have hP := hP9
  have hD := hD9
  have hS := hS9
  clear hP9 hD9 hS9
  obtain ⟨f25_0, f25_1, f25_2, f25_3, f25_4⟩ : (1 ≤ u25_0.toInt) ∧ (u25_0.toInt ≤ 20) ∧ (∀ (nbI npI : Int) (S : zS) (Y F : Nat → Int32), zSc nbI npI S Y F gfP gpn glt gsh gwd gpu gmo → zSc nbI npI (sHang S p1 p0 v14) Y F u25_1 u25_0 glt gsh gwd gpu gmo) ∧ (∀ i : Nat, (i : Int) < 4 * gpn.toInt → u25_1 i = gfP i) ∧ (zPo u25_1) := hw
  have F25 := f25_2
  have F25_1 := f25_3
  refine lv_aload_n hx hb dX10_paintNow_28 rfl (lv_at hl 1 rfl) ?_
  refine va_get (D := (dC, dI)) (ci := 10) (v := .ref g0) (C := RX10) (T := TX10) (N := 17) hx hb hts iX10 hown hK hP 0 rfl rfl 6 (by decide) (hts _ qw362) (fun _ h9 => h9) rfl dX10_paintNow_29 ?_
  refine lv_dup hx hb dX10_paintNow_32 rfl ?_
  refine va_get (D := (dC, dI)) (ci := 7) (v := .int gpu) (C := RX7) (T := TX7) (N := 9) hx hb hts iX7 hown hK hP 4 rfl rfl 7 (by decide) (hts _ qw239) (fun _ h9 => h9) rfl dX10_paintNow_33 ?_
  refine lv_aload_n hx hb dX10_paintNow_36 rfl (lv_at hl 1 rfl) ?_
  refine va_get (D := (dC, dI)) (ci := 10) (v := .ref aC) (C := RX10) (T := TX10) (N := 17) hx hb hts iX10 hown hK hP 0 rfl rfl 4 (by decide) (hts _ qw360) (fun _ h9 => h9) rfl dX10_paintNow_37 ?_
  refine lv_iload_n hx hb dX10_paintNow_40 rfl (lv_at hl 2 rfl) ?_
  obtain ⟨hPc, hDc⟩ := zc2 (wc := [(aC, .inr (1, [.ref aR, .ref aB, .ref aP, .int nb, .int np])), (aP, .inl (cI, 20, .inl fp))]) hP hD [1, 3] (by decide +kernel) rfl
  have hFc := zfr hS hA
  refine va_calli (va_runV (As := [.int p0]) (rest := [.int gpu, .ref g0]) ⟨hx, hb, hml, hown, hts⟩ (g_X1_feeOf l dC dI cI cJ aC p0 aR aB aP nb np fp H.size n_p0) (cwV 1 hts (zgV qw609 qw610 qw611 qw102 qw612) rfl rfl rfl hd_X1_feeOf ⟨by rw [hR]; exact Nat.le_of_ble_eq_true rfl, by rw [hR]; exact Nat.le_of_ble_eq_true rfl⟩) (zPV hPc hK hDc (va_recv (q := (RX1, TX1, 5)) hK hP (ci := 1) (q0 := 1) rfl rfl)) rfl rfl hl.1 rfl (lv_room (Nat.le_of_ble_eq_true rfl)) dX10_paintNow_41 ⟨Nat.zero_le _, Nat.zero_le _⟩) hS (fun q _ h => hFc q h) hFc (fun v41 u41 t H locs ht hvm hw hB hz1 hk1 hS9 => ?_)
  replace hP := zkeep hP hk1
  replace hS := hS9
  clear hPc hDc hFc hk1 hz1 hvm hS9
  have f41_0 : (v41 = fp (4 * p0.toInt.toNat + 1)) := hw
  have F41 := f41_0
  refine lv_isub hx hb dX10_paintNow_44 ?_
  refine lv_topi (fun v44 e44 => ?_)
  refine va_put (D := (dC, dI)) (ci := 7) (v := .int v44) (ty := .int) (C := RX7) (T := TX7) (N := 9) hx hb hts iX7 tyX7 tyX7_ok nmX7 hown hK hP hD hS 4 rfl rfl 7 (by decide) (hts _ qw239) (fun _ h9 => h9) rfl (by decide +kernel) rfl rfl (Nat.le_of_ble_eq_true rfl) dX10_paintNow_45 (fun H locs hP9 hD9 hS9 => ?_)
  clear hP hD hS
  obtain ⟨hP, hD⟩ := zst (wX := [(h0, .inr (10, [.ref tp, h0_courtReader, h0_lawReader, h0_draft, .ref aC, h0_laws, .ref g0, .ref k0, .ref ac, .ref sd, .ref mi, .ref dw, .ref rf, .int lc, .int lh, .int br, .int hi])), (aC, .inr (1, [.ref aR, .ref aB, .ref aP, .int nb, .int np])), (aB, .inl (cI, 24, .inl fb)), (aP, .inl (cI, 20, .inl fp)), (g0, .inr (7, [.ref gY, .ref gF, .ref gP, .int u25_0, .int glt, .int gsh, .int gwd, .int v44, .int gmo])), (gY, .inl (cI, 6, .inl gfY)), (gF, .inl (cI, 5, .inl gfF)), (gP, .inl (cI, 80, .inl u25_1)), (sd, .inr (8, [.ref w1, .ref w2, .ref aC, .ref g0, .ref aL, .ref aK, .null]))]) hP9 hD9 rfl
  have hS := hS9
  clear hP9 hD9 hS9
  refine lv_iload_n hx hb dX10_paintNow_48 rfl (lv_at hl 0 rfl) ?_
  rw [hQ]
  exact W.iret (v := v14) hx hb hr (fun t ht hW => ⟨⟨v14, (u25_0, v44, u25_1), rfl, ⟨by (try dsimp only); omega, by (try dsimp only); omega, by (try dsimp only); omega, by (try dsimp only); omega, by (try dsimp only); exact fun kc kT q_fr hc hb h hp hq => by have y11 : v11 = kc.2.1 (4 * p1.toInt.toNat) := F11.trans (hc.2.1 _ (by omega)); have y41 : v41 = kc.2.2 (4 * p0.toInt.toNat + 1) := F41.trans (hc.2.2 _ (by omega)); have s0 : v14 = sShow kc kT.1 none p0 p1 v11 := sShow_n hc h hp hq F14; have s1 : v14 = sV_pnt kc kT.1 none p0 p1 := (by unfold sV_pnt; rw [← y11]; exact s0); exact ⟨s1, zSc_Pt h (F25 _ _ _ _ _ h) s1 (by rw [e44, y41]), F25_1⟩, f25_4⟩, ⟨by rw [ht]; exact hP, hD⟩⟩, hS.F ht⟩) hS.2.2 dX10_paintNow_49
set_option maxHeartbeats 4000000 in
set_option maxRecDepth 100000 in
theorem g_X10_paintNow_l (l : Launch) (dC : Nat → ClassId) (dI : Nat → Nat → Nat) (cI cJ : ClassId) (h0 : Nat) (p0 : Int32) (p1 : Int32) (tp : Nat) (h0_courtReader : Value) (h0_lawReader : Value) (h0_draft : Value) (aC : Nat) (h0_laws : Value) (g0 : Nat) (k0 : Nat) (ac : Nat) (sd : Nat) (mi : Nat) (dw : Nat) (rf : Nat) (lc : Int32) (lh : Int32) (br : Int32) (hi : Int32) (aR : Nat) (aB : Nat) (aP : Nat) (nb : Int32) (np : Int32) (fb : Nat → Int32) (fp : Nat → Int32) (gY : Nat) (gF : Nat) (gP : Nat) (gpn : Int32) (glt : Int32) (gsh : Int32) (gwd : Int32) (gpu : Int32) (gmo : Int32) (gfY : Nat → Int32) (gfF : Nat → Int32) (gfP : Nat → Int32) (w1 : Nat) (w2 : Nat) (aL : Nat) (aK : Nat) (lw : Nat) (fL : Nat → Int32) (fK : Nat → Int32) (lS : Nat) (fS : Nat → Int32) (lk : Nat) (sz : Nat) (n_gpn : 0 ≤ gpn.toInt ∧ gpn.toInt ≤ 19) (n_gwd : (-1) ≤ gwd.toInt ∧ gwd.toInt ≤ 5) (n_hi : 0 ≤ hi.toInt ∧ hi.toInt ≤ 1) (n_lc : 0 ≤ lc.toInt ∧ lc.toInt ≤ 4) (n_nb : 0 ≤ nb.toInt ∧ nb.toInt ≤ 6) (n_np : 0 ≤ np.toInt ∧ np.toInt ≤ 5) (n_p0 : 0 ≤ p0.toInt ∧ p0.toInt ≤ 4) (n_p1 : 0 ≤ p1.toInt ∧ p1.toInt ≤ 5) (hlk : lk ≤ 241) (ci_fS_zSt : zSt fS) (ci_gfP_zPo : zPo gfP)  : Met l yX10_paintNow (.code yX10_paintNow cX10_paintNow 4 (some .int) :: wA) ({ frames := 4, cells := 0, slots := 0, locals := 103 }) (zP (dC, dI) [(cI, .int), (cJ, .long)] [.ref h0, .int p0, .int p1] sz [(h0, .inr (10, [.ref tp, h0_courtReader, h0_lawReader, h0_draft, .ref aC, h0_laws, .ref g0, .ref k0, .ref ac, .ref sd, .ref mi, .ref dw, .ref rf, .int lc, .int lh, .int br, .int hi])), (aC, .inr (1, [.ref aR, .ref aB, .ref aP, .int nb, .int np])), (aB, .inl (cI, 24, .inl fb)), (aP, .inl (cI, 20, .inl fp)), (g0, .inr (7, [.ref gY, .ref gF, .ref gP, .int gpn, .int glt, .int gsh, .int gwd, .int gpu, .int gmo])), (gY, .inl (cI, 6, .inl gfY)), (gF, .inl (cI, 5, .inl gfF)), (gP, .inl (cI, 80, .inl gfP)), (sd, .inr (8, [.ref w1, .ref w2, .ref aC, .ref g0, .ref aL, .ref aK, .ref lw])), (aL, .inl (cI, 6, .inl fL)), (aK, .inl (cI, 32, .inl fK)), (lw, .inr (4, [.ref lS])), (lS, .inl (cI, lk, .inl fS))]) (va_Qi (fun (r : Int32) (u : Int32 × Int32 × (Nat → Int32) × (Nat → Int32) × (Nat → Int32)) => (0 ≤ r.toInt) ∧ (r.toInt ≤ 9) ∧ (1 ≤ u.1.toInt) ∧ (u.1.toInt ≤ 20) ∧ (∀ (kc : zK3) (kT : zT) (q_fr : Nat → Int32) (kt : (Int → Int) × Int), zCn q_fr fb fp nb.toInt np.toInt kc → zKo nb.toInt np.toInt kc kT → zSc nb.toInt np.toInt kT.1 gfY gfF gfP gpn glt gsh gwd gpu gmo → zLwC fS lk kt → (0 ≤ p0.toInt ∧ p0.toInt < np.toInt) → (0 ≤ p1.toInt ∧ p1.toInt < nb.toInt) → r = sV_pnt kc kT.1 (some kt) p0 p1 ∧ zSc nb.toInt np.toInt (sN_pnt kc kT.1 (some kt) p0 p1) gfY gfF u.2.2.1 u.1 glt gsh gwd u.2.1 gmo ∧ ∀ i : Nat, (i : Int) < 4 * gpn.toInt → u.2.2.1 i = gfP i) ∧ (zPo u.2.2.1)) (fun (u : Int32 × Int32 × (Nat → Int32) × (Nat → Int32) × (Nat → Int32)) (t : State) => va_P (dC, dI) vwCl [(h0, .inr (10, [.ref tp, h0_courtReader, h0_lawReader, h0_draft, .ref aC, h0_laws, .ref g0, .ref k0, .ref ac, .ref sd, .ref mi, .ref dw, .ref rf, .int lc, .int lh, .int br, .int hi])), (aC, .inr (1, [.ref aR, .ref aB, .ref aP, .int nb, .int np])), (aB, .inl (cI, 24, .inl fb)), (aP, .inl (cI, 20, .inl fp)), (g0, .inr (7, [.ref gY, .ref gF, .ref gP, .int u.1, .int glt, .int gsh, .int gwd, .int u.2.1, .int gmo])), (gY, .inl (cI, 6, .inl gfY)), (gF, .inl (cI, 5, .inl gfF)), (gP, .inl (cI, 80, .inl u.2.2.1)), (sd, .inr (8, [.ref w1, .ref w2, .ref aC, .ref g0, .ref aL, .ref aK, .ref lw])), (aL, .inl (cI, 6, .inl u.2.2.2.1)), (aK, .inl (cI, 32, .inl u.2.2.2.2)), (lw, .inr (4, [.ref lS])), (lS, .inl (cI, lk, .inl fS))] t.heap ∧ va_D (va_A [(h0, .inr (10, [.ref tp, h0_courtReader, h0_lawReader, h0_draft, .ref aC, h0_laws, .ref g0, .ref k0, .ref ac, .ref sd, .ref mi, .ref dw, .ref rf, .int lc, .int lh, .int br, .int hi])), (aC, .inr (1, [.ref aR, .ref aB, .ref aP, .int nb, .int np])), (aB, .inl (cI, 24, .inl fb)), (aP, .inl (cI, 20, .inl fp)), (g0, .inr (7, [.ref gY, .ref gF, .ref gP, .int gpn, .int glt, .int gsh, .int gwd, .int gpu, .int gmo])), (gY, .inl (cI, 6, .inl gfY)), (gF, .inl (cI, 5, .inl gfF)), (gP, .inl (cI, 80, .inl gfP)), (sd, .inr (8, [.ref w1, .ref w2, .ref aC, .ref g0, .ref aL, .ref aK, .ref lw])), (aL, .inl (cI, 6, .inl fL)), (aK, .inl (cI, 32, .inl fK)), (lw, .inr (4, [.ref lS])), (lS, .inl (cI, lk, .inl fS))] sz) [(h0, .inr (10, [.ref tp, h0_courtReader, h0_lawReader, h0_draft, .ref aC, h0_laws, .ref g0, .ref k0, .ref ac, .ref sd, .ref mi, .ref dw, .ref rf, .int lc, .int lh, .int br, .int hi])), (aC, .inr (1, [.ref aR, .ref aB, .ref aP, .int nb, .int np])), (aB, .inl (cI, 24, .inl fb)), (aP, .inl (cI, 20, .inl fp)), (g0, .inr (7, [.ref gY, .ref gF, .ref gP, .int u.1, .int glt, .int gsh, .int gwd, .int u.2.1, .int gmo])), (gY, .inl (cI, 6, .inl gfY)), (gF, .inl (cI, 5, .inl gfF)), (gP, .inl (cI, 80, .inl u.2.2.1)), (sd, .inr (8, [.ref w1, .ref w2, .ref aC, .ref g0, .ref aL, .ref aK, .ref lw])), (aL, .inl (cI, 6, .inl u.2.2.2.1)), (aK, .inl (cI, 32, .inl u.2.2.2.2)), (lw, .inr (4, [.ref lS])), (lS, .inl (cI, lk, .inl fS))]) (va_A [(h0, .inr (10, [.ref tp, h0_courtReader, h0_lawReader, h0_draft, .ref aC, h0_laws, .ref g0, .ref k0, .ref ac, .ref sd, .ref mi, .ref dw, .ref rf, .int lc, .int lh, .int br, .int hi])), (aC, .inr (1, [.ref aR, .ref aB, .ref aP, .int nb, .int np])), (aB, .inl (cI, 24, .inl fb)), (aP, .inl (cI, 20, .inl fp)), (g0, .inr (7, [.ref gY, .ref gF, .ref gP, .int gpn, .int glt, .int gsh, .int gwd, .int gpu, .int gmo])), (gY, .inl (cI, 6, .inl gfY)), (gF, .inl (cI, 5, .inl gfF)), (gP, .inl (cI, 80, .inl gfP)), (sd, .inr (8, [.ref w1, .ref w2, .ref aC, .ref g0, .ref aL, .ref aK, .ref lw])), (aL, .inl (cI, 6, .inl fL)), (aK, .inl (cI, 32, .inl fK)), (lw, .inr (4, [.ref lS])), (lS, .inl (cI, lk, .inl fS))] sz)) 0 0 (va_A [(h0, .inr (10, [.ref tp, h0_courtReader, h0_lawReader, h0_draft, .ref aC, h0_laws, .ref g0, .ref k0, .ref ac, .ref sd, .ref mi, .ref dw, .ref rf, .int lc, .int lh, .int br, .int hi])), (aC, .inr (1, [.ref aR, .ref aB, .ref aP, .int nb, .int np])), (aB, .inl (cI, 24, .inl fb)), (aP, .inl (cI, 20, .inl fp)), (g0, .inr (7, [.ref gY, .ref gF, .ref gP, .int gpn, .int glt, .int gsh, .int gwd, .int gpu, .int gmo])), (gY, .inl (cI, 6, .inl gfY)), (gF, .inl (cI, 5, .inl gfF)), (gP, .inl (cI, 80, .inl gfP)), (sd, .inr (8, [.ref w1, .ref w2, .ref aC, .ref g0, .ref aL, .ref aK, .ref lw])), (aL, .inl (cI, 6, .inl fL)), (aK, .inl (cI, 32, .inl fK)), (lw, .inr (4, [.ref lS])), (lS, .inl (cI, lk, .inl fS))] sz) := by
  refine Met.ofW (cc := cX10_paintNow) (maxL := 4) (ret := (some .int)) (by decide) rfl ?_
  intro p e s m args below meth c s₁ B hml hv
  have y_gwd : zHid ((-1) ≤ gwd.toInt ∧ gwd.toInt ≤ 5) := n_gwd
  have y_hi : zHid (0 ≤ hi.toInt ∧ hi.toInt ≤ 1) := n_hi
  have y_lc : zHid (0 ≤ lc.toInt ∧ lc.toInt ≤ 4) := n_lc
  clear n_gwd n_hi n_lc
  obtain ⟨hargs, hsz, hP, hK, hT⟩ := hv
  have hx := B.exec
  have hb := B.bytes
  have hr := B.returns
  have hts : ∀ w ∈ wA, w.before args s = true := fun w h => atoms_spec (ws := .code yX10_paintNow cX10_paintNow 4 (some .int) :: wA) B.pre w (List.mem_cons_of_mem _ h)
  have hown : s.vm.findClass RX10 = some m.cls := findClass_of_methodNamed B.named
  have hlocks := B.notSynchronized
  subst hsz
  have hD := hT.self (sz := s.heap.size)
  generalize hAe : va_A [(h0, .inr (10, [.ref tp, h0_courtReader, h0_lawReader, h0_draft, .ref aC, h0_laws, .ref g0, .ref k0, .ref ac, .ref sd, .ref mi, .ref dw, .ref rf, .int lc, .int lh, .int br, .int hi])), (aC, .inr (1, [.ref aR, .ref aB, .ref aP, .int nb, .int np])), (aB, .inl (cI, 24, .inl fb)), (aP, .inl (cI, 20, .inl fp)), (g0, .inr (7, [.ref gY, .ref gF, .ref gP, .int gpn, .int glt, .int gsh, .int gwd, .int gpu, .int gmo])), (gY, .inl (cI, 6, .inl gfY)), (gF, .inl (cI, 5, .inl gfF)), (gP, .inl (cI, 80, .inl gfP)), (sd, .inr (8, [.ref w1, .ref w2, .ref aC, .ref g0, .ref aL, .ref aK, .ref lw])), (aL, .inl (cI, 6, .inl fL)), (aK, .inl (cI, 32, .inl fK)), (lw, .inr (4, [.ref lS])), (lS, .inl (cI, lk, .inl fS))] s.heap.size = A at hD ⊢
  have hA : ∀ q : Nat, s.heap.size ≤ q → A q := fun q h => by rw [← hAe]; exact Or.inr h
  have hl := lv_entry ([.ref h0, .int p0, .int p1]) (n := 4) (Nat.le_of_ble_eq_true rfl)
  rw [show entryFrame m args 4 = entryFrame m ([.ref h0, .int p0, .int p1] : List Value).toArray 4 by rw [hargs], lg_entry_eq]
  generalize (lg_sl ([.ref h0, .int p0, .int p1]) ++ List.replicate (4 - (lg_sl ([.ref h0, .int p0, .int p1])).length) Slot.unset).toArray = ls at hl ⊢
  have hl : lv_has ls 4 [(0, .ref h0), (1, .int p0), (2, .int p1)] := hl
  refine zstart (fun H hH => ?_)
  rw [← hH] at hP
  have hS : va_S A s.heap H [] := by rw [hH]; exact va_S.rf
  generalize ([] : List Loc) = locs at hS ⊢
  refine zgen (fun R Q hR hQ => ?_)
  refine lv_aload_n hx hb dX10_paintNow_0 rfl (lv_at hl 0 rfl) ?_
  refine va_get (D := (dC, dI)) (ci := 10) (v := .ref sd) (C := RX10) (T := TX10) (N := 17) hx hb hts iX10 hown hK hP 0 rfl rfl 9 (by decide) (hts _ qw365) (fun _ h9 => h9) rfl dX10_paintNow_1 ?_
  refine lv_iload_n hx hb dX10_paintNow_4 rfl (lv_at hl 1 rfl) ?_
  refine lv_iload_n hx hb dX10_paintNow_5 rfl (lv_at hl 2 rfl) ?_
  refine lv_aload_n hx hb dX10_paintNow_6 rfl (lv_at hl 0 rfl) ?_
  refine va_get (D := (dC, dI)) (ci := 10) (v := .ref aC) (C := RX10) (T := TX10) (N := 17) hx hb hts iX10 hown hK hP 0 rfl rfl 4 (by decide) (hts _ qw360) (fun _ h9 => h9) rfl dX10_paintNow_7 ?_
  refine lv_iload_n hx hb dX10_paintNow_10 rfl (lv_at hl 2 rfl) ?_
  obtain ⟨hPc, hDc⟩ := zc2 (wc := [(aC, .inr (1, [.ref aR, .ref aB, .ref aP, .int nb, .int np])), (aB, .inl (cI, 24, .inl fb))]) hP hD [1, 2] (by decide +kernel) rfl
  have hFc := zfr hS hA
  refine va_calli (va_runV (As := [.int p1]) (rest := [.int p1, .int p0, .ref sd]) ⟨hx, hb, hml, hown, hts⟩ (g_X1_faceOf l dC dI cI cJ aC p1 aR aB aP nb np fb H.size n_p1) (cwV 1 hts (zgV qw702 qw703 qw704 qw102 qw705) rfl rfl rfl hd_X1_faceOf ⟨by rw [hR]; exact Nat.le_of_ble_eq_true rfl, by rw [hR]; exact Nat.le_of_ble_eq_true rfl⟩) (zPV hPc hK hDc (va_recv (q := (RX1, TX1, 5)) hK hP (ci := 1) (q0 := 1) rfl rfl)) rfl rfl hl.1 rfl (lv_room (Nat.le_of_ble_eq_true rfl)) dX10_paintNow_11 ⟨Nat.zero_le _, Nat.zero_le _⟩) hS (fun q _ h => hFc q h) hFc (fun v11 u11 t H locs ht hvm hw hB hz1 hk1 hS9 => ?_)
  replace hP := zkeep hP hk1
  replace hS := hS9
  clear hPc hDc hFc hk1 hz1 hvm hS9
  have f11_0 : (v11 = fb (4 * p1.toInt.toNat)) := hw
  have F11 := f11_0
  obtain ⟨hPc, hDc, hFc⟩ := zc3 (wc := [(sd, .inr (8, [.ref w1, .ref w2, .ref aC, .ref g0, .ref aL, .ref aK, .ref lw])), (aC, .inr (1, [.ref aR, .ref aB, .ref aP, .int nb, .int np])), (aB, .inl (cI, 24, .inl fb)), (aP, .inl (cI, 20, .inl fp)), (g0, .inr (7, [.ref gY, .ref gF, .ref gP, .int gpn, .int glt, .int gsh, .int gwd, .int gpu, .int gmo])), (gY, .inl (cI, 6, .inl gfY)), (gF, .inl (cI, 5, .inl gfF)), (gP, .inl (cI, 80, .inl gfP)), (aL, .inl (cI, 6, .inl fL)), (aK, .inl (cI, 32, .inl fK)), (lw, .inr (4, [.ref lS])), (lS, .inl (cI, lk, .inl fS))]) hP hD hS hA [8, 1, 2, 3, 4, 5, 6, 7, 9, 10, 11, 12] (by decide +kernel) rfl
  refine va_calli (va_runV (As := [.int p0, .int p1, .int v11]) (rest := []) ⟨hx, hb, hml, hown, hts⟩ (g_X8_showOf_l l dC dI cI cJ sd p0 p1 v11 w1 w2 aC g0 aL aK lw aR aB aP nb np fb fp gY gF gP gpn glt gsh gwd gpu gmo gfY gfF gfP fL fK lS fS lk H.size (by omega) n_p0 n_p1 (hlk) ci_fS_zSt ci_gfP_zPo) (cwV 3 hts (zgV qw643 qw644 qw645 qw105 qw646) rfl rfl rfl hd_X8_showOf ⟨by rw [hR]; exact Nat.le_of_ble_eq_true rfl, by rw [hR]; exact Nat.le_of_ble_eq_true rfl⟩) (zPV hPc hK hDc (va_recv (q := (RX8, TX8, 7)) hK hP (ci := 8) (q0 := 8) rfl rfl)) rfl rfl hl.1 rfl (lv_room (Nat.le_of_ble_eq_true rfl)) dX10_paintNow_14 ⟨Nat.zero_le _, Nat.zero_le _⟩) hS (fun q _ h => hFc q h) hFc (fun v14 u14 t H locs ht hvm hw hB hz1 hk1 hS9 => ?_)
  obtain ⟨u14_0, u14_1⟩ := u14
  obtain ⟨hP9, hD9⟩ := zj2 (wX := [(h0, .inr (10, [.ref tp, h0_courtReader, h0_lawReader, h0_draft, .ref aC, h0_laws, .ref g0, .ref k0, .ref ac, .ref sd, .ref mi, .ref dw, .ref rf, .int lc, .int lh, .int br, .int hi])), (aC, .inr (1, [.ref aR, .ref aB, .ref aP, .int nb, .int np])), (aB, .inl (cI, 24, .inl fb)), (aP, .inl (cI, 20, .inl fp)), (g0, .inr (7, [.ref gY, .ref gF, .ref gP, .int gpn, .int glt, .int gsh, .int gwd, .int gpu, .int gmo])), (gY, .inl (cI, 6, .inl gfY)), (gF, .inl (cI, 5, .inl gfF)), (gP, .inl (cI, 80, .inl gfP)), (sd, .inr (8, [.ref w1, .ref w2, .ref aC, .ref g0, .ref aL, .ref aK, .ref lw])), (aL, .inl (cI, 6, .inl u14_0)), (aK, .inl (cI, 32, .inl u14_1)), (lw, .inr (4, [.ref lS])), (lS, .inl (cI, lk, .inl fS))]) hP hD hk1 hFc ht hB [8, 1, 2, 3, 4, 5, 6, 7, 9, 10, 11, 12] [(false, 0), (true, 1), (true, 2), (true, 3), (true, 4), (true, 5), (true, 6), (true, 7), (true, 0), (true, 8), (true, 9), (true, 10), (true, 11)] rfl (by decide +kernel) (by decide +kernel) rfl
  clear hP hD hS hPc hDc hFc hB hk1 hz1 hvm
  have hP := hP9
  have hD := hD9
  have hS := hS9
  clear hP9 hD9 hS9
  obtain ⟨f14_0, f14_1, f14_2⟩ : (0 ≤ v14.toInt) ∧ (v14.toInt ≤ 9) ∧ (∀ t : (Int → Int) × Int, zLwC fS lk t → zB5 v11 (fb (4 * p1.toInt.toNat + 2)) (gfY p1.toInt.toNat) (fp (4 * p0.toInt.toNat)) (gfF p0.toInt.toNat) gmo → v14 = zSh (fp (4 * p0.toInt.toNat + 3)) (zLat gfP p0 gpn.toInt.toNat) (zLkv (some t) v11 (fb (4 * p1.toInt.toNat + 2)) (gfY p1.toInt.toNat) (fp (4 * p0.toInt.toNat)) (gfF p0.toInt.toNat) gmo)) := hw
  have F14 := f14_2
  refine lv_istore_n (lv' := [(3, .int v14), (0, .ref h0), (1, .int p0), (2, .int p1)]) hx hb dX10_paintNow_17 rfl hl (by decide) rfl (fun ls hl => ?_)
  refine lv_aload_n hx hb dX10_paintNow_18 rfl (lv_at hl 1 rfl) ?_
  refine va_get (D := (dC, dI)) (ci := 10) (v := .ref g0) (C := RX10) (T := TX10) (N := 17) hx hb hts iX10 hown hK hP 0 rfl rfl 6 (by decide) (hts _ qw362) (fun _ h9 => h9) rfl dX10_paintNow_19 ?_
  refine lv_iload_n hx hb dX10_paintNow_22 rfl (lv_at hl 3 rfl) ?_
  refine lv_iload_n hx hb dX10_paintNow_23 rfl (lv_at hl 2 rfl) ?_
  refine lv_iload_n hx hb dX10_paintNow_24 rfl (lv_at hl 0 rfl) ?_
  obtain ⟨hPc, hDc, hFc⟩ := zc3 (wc := [(g0, .inr (7, [.ref gY, .ref gF, .ref gP, .int gpn, .int glt, .int gsh, .int gwd, .int gpu, .int gmo])), (gP, .inl (cI, 80, .inl gfP))]) hP hD hS hA [4, 7] (by decide +kernel) rfl
  refine va_callv (va_runV (As := [.int p1, .int p0, .int v14]) (rest := []) ⟨hx, hb, hml, hown, hts⟩ (g_X7_hang l dC dI cI cJ g0 p1 p0 v14 gY gF gP gpn glt gsh gwd gpu gmo gfP H.size n_p1 n_p0 ⟨f14_0, f14_1⟩ n_gpn ci_gfP_zPo) (cwV 3 hts (zgV qw706 qw707 qw708 qw103 qw709) rfl rfl rfl hd_X7_hang ⟨by rw [hR]; exact Nat.le_of_ble_eq_true rfl, by rw [hR]; exact Nat.le_of_ble_eq_true rfl⟩) (zPV hPc hK hDc (va_recv (q := (RX7, TX7, 9)) hK hP (ci := 7) (q0 := 4) rfl rfl)) rfl rfl hl.1 rfl (lv_room (Nat.le_of_ble_eq_true rfl)) dX10_paintNow_25 ⟨Nat.zero_le _, Nat.zero_le _⟩) hS (fun q _ h => hFc q h) hFc (fun u25 t H locs ht hvm hw hB hz1 hk1 hS9 => ?_)
  obtain ⟨u25_0, u25_1⟩ := u25
  obtain ⟨hP9, hD9⟩ := zj2 (wX := [(h0, .inr (10, [.ref tp, h0_courtReader, h0_lawReader, h0_draft, .ref aC, h0_laws, .ref g0, .ref k0, .ref ac, .ref sd, .ref mi, .ref dw, .ref rf, .int lc, .int lh, .int br, .int hi])), (aC, .inr (1, [.ref aR, .ref aB, .ref aP, .int nb, .int np])), (aB, .inl (cI, 24, .inl fb)), (aP, .inl (cI, 20, .inl fp)), (g0, .inr (7, [.ref gY, .ref gF, .ref gP, .int u25_0, .int glt, .int gsh, .int gwd, .int gpu, .int gmo])), (gY, .inl (cI, 6, .inl gfY)), (gF, .inl (cI, 5, .inl gfF)), (gP, .inl (cI, 80, .inl u25_1)), (sd, .inr (8, [.ref w1, .ref w2, .ref aC, .ref g0, .ref aL, .ref aK, .ref lw])), (aL, .inl (cI, 6, .inl u14_0)), (aK, .inl (cI, 32, .inl u14_1)), (lw, .inr (4, [.ref lS])), (lS, .inl (cI, lk, .inl fS))]) hP hD hk1 hFc ht hB [4, 7] [(false, 0), (false, 1), (false, 2), (false, 3), (true, 0), (false, 5), (false, 6), (true, 1), (false, 8), (false, 9), (false, 10), (false, 11), (false, 12)] rfl (by decide +kernel) (by decide +kernel) rfl
  clear hP hD hS hPc hDc hFc hB hk1 hz1 hvm
  have hP := hP9
  have hD := hD9
  have hS := hS9
  clear hP9 hD9 hS9
  obtain ⟨f25_0, f25_1, f25_2, f25_3, f25_4⟩ : (1 ≤ u25_0.toInt) ∧ (u25_0.toInt ≤ 20) ∧ (∀ (nbI npI : Int) (S : zS) (Y F : Nat → Int32), zSc nbI npI S Y F gfP gpn glt gsh gwd gpu gmo → zSc nbI npI (sHang S p1 p0 v14) Y F u25_1 u25_0 glt gsh gwd gpu gmo) ∧ (∀ i : Nat, (i : Int) < 4 * gpn.toInt → u25_1 i = gfP i) ∧ (zPo u25_1) := hw
  have F25 := f25_2
  have F25_1 := f25_3
  refine lv_aload_n hx hb dX10_paintNow_28 rfl (lv_at hl 1 rfl) ?_
  refine va_get (D := (dC, dI)) (ci := 10) (v := .ref g0) (C := RX10) (T := TX10) (N := 17) hx hb hts iX10 hown hK hP 0 rfl rfl 6 (by decide) (hts _ qw362) (fun _ h9 => h9) rfl dX10_paintNow_29 ?_
  refine lv_dup hx hb dX10_paintNow_32 rfl ?_
  refine va_get (D := (dC, dI)) (ci := 7) (v := .int gpu) (C := RX7) (T := TX7) (N := 9) hx hb hts iX7 hown hK hP 4 rfl rfl 7 (by decide) (hts _ qw239) (fun _ h9 => h9) rfl dX10_paintNow_33 ?_
  refine lv_aload_n hx hb dX10_paintNow_36 rfl (lv_at hl 1 rfl) ?_
  refine va_get (D := (dC, dI)) (ci := 10) (v := .ref aC) (C := RX10) (T := TX10) (N := 17) hx hb hts iX10 hown hK hP 0 rfl rfl 4 (by decide) (hts _ qw360) (fun _ h9 => h9) rfl dX10_paintNow_37 ?_
  refine lv_iload_n hx hb dX10_paintNow_40 rfl (lv_at hl 2 rfl) ?_
  obtain ⟨hPc, hDc⟩ := zc2 (wc := [(aC, .inr (1, [.ref aR, .ref aB, .ref aP, .int nb, .int np])), (aP, .inl (cI, 20, .inl fp))]) hP hD [1, 3] (by decide +kernel) rfl
  have hFc := zfr hS hA
  refine va_calli (va_runV (As := [.int p0]) (rest := [.int gpu, .ref g0]) ⟨hx, hb, hml, hown, hts⟩ (g_X1_feeOf l dC dI cI cJ aC p0 aR aB aP nb np fp H.size n_p0) (cwV 1 hts (zgV qw609 qw610 qw611 qw102 qw612) rfl rfl rfl hd_X1_feeOf ⟨by rw [hR]; exact Nat.le_of_ble_eq_true rfl, by rw [hR]; exact Nat.le_of_ble_eq_true rfl⟩) (zPV hPc hK hDc (va_recv (q := (RX1, TX1, 5)) hK hP (ci := 1) (q0 := 1) rfl rfl)) rfl rfl hl.1 rfl (lv_room (Nat.le_of_ble_eq_true rfl)) dX10_paintNow_41 ⟨Nat.zero_le _, Nat.zero_le _⟩) hS (fun q _ h => hFc q h) hFc (fun v41 u41 t H locs ht hvm hw hB hz1 hk1 hS9 => ?_)
  replace hP := zkeep hP hk1
  replace hS := hS9
  clear hPc hDc hFc hk1 hz1 hvm hS9
  have f41_0 : (v41 = fp (4 * p0.toInt.toNat + 1)) := hw
  have F41 := f41_0
  refine lv_isub hx hb dX10_paintNow_44 ?_
  refine lv_topi (fun v44 e44 => ?_)
  refine va_put (D := (dC, dI)) (ci := 7) (v := .int v44) (ty := .int) (C := RX7) (T := TX7) (N := 9) hx hb hts iX7 tyX7 tyX7_ok nmX7 hown hK hP hD hS 4 rfl rfl 7 (by decide) (hts _ qw239) (fun _ h9 => h9) rfl (by decide +kernel) rfl rfl (Nat.le_of_ble_eq_true rfl) dX10_paintNow_45 (fun H locs hP9 hD9 hS9 => ?_)
  clear hP hD hS
  obtain ⟨hP, hD⟩ := zst (wX := [(h0, .inr (10, [.ref tp, h0_courtReader, h0_lawReader, h0_draft, .ref aC, h0_laws, .ref g0, .ref k0, .ref ac, .ref sd, .ref mi, .ref dw, .ref rf, .int lc, .int lh, .int br, .int hi])), (aC, .inr (1, [.ref aR, .ref aB, .ref aP, .int nb, .int np])), (aB, .inl (cI, 24, .inl fb)), (aP, .inl (cI, 20, .inl fp)), (g0, .inr (7, [.ref gY, .ref gF, .ref gP, .int u25_0, .int glt, .int gsh, .int gwd, .int v44, .int gmo])), (gY, .inl (cI, 6, .inl gfY)), (gF, .inl (cI, 5, .inl gfF)), (gP, .inl (cI, 80, .inl u25_1)), (sd, .inr (8, [.ref w1, .ref w2, .ref aC, .ref g0, .ref aL, .ref aK, .ref lw])), (aL, .inl (cI, 6, .inl u14_0)), (aK, .inl (cI, 32, .inl u14_1)), (lw, .inr (4, [.ref lS])), (lS, .inl (cI, lk, .inl fS))]) hP9 hD9 rfl
  have hS := hS9
  clear hP9 hD9 hS9
  refine lv_iload_n hx hb dX10_paintNow_48 rfl (lv_at hl 0 rfl) ?_
  rw [hQ]
  exact W.iret (v := v14) hx hb hr (fun t ht hW => ⟨⟨v14, (u25_0, v44, u25_1, u14_0, u14_1), rfl, ⟨by (try dsimp only); omega, by (try dsimp only); omega, by (try dsimp only); omega, by (try dsimp only); omega, by (try dsimp only); exact fun kc kT q_fr kt hc hb h ht hp hq => by have y11 : v11 = kc.2.1 (4 * p1.toInt.toNat) := F11.trans (hc.2.1 _ (by omega)); have y41 : v41 = kc.2.2 (4 * p0.toInt.toNat + 1) := F41.trans (hc.2.2 _ (by omega)); have s0 : v14 = sShow kc kT.1 (some kt) p0 p1 v11 := sShow_l hc hb h hp hq (by rw [y11]; exact zFace_b hb hq) ht F14; have s1 : v14 = sV_pnt kc kT.1 (some kt) p0 p1 := (by unfold sV_pnt; rw [← y11]; exact s0); exact ⟨s1, zSc_Pt h (F25 _ _ _ _ _ h) s1 (by rw [e44, y41]), F25_1⟩, f25_4⟩, ⟨by rw [ht]; exact hP, hD⟩⟩, hS.F ht⟩) hS.2.2 dX10_paintNow_49
set_option maxHeartbeats 4000000 in
set_option maxRecDepth 100000 in
theorem g_X10_paint_n (l : Launch) (dC : Nat → ClassId) (dI : Nat → Nat → Nat) (cI cJ : ClassId) (h0 : Nat) (p0 : Int32) (p1 : Int32) (tp : Nat) (h0_courtReader : Value) (h0_lawReader : Value) (h0_draft : Value) (aC : Nat) (h0_laws : Value) (g0 : Nat) (k0 : Nat) (ac : Nat) (sd : Nat) (mi : Nat) (dw : Nat) (rf : Nat) (lc : Int32) (lh : Int32) (br : Int32) (hi : Int32) (aR : Nat) (aB : Nat) (aP : Nat) (nb : Int32) (np : Int32) (fb : Nat → Int32) (fp : Nat → Int32) (gY : Nat) (gF : Nat) (gP : Nat) (gpn : Int32) (glt : Int32) (gsh : Int32) (gwd : Int32) (gpu : Int32) (gmo : Int32) (gfY : Nat → Int32) (gfF : Nat → Int32) (gfP : Nat → Int32) (aW : Nat) (pl : Int32) (cn : Int32) (fR : Nat → Int32) (w1 : Nat) (w2 : Nat) (aL : Nat) (aK : Nat) (frf : Nat → Int32) (sz : Nat) (n_cn : 0 ≤ cn.toInt ∧ cn.toInt ≤ 40) (n_gpn : 0 ≤ gpn.toInt ∧ gpn.toInt ≤ 20) (n_gwd : (-1) ≤ gwd.toInt ∧ gwd.toInt ≤ 5) (n_hi : 0 ≤ hi.toInt ∧ hi.toInt ≤ 1) (n_lc : 0 ≤ lc.toInt ∧ lc.toInt ≤ 4) (n_nb : 0 ≤ nb.toInt ∧ nb.toInt ≤ 6) (n_np : 0 ≤ np.toInt ∧ np.toInt ≤ 5) (n_pl : 0 ≤ pl.toInt ∧ pl.toInt ≤ 39)  (ci_fR_zRw : zRw fR) (ci_gfP_zPo : zPo gfP)  : Met l yX10_paint (.code yX10_paint cX10_paint 3 (some .int) :: wA) ({ frames := 5, cells := 0, slots := 0, locals := 126 }) (zP (dC, dI) [(cI, .int), (cJ, .long)] [.ref h0, .int p0, .int p1] sz [(h0, .inr (10, [.ref tp, h0_courtReader, h0_lawReader, h0_draft, .ref aC, h0_laws, .ref g0, .ref k0, .ref ac, .ref sd, .ref mi, .ref dw, .ref rf, .int lc, .int lh, .int br, .int hi])), (aC, .inr (1, [.ref aR, .ref aB, .ref aP, .int nb, .int np])), (aB, .inl (cI, 24, .inl fb)), (aP, .inl (cI, 20, .inl fp)), (g0, .inr (7, [.ref gY, .ref gF, .ref gP, .int gpn, .int glt, .int gsh, .int gwd, .int gpu, .int gmo])), (gY, .inl (cI, 6, .inl gfY)), (gF, .inl (cI, 5, .inl gfF)), (gP, .inl (cI, 80, .inl gfP)), (ac, .inr (0, [.ref aW, .int pl, .int cn])), (aW, .inl (cI, 680, .inl fR)), (sd, .inr (8, [.ref w1, .ref w2, .ref aC, .ref g0, .ref aL, .ref aK, .null])), (rf, .inl (cI, 5, .inl frf))]) (va_Qi (fun (r : Int32) (u : Int32 × Int32 × (Nat → Int32) × Int32 × Int32 × (Nat → Int32) × (Nat → Int32)) => ((-1) ≤ r.toInt) ∧ (r.toInt ≤ 9) ∧ (0 ≤ u.1.toInt) ∧ (u.1.toInt ≤ 20) ∧ (0 ≤ u.2.2.2.1.toInt) ∧ (u.2.2.2.1.toInt ≤ 39) ∧ (0 ≤ u.2.2.2.2.1.toInt) ∧ (u.2.2.2.2.1.toInt ≤ 40) ∧ (∀ (kc : zK3) (kT : zT) (q_fr : Nat → Int32), zCn q_fr fb fp nb.toInt np.toInt kc → zKo nb.toInt np.toInt kc kT → zTc nb.toInt np.toInt kT gfY gfF gfP gpn glt gsh gwd gpu gmo fR pl cn frf → r = sA (sW_pnt nb.toInt np.toInt kc kT.1 p0 p1) (sV_pnt kc kT.1 none p0 p1) ∧ zTc nb.toInt np.toInt (sDo (sW_pnt nb.toInt np.toInt kc kT.1 p0 p1) kT (sN_pnt kc kT.1 none p0 p1)) gfY gfF u.2.2.1 u.1 glt gsh gwd u.2.1 gmo u.2.2.2.2.2.1 u.2.2.2.1 u.2.2.2.2.1 u.2.2.2.2.2.2) ∧ (zRw u.2.2.2.2.2.1) ∧ (zPo u.2.2.1)) (fun (u : Int32 × Int32 × (Nat → Int32) × Int32 × Int32 × (Nat → Int32) × (Nat → Int32)) (t : State) => va_P (dC, dI) vwCl [(h0, .inr (10, [.ref tp, h0_courtReader, h0_lawReader, h0_draft, .ref aC, h0_laws, .ref g0, .ref k0, .ref ac, .ref sd, .ref mi, .ref dw, .ref rf, .int lc, .int lh, .int br, .int hi])), (aC, .inr (1, [.ref aR, .ref aB, .ref aP, .int nb, .int np])), (aB, .inl (cI, 24, .inl fb)), (aP, .inl (cI, 20, .inl fp)), (g0, .inr (7, [.ref gY, .ref gF, .ref gP, .int u.1, .int glt, .int gsh, .int gwd, .int u.2.1, .int gmo])), (gY, .inl (cI, 6, .inl gfY)), (gF, .inl (cI, 5, .inl gfF)), (gP, .inl (cI, 80, .inl u.2.2.1)), (ac, .inr (0, [.ref aW, .int u.2.2.2.1, .int u.2.2.2.2.1])), (aW, .inl (cI, 680, .inl u.2.2.2.2.2.1)), (sd, .inr (8, [.ref w1, .ref w2, .ref aC, .ref g0, .ref aL, .ref aK, .null])), (rf, .inl (cI, 5, .inl u.2.2.2.2.2.2))] t.heap ∧ va_D (va_A [(h0, .inr (10, [.ref tp, h0_courtReader, h0_lawReader, h0_draft, .ref aC, h0_laws, .ref g0, .ref k0, .ref ac, .ref sd, .ref mi, .ref dw, .ref rf, .int lc, .int lh, .int br, .int hi])), (aC, .inr (1, [.ref aR, .ref aB, .ref aP, .int nb, .int np])), (aB, .inl (cI, 24, .inl fb)), (aP, .inl (cI, 20, .inl fp)), (g0, .inr (7, [.ref gY, .ref gF, .ref gP, .int gpn, .int glt, .int gsh, .int gwd, .int gpu, .int gmo])), (gY, .inl (cI, 6, .inl gfY)), (gF, .inl (cI, 5, .inl gfF)), (gP, .inl (cI, 80, .inl gfP)), (ac, .inr (0, [.ref aW, .int pl, .int cn])), (aW, .inl (cI, 680, .inl fR)), (sd, .inr (8, [.ref w1, .ref w2, .ref aC, .ref g0, .ref aL, .ref aK, .null])), (rf, .inl (cI, 5, .inl frf))] sz) [(h0, .inr (10, [.ref tp, h0_courtReader, h0_lawReader, h0_draft, .ref aC, h0_laws, .ref g0, .ref k0, .ref ac, .ref sd, .ref mi, .ref dw, .ref rf, .int lc, .int lh, .int br, .int hi])), (aC, .inr (1, [.ref aR, .ref aB, .ref aP, .int nb, .int np])), (aB, .inl (cI, 24, .inl fb)), (aP, .inl (cI, 20, .inl fp)), (g0, .inr (7, [.ref gY, .ref gF, .ref gP, .int u.1, .int glt, .int gsh, .int gwd, .int u.2.1, .int gmo])), (gY, .inl (cI, 6, .inl gfY)), (gF, .inl (cI, 5, .inl gfF)), (gP, .inl (cI, 80, .inl u.2.2.1)), (ac, .inr (0, [.ref aW, .int u.2.2.2.1, .int u.2.2.2.2.1])), (aW, .inl (cI, 680, .inl u.2.2.2.2.2.1)), (sd, .inr (8, [.ref w1, .ref w2, .ref aC, .ref g0, .ref aL, .ref aK, .null])), (rf, .inl (cI, 5, .inl u.2.2.2.2.2.2))]) (va_A [(h0, .inr (10, [.ref tp, h0_courtReader, h0_lawReader, h0_draft, .ref aC, h0_laws, .ref g0, .ref k0, .ref ac, .ref sd, .ref mi, .ref dw, .ref rf, .int lc, .int lh, .int br, .int hi])), (aC, .inr (1, [.ref aR, .ref aB, .ref aP, .int nb, .int np])), (aB, .inl (cI, 24, .inl fb)), (aP, .inl (cI, 20, .inl fp)), (g0, .inr (7, [.ref gY, .ref gF, .ref gP, .int gpn, .int glt, .int gsh, .int gwd, .int gpu, .int gmo])), (gY, .inl (cI, 6, .inl gfY)), (gF, .inl (cI, 5, .inl gfF)), (gP, .inl (cI, 80, .inl gfP)), (ac, .inr (0, [.ref aW, .int pl, .int cn])), (aW, .inl (cI, 680, .inl fR)), (sd, .inr (8, [.ref w1, .ref w2, .ref aC, .ref g0, .ref aL, .ref aK, .null])), (rf, .inl (cI, 5, .inl frf))] sz)) 0 0 (va_A [(h0, .inr (10, [.ref tp, h0_courtReader, h0_lawReader, h0_draft, .ref aC, h0_laws, .ref g0, .ref k0, .ref ac, .ref sd, .ref mi, .ref dw, .ref rf, .int lc, .int lh, .int br, .int hi])), (aC, .inr (1, [.ref aR, .ref aB, .ref aP, .int nb, .int np])), (aB, .inl (cI, 24, .inl fb)), (aP, .inl (cI, 20, .inl fp)), (g0, .inr (7, [.ref gY, .ref gF, .ref gP, .int gpn, .int glt, .int gsh, .int gwd, .int gpu, .int gmo])), (gY, .inl (cI, 6, .inl gfY)), (gF, .inl (cI, 5, .inl gfF)), (gP, .inl (cI, 80, .inl gfP)), (ac, .inr (0, [.ref aW, .int pl, .int cn])), (aW, .inl (cI, 680, .inl fR)), (sd, .inr (8, [.ref w1, .ref w2, .ref aC, .ref g0, .ref aL, .ref aK, .null])), (rf, .inl (cI, 5, .inl frf))] sz) := by
  refine Met.ofW (cc := cX10_paint) (maxL := 3) (ret := (some .int)) (by decide) rfl ?_
  intro p e s m args below meth c s₁ B hml hv
  have y_gwd : zHid ((-1) ≤ gwd.toInt ∧ gwd.toInt ≤ 5) := n_gwd
  have y_hi : zHid (0 ≤ hi.toInt ∧ hi.toInt ≤ 1) := n_hi
  have y_lc : zHid (0 ≤ lc.toInt ∧ lc.toInt ≤ 4) := n_lc
  clear n_gwd n_hi n_lc
  obtain ⟨hargs, hsz, hP, hK, hT⟩ := hv
  have hx := B.exec
  have hb := B.bytes
  have hr := B.returns
  have hts : ∀ w ∈ wA, w.before args s = true := fun w h => atoms_spec (ws := .code yX10_paint cX10_paint 3 (some .int) :: wA) B.pre w (List.mem_cons_of_mem _ h)
  have hown : s.vm.findClass RX10 = some m.cls := findClass_of_methodNamed B.named
  have hlocks := B.notSynchronized
  subst hsz
  have hD := hT.self (sz := s.heap.size)
  generalize hAe : va_A [(h0, .inr (10, [.ref tp, h0_courtReader, h0_lawReader, h0_draft, .ref aC, h0_laws, .ref g0, .ref k0, .ref ac, .ref sd, .ref mi, .ref dw, .ref rf, .int lc, .int lh, .int br, .int hi])), (aC, .inr (1, [.ref aR, .ref aB, .ref aP, .int nb, .int np])), (aB, .inl (cI, 24, .inl fb)), (aP, .inl (cI, 20, .inl fp)), (g0, .inr (7, [.ref gY, .ref gF, .ref gP, .int gpn, .int glt, .int gsh, .int gwd, .int gpu, .int gmo])), (gY, .inl (cI, 6, .inl gfY)), (gF, .inl (cI, 5, .inl gfF)), (gP, .inl (cI, 80, .inl gfP)), (ac, .inr (0, [.ref aW, .int pl, .int cn])), (aW, .inl (cI, 680, .inl fR)), (sd, .inr (8, [.ref w1, .ref w2, .ref aC, .ref g0, .ref aL, .ref aK, .null])), (rf, .inl (cI, 5, .inl frf))] s.heap.size = A at hD ⊢
  have hA : ∀ q : Nat, s.heap.size ≤ q → A q := fun q h => by rw [← hAe]; exact Or.inr h
  have hl := lv_entry ([.ref h0, .int p0, .int p1]) (n := 3) (Nat.le_of_ble_eq_true rfl)
  rw [show entryFrame m args 3 = entryFrame m ([.ref h0, .int p0, .int p1] : List Value).toArray 3 by rw [hargs], lg_entry_eq]
  generalize (lg_sl ([.ref h0, .int p0, .int p1]) ++ List.replicate (3 - (lg_sl ([.ref h0, .int p0, .int p1])).length) Slot.unset).toArray = ls at hl ⊢
  have hl : lv_has ls 3 [(0, .ref h0), (1, .int p0), (2, .int p1)] := hl
  refine zstart (fun H hH => ?_)
  rw [← hH] at hP
  have hS : va_S A s.heap H [] := by rw [hH]; exact va_S.rf
  generalize ([] : List Loc) = locs at hS ⊢
  refine zgen (fun R Q hR hQ => ?_)
  refine lv_aload_n hx hb dX10_paint_0 rfl (lv_at hl 0 rfl) ?_
  refine lv_iload_n hx hb dX10_paint_1 rfl (lv_at hl 1 rfl) ?_
  obtain ⟨hPc, hDc⟩ := zc2 (wc := [(h0, .inr (10, [.ref tp, h0_courtReader, h0_lawReader, h0_draft, .ref aC, h0_laws, .ref g0, .ref k0, .ref ac, .ref sd, .ref mi, .ref dw, .ref rf, .int lc, .int lh, .int br, .int hi])), (aC, .inr (1, [.ref aR, .ref aB, .ref aP, .int nb, .int np]))]) hP hD [0, 1] (by decide +kernel) rfl
  have hFc := zfr hS hA
  refine va_calli (va_runV (As := [.int p0]) (rest := []) ⟨hx, hb, hml, hown, hts⟩ (g_X10_isPainter l dC dI cI cJ h0 p0 (.ref tp) h0_courtReader h0_lawReader h0_draft aC h0_laws (.ref g0) (.ref k0) (.ref ac) (.ref sd) (.ref mi) (.ref dw) (.ref rf) (.int lc) (.int lh) (.int br) (.int hi) aR aB aP nb np H.size n_np) (cwV 1 hts (zgV qw600 qw602 qw11 qw98 qw603) rfl rfl rfl hd_X10_isPainter ⟨by rw [hR]; exact Nat.le_of_ble_eq_true rfl, by rw [hR]; exact Nat.le_of_ble_eq_true rfl⟩) (zPV hPc hK hDc (va_recv (q := (RX10, TX10, 17)) hK hP (ci := 10) (q0 := 0) rfl rfl)) rfl rfl hl.1 rfl (lv_room (Nat.le_of_ble_eq_true rfl)) dX10_paint_2 ⟨Nat.zero_le _, Nat.zero_le _⟩) hS (fun q _ h => hFc q h) hFc (fun v2 u2 t H locs ht hvm hw hB hz1 hk1 hS9 => ?_)
  replace hP := zkeep hP hk1
  replace hS := hS9
  clear hPc hDc hFc hk1 hz1 hvm hS9
  obtain ⟨f2_0, f2_1, f2_2, f2_3⟩ : (0 ≤ v2.toInt) ∧ (v2.toInt ≤ 1) ∧ (¬ v2.toInt = 0 → (0 ≤ p0.toInt ∧ p0.toInt < np.toInt)) ∧ (v2.toInt = 0 → ¬ (0 ≤ p0.toInt ∧ p0.toInt < np.toInt)) := hw
  refine lv_if_eq (tgt := 16) hx hb dX10_paint_5 (by decide) (fun c5 => ?_) (fun c5 => ?_)
  · have c5 : v2.toInt = 0 := z5 rfl (by decide) c5
    refine lv_aload_n hx hb dX10_paint_16 rfl (lv_at hl 0 rfl) ?_
    refine lv_iconst (v := 0) hx hb dX10_paint_17 (by decide) ?_
    obtain ⟨hPc, hDc, hFc⟩ := zc3 (wc := [(h0, .inr (10, [.ref tp, h0_courtReader, h0_lawReader, h0_draft, .ref aC, h0_laws, .ref g0, .ref k0, .ref ac, .ref sd, .ref mi, .ref dw, .ref rf, .int lc, .int lh, .int br, .int hi])), (rf, .inl (cI, 5, .inl frf))]) hP hD hS hA [0, 11] (by decide +kernel) rfl
    refine va_calli (va_runV (As := [.int 0]) (rest := []) ⟨hx, hb, hml, hown, hts⟩ (g_X10_refuse l dC dI cI cJ h0 0 tp h0_courtReader h0_lawReader h0_draft aC h0_laws g0 k0 ac sd mi dw rf lc lh br hi frf H.size y_hi y_lc (by decide)) (cwV 1 hts (zgV qw684 qw686 qw13 qw98 qw687) rfl rfl rfl hd_X10_refuse ⟨by rw [hR]; exact Nat.le_of_ble_eq_true rfl, by rw [hR]; exact Nat.le_of_ble_eq_true rfl⟩) (zPV hPc hK hDc (va_recv (q := (RX10, TX10, 17)) hK hP (ci := 10) (q0 := 0) rfl rfl)) rfl rfl hl.1 rfl (lv_room (Nat.le_of_ble_eq_true rfl)) dX10_paint_18 ⟨Nat.zero_le _, Nat.zero_le _⟩) hS (fun q _ h => hFc q h) hFc (fun v18 u18 t H locs ht hvm hw hB hz1 hk1 hS9 => ?_)
    obtain ⟨u18_0, rfl⟩ : ∃ z, z = u18 := ⟨_, rfl⟩
    obtain ⟨hP9, hD9⟩ := zj2 (wX := [(h0, .inr (10, [.ref tp, h0_courtReader, h0_lawReader, h0_draft, .ref aC, h0_laws, .ref g0, .ref k0, .ref ac, .ref sd, .ref mi, .ref dw, .ref rf, .int lc, .int lh, .int br, .int hi])), (aC, .inr (1, [.ref aR, .ref aB, .ref aP, .int nb, .int np])), (aB, .inl (cI, 24, .inl fb)), (aP, .inl (cI, 20, .inl fp)), (g0, .inr (7, [.ref gY, .ref gF, .ref gP, .int gpn, .int glt, .int gsh, .int gwd, .int gpu, .int gmo])), (gY, .inl (cI, 6, .inl gfY)), (gF, .inl (cI, 5, .inl gfF)), (gP, .inl (cI, 80, .inl gfP)), (ac, .inr (0, [.ref aW, .int pl, .int cn])), (aW, .inl (cI, 680, .inl fR)), (sd, .inr (8, [.ref w1, .ref w2, .ref aC, .ref g0, .ref aL, .ref aK, .null])), (rf, .inl (cI, 5, .inl u18_0))]) hP hD hk1 hFc ht hB [0, 11] [(true, 0), (false, 1), (false, 2), (false, 3), (false, 4), (false, 5), (false, 6), (false, 7), (false, 8), (false, 9), (false, 10), (true, 1)] rfl (by decide +kernel) (by decide +kernel) rfl
    clear hP hD hS hPc hDc hFc hB hk1 hz1 hvm
    have hP := hP9
    have hD := hD9
    have hS := hS9
    clear hP9 hD9 hS9
    obtain ⟨hwc, hw⟩ := hw
    have hwc : v18 = (-1) := hwc
    subst hwc
    have zn18_0 : (0 : Int32).toInt = 0 := by decide
    have f18_0 : (zRf frf u18_0 (0 : Int32).toInt) := hw
    have F18 := f18_0
    have zr0 : ((-1) : Int32).toInt = (-1) := by decide
    rw [hQ]
    exact W.iret (v := ((-1))) hx hb hr (fun t ht hW => ⟨⟨(-1), (gpn, gpu, gfP, pl, cn, fR, u18_0), rfl, ⟨by (try dsimp only); omega, by (try dsimp only); omega, by (try dsimp only); omega, by (try dsimp only); omega, by (try dsimp only); omega, by (try dsimp only); omega, by (try dsimp only); omega, by (try dsimp only); omega, by (try dsimp only); exact fun kc kT q_fr hc hb h => zActR (x := (0 : Int32).toInt) (by unfold sW_pnt; exact (if_pos (by omega)).trans (by omega)) (by omega) h F18, ci_fR_zRw, ci_gfP_zPo⟩, ⟨by rw [ht]; exact hP, hD⟩⟩, hS.F ht⟩) hS.2.2 dX10_paint_21
  · have c5 : ¬ v2.toInt = 0 := z6 rfl (by decide) c5
    refine lv_aload_n hx hb dX10_paint_8 rfl (lv_at hl 0 rfl) ?_
    refine lv_iload_n hx hb dX10_paint_9 rfl (lv_at hl 2 rfl) ?_
    obtain ⟨hPc, hDc⟩ := zc2 (wc := [(h0, .inr (10, [.ref tp, h0_courtReader, h0_lawReader, h0_draft, .ref aC, h0_laws, .ref g0, .ref k0, .ref ac, .ref sd, .ref mi, .ref dw, .ref rf, .int lc, .int lh, .int br, .int hi])), (aC, .inr (1, [.ref aR, .ref aB, .ref aP, .int nb, .int np]))]) hP hD [0, 1] (by decide +kernel) rfl
    have hFc := zfr hS hA
    refine va_calli (va_runV (As := [.int p1]) (rest := []) ⟨hx, hb, hml, hown, hts⟩ (g_X10_isBride l dC dI cI cJ h0 p1 (.ref tp) h0_courtReader h0_lawReader h0_draft aC h0_laws (.ref g0) (.ref k0) (.ref ac) (.ref sd) (.ref mi) (.ref dw) (.ref rf) (.int lc) (.int lh) (.int br) (.int hi) aR aB aP nb np H.size n_nb) (cwV 1 hts (zgV qw625 qw627 qw12 qw98 qw628) rfl rfl rfl hd_X10_isBride ⟨by rw [hR]; exact Nat.le_of_ble_eq_true rfl, by rw [hR]; exact Nat.le_of_ble_eq_true rfl⟩) (zPV hPc hK hDc (va_recv (q := (RX10, TX10, 17)) hK hP (ci := 10) (q0 := 0) rfl rfl)) rfl rfl hl.1 rfl (lv_room (Nat.le_of_ble_eq_true rfl)) dX10_paint_10 ⟨Nat.zero_le _, Nat.zero_le _⟩) hS (fun q _ h => hFc q h) hFc (fun v10 u10 t H locs ht hvm hw hB hz1 hk1 hS9 => ?_)
    replace hP := zkeep hP hk1
    replace hS := hS9
    clear hPc hDc hFc hk1 hz1 hvm hS9
    obtain ⟨f10_0, f10_1, f10_2, f10_3⟩ : (0 ≤ v10.toInt) ∧ (v10.toInt ≤ 1) ∧ (¬ v10.toInt = 0 → (0 ≤ p1.toInt ∧ p1.toInt < nb.toInt)) ∧ (v10.toInt = 0 → ¬ (0 ≤ p1.toInt ∧ p1.toInt < nb.toInt)) := hw
    refine lv_if_ne (tgt := 22) hx hb dX10_paint_13 (by decide) (fun c13 => ?_) (fun c13 => ?_)
    · have c13 : ¬ v10.toInt = 0 := z6 rfl (by decide) c13
      refine lv_aload_n hx hb dX10_paint_22 rfl (lv_at hl 0 rfl) ?_
      refine va_get (D := (dC, dI)) (ci := 10) (v := .ref g0) (C := RX10) (T := TX10) (N := 17) hx hb hts iX10 hown hK hP 0 rfl rfl 6 (by decide) (hts _ qw362) (fun _ h9 => h9) rfl dX10_paint_23 ?_
      refine va_get (D := (dC, dI)) (ci := 7) (v := .int gpu) (C := RX7) (T := TX7) (N := 9) hx hb hts iX7 hown hK hP 4 rfl rfl 7 (by decide) (hts _ qw239) (fun _ h9 => h9) rfl dX10_paint_26 ?_
      refine lv_aload_n hx hb dX10_paint_29 rfl (lv_at hl 0 rfl) ?_
      refine va_get (D := (dC, dI)) (ci := 10) (v := .ref aC) (C := RX10) (T := TX10) (N := 17) hx hb hts iX10 hown hK hP 0 rfl rfl 4 (by decide) (hts _ qw360) (fun _ h9 => h9) rfl dX10_paint_30 ?_
      refine lv_iload_n hx hb dX10_paint_33 rfl (lv_at hl 1 rfl) ?_
      obtain ⟨hPc, hDc⟩ := zc2 (wc := [(aC, .inr (1, [.ref aR, .ref aB, .ref aP, .int nb, .int np])), (aP, .inl (cI, 20, .inl fp))]) hP hD [1, 3] (by decide +kernel) rfl
      have hFc := zfr hS hA
      refine va_calli (va_runV (As := [.int p0]) (rest := [.int gpu]) ⟨hx, hb, hml, hown, hts⟩ (g_X1_feeOf l dC dI cI cJ aC p0 aR aB aP nb np fp H.size (by omega)) (cwV 1 hts (zgV qw609 qw610 qw611 qw102 qw612) rfl rfl rfl hd_X1_feeOf ⟨by rw [hR]; exact Nat.le_of_ble_eq_true rfl, by rw [hR]; exact Nat.le_of_ble_eq_true rfl⟩) (zPV hPc hK hDc (va_recv (q := (RX1, TX1, 5)) hK hP (ci := 1) (q0 := 1) rfl rfl)) rfl rfl hl.1 rfl (lv_room (Nat.le_of_ble_eq_true rfl)) dX10_paint_34 ⟨Nat.zero_le _, Nat.zero_le _⟩) hS (fun q _ h => hFc q h) hFc (fun v34 u34 t H locs ht hvm hw hB hz1 hk1 hS9 => ?_)
      replace hP := zkeep hP hk1
      replace hS := hS9
      clear hPc hDc hFc hk1 hz1 hvm hS9
      have f34_0 : (v34 = fp (4 * p0.toInt.toNat + 1)) := hw
      have F34 := f34_0
      refine lv_icmp_ge (tgt := 46) hx hb dX10_paint_37 (by decide) (fun c37 => ?_) (fun c37 => ?_)
      · have c37 : v34.toInt ≤ gpu.toInt := z3 rfl rfl c37
        refine lv_aload_n hx hb dX10_paint_46 rfl (lv_at hl 0 rfl) ?_
        refine va_get (D := (dC, dI)) (ci := 10) (v := .ref g0) (C := RX10) (T := TX10) (N := 17) hx hb hts iX10 hown hK hP 0 rfl rfl 6 (by decide) (hts _ qw362) (fun _ h9 => h9) rfl dX10_paint_47 ?_
        refine va_get (D := (dC, dI)) (ci := 7) (v := .int gpn) (C := RX7) (T := TX7) (N := 9) hx hb hts iX7 hown hK hP 4 rfl rfl 3 (by decide) (hts _ qw229) (fun _ h9 => h9) rfl dX10_paint_50 ?_
        refine lv_bipush (v := 20) hx hb dX10_paint_53 (by decide) ?_
        refine lv_icmp_lt (tgt := 64) hx hb dX10_paint_55 (by decide) (fun c55 => ?_) (fun c55 => ?_)
        · have c55 : gpn.toInt < 20 := z1 rfl (by decide) c55
          refine lv_aload_n hx hb dX10_paint_64 rfl (lv_at hl 0 rfl) ?_
          refine va_get (D := (dC, dI)) (ci := 10) (v := .ref ac) (C := RX10) (T := TX10) (N := 17) hx hb hts iX10 hown hK hP 0 rfl rfl 8 (by decide) (hts _ qw364) (fun _ h9 => h9) rfl dX10_paint_65 ?_
          refine lv_aload_n hx hb dX10_paint_68 rfl (lv_at hl 0 rfl) ?_
          refine va_get (D := (dC, dI)) (ci := 10) (v := .ref g0) (C := RX10) (T := TX10) (N := 17) hx hb hts iX10 hown hK hP 0 rfl rfl 6 (by decide) (hts _ qw362) (fun _ h9 => h9) rfl dX10_paint_69 ?_
          obtain ⟨hPc, hDc, hFc⟩ := zc3 (wc := [(ac, .inr (0, [.ref aW, .int pl, .int cn])), (aW, .inl (cI, 680, .inl fR)), (g0, .inr (7, [.ref gY, .ref gF, .ref gP, .int gpn, .int glt, .int gsh, .int gwd, .int gpu, .int gmo])), (gY, .inl (cI, 6, .inl gfY)), (gF, .inl (cI, 5, .inl gfF))]) hP hD hS hA [8, 9, 4, 5, 6] (by decide +kernel) rfl
          refine va_callv (va_runV (As := [.ref g0]) (rest := []) ⟨hx, hb, hml, hown, hts⟩ (g_X0_keep l dC dI cI cJ ac g0 aW pl cn fR gY gF gP gpn glt gsh gwd gpu gmo gfY gfF H.size n_cn n_gpn y_gwd n_pl ci_fR_zRw) (cwV 1 hts (zgV qw688 qw689 qw690 qw104 qw691) rfl rfl rfl hd_X0_keep ⟨by rw [hR]; exact Nat.le_of_ble_eq_true rfl, by rw [hR]; exact Nat.le_of_ble_eq_true rfl⟩) (zPV hPc hK hDc (va_recv (q := (RX0, TX0, 3)) hK hP (ci := 0) (q0 := 8) rfl rfl)) rfl rfl hl.1 rfl (lv_room (Nat.le_of_ble_eq_true rfl)) dX10_paint_72 ⟨Nat.zero_le _, Nat.zero_le _⟩) hS (fun q _ h => hFc q h) hFc (fun u72 t H locs ht hvm hw hB hz1 hk1 hS9 => ?_)
          obtain ⟨u72_0, u72_1, u72_2⟩ := u72
          obtain ⟨hP9, hD9⟩ := zj2 (wX := [(h0, .inr (10, [.ref tp, h0_courtReader, h0_lawReader, h0_draft, .ref aC, h0_laws, .ref g0, .ref k0, .ref ac, .ref sd, .ref mi, .ref dw, .ref rf, .int lc, .int lh, .int br, .int hi])), (aC, .inr (1, [.ref aR, .ref aB, .ref aP, .int nb, .int np])), (aB, .inl (cI, 24, .inl fb)), (aP, .inl (cI, 20, .inl fp)), (g0, .inr (7, [.ref gY, .ref gF, .ref gP, .int gpn, .int glt, .int gsh, .int gwd, .int gpu, .int gmo])), (gY, .inl (cI, 6, .inl gfY)), (gF, .inl (cI, 5, .inl gfF)), (gP, .inl (cI, 80, .inl gfP)), (ac, .inr (0, [.ref aW, .int u72_0, .int u72_1])), (aW, .inl (cI, 680, .inl u72_2)), (sd, .inr (8, [.ref w1, .ref w2, .ref aC, .ref g0, .ref aL, .ref aK, .null])), (rf, .inl (cI, 5, .inl frf))]) hP hD hk1 hFc ht hB [8, 9, 4, 5, 6] [(false, 0), (false, 1), (false, 2), (false, 3), (true, 2), (true, 3), (true, 4), (false, 7), (true, 0), (true, 1), (false, 10), (false, 11)] rfl (by decide +kernel) (by decide +kernel) rfl
          clear hP hD hS hPc hDc hFc hB hk1 hz1 hvm
          have hP := hP9
          have hD := hD9
          have hS := hS9
          clear hP9 hD9 hS9
          obtain ⟨f72_0, f72_1, f72_2, f72_3, f72_4, f72_5⟩ : (0 ≤ u72_0.toInt) ∧ (u72_0.toInt ≤ 39) ∧ (1 ≤ u72_1.toInt) ∧ (u72_1.toInt ≤ 40) ∧ (∀ (nbI npI : Int) (S : zS) (Ks : List zS) (P : Nat → Int32), nbI ≤ 6 → npI ≤ 5 → zSc nbI npI S gfY gfF P gpn glt gsh gwd gpu gmo → zKc nbI npI Ks P fR pl cn → zKc nbI npI (sKeep S Ks) P u72_2 u72_0 u72_1) ∧ (zRw u72_2) := hw
          have F72 := f72_4
          refine lv_aload_n hx hb dX10_paint_75 rfl (lv_at hl 0 rfl) ?_
          refine lv_iload_n hx hb dX10_paint_76 rfl (lv_at hl 1 rfl) ?_
          refine lv_iload_n hx hb dX10_paint_77 rfl (lv_at hl 2 rfl) ?_
          obtain ⟨hPc, hDc, hFc⟩ := zc3 (wc := [(h0, .inr (10, [.ref tp, h0_courtReader, h0_lawReader, h0_draft, .ref aC, h0_laws, .ref g0, .ref k0, .ref ac, .ref sd, .ref mi, .ref dw, .ref rf, .int lc, .int lh, .int br, .int hi])), (aC, .inr (1, [.ref aR, .ref aB, .ref aP, .int nb, .int np])), (aB, .inl (cI, 24, .inl fb)), (aP, .inl (cI, 20, .inl fp)), (g0, .inr (7, [.ref gY, .ref gF, .ref gP, .int gpn, .int glt, .int gsh, .int gwd, .int gpu, .int gmo])), (gY, .inl (cI, 6, .inl gfY)), (gF, .inl (cI, 5, .inl gfF)), (gP, .inl (cI, 80, .inl gfP)), (sd, .inr (8, [.ref w1, .ref w2, .ref aC, .ref g0, .ref aL, .ref aK, .null]))]) hP hD hS hA [0, 1, 2, 3, 4, 5, 6, 7, 10] (by decide +kernel) rfl
          refine va_calli (va_runV (As := [.int p0, .int p1]) (rest := []) ⟨hx, hb, hml, hown, hts⟩ (g_X10_paintNow_n l dC dI cI cJ h0 p0 p1 tp h0_courtReader h0_lawReader h0_draft aC h0_laws g0 k0 ac sd mi dw rf lc lh br hi aR aB aP nb np fb fp gY gF gP gpn glt gsh gwd gpu gmo gfY gfF gfP w1 w2 aL aK H.size (by omega) y_gwd y_hi y_lc n_nb n_np (by omega) (by omega) ci_gfP_zPo) (cwV 2 hts (zgV qw698 qw700 qw14 qw98 qw701) rfl rfl rfl hd_X10_paintNow ⟨by rw [hR]; exact Nat.le_of_ble_eq_true rfl, by rw [hR]; exact Nat.le_of_ble_eq_true rfl⟩) (zPV hPc hK hDc (va_recv (q := (RX10, TX10, 17)) hK hP (ci := 10) (q0 := 0) rfl rfl)) rfl rfl hl.1 rfl (lv_room (Nat.le_of_ble_eq_true rfl)) dX10_paint_78 ⟨Nat.zero_le _, Nat.zero_le _⟩) hS (fun q _ h => hFc q h) hFc (fun v78 u78 t H locs ht hvm hw hB hz1 hk1 hS9 => ?_)
          obtain ⟨u78_0, u78_1, u78_2⟩ := u78
          obtain ⟨hP9, hD9⟩ := zj2 (wX := [(h0, .inr (10, [.ref tp, h0_courtReader, h0_lawReader, h0_draft, .ref aC, h0_laws, .ref g0, .ref k0, .ref ac, .ref sd, .ref mi, .ref dw, .ref rf, .int lc, .int lh, .int br, .int hi])), (aC, .inr (1, [.ref aR, .ref aB, .ref aP, .int nb, .int np])), (aB, .inl (cI, 24, .inl fb)), (aP, .inl (cI, 20, .inl fp)), (g0, .inr (7, [.ref gY, .ref gF, .ref gP, .int u78_0, .int glt, .int gsh, .int gwd, .int u78_1, .int gmo])), (gY, .inl (cI, 6, .inl gfY)), (gF, .inl (cI, 5, .inl gfF)), (gP, .inl (cI, 80, .inl u78_2)), (ac, .inr (0, [.ref aW, .int u72_0, .int u72_1])), (aW, .inl (cI, 680, .inl u72_2)), (sd, .inr (8, [.ref w1, .ref w2, .ref aC, .ref g0, .ref aL, .ref aK, .null])), (rf, .inl (cI, 5, .inl frf))]) hP hD hk1 hFc ht hB [0, 1, 2, 3, 4, 5, 6, 7, 10] [(true, 0), (true, 1), (true, 2), (true, 3), (true, 4), (true, 5), (true, 6), (true, 7), (false, 8), (false, 9), (true, 8), (false, 11)] rfl (by decide +kernel) (by decide +kernel) rfl
          clear hP hD hS hPc hDc hFc hB hk1 hz1 hvm
          have hP := hP9
          have hD := hD9
          have hS := hS9
          clear hP9 hD9 hS9
          obtain ⟨f78_0, f78_1, f78_2, f78_3, f78_4, f78_5⟩ : (0 ≤ v78.toInt) ∧ (v78.toInt ≤ 9) ∧ (1 ≤ u78_0.toInt) ∧ (u78_0.toInt ≤ 20) ∧ (∀ (kc : zK3) (kT : zT) (q_fr : Nat → Int32), zCn q_fr fb fp nb.toInt np.toInt kc → zKo nb.toInt np.toInt kc kT → zSc nb.toInt np.toInt kT.1 gfY gfF gfP gpn glt gsh gwd gpu gmo → (0 ≤ p0.toInt ∧ p0.toInt < np.toInt) → (0 ≤ p1.toInt ∧ p1.toInt < nb.toInt) → v78 = sV_pnt kc kT.1 none p0 p1 ∧ zSc nb.toInt np.toInt (sN_pnt kc kT.1 none p0 p1) gfY gfF u78_2 u78_0 glt gsh gwd u78_1 gmo ∧ ∀ i : Nat, (i : Int) < 4 * gpn.toInt → u78_2 i = gfP i) ∧ (zPo u78_2) := hw
          have F78 := f78_4
          rw [hQ]
          exact W.iret (v := v78) hx hb hr (fun t ht hW => ⟨⟨v78, (u78_0, u78_1, u78_2, u72_0, u72_1, u72_2, frf), rfl, ⟨by (try dsimp only); omega, by (try dsimp only); omega, by (try dsimp only); omega, by (try dsimp only); omega, by (try dsimp only); omega, by (try dsimp only); omega, by (try dsimp only); omega, by (try dsimp only); omega, by (try dsimp only); exact fun kc kT q_fr hc hb h => by have zp := congrArg Int32.toInt (zSc_pu h.1); have zn := congrArg Int32.toInt (zSc_pn h.1); have y34 : v34 = kc.2.2 (4 * p0.toInt.toNat + 1) := F34.trans (hc.2.2 _ (by omega)); have z := F78 kc kT _ hc hb h.1 (by omega) (by omega); exact zActA (by unfold sW_pnt; exact (if_neg (by omega)).trans ((if_neg (by rw [← y34]; omega)).trans (if_neg (by omega)))) hb.2 h (F72 _ _ kT.1 kT.2.1 _ hb.2.1.2 hb.2.2.1.2 h.1 h.2.1) z.2.1 z.2.2 z.1, f72_5, f78_5⟩, ⟨by rw [ht]; exact hP, hD⟩⟩, hS.F ht⟩) hS.2.2 dX10_paint_81
        · have c55 : 20 ≤ gpn.toInt := z2 rfl (by decide) c55
          refine lv_aload_n hx hb dX10_paint_58 rfl (lv_at hl 0 rfl) ?_
          refine lv_iconst (v := 4) hx hb dX10_paint_59 (by decide) ?_
          obtain ⟨hPc, hDc, hFc⟩ := zc3 (wc := [(h0, .inr (10, [.ref tp, h0_courtReader, h0_lawReader, h0_draft, .ref aC, h0_laws, .ref g0, .ref k0, .ref ac, .ref sd, .ref mi, .ref dw, .ref rf, .int lc, .int lh, .int br, .int hi])), (rf, .inl (cI, 5, .inl frf))]) hP hD hS hA [0, 11] (by decide +kernel) rfl
          refine va_calli (va_runV (As := [.int 4]) (rest := []) ⟨hx, hb, hml, hown, hts⟩ (g_X10_refuse l dC dI cI cJ h0 4 tp h0_courtReader h0_lawReader h0_draft aC h0_laws g0 k0 ac sd mi dw rf lc lh br hi frf H.size y_hi y_lc (by decide)) (cwV 1 hts (zgV qw684 qw686 qw13 qw98 qw687) rfl rfl rfl hd_X10_refuse ⟨by rw [hR]; exact Nat.le_of_ble_eq_true rfl, by rw [hR]; exact Nat.le_of_ble_eq_true rfl⟩) (zPV hPc hK hDc (va_recv (q := (RX10, TX10, 17)) hK hP (ci := 10) (q0 := 0) rfl rfl)) rfl rfl hl.1 rfl (lv_room (Nat.le_of_ble_eq_true rfl)) dX10_paint_60 ⟨Nat.zero_le _, Nat.zero_le _⟩) hS (fun q _ h => hFc q h) hFc (fun v60 u60 t H locs ht hvm hw hB hz1 hk1 hS9 => ?_)
          obtain ⟨u60_0, rfl⟩ : ∃ z, z = u60 := ⟨_, rfl⟩
          obtain ⟨hP9, hD9⟩ := zj2 (wX := [(h0, .inr (10, [.ref tp, h0_courtReader, h0_lawReader, h0_draft, .ref aC, h0_laws, .ref g0, .ref k0, .ref ac, .ref sd, .ref mi, .ref dw, .ref rf, .int lc, .int lh, .int br, .int hi])), (aC, .inr (1, [.ref aR, .ref aB, .ref aP, .int nb, .int np])), (aB, .inl (cI, 24, .inl fb)), (aP, .inl (cI, 20, .inl fp)), (g0, .inr (7, [.ref gY, .ref gF, .ref gP, .int gpn, .int glt, .int gsh, .int gwd, .int gpu, .int gmo])), (gY, .inl (cI, 6, .inl gfY)), (gF, .inl (cI, 5, .inl gfF)), (gP, .inl (cI, 80, .inl gfP)), (ac, .inr (0, [.ref aW, .int pl, .int cn])), (aW, .inl (cI, 680, .inl fR)), (sd, .inr (8, [.ref w1, .ref w2, .ref aC, .ref g0, .ref aL, .ref aK, .null])), (rf, .inl (cI, 5, .inl u60_0))]) hP hD hk1 hFc ht hB [0, 11] [(true, 0), (false, 1), (false, 2), (false, 3), (false, 4), (false, 5), (false, 6), (false, 7), (false, 8), (false, 9), (false, 10), (true, 1)] rfl (by decide +kernel) (by decide +kernel) rfl
          clear hP hD hS hPc hDc hFc hB hk1 hz1 hvm
          have hP := hP9
          have hD := hD9
          have hS := hS9
          clear hP9 hD9 hS9
          obtain ⟨hwc, hw⟩ := hw
          have hwc : v60 = (-1) := hwc
          subst hwc
          have zn60_4 : (4 : Int32).toInt = 4 := by decide
          have f60_0 : (zRf frf u60_0 (4 : Int32).toInt) := hw
          have F60 := f60_0
          have zr0 : ((-1) : Int32).toInt = (-1) := by decide
          rw [hQ]
          exact W.iret (v := ((-1))) hx hb hr (fun t ht hW => ⟨⟨(-1), (gpn, gpu, gfP, pl, cn, fR, u60_0), rfl, ⟨by (try dsimp only); omega, by (try dsimp only); omega, by (try dsimp only); omega, by (try dsimp only); omega, by (try dsimp only); omega, by (try dsimp only); omega, by (try dsimp only); omega, by (try dsimp only); omega, by (try dsimp only); exact fun kc kT q_fr hc hb h => by have zp := congrArg Int32.toInt (zSc_pu h.1); have zn := congrArg Int32.toInt (zSc_pn h.1); have y34 : v34 = kc.2.2 (4 * p0.toInt.toNat + 1) := F34.trans (hc.2.2 _ (by omega)); exact zActR (x := (4 : Int32).toInt) (by unfold sW_pnt; exact (if_neg (by omega)).trans ((if_neg (by rw [← y34]; omega)).trans ((if_pos (by omega)).trans (by omega)))) (by omega) h F60, ci_fR_zRw, ci_gfP_zPo⟩, ⟨by rw [ht]; exact hP, hD⟩⟩, hS.F ht⟩) hS.2.2 dX10_paint_63
      · have c37 : gpu.toInt < v34.toInt := z4 rfl rfl c37
        refine lv_aload_n hx hb dX10_paint_40 rfl (lv_at hl 0 rfl) ?_
        refine lv_iconst (v := 2) hx hb dX10_paint_41 (by decide) ?_
        obtain ⟨hPc, hDc, hFc⟩ := zc3 (wc := [(h0, .inr (10, [.ref tp, h0_courtReader, h0_lawReader, h0_draft, .ref aC, h0_laws, .ref g0, .ref k0, .ref ac, .ref sd, .ref mi, .ref dw, .ref rf, .int lc, .int lh, .int br, .int hi])), (rf, .inl (cI, 5, .inl frf))]) hP hD hS hA [0, 11] (by decide +kernel) rfl
        refine va_calli (va_runV (As := [.int 2]) (rest := []) ⟨hx, hb, hml, hown, hts⟩ (g_X10_refuse l dC dI cI cJ h0 2 tp h0_courtReader h0_lawReader h0_draft aC h0_laws g0 k0 ac sd mi dw rf lc lh br hi frf H.size y_hi y_lc (by decide)) (cwV 1 hts (zgV qw684 qw686 qw13 qw98 qw687) rfl rfl rfl hd_X10_refuse ⟨by rw [hR]; exact Nat.le_of_ble_eq_true rfl, by rw [hR]; exact Nat.le_of_ble_eq_true rfl⟩) (zPV hPc hK hDc (va_recv (q := (RX10, TX10, 17)) hK hP (ci := 10) (q0 := 0) rfl rfl)) rfl rfl hl.1 rfl (lv_room (Nat.le_of_ble_eq_true rfl)) dX10_paint_42 ⟨Nat.zero_le _, Nat.zero_le _⟩) hS (fun q _ h => hFc q h) hFc (fun v42 u42 t H locs ht hvm hw hB hz1 hk1 hS9 => ?_)
        obtain ⟨u42_0, rfl⟩ : ∃ z, z = u42 := ⟨_, rfl⟩
        obtain ⟨hP9, hD9⟩ := zj2 (wX := [(h0, .inr (10, [.ref tp, h0_courtReader, h0_lawReader, h0_draft, .ref aC, h0_laws, .ref g0, .ref k0, .ref ac, .ref sd, .ref mi, .ref dw, .ref rf, .int lc, .int lh, .int br, .int hi])), (aC, .inr (1, [.ref aR, .ref aB, .ref aP, .int nb, .int np])), (aB, .inl (cI, 24, .inl fb)), (aP, .inl (cI, 20, .inl fp)), (g0, .inr (7, [.ref gY, .ref gF, .ref gP, .int gpn, .int glt, .int gsh, .int gwd, .int gpu, .int gmo])), (gY, .inl (cI, 6, .inl gfY)), (gF, .inl (cI, 5, .inl gfF)), (gP, .inl (cI, 80, .inl gfP)), (ac, .inr (0, [.ref aW, .int pl, .int cn])), (aW, .inl (cI, 680, .inl fR)), (sd, .inr (8, [.ref w1, .ref w2, .ref aC, .ref g0, .ref aL, .ref aK, .null])), (rf, .inl (cI, 5, .inl u42_0))]) hP hD hk1 hFc ht hB [0, 11] [(true, 0), (false, 1), (false, 2), (false, 3), (false, 4), (false, 5), (false, 6), (false, 7), (false, 8), (false, 9), (false, 10), (true, 1)] rfl (by decide +kernel) (by decide +kernel) rfl
        clear hP hD hS hPc hDc hFc hB hk1 hz1 hvm
        have hP := hP9
        have hD := hD9
        have hS := hS9
        clear hP9 hD9 hS9
        obtain ⟨hwc, hw⟩ := hw
        have hwc : v42 = (-1) := hwc
        subst hwc
        have zn42_2 : (2 : Int32).toInt = 2 := by decide
        have f42_0 : (zRf frf u42_0 (2 : Int32).toInt) := hw
        have F42 := f42_0
        have zr0 : ((-1) : Int32).toInt = (-1) := by decide
        rw [hQ]
        exact W.iret (v := ((-1))) hx hb hr (fun t ht hW => ⟨⟨(-1), (gpn, gpu, gfP, pl, cn, fR, u42_0), rfl, ⟨by (try dsimp only); omega, by (try dsimp only); omega, by (try dsimp only); omega, by (try dsimp only); omega, by (try dsimp only); omega, by (try dsimp only); omega, by (try dsimp only); omega, by (try dsimp only); omega, by (try dsimp only); exact fun kc kT q_fr hc hb h => by have zp := congrArg Int32.toInt (zSc_pu h.1); have zn := congrArg Int32.toInt (zSc_pn h.1); have y34 : v34 = kc.2.2 (4 * p0.toInt.toNat + 1) := F34.trans (hc.2.2 _ (by omega)); exact zActR (x := (2 : Int32).toInt) (by unfold sW_pnt; exact ((if_neg (by omega)).trans (if_pos (by rw [← y34]; omega))).trans (by omega)) (by omega) h F42, ci_fR_zRw, ci_gfP_zPo⟩, ⟨by rw [ht]; exact hP, hD⟩⟩, hS.F ht⟩) hS.2.2 dX10_paint_45
    · have c13 : v10.toInt = 0 := z5 rfl (by decide) c13
      refine lv_aload_n hx hb dX10_paint_16 rfl (lv_at hl 0 rfl) ?_
      refine lv_iconst (v := 0) hx hb dX10_paint_17 (by decide) ?_
      obtain ⟨hPc, hDc, hFc⟩ := zc3 (wc := [(h0, .inr (10, [.ref tp, h0_courtReader, h0_lawReader, h0_draft, .ref aC, h0_laws, .ref g0, .ref k0, .ref ac, .ref sd, .ref mi, .ref dw, .ref rf, .int lc, .int lh, .int br, .int hi])), (rf, .inl (cI, 5, .inl frf))]) hP hD hS hA [0, 11] (by decide +kernel) rfl
      refine va_calli (va_runV (As := [.int 0]) (rest := []) ⟨hx, hb, hml, hown, hts⟩ (g_X10_refuse l dC dI cI cJ h0 0 tp h0_courtReader h0_lawReader h0_draft aC h0_laws g0 k0 ac sd mi dw rf lc lh br hi frf H.size y_hi y_lc (by decide)) (cwV 1 hts (zgV qw684 qw686 qw13 qw98 qw687) rfl rfl rfl hd_X10_refuse ⟨by rw [hR]; exact Nat.le_of_ble_eq_true rfl, by rw [hR]; exact Nat.le_of_ble_eq_true rfl⟩) (zPV hPc hK hDc (va_recv (q := (RX10, TX10, 17)) hK hP (ci := 10) (q0 := 0) rfl rfl)) rfl rfl hl.1 rfl (lv_room (Nat.le_of_ble_eq_true rfl)) dX10_paint_18 ⟨Nat.zero_le _, Nat.zero_le _⟩) hS (fun q _ h => hFc q h) hFc (fun v18 u18 t H locs ht hvm hw hB hz1 hk1 hS9 => ?_)
      obtain ⟨u18_0, rfl⟩ : ∃ z, z = u18 := ⟨_, rfl⟩
      obtain ⟨hP9, hD9⟩ := zj2 (wX := [(h0, .inr (10, [.ref tp, h0_courtReader, h0_lawReader, h0_draft, .ref aC, h0_laws, .ref g0, .ref k0, .ref ac, .ref sd, .ref mi, .ref dw, .ref rf, .int lc, .int lh, .int br, .int hi])), (aC, .inr (1, [.ref aR, .ref aB, .ref aP, .int nb, .int np])), (aB, .inl (cI, 24, .inl fb)), (aP, .inl (cI, 20, .inl fp)), (g0, .inr (7, [.ref gY, .ref gF, .ref gP, .int gpn, .int glt, .int gsh, .int gwd, .int gpu, .int gmo])), (gY, .inl (cI, 6, .inl gfY)), (gF, .inl (cI, 5, .inl gfF)), (gP, .inl (cI, 80, .inl gfP)), (ac, .inr (0, [.ref aW, .int pl, .int cn])), (aW, .inl (cI, 680, .inl fR)), (sd, .inr (8, [.ref w1, .ref w2, .ref aC, .ref g0, .ref aL, .ref aK, .null])), (rf, .inl (cI, 5, .inl u18_0))]) hP hD hk1 hFc ht hB [0, 11] [(true, 0), (false, 1), (false, 2), (false, 3), (false, 4), (false, 5), (false, 6), (false, 7), (false, 8), (false, 9), (false, 10), (true, 1)] rfl (by decide +kernel) (by decide +kernel) rfl
      clear hP hD hS hPc hDc hFc hB hk1 hz1 hvm
      have hP := hP9
      have hD := hD9
      have hS := hS9
      clear hP9 hD9 hS9
      obtain ⟨hwc, hw⟩ := hw
      have hwc : v18 = (-1) := hwc
      subst hwc
      have zn18_0 : (0 : Int32).toInt = 0 := by decide
      have f18_0 : (zRf frf u18_0 (0 : Int32).toInt) := hw
      have F18 := f18_0
      have zr0 : ((-1) : Int32).toInt = (-1) := by decide
      rw [hQ]
      exact W.iret (v := ((-1))) hx hb hr (fun t ht hW => ⟨⟨(-1), (gpn, gpu, gfP, pl, cn, fR, u18_0), rfl, ⟨by (try dsimp only); omega, by (try dsimp only); omega, by (try dsimp only); omega, by (try dsimp only); omega, by (try dsimp only); omega, by (try dsimp only); omega, by (try dsimp only); omega, by (try dsimp only); omega, by (try dsimp only); exact fun kc kT q_fr hc hb h => zActR (x := (0 : Int32).toInt) (by unfold sW_pnt; exact (if_pos (by omega)).trans (by omega)) (by omega) h F18, ci_fR_zRw, ci_gfP_zPo⟩, ⟨by rw [ht]; exact hP, hD⟩⟩, hS.F ht⟩) hS.2.2 dX10_paint_21
set_option maxHeartbeats 4000000 in
set_option maxRecDepth 100000 in
theorem g_X10_paint_l (l : Launch) (dC : Nat → ClassId) (dI : Nat → Nat → Nat) (cI cJ : ClassId) (h0 : Nat) (p0 : Int32) (p1 : Int32) (tp : Nat) (h0_courtReader : Value) (h0_lawReader : Value) (h0_draft : Value) (aC : Nat) (h0_laws : Value) (g0 : Nat) (k0 : Nat) (ac : Nat) (sd : Nat) (mi : Nat) (dw : Nat) (rf : Nat) (lc : Int32) (lh : Int32) (br : Int32) (hi : Int32) (aR : Nat) (aB : Nat) (aP : Nat) (nb : Int32) (np : Int32) (fb : Nat → Int32) (fp : Nat → Int32) (gY : Nat) (gF : Nat) (gP : Nat) (gpn : Int32) (glt : Int32) (gsh : Int32) (gwd : Int32) (gpu : Int32) (gmo : Int32) (gfY : Nat → Int32) (gfF : Nat → Int32) (gfP : Nat → Int32) (aW : Nat) (pl : Int32) (cn : Int32) (fR : Nat → Int32) (w1 : Nat) (w2 : Nat) (aL : Nat) (aK : Nat) (lw : Nat) (fL : Nat → Int32) (fK : Nat → Int32) (lS : Nat) (fS : Nat → Int32) (lk : Nat) (frf : Nat → Int32) (sz : Nat) (n_cn : 0 ≤ cn.toInt ∧ cn.toInt ≤ 40) (n_gpn : 0 ≤ gpn.toInt ∧ gpn.toInt ≤ 20) (n_gwd : (-1) ≤ gwd.toInt ∧ gwd.toInt ≤ 5) (n_hi : 0 ≤ hi.toInt ∧ hi.toInt ≤ 1) (n_lc : 0 ≤ lc.toInt ∧ lc.toInt ≤ 4) (n_nb : 0 ≤ nb.toInt ∧ nb.toInt ≤ 6) (n_np : 0 ≤ np.toInt ∧ np.toInt ≤ 5) (n_pl : 0 ≤ pl.toInt ∧ pl.toInt ≤ 39) (hlk : lk ≤ 241) (ci_fR_zRw : zRw fR) (ci_fS_zSt : zSt fS) (ci_gfP_zPo : zPo gfP)  : Met l yX10_paint (.code yX10_paint cX10_paint 3 (some .int) :: wA) ({ frames := 5, cells := 0, slots := 0, locals := 126 }) (zP (dC, dI) [(cI, .int), (cJ, .long)] [.ref h0, .int p0, .int p1] sz [(h0, .inr (10, [.ref tp, h0_courtReader, h0_lawReader, h0_draft, .ref aC, h0_laws, .ref g0, .ref k0, .ref ac, .ref sd, .ref mi, .ref dw, .ref rf, .int lc, .int lh, .int br, .int hi])), (aC, .inr (1, [.ref aR, .ref aB, .ref aP, .int nb, .int np])), (aB, .inl (cI, 24, .inl fb)), (aP, .inl (cI, 20, .inl fp)), (g0, .inr (7, [.ref gY, .ref gF, .ref gP, .int gpn, .int glt, .int gsh, .int gwd, .int gpu, .int gmo])), (gY, .inl (cI, 6, .inl gfY)), (gF, .inl (cI, 5, .inl gfF)), (gP, .inl (cI, 80, .inl gfP)), (ac, .inr (0, [.ref aW, .int pl, .int cn])), (aW, .inl (cI, 680, .inl fR)), (sd, .inr (8, [.ref w1, .ref w2, .ref aC, .ref g0, .ref aL, .ref aK, .ref lw])), (aL, .inl (cI, 6, .inl fL)), (aK, .inl (cI, 32, .inl fK)), (lw, .inr (4, [.ref lS])), (lS, .inl (cI, lk, .inl fS)), (rf, .inl (cI, 5, .inl frf))]) (va_Qi (fun (r : Int32) (u : Int32 × Int32 × (Nat → Int32) × Int32 × Int32 × (Nat → Int32) × (Nat → Int32) × (Nat → Int32) × (Nat → Int32)) => ((-1) ≤ r.toInt) ∧ (r.toInt ≤ 9) ∧ (0 ≤ u.1.toInt) ∧ (u.1.toInt ≤ 20) ∧ (0 ≤ u.2.2.2.1.toInt) ∧ (u.2.2.2.1.toInt ≤ 39) ∧ (0 ≤ u.2.2.2.2.1.toInt) ∧ (u.2.2.2.2.1.toInt ≤ 40) ∧ (∀ (kc : zK3) (kT : zT) (q_fr : Nat → Int32) (kt : (Int → Int) × Int), zCn q_fr fb fp nb.toInt np.toInt kc → zKo nb.toInt np.toInt kc kT → zTc nb.toInt np.toInt kT gfY gfF gfP gpn glt gsh gwd gpu gmo fR pl cn frf → zLwC fS lk kt → r = sA (sW_pnt nb.toInt np.toInt kc kT.1 p0 p1) (sV_pnt kc kT.1 (some kt) p0 p1) ∧ zTc nb.toInt np.toInt (sDo (sW_pnt nb.toInt np.toInt kc kT.1 p0 p1) kT (sN_pnt kc kT.1 (some kt) p0 p1)) gfY gfF u.2.2.1 u.1 glt gsh gwd u.2.1 gmo u.2.2.2.2.2.1 u.2.2.2.1 u.2.2.2.2.1 u.2.2.2.2.2.2.2.2) ∧ (zRw u.2.2.2.2.2.1) ∧ (zPo u.2.2.1)) (fun (u : Int32 × Int32 × (Nat → Int32) × Int32 × Int32 × (Nat → Int32) × (Nat → Int32) × (Nat → Int32) × (Nat → Int32)) (t : State) => va_P (dC, dI) vwCl [(h0, .inr (10, [.ref tp, h0_courtReader, h0_lawReader, h0_draft, .ref aC, h0_laws, .ref g0, .ref k0, .ref ac, .ref sd, .ref mi, .ref dw, .ref rf, .int lc, .int lh, .int br, .int hi])), (aC, .inr (1, [.ref aR, .ref aB, .ref aP, .int nb, .int np])), (aB, .inl (cI, 24, .inl fb)), (aP, .inl (cI, 20, .inl fp)), (g0, .inr (7, [.ref gY, .ref gF, .ref gP, .int u.1, .int glt, .int gsh, .int gwd, .int u.2.1, .int gmo])), (gY, .inl (cI, 6, .inl gfY)), (gF, .inl (cI, 5, .inl gfF)), (gP, .inl (cI, 80, .inl u.2.2.1)), (ac, .inr (0, [.ref aW, .int u.2.2.2.1, .int u.2.2.2.2.1])), (aW, .inl (cI, 680, .inl u.2.2.2.2.2.1)), (sd, .inr (8, [.ref w1, .ref w2, .ref aC, .ref g0, .ref aL, .ref aK, .ref lw])), (aL, .inl (cI, 6, .inl u.2.2.2.2.2.2.1)), (aK, .inl (cI, 32, .inl u.2.2.2.2.2.2.2.1)), (lw, .inr (4, [.ref lS])), (lS, .inl (cI, lk, .inl fS)), (rf, .inl (cI, 5, .inl u.2.2.2.2.2.2.2.2))] t.heap ∧ va_D (va_A [(h0, .inr (10, [.ref tp, h0_courtReader, h0_lawReader, h0_draft, .ref aC, h0_laws, .ref g0, .ref k0, .ref ac, .ref sd, .ref mi, .ref dw, .ref rf, .int lc, .int lh, .int br, .int hi])), (aC, .inr (1, [.ref aR, .ref aB, .ref aP, .int nb, .int np])), (aB, .inl (cI, 24, .inl fb)), (aP, .inl (cI, 20, .inl fp)), (g0, .inr (7, [.ref gY, .ref gF, .ref gP, .int gpn, .int glt, .int gsh, .int gwd, .int gpu, .int gmo])), (gY, .inl (cI, 6, .inl gfY)), (gF, .inl (cI, 5, .inl gfF)), (gP, .inl (cI, 80, .inl gfP)), (ac, .inr (0, [.ref aW, .int pl, .int cn])), (aW, .inl (cI, 680, .inl fR)), (sd, .inr (8, [.ref w1, .ref w2, .ref aC, .ref g0, .ref aL, .ref aK, .ref lw])), (aL, .inl (cI, 6, .inl fL)), (aK, .inl (cI, 32, .inl fK)), (lw, .inr (4, [.ref lS])), (lS, .inl (cI, lk, .inl fS)), (rf, .inl (cI, 5, .inl frf))] sz) [(h0, .inr (10, [.ref tp, h0_courtReader, h0_lawReader, h0_draft, .ref aC, h0_laws, .ref g0, .ref k0, .ref ac, .ref sd, .ref mi, .ref dw, .ref rf, .int lc, .int lh, .int br, .int hi])), (aC, .inr (1, [.ref aR, .ref aB, .ref aP, .int nb, .int np])), (aB, .inl (cI, 24, .inl fb)), (aP, .inl (cI, 20, .inl fp)), (g0, .inr (7, [.ref gY, .ref gF, .ref gP, .int u.1, .int glt, .int gsh, .int gwd, .int u.2.1, .int gmo])), (gY, .inl (cI, 6, .inl gfY)), (gF, .inl (cI, 5, .inl gfF)), (gP, .inl (cI, 80, .inl u.2.2.1)), (ac, .inr (0, [.ref aW, .int u.2.2.2.1, .int u.2.2.2.2.1])), (aW, .inl (cI, 680, .inl u.2.2.2.2.2.1)), (sd, .inr (8, [.ref w1, .ref w2, .ref aC, .ref g0, .ref aL, .ref aK, .ref lw])), (aL, .inl (cI, 6, .inl u.2.2.2.2.2.2.1)), (aK, .inl (cI, 32, .inl u.2.2.2.2.2.2.2.1)), (lw, .inr (4, [.ref lS])), (lS, .inl (cI, lk, .inl fS)), (rf, .inl (cI, 5, .inl u.2.2.2.2.2.2.2.2))]) (va_A [(h0, .inr (10, [.ref tp, h0_courtReader, h0_lawReader, h0_draft, .ref aC, h0_laws, .ref g0, .ref k0, .ref ac, .ref sd, .ref mi, .ref dw, .ref rf, .int lc, .int lh, .int br, .int hi])), (aC, .inr (1, [.ref aR, .ref aB, .ref aP, .int nb, .int np])), (aB, .inl (cI, 24, .inl fb)), (aP, .inl (cI, 20, .inl fp)), (g0, .inr (7, [.ref gY, .ref gF, .ref gP, .int gpn, .int glt, .int gsh, .int gwd, .int gpu, .int gmo])), (gY, .inl (cI, 6, .inl gfY)), (gF, .inl (cI, 5, .inl gfF)), (gP, .inl (cI, 80, .inl gfP)), (ac, .inr (0, [.ref aW, .int pl, .int cn])), (aW, .inl (cI, 680, .inl fR)), (sd, .inr (8, [.ref w1, .ref w2, .ref aC, .ref g0, .ref aL, .ref aK, .ref lw])), (aL, .inl (cI, 6, .inl fL)), (aK, .inl (cI, 32, .inl fK)), (lw, .inr (4, [.ref lS])), (lS, .inl (cI, lk, .inl fS)), (rf, .inl (cI, 5, .inl frf))] sz)) 0 0 (va_A [(h0, .inr (10, [.ref tp, h0_courtReader, h0_lawReader, h0_draft, .ref aC, h0_laws, .ref g0, .ref k0, .ref ac, .ref sd, .ref mi, .ref dw, .ref rf, .int lc, .int lh, .int br, .int hi])), (aC, .inr (1, [.ref aR, .ref aB, .ref aP, .int nb, .int np])), (aB, .inl (cI, 24, .inl fb)), (aP, .inl (cI, 20, .inl fp)), (g0, .inr (7, [.ref gY, .ref gF, .ref gP, .int gpn, .int glt, .int gsh, .int gwd, .int gpu, .int gmo])), (gY, .inl (cI, 6, .inl gfY)), (gF, .inl (cI, 5, .inl gfF)), (gP, .inl (cI, 80, .inl gfP)), (ac, .inr (0, [.ref aW, .int pl, .int cn])), (aW, .inl (cI, 680, .inl fR)), (sd, .inr (8, [.ref w1, .ref w2, .ref aC, .ref g0, .ref aL, .ref aK, .ref lw])), (aL, .inl (cI, 6, .inl fL)), (aK, .inl (cI, 32, .inl fK)), (lw, .inr (4, [.ref lS])), (lS, .inl (cI, lk, .inl fS)), (rf, .inl (cI, 5, .inl frf))] sz) := by
  refine Met.ofW (cc := cX10_paint) (maxL := 3) (ret := (some .int)) (by decide) rfl ?_
  intro p e s m args below meth c s₁ B hml hv
  have y_gwd : zHid ((-1) ≤ gwd.toInt ∧ gwd.toInt ≤ 5) := n_gwd
  have y_hi : zHid (0 ≤ hi.toInt ∧ hi.toInt ≤ 1) := n_hi
  have y_lc : zHid (0 ≤ lc.toInt ∧ lc.toInt ≤ 4) := n_lc
  clear n_gwd n_hi n_lc
  obtain ⟨hargs, hsz, hP, hK, hT⟩ := hv
  have hx := B.exec
  have hb := B.bytes
  have hr := B.returns
  have hts : ∀ w ∈ wA, w.before args s = true := fun w h => atoms_spec (ws := .code yX10_paint cX10_paint 3 (some .int) :: wA) B.pre w (List.mem_cons_of_mem _ h)
  have hown : s.vm.findClass RX10 = some m.cls := findClass_of_methodNamed B.named
  have hlocks := B.notSynchronized
  subst hsz
  have hD := hT.self (sz := s.heap.size)
  generalize hAe : va_A [(h0, .inr (10, [.ref tp, h0_courtReader, h0_lawReader, h0_draft, .ref aC, h0_laws, .ref g0, .ref k0, .ref ac, .ref sd, .ref mi, .ref dw, .ref rf, .int lc, .int lh, .int br, .int hi])), (aC, .inr (1, [.ref aR, .ref aB, .ref aP, .int nb, .int np])), (aB, .inl (cI, 24, .inl fb)), (aP, .inl (cI, 20, .inl fp)), (g0, .inr (7, [.ref gY, .ref gF, .ref gP, .int gpn, .int glt, .int gsh, .int gwd, .int gpu, .int gmo])), (gY, .inl (cI, 6, .inl gfY)), (gF, .inl (cI, 5, .inl gfF)), (gP, .inl (cI, 80, .inl gfP)), (ac, .inr (0, [.ref aW, .int pl, .int cn])), (aW, .inl (cI, 680, .inl fR)), (sd, .inr (8, [.ref w1, .ref w2, .ref aC, .ref g0, .ref aL, .ref aK, .ref lw])), (aL, .inl (cI, 6, .inl fL)), (aK, .inl (cI, 32, .inl fK)), (lw, .inr (4, [.ref lS])), (lS, .inl (cI, lk, .inl fS)), (rf, .inl (cI, 5, .inl frf))] s.heap.size = A at hD ⊢
  have hA : ∀ q : Nat, s.heap.size ≤ q → A q := fun q h => by rw [← hAe]; exact Or.inr h
  have hl := lv_entry ([.ref h0, .int p0, .int p1]) (n := 3) (Nat.le_of_ble_eq_true rfl)
  rw [show entryFrame m args 3 = entryFrame m ([.ref h0, .int p0, .int p1] : List Value).toArray 3 by rw [hargs], lg_entry_eq]
  generalize (lg_sl ([.ref h0, .int p0, .int p1]) ++ List.replicate (3 - (lg_sl ([.ref h0, .int p0, .int p1])).length) Slot.unset).toArray = ls at hl ⊢
  have hl : lv_has ls 3 [(0, .ref h0), (1, .int p0), (2, .int p1)] := hl
  refine zstart (fun H hH => ?_)
  rw [← hH] at hP
  have hS : va_S A s.heap H [] := by rw [hH]; exact va_S.rf
  generalize ([] : List Loc) = locs at hS ⊢
  refine zgen (fun R Q hR hQ => ?_)
  refine lv_aload_n hx hb dX10_paint_0 rfl (lv_at hl 0 rfl) ?_
  refine lv_iload_n hx hb dX10_paint_1 rfl (lv_at hl 1 rfl) ?_
  obtain ⟨hPc, hDc⟩ := zc2 (wc := [(h0, .inr (10, [.ref tp, h0_courtReader, h0_lawReader, h0_draft, .ref aC, h0_laws, .ref g0, .ref k0, .ref ac, .ref sd, .ref mi, .ref dw, .ref rf, .int lc, .int lh, .int br, .int hi])), (aC, .inr (1, [.ref aR, .ref aB, .ref aP, .int nb, .int np]))]) hP hD [0, 1] (by decide +kernel) rfl
  have hFc := zfr hS hA
  refine va_calli (va_runV (As := [.int p0]) (rest := []) ⟨hx, hb, hml, hown, hts⟩ (g_X10_isPainter l dC dI cI cJ h0 p0 (.ref tp) h0_courtReader h0_lawReader h0_draft aC h0_laws (.ref g0) (.ref k0) (.ref ac) (.ref sd) (.ref mi) (.ref dw) (.ref rf) (.int lc) (.int lh) (.int br) (.int hi) aR aB aP nb np H.size n_np) (cwV 1 hts (zgV qw600 qw602 qw11 qw98 qw603) rfl rfl rfl hd_X10_isPainter ⟨by rw [hR]; exact Nat.le_of_ble_eq_true rfl, by rw [hR]; exact Nat.le_of_ble_eq_true rfl⟩) (zPV hPc hK hDc (va_recv (q := (RX10, TX10, 17)) hK hP (ci := 10) (q0 := 0) rfl rfl)) rfl rfl hl.1 rfl (lv_room (Nat.le_of_ble_eq_true rfl)) dX10_paint_2 ⟨Nat.zero_le _, Nat.zero_le _⟩) hS (fun q _ h => hFc q h) hFc (fun v2 u2 t H locs ht hvm hw hB hz1 hk1 hS9 => ?_)
  replace hP := zkeep hP hk1
  replace hS := hS9
  clear hPc hDc hFc hk1 hz1 hvm hS9
  obtain ⟨f2_0, f2_1, f2_2, f2_3⟩ : (0 ≤ v2.toInt) ∧ (v2.toInt ≤ 1) ∧ (¬ v2.toInt = 0 → (0 ≤ p0.toInt ∧ p0.toInt < np.toInt)) ∧ (v2.toInt = 0 → ¬ (0 ≤ p0.toInt ∧ p0.toInt < np.toInt)) := hw
  refine lv_if_eq (tgt := 16) hx hb dX10_paint_5 (by decide) (fun c5 => ?_) (fun c5 => ?_)
  · have c5 : v2.toInt = 0 := z5 rfl (by decide) c5
    refine lv_aload_n hx hb dX10_paint_16 rfl (lv_at hl 0 rfl) ?_
    refine lv_iconst (v := 0) hx hb dX10_paint_17 (by decide) ?_
    obtain ⟨hPc, hDc, hFc⟩ := zc3 (wc := [(h0, .inr (10, [.ref tp, h0_courtReader, h0_lawReader, h0_draft, .ref aC, h0_laws, .ref g0, .ref k0, .ref ac, .ref sd, .ref mi, .ref dw, .ref rf, .int lc, .int lh, .int br, .int hi])), (rf, .inl (cI, 5, .inl frf))]) hP hD hS hA [0, 15] (by decide +kernel) rfl
    refine va_calli (va_runV (As := [.int 0]) (rest := []) ⟨hx, hb, hml, hown, hts⟩ (g_X10_refuse l dC dI cI cJ h0 0 tp h0_courtReader h0_lawReader h0_draft aC h0_laws g0 k0 ac sd mi dw rf lc lh br hi frf H.size y_hi y_lc (by decide)) (cwV 1 hts (zgV qw684 qw686 qw13 qw98 qw687) rfl rfl rfl hd_X10_refuse ⟨by rw [hR]; exact Nat.le_of_ble_eq_true rfl, by rw [hR]; exact Nat.le_of_ble_eq_true rfl⟩) (zPV hPc hK hDc (va_recv (q := (RX10, TX10, 17)) hK hP (ci := 10) (q0 := 0) rfl rfl)) rfl rfl hl.1 rfl (lv_room (Nat.le_of_ble_eq_true rfl)) dX10_paint_18 ⟨Nat.zero_le _, Nat.zero_le _⟩) hS (fun q _ h => hFc q h) hFc (fun v18 u18 t H locs ht hvm hw hB hz1 hk1 hS9 => ?_)
    obtain ⟨u18_0, rfl⟩ : ∃ z, z = u18 := ⟨_, rfl⟩
    obtain ⟨hP9, hD9⟩ := zj2 (wX := [(h0, .inr (10, [.ref tp, h0_courtReader, h0_lawReader, h0_draft, .ref aC, h0_laws, .ref g0, .ref k0, .ref ac, .ref sd, .ref mi, .ref dw, .ref rf, .int lc, .int lh, .int br, .int hi])), (aC, .inr (1, [.ref aR, .ref aB, .ref aP, .int nb, .int np])), (aB, .inl (cI, 24, .inl fb)), (aP, .inl (cI, 20, .inl fp)), (g0, .inr (7, [.ref gY, .ref gF, .ref gP, .int gpn, .int glt, .int gsh, .int gwd, .int gpu, .int gmo])), (gY, .inl (cI, 6, .inl gfY)), (gF, .inl (cI, 5, .inl gfF)), (gP, .inl (cI, 80, .inl gfP)), (ac, .inr (0, [.ref aW, .int pl, .int cn])), (aW, .inl (cI, 680, .inl fR)), (sd, .inr (8, [.ref w1, .ref w2, .ref aC, .ref g0, .ref aL, .ref aK, .ref lw])), (aL, .inl (cI, 6, .inl fL)), (aK, .inl (cI, 32, .inl fK)), (lw, .inr (4, [.ref lS])), (lS, .inl (cI, lk, .inl fS)), (rf, .inl (cI, 5, .inl u18_0))]) hP hD hk1 hFc ht hB [0, 15] [(true, 0), (false, 1), (false, 2), (false, 3), (false, 4), (false, 5), (false, 6), (false, 7), (false, 8), (false, 9), (false, 10), (false, 11), (false, 12), (false, 13), (false, 14), (true, 1)] rfl (by decide +kernel) (by decide +kernel) rfl
    clear hP hD hS hPc hDc hFc hB hk1 hz1 hvm
    have hP := hP9
    have hD := hD9
    have hS := hS9
    clear hP9 hD9 hS9
    obtain ⟨hwc, hw⟩ := hw
    have hwc : v18 = (-1) := hwc
    subst hwc
    have zn18_0 : (0 : Int32).toInt = 0 := by decide
    have f18_0 : (zRf frf u18_0 (0 : Int32).toInt) := hw
    have F18 := f18_0
    have zr0 : ((-1) : Int32).toInt = (-1) := by decide
    rw [hQ]
    exact W.iret (v := ((-1))) hx hb hr (fun t ht hW => ⟨⟨(-1), (gpn, gpu, gfP, pl, cn, fR, fL, fK, u18_0), rfl, ⟨by (try dsimp only); omega, by (try dsimp only); omega, by (try dsimp only); omega, by (try dsimp only); omega, by (try dsimp only); omega, by (try dsimp only); omega, by (try dsimp only); omega, by (try dsimp only); omega, by (try dsimp only); exact fun kc kT q_fr kt hc hb h ht => zActR (x := (0 : Int32).toInt) (by unfold sW_pnt; exact (if_pos (by omega)).trans (by omega)) (by omega) h F18, ci_fR_zRw, ci_gfP_zPo⟩, ⟨by rw [ht]; exact hP, hD⟩⟩, hS.F ht⟩) hS.2.2 dX10_paint_21
  · have c5 : ¬ v2.toInt = 0 := z6 rfl (by decide) c5
    refine lv_aload_n hx hb dX10_paint_8 rfl (lv_at hl 0 rfl) ?_
    refine lv_iload_n hx hb dX10_paint_9 rfl (lv_at hl 2 rfl) ?_
    obtain ⟨hPc, hDc⟩ := zc2 (wc := [(h0, .inr (10, [.ref tp, h0_courtReader, h0_lawReader, h0_draft, .ref aC, h0_laws, .ref g0, .ref k0, .ref ac, .ref sd, .ref mi, .ref dw, .ref rf, .int lc, .int lh, .int br, .int hi])), (aC, .inr (1, [.ref aR, .ref aB, .ref aP, .int nb, .int np]))]) hP hD [0, 1] (by decide +kernel) rfl
    have hFc := zfr hS hA
    refine va_calli (va_runV (As := [.int p1]) (rest := []) ⟨hx, hb, hml, hown, hts⟩ (g_X10_isBride l dC dI cI cJ h0 p1 (.ref tp) h0_courtReader h0_lawReader h0_draft aC h0_laws (.ref g0) (.ref k0) (.ref ac) (.ref sd) (.ref mi) (.ref dw) (.ref rf) (.int lc) (.int lh) (.int br) (.int hi) aR aB aP nb np H.size n_nb) (cwV 1 hts (zgV qw625 qw627 qw12 qw98 qw628) rfl rfl rfl hd_X10_isBride ⟨by rw [hR]; exact Nat.le_of_ble_eq_true rfl, by rw [hR]; exact Nat.le_of_ble_eq_true rfl⟩) (zPV hPc hK hDc (va_recv (q := (RX10, TX10, 17)) hK hP (ci := 10) (q0 := 0) rfl rfl)) rfl rfl hl.1 rfl (lv_room (Nat.le_of_ble_eq_true rfl)) dX10_paint_10 ⟨Nat.zero_le _, Nat.zero_le _⟩) hS (fun q _ h => hFc q h) hFc (fun v10 u10 t H locs ht hvm hw hB hz1 hk1 hS9 => ?_)
    replace hP := zkeep hP hk1
    replace hS := hS9
    clear hPc hDc hFc hk1 hz1 hvm hS9
    obtain ⟨f10_0, f10_1, f10_2, f10_3⟩ : (0 ≤ v10.toInt) ∧ (v10.toInt ≤ 1) ∧ (¬ v10.toInt = 0 → (0 ≤ p1.toInt ∧ p1.toInt < nb.toInt)) ∧ (v10.toInt = 0 → ¬ (0 ≤ p1.toInt ∧ p1.toInt < nb.toInt)) := hw
    refine lv_if_ne (tgt := 22) hx hb dX10_paint_13 (by decide) (fun c13 => ?_) (fun c13 => ?_)
    · have c13 : ¬ v10.toInt = 0 := z6 rfl (by decide) c13
      refine lv_aload_n hx hb dX10_paint_22 rfl (lv_at hl 0 rfl) ?_
      refine va_get (D := (dC, dI)) (ci := 10) (v := .ref g0) (C := RX10) (T := TX10) (N := 17) hx hb hts iX10 hown hK hP 0 rfl rfl 6 (by decide) (hts _ qw362) (fun _ h9 => h9) rfl dX10_paint_23 ?_
      refine va_get (D := (dC, dI)) (ci := 7) (v := .int gpu) (C := RX7) (T := TX7) (N := 9) hx hb hts iX7 hown hK hP 4 rfl rfl 7 (by decide) (hts _ qw239) (fun _ h9 => h9) rfl dX10_paint_26 ?_
      refine lv_aload_n hx hb dX10_paint_29 rfl (lv_at hl 0 rfl) ?_
      refine va_get (D := (dC, dI)) (ci := 10) (v := .ref aC) (C := RX10) (T := TX10) (N := 17) hx hb hts iX10 hown hK hP 0 rfl rfl 4 (by decide) (hts _ qw360) (fun _ h9 => h9) rfl dX10_paint_30 ?_
      refine lv_iload_n hx hb dX10_paint_33 rfl (lv_at hl 1 rfl) ?_
      obtain ⟨hPc, hDc⟩ := zc2 (wc := [(aC, .inr (1, [.ref aR, .ref aB, .ref aP, .int nb, .int np])), (aP, .inl (cI, 20, .inl fp))]) hP hD [1, 3] (by decide +kernel) rfl
      have hFc := zfr hS hA
      refine va_calli (va_runV (As := [.int p0]) (rest := [.int gpu]) ⟨hx, hb, hml, hown, hts⟩ (g_X1_feeOf l dC dI cI cJ aC p0 aR aB aP nb np fp H.size (by omega)) (cwV 1 hts (zgV qw609 qw610 qw611 qw102 qw612) rfl rfl rfl hd_X1_feeOf ⟨by rw [hR]; exact Nat.le_of_ble_eq_true rfl, by rw [hR]; exact Nat.le_of_ble_eq_true rfl⟩) (zPV hPc hK hDc (va_recv (q := (RX1, TX1, 5)) hK hP (ci := 1) (q0 := 1) rfl rfl)) rfl rfl hl.1 rfl (lv_room (Nat.le_of_ble_eq_true rfl)) dX10_paint_34 ⟨Nat.zero_le _, Nat.zero_le _⟩) hS (fun q _ h => hFc q h) hFc (fun v34 u34 t H locs ht hvm hw hB hz1 hk1 hS9 => ?_)
      replace hP := zkeep hP hk1
      replace hS := hS9
      clear hPc hDc hFc hk1 hz1 hvm hS9
      have f34_0 : (v34 = fp (4 * p0.toInt.toNat + 1)) := hw
      have F34 := f34_0
      refine lv_icmp_ge (tgt := 46) hx hb dX10_paint_37 (by decide) (fun c37 => ?_) (fun c37 => ?_)
      · have c37 : v34.toInt ≤ gpu.toInt := z3 rfl rfl c37
        refine lv_aload_n hx hb dX10_paint_46 rfl (lv_at hl 0 rfl) ?_
        refine va_get (D := (dC, dI)) (ci := 10) (v := .ref g0) (C := RX10) (T := TX10) (N := 17) hx hb hts iX10 hown hK hP 0 rfl rfl 6 (by decide) (hts _ qw362) (fun _ h9 => h9) rfl dX10_paint_47 ?_
        refine va_get (D := (dC, dI)) (ci := 7) (v := .int gpn) (C := RX7) (T := TX7) (N := 9) hx hb hts iX7 hown hK hP 4 rfl rfl 3 (by decide) (hts _ qw229) (fun _ h9 => h9) rfl dX10_paint_50 ?_
        refine lv_bipush (v := 20) hx hb dX10_paint_53 (by decide) ?_
        refine lv_icmp_lt (tgt := 64) hx hb dX10_paint_55 (by decide) (fun c55 => ?_) (fun c55 => ?_)
        · have c55 : gpn.toInt < 20 := z1 rfl (by decide) c55
          refine lv_aload_n hx hb dX10_paint_64 rfl (lv_at hl 0 rfl) ?_
          refine va_get (D := (dC, dI)) (ci := 10) (v := .ref ac) (C := RX10) (T := TX10) (N := 17) hx hb hts iX10 hown hK hP 0 rfl rfl 8 (by decide) (hts _ qw364) (fun _ h9 => h9) rfl dX10_paint_65 ?_
          refine lv_aload_n hx hb dX10_paint_68 rfl (lv_at hl 0 rfl) ?_
          refine va_get (D := (dC, dI)) (ci := 10) (v := .ref g0) (C := RX10) (T := TX10) (N := 17) hx hb hts iX10 hown hK hP 0 rfl rfl 6 (by decide) (hts _ qw362) (fun _ h9 => h9) rfl dX10_paint_69 ?_
          obtain ⟨hPc, hDc, hFc⟩ := zc3 (wc := [(ac, .inr (0, [.ref aW, .int pl, .int cn])), (aW, .inl (cI, 680, .inl fR)), (g0, .inr (7, [.ref gY, .ref gF, .ref gP, .int gpn, .int glt, .int gsh, .int gwd, .int gpu, .int gmo])), (gY, .inl (cI, 6, .inl gfY)), (gF, .inl (cI, 5, .inl gfF))]) hP hD hS hA [8, 9, 4, 5, 6] (by decide +kernel) rfl
          refine va_callv (va_runV (As := [.ref g0]) (rest := []) ⟨hx, hb, hml, hown, hts⟩ (g_X0_keep l dC dI cI cJ ac g0 aW pl cn fR gY gF gP gpn glt gsh gwd gpu gmo gfY gfF H.size n_cn n_gpn y_gwd n_pl ci_fR_zRw) (cwV 1 hts (zgV qw688 qw689 qw690 qw104 qw691) rfl rfl rfl hd_X0_keep ⟨by rw [hR]; exact Nat.le_of_ble_eq_true rfl, by rw [hR]; exact Nat.le_of_ble_eq_true rfl⟩) (zPV hPc hK hDc (va_recv (q := (RX0, TX0, 3)) hK hP (ci := 0) (q0 := 8) rfl rfl)) rfl rfl hl.1 rfl (lv_room (Nat.le_of_ble_eq_true rfl)) dX10_paint_72 ⟨Nat.zero_le _, Nat.zero_le _⟩) hS (fun q _ h => hFc q h) hFc (fun u72 t H locs ht hvm hw hB hz1 hk1 hS9 => ?_)
          obtain ⟨u72_0, u72_1, u72_2⟩ := u72
          obtain ⟨hP9, hD9⟩ := zj2 (wX := [(h0, .inr (10, [.ref tp, h0_courtReader, h0_lawReader, h0_draft, .ref aC, h0_laws, .ref g0, .ref k0, .ref ac, .ref sd, .ref mi, .ref dw, .ref rf, .int lc, .int lh, .int br, .int hi])), (aC, .inr (1, [.ref aR, .ref aB, .ref aP, .int nb, .int np])), (aB, .inl (cI, 24, .inl fb)), (aP, .inl (cI, 20, .inl fp)), (g0, .inr (7, [.ref gY, .ref gF, .ref gP, .int gpn, .int glt, .int gsh, .int gwd, .int gpu, .int gmo])), (gY, .inl (cI, 6, .inl gfY)), (gF, .inl (cI, 5, .inl gfF)), (gP, .inl (cI, 80, .inl gfP)), (ac, .inr (0, [.ref aW, .int u72_0, .int u72_1])), (aW, .inl (cI, 680, .inl u72_2)), (sd, .inr (8, [.ref w1, .ref w2, .ref aC, .ref g0, .ref aL, .ref aK, .ref lw])), (aL, .inl (cI, 6, .inl fL)), (aK, .inl (cI, 32, .inl fK)), (lw, .inr (4, [.ref lS])), (lS, .inl (cI, lk, .inl fS)), (rf, .inl (cI, 5, .inl frf))]) hP hD hk1 hFc ht hB [8, 9, 4, 5, 6] [(false, 0), (false, 1), (false, 2), (false, 3), (true, 2), (true, 3), (true, 4), (false, 7), (true, 0), (true, 1), (false, 10), (false, 11), (false, 12), (false, 13), (false, 14), (false, 15)] rfl (by decide +kernel) (by decide +kernel) rfl
          clear hP hD hS hPc hDc hFc hB hk1 hz1 hvm
          have hP := hP9
          have hD := hD9
          have hS := hS9
          clear hP9 hD9 hS9
          obtain ⟨f72_0, f72_1, f72_2, f72_3, f72_4, f72_5⟩ : (0 ≤ u72_0.toInt) ∧ (u72_0.toInt ≤ 39) ∧ (1 ≤ u72_1.toInt) ∧ (u72_1.toInt ≤ 40) ∧ (∀ (nbI npI : Int) (S : zS) (Ks : List zS) (P : Nat → Int32), nbI ≤ 6 → npI ≤ 5 → zSc nbI npI S gfY gfF P gpn glt gsh gwd gpu gmo → zKc nbI npI Ks P fR pl cn → zKc nbI npI (sKeep S Ks) P u72_2 u72_0 u72_1) ∧ (zRw u72_2) := hw
          have F72 := f72_4
          refine lv_aload_n hx hb dX10_paint_75 rfl (lv_at hl 0 rfl) ?_
          refine lv_iload_n hx hb dX10_paint_76 rfl (lv_at hl 1 rfl) ?_
          refine lv_iload_n hx hb dX10_paint_77 rfl (lv_at hl 2 rfl) ?_
          obtain ⟨hPc, hDc, hFc⟩ := zc3 (wc := [(h0, .inr (10, [.ref tp, h0_courtReader, h0_lawReader, h0_draft, .ref aC, h0_laws, .ref g0, .ref k0, .ref ac, .ref sd, .ref mi, .ref dw, .ref rf, .int lc, .int lh, .int br, .int hi])), (aC, .inr (1, [.ref aR, .ref aB, .ref aP, .int nb, .int np])), (aB, .inl (cI, 24, .inl fb)), (aP, .inl (cI, 20, .inl fp)), (g0, .inr (7, [.ref gY, .ref gF, .ref gP, .int gpn, .int glt, .int gsh, .int gwd, .int gpu, .int gmo])), (gY, .inl (cI, 6, .inl gfY)), (gF, .inl (cI, 5, .inl gfF)), (gP, .inl (cI, 80, .inl gfP)), (sd, .inr (8, [.ref w1, .ref w2, .ref aC, .ref g0, .ref aL, .ref aK, .ref lw])), (aL, .inl (cI, 6, .inl fL)), (aK, .inl (cI, 32, .inl fK)), (lw, .inr (4, [.ref lS])), (lS, .inl (cI, lk, .inl fS))]) hP hD hS hA [0, 1, 2, 3, 4, 5, 6, 7, 10, 11, 12, 13, 14] (by decide +kernel) rfl
          refine va_calli (va_runV (As := [.int p0, .int p1]) (rest := []) ⟨hx, hb, hml, hown, hts⟩ (g_X10_paintNow_l l dC dI cI cJ h0 p0 p1 tp h0_courtReader h0_lawReader h0_draft aC h0_laws g0 k0 ac sd mi dw rf lc lh br hi aR aB aP nb np fb fp gY gF gP gpn glt gsh gwd gpu gmo gfY gfF gfP w1 w2 aL aK lw fL fK lS fS lk H.size (by omega) y_gwd y_hi y_lc n_nb n_np (by omega) (by omega) (hlk) ci_fS_zSt ci_gfP_zPo) (cwV 2 hts (zgV qw698 qw700 qw14 qw98 qw701) rfl rfl rfl hd_X10_paintNow ⟨by rw [hR]; exact Nat.le_of_ble_eq_true rfl, by rw [hR]; exact Nat.le_of_ble_eq_true rfl⟩) (zPV hPc hK hDc (va_recv (q := (RX10, TX10, 17)) hK hP (ci := 10) (q0 := 0) rfl rfl)) rfl rfl hl.1 rfl (lv_room (Nat.le_of_ble_eq_true rfl)) dX10_paint_78 ⟨Nat.zero_le _, Nat.zero_le _⟩) hS (fun q _ h => hFc q h) hFc (fun v78 u78 t H locs ht hvm hw hB hz1 hk1 hS9 => ?_)
          obtain ⟨u78_0, u78_1, u78_2, u78_3, u78_4⟩ := u78
          obtain ⟨hP9, hD9⟩ := zj2 (wX := [(h0, .inr (10, [.ref tp, h0_courtReader, h0_lawReader, h0_draft, .ref aC, h0_laws, .ref g0, .ref k0, .ref ac, .ref sd, .ref mi, .ref dw, .ref rf, .int lc, .int lh, .int br, .int hi])), (aC, .inr (1, [.ref aR, .ref aB, .ref aP, .int nb, .int np])), (aB, .inl (cI, 24, .inl fb)), (aP, .inl (cI, 20, .inl fp)), (g0, .inr (7, [.ref gY, .ref gF, .ref gP, .int u78_0, .int glt, .int gsh, .int gwd, .int u78_1, .int gmo])), (gY, .inl (cI, 6, .inl gfY)), (gF, .inl (cI, 5, .inl gfF)), (gP, .inl (cI, 80, .inl u78_2)), (ac, .inr (0, [.ref aW, .int u72_0, .int u72_1])), (aW, .inl (cI, 680, .inl u72_2)), (sd, .inr (8, [.ref w1, .ref w2, .ref aC, .ref g0, .ref aL, .ref aK, .ref lw])), (aL, .inl (cI, 6, .inl u78_3)), (aK, .inl (cI, 32, .inl u78_4)), (lw, .inr (4, [.ref lS])), (lS, .inl (cI, lk, .inl fS)), (rf, .inl (cI, 5, .inl frf))]) hP hD hk1 hFc ht hB [0, 1, 2, 3, 4, 5, 6, 7, 10, 11, 12, 13, 14] [(true, 0), (true, 1), (true, 2), (true, 3), (true, 4), (true, 5), (true, 6), (true, 7), (false, 8), (false, 9), (true, 8), (true, 9), (true, 10), (true, 11), (true, 12), (false, 15)] rfl (by decide +kernel) (by decide +kernel) rfl
          clear hP hD hS hPc hDc hFc hB hk1 hz1 hvm
          have hP := hP9
          have hD := hD9
          have hS := hS9
          clear hP9 hD9 hS9
          obtain ⟨f78_0, f78_1, f78_2, f78_3, f78_4, f78_5⟩ : (0 ≤ v78.toInt) ∧ (v78.toInt ≤ 9) ∧ (1 ≤ u78_0.toInt) ∧ (u78_0.toInt ≤ 20) ∧ (∀ (kc : zK3) (kT : zT) (q_fr : Nat → Int32) (kt : (Int → Int) × Int), zCn q_fr fb fp nb.toInt np.toInt kc → zKo nb.toInt np.toInt kc kT → zSc nb.toInt np.toInt kT.1 gfY gfF gfP gpn glt gsh gwd gpu gmo → zLwC fS lk kt → (0 ≤ p0.toInt ∧ p0.toInt < np.toInt) → (0 ≤ p1.toInt ∧ p1.toInt < nb.toInt) → v78 = sV_pnt kc kT.1 (some kt) p0 p1 ∧ zSc nb.toInt np.toInt (sN_pnt kc kT.1 (some kt) p0 p1) gfY gfF u78_2 u78_0 glt gsh gwd u78_1 gmo ∧ ∀ i : Nat, (i : Int) < 4 * gpn.toInt → u78_2 i = gfP i) ∧ (zPo u78_2) := hw
          have F78 := f78_4
          rw [hQ]
          exact W.iret (v := v78) hx hb hr (fun t ht hW => ⟨⟨v78, (u78_0, u78_1, u78_2, u72_0, u72_1, u72_2, u78_3, u78_4, frf), rfl, ⟨by (try dsimp only); omega, by (try dsimp only); omega, by (try dsimp only); omega, by (try dsimp only); omega, by (try dsimp only); omega, by (try dsimp only); omega, by (try dsimp only); omega, by (try dsimp only); omega, by (try dsimp only); exact fun kc kT q_fr kt hc hb h ht => by have zp := congrArg Int32.toInt (zSc_pu h.1); have zn := congrArg Int32.toInt (zSc_pn h.1); have y34 : v34 = kc.2.2 (4 * p0.toInt.toNat + 1) := F34.trans (hc.2.2 _ (by omega)); have z := F78 kc kT _ kt hc hb h.1 ht (by omega) (by omega); exact zActA (by unfold sW_pnt; exact (if_neg (by omega)).trans ((if_neg (by rw [← y34]; omega)).trans (if_neg (by omega)))) hb.2 h (F72 _ _ kT.1 kT.2.1 _ hb.2.1.2 hb.2.2.1.2 h.1 h.2.1) z.2.1 z.2.2 z.1, f72_5, f78_5⟩, ⟨by rw [ht]; exact hP, hD⟩⟩, hS.F ht⟩) hS.2.2 dX10_paint_81
        · have c55 : 20 ≤ gpn.toInt := z2 rfl (by decide) c55
          refine lv_aload_n hx hb dX10_paint_58 rfl (lv_at hl 0 rfl) ?_
          refine lv_iconst (v := 4) hx hb dX10_paint_59 (by decide) ?_
          obtain ⟨hPc, hDc, hFc⟩ := zc3 (wc := [(h0, .inr (10, [.ref tp, h0_courtReader, h0_lawReader, h0_draft, .ref aC, h0_laws, .ref g0, .ref k0, .ref ac, .ref sd, .ref mi, .ref dw, .ref rf, .int lc, .int lh, .int br, .int hi])), (rf, .inl (cI, 5, .inl frf))]) hP hD hS hA [0, 15] (by decide +kernel) rfl
          refine va_calli (va_runV (As := [.int 4]) (rest := []) ⟨hx, hb, hml, hown, hts⟩ (g_X10_refuse l dC dI cI cJ h0 4 tp h0_courtReader h0_lawReader h0_draft aC h0_laws g0 k0 ac sd mi dw rf lc lh br hi frf H.size y_hi y_lc (by decide)) (cwV 1 hts (zgV qw684 qw686 qw13 qw98 qw687) rfl rfl rfl hd_X10_refuse ⟨by rw [hR]; exact Nat.le_of_ble_eq_true rfl, by rw [hR]; exact Nat.le_of_ble_eq_true rfl⟩) (zPV hPc hK hDc (va_recv (q := (RX10, TX10, 17)) hK hP (ci := 10) (q0 := 0) rfl rfl)) rfl rfl hl.1 rfl (lv_room (Nat.le_of_ble_eq_true rfl)) dX10_paint_60 ⟨Nat.zero_le _, Nat.zero_le _⟩) hS (fun q _ h => hFc q h) hFc (fun v60 u60 t H locs ht hvm hw hB hz1 hk1 hS9 => ?_)
          obtain ⟨u60_0, rfl⟩ : ∃ z, z = u60 := ⟨_, rfl⟩
          obtain ⟨hP9, hD9⟩ := zj2 (wX := [(h0, .inr (10, [.ref tp, h0_courtReader, h0_lawReader, h0_draft, .ref aC, h0_laws, .ref g0, .ref k0, .ref ac, .ref sd, .ref mi, .ref dw, .ref rf, .int lc, .int lh, .int br, .int hi])), (aC, .inr (1, [.ref aR, .ref aB, .ref aP, .int nb, .int np])), (aB, .inl (cI, 24, .inl fb)), (aP, .inl (cI, 20, .inl fp)), (g0, .inr (7, [.ref gY, .ref gF, .ref gP, .int gpn, .int glt, .int gsh, .int gwd, .int gpu, .int gmo])), (gY, .inl (cI, 6, .inl gfY)), (gF, .inl (cI, 5, .inl gfF)), (gP, .inl (cI, 80, .inl gfP)), (ac, .inr (0, [.ref aW, .int pl, .int cn])), (aW, .inl (cI, 680, .inl fR)), (sd, .inr (8, [.ref w1, .ref w2, .ref aC, .ref g0, .ref aL, .ref aK, .ref lw])), (aL, .inl (cI, 6, .inl fL)), (aK, .inl (cI, 32, .inl fK)), (lw, .inr (4, [.ref lS])), (lS, .inl (cI, lk, .inl fS)), (rf, .inl (cI, 5, .inl u60_0))]) hP hD hk1 hFc ht hB [0, 15] [(true, 0), (false, 1), (false, 2), (false, 3), (false, 4), (false, 5), (false, 6), (false, 7), (false, 8), (false, 9), (false, 10), (false, 11), (false, 12), (false, 13), (false, 14), (true, 1)] rfl (by decide +kernel) (by decide +kernel) rfl
          clear hP hD hS hPc hDc hFc hB hk1 hz1 hvm
          have hP := hP9
          have hD := hD9
          have hS := hS9
          clear hP9 hD9 hS9
          obtain ⟨hwc, hw⟩ := hw
          have hwc : v60 = (-1) := hwc
          subst hwc
          have zn60_4 : (4 : Int32).toInt = 4 := by decide
          have f60_0 : (zRf frf u60_0 (4 : Int32).toInt) := hw
          have F60 := f60_0
          have zr0 : ((-1) : Int32).toInt = (-1) := by decide
          rw [hQ]
          exact W.iret (v := ((-1))) hx hb hr (fun t ht hW => ⟨⟨(-1), (gpn, gpu, gfP, pl, cn, fR, fL, fK, u60_0), rfl, ⟨by (try dsimp only); omega, by (try dsimp only); omega, by (try dsimp only); omega, by (try dsimp only); omega, by (try dsimp only); omega, by (try dsimp only); omega, by (try dsimp only); omega, by (try dsimp only); omega, by (try dsimp only); exact fun kc kT q_fr kt hc hb h ht => by have zp := congrArg Int32.toInt (zSc_pu h.1); have zn := congrArg Int32.toInt (zSc_pn h.1); have y34 : v34 = kc.2.2 (4 * p0.toInt.toNat + 1) := F34.trans (hc.2.2 _ (by omega)); exact zActR (x := (4 : Int32).toInt) (by unfold sW_pnt; exact (if_neg (by omega)).trans ((if_neg (by rw [← y34]; omega)).trans ((if_pos (by omega)).trans (by omega)))) (by omega) h F60, ci_fR_zRw, ci_gfP_zPo⟩, ⟨by rw [ht]; exact hP, hD⟩⟩, hS.F ht⟩) hS.2.2 dX10_paint_63
      · have c37 : gpu.toInt < v34.toInt := z4 rfl rfl c37
        refine lv_aload_n hx hb dX10_paint_40 rfl (lv_at hl 0 rfl) ?_
        refine lv_iconst (v := 2) hx hb dX10_paint_41 (by decide) ?_
        obtain ⟨hPc, hDc, hFc⟩ := zc3 (wc := [(h0, .inr (10, [.ref tp, h0_courtReader, h0_lawReader, h0_draft, .ref aC, h0_laws, .ref g0, .ref k0, .ref ac, .ref sd, .ref mi, .ref dw, .ref rf, .int lc, .int lh, .int br, .int hi])), (rf, .inl (cI, 5, .inl frf))]) hP hD hS hA [0, 15] (by decide +kernel) rfl
        refine va_calli (va_runV (As := [.int 2]) (rest := []) ⟨hx, hb, hml, hown, hts⟩ (g_X10_refuse l dC dI cI cJ h0 2 tp h0_courtReader h0_lawReader h0_draft aC h0_laws g0 k0 ac sd mi dw rf lc lh br hi frf H.size y_hi y_lc (by decide)) (cwV 1 hts (zgV qw684 qw686 qw13 qw98 qw687) rfl rfl rfl hd_X10_refuse ⟨by rw [hR]; exact Nat.le_of_ble_eq_true rfl, by rw [hR]; exact Nat.le_of_ble_eq_true rfl⟩) (zPV hPc hK hDc (va_recv (q := (RX10, TX10, 17)) hK hP (ci := 10) (q0 := 0) rfl rfl)) rfl rfl hl.1 rfl (lv_room (Nat.le_of_ble_eq_true rfl)) dX10_paint_42 ⟨Nat.zero_le _, Nat.zero_le _⟩) hS (fun q _ h => hFc q h) hFc (fun v42 u42 t H locs ht hvm hw hB hz1 hk1 hS9 => ?_)
        obtain ⟨u42_0, rfl⟩ : ∃ z, z = u42 := ⟨_, rfl⟩
        obtain ⟨hP9, hD9⟩ := zj2 (wX := [(h0, .inr (10, [.ref tp, h0_courtReader, h0_lawReader, h0_draft, .ref aC, h0_laws, .ref g0, .ref k0, .ref ac, .ref sd, .ref mi, .ref dw, .ref rf, .int lc, .int lh, .int br, .int hi])), (aC, .inr (1, [.ref aR, .ref aB, .ref aP, .int nb, .int np])), (aB, .inl (cI, 24, .inl fb)), (aP, .inl (cI, 20, .inl fp)), (g0, .inr (7, [.ref gY, .ref gF, .ref gP, .int gpn, .int glt, .int gsh, .int gwd, .int gpu, .int gmo])), (gY, .inl (cI, 6, .inl gfY)), (gF, .inl (cI, 5, .inl gfF)), (gP, .inl (cI, 80, .inl gfP)), (ac, .inr (0, [.ref aW, .int pl, .int cn])), (aW, .inl (cI, 680, .inl fR)), (sd, .inr (8, [.ref w1, .ref w2, .ref aC, .ref g0, .ref aL, .ref aK, .ref lw])), (aL, .inl (cI, 6, .inl fL)), (aK, .inl (cI, 32, .inl fK)), (lw, .inr (4, [.ref lS])), (lS, .inl (cI, lk, .inl fS)), (rf, .inl (cI, 5, .inl u42_0))]) hP hD hk1 hFc ht hB [0, 15] [(true, 0), (false, 1), (false, 2), (false, 3), (false, 4), (false, 5), (false, 6), (false, 7), (false, 8), (false, 9), (false, 10), (false, 11), (false, 12), (false, 13), (false, 14), (true, 1)] rfl (by decide +kernel) (by decide +kernel) rfl
        clear hP hD hS hPc hDc hFc hB hk1 hz1 hvm
        have hP := hP9
        have hD := hD9
        have hS := hS9
        clear hP9 hD9 hS9
        obtain ⟨hwc, hw⟩ := hw
        have hwc : v42 = (-1) := hwc
        subst hwc
        have zn42_2 : (2 : Int32).toInt = 2 := by decide
        have f42_0 : (zRf frf u42_0 (2 : Int32).toInt) := hw
        have F42 := f42_0
        have zr0 : ((-1) : Int32).toInt = (-1) := by decide
        rw [hQ]
        exact W.iret (v := ((-1))) hx hb hr (fun t ht hW => ⟨⟨(-1), (gpn, gpu, gfP, pl, cn, fR, fL, fK, u42_0), rfl, ⟨by (try dsimp only); omega, by (try dsimp only); omega, by (try dsimp only); omega, by (try dsimp only); omega, by (try dsimp only); omega, by (try dsimp only); omega, by (try dsimp only); omega, by (try dsimp only); omega, by (try dsimp only); exact fun kc kT q_fr kt hc hb h ht => by have zp := congrArg Int32.toInt (zSc_pu h.1); have zn := congrArg Int32.toInt (zSc_pn h.1); have y34 : v34 = kc.2.2 (4 * p0.toInt.toNat + 1) := F34.trans (hc.2.2 _ (by omega)); exact zActR (x := (2 : Int32).toInt) (by unfold sW_pnt; exact ((if_neg (by omega)).trans (if_pos (by rw [← y34]; omega))).trans (by omega)) (by omega) h F42, ci_fR_zRw, ci_gfP_zPo⟩, ⟨by rw [ht]; exact hP, hD⟩⟩, hS.F ht⟩) hS.2.2 dX10_paint_45
    · have c13 : v10.toInt = 0 := z5 rfl (by decide) c13
      refine lv_aload_n hx hb dX10_paint_16 rfl (lv_at hl 0 rfl) ?_
      refine lv_iconst (v := 0) hx hb dX10_paint_17 (by decide) ?_
      obtain ⟨hPc, hDc, hFc⟩ := zc3 (wc := [(h0, .inr (10, [.ref tp, h0_courtReader, h0_lawReader, h0_draft, .ref aC, h0_laws, .ref g0, .ref k0, .ref ac, .ref sd, .ref mi, .ref dw, .ref rf, .int lc, .int lh, .int br, .int hi])), (rf, .inl (cI, 5, .inl frf))]) hP hD hS hA [0, 15] (by decide +kernel) rfl
      refine va_calli (va_runV (As := [.int 0]) (rest := []) ⟨hx, hb, hml, hown, hts⟩ (g_X10_refuse l dC dI cI cJ h0 0 tp h0_courtReader h0_lawReader h0_draft aC h0_laws g0 k0 ac sd mi dw rf lc lh br hi frf H.size y_hi y_lc (by decide)) (cwV 1 hts (zgV qw684 qw686 qw13 qw98 qw687) rfl rfl rfl hd_X10_refuse ⟨by rw [hR]; exact Nat.le_of_ble_eq_true rfl, by rw [hR]; exact Nat.le_of_ble_eq_true rfl⟩) (zPV hPc hK hDc (va_recv (q := (RX10, TX10, 17)) hK hP (ci := 10) (q0 := 0) rfl rfl)) rfl rfl hl.1 rfl (lv_room (Nat.le_of_ble_eq_true rfl)) dX10_paint_18 ⟨Nat.zero_le _, Nat.zero_le _⟩) hS (fun q _ h => hFc q h) hFc (fun v18 u18 t H locs ht hvm hw hB hz1 hk1 hS9 => ?_)
      obtain ⟨u18_0, rfl⟩ : ∃ z, z = u18 := ⟨_, rfl⟩
      obtain ⟨hP9, hD9⟩ := zj2 (wX := [(h0, .inr (10, [.ref tp, h0_courtReader, h0_lawReader, h0_draft, .ref aC, h0_laws, .ref g0, .ref k0, .ref ac, .ref sd, .ref mi, .ref dw, .ref rf, .int lc, .int lh, .int br, .int hi])), (aC, .inr (1, [.ref aR, .ref aB, .ref aP, .int nb, .int np])), (aB, .inl (cI, 24, .inl fb)), (aP, .inl (cI, 20, .inl fp)), (g0, .inr (7, [.ref gY, .ref gF, .ref gP, .int gpn, .int glt, .int gsh, .int gwd, .int gpu, .int gmo])), (gY, .inl (cI, 6, .inl gfY)), (gF, .inl (cI, 5, .inl gfF)), (gP, .inl (cI, 80, .inl gfP)), (ac, .inr (0, [.ref aW, .int pl, .int cn])), (aW, .inl (cI, 680, .inl fR)), (sd, .inr (8, [.ref w1, .ref w2, .ref aC, .ref g0, .ref aL, .ref aK, .ref lw])), (aL, .inl (cI, 6, .inl fL)), (aK, .inl (cI, 32, .inl fK)), (lw, .inr (4, [.ref lS])), (lS, .inl (cI, lk, .inl fS)), (rf, .inl (cI, 5, .inl u18_0))]) hP hD hk1 hFc ht hB [0, 15] [(true, 0), (false, 1), (false, 2), (false, 3), (false, 4), (false, 5), (false, 6), (false, 7), (false, 8), (false, 9), (false, 10), (false, 11), (false, 12), (false, 13), (false, 14), (true, 1)] rfl (by decide +kernel) (by decide +kernel) rfl
      clear hP hD hS hPc hDc hFc hB hk1 hz1 hvm
      have hP := hP9
      have hD := hD9
      have hS := hS9
      clear hP9 hD9 hS9
      obtain ⟨hwc, hw⟩ := hw
      have hwc : v18 = (-1) := hwc
      subst hwc
      have zn18_0 : (0 : Int32).toInt = 0 := by decide
      have f18_0 : (zRf frf u18_0 (0 : Int32).toInt) := hw
      have F18 := f18_0
      have zr0 : ((-1) : Int32).toInt = (-1) := by decide
      rw [hQ]
      exact W.iret (v := ((-1))) hx hb hr (fun t ht hW => ⟨⟨(-1), (gpn, gpu, gfP, pl, cn, fR, fL, fK, u18_0), rfl, ⟨by (try dsimp only); omega, by (try dsimp only); omega, by (try dsimp only); omega, by (try dsimp only); omega, by (try dsimp only); omega, by (try dsimp only); omega, by (try dsimp only); omega, by (try dsimp only); omega, by (try dsimp only); exact fun kc kT q_fr kt hc hb h ht => zActR (x := (0 : Int32).toInt) (by unfold sW_pnt; exact (if_pos (by omega)).trans (by omega)) (by omega) h F18, ci_fR_zRw, ci_gfP_zPo⟩, ⟨by rw [ht]; exact hP, hD⟩⟩, hS.F ht⟩) hS.2.2 dX10_paint_21
set_option maxHeartbeats 4000000 in
set_option maxRecDepth 100000 in
theorem g_X10_paintByDraws_n (l : Launch) (dC : Nat → ClassId) (dI : Nat → Nat → Nat) (cI cJ : ClassId) (h0 : Nat) (tp : Nat) (h0_courtReader : Value) (h0_lawReader : Value) (h0_draft : Value) (aC : Nat) (h0_laws : Value) (g0 : Nat) (k0 : Nat) (ac : Nat) (sd : Nat) (mi : Nat) (dw : Nat) (rf : Nat) (lc : Int32) (lh : Int32) (br : Int32) (hi : Int32) (aR : Nat) (aB : Nat) (aP : Nat) (nb : Int32) (np : Int32) (fb : Nat → Int32) (fp : Nat → Int32) (gY : Nat) (gF : Nat) (gP : Nat) (gpn : Int32) (glt : Int32) (gsh : Int32) (gwd : Int32) (gpu : Int32) (gmo : Int32) (gfY : Nat → Int32) (gfF : Nat → Int32) (gfP : Nat → Int32) (w1 : Nat) (w2 : Nat) (aL : Nat) (aK : Nat) (x0 : Int64) (sz : Nat) (n_gpn : 0 ≤ gpn.toInt ∧ gpn.toInt ≤ 20) (n_gwd : (-1) ≤ gwd.toInt ∧ gwd.toInt ≤ 5) (n_hi : 0 ≤ hi.toInt ∧ hi.toInt ≤ 1) (n_lc : 0 ≤ lc.toInt ∧ lc.toInt ≤ 4) (n_nb : 0 ≤ nb.toInt ∧ nb.toInt ≤ 6) (n_np : 0 ≤ np.toInt ∧ np.toInt ≤ 5)  (ci_gfP_zPo : zPo gfP)  : Met l yX10_paintByDraws (.code yX10_paintByDraws cX10_paintByDraws 3 none :: wA) ({ frames := 5, cells := 0, slots := 0, locals := 126 }) (zP (dC, dI) [(cI, .int), (cJ, .long)] [.ref h0] sz [(h0, .inr (10, [.ref tp, h0_courtReader, h0_lawReader, h0_draft, .ref aC, h0_laws, .ref g0, .ref k0, .ref ac, .ref sd, .ref mi, .ref dw, .ref rf, .int lc, .int lh, .int br, .int hi])), (aC, .inr (1, [.ref aR, .ref aB, .ref aP, .int nb, .int np])), (aB, .inl (cI, 24, .inl fb)), (aP, .inl (cI, 20, .inl fp)), (g0, .inr (7, [.ref gY, .ref gF, .ref gP, .int gpn, .int glt, .int gsh, .int gwd, .int gpu, .int gmo])), (gY, .inl (cI, 6, .inl gfY)), (gF, .inl (cI, 5, .inl gfF)), (gP, .inl (cI, 80, .inl gfP)), (sd, .inr (8, [.ref w1, .ref w2, .ref aC, .ref g0, .ref aL, .ref aK, .null])), (dw, .inr (3, [.long x0]))]) (va_Qv (fun (u : Int32 × Int32 × (Nat → Int32) × Int64) => (0 ≤ u.1.toInt) ∧ (u.1.toInt ≤ 20) ∧ (∀ (kc : zK3) (kT : zT) (q_fr : Nat → Int32), zCn q_fr fb fp nb.toInt np.toInt kc → zKo nb.toInt np.toInt kc kT → zSc nb.toInt np.toInt kT.1 gfY gfF gfP gpn glt gsh gwd gpu gmo → 1 ≤ nb.toInt → 1 ≤ np.toInt → zSc nb.toInt np.toInt (sDp nb np kc none kT.1 x0) gfY gfF u.2.2.1 u.1 glt gsh gwd u.2.1 gmo ∧ u.2.2.2 = sNx (sNx x0) ∧ ∀ i : Nat, (i : Int) < 4 * gpn.toInt → u.2.2.1 i = gfP i) ∧ (zPo u.2.2.1)) (fun (u : Int32 × Int32 × (Nat → Int32) × Int64) (t : State) => va_P (dC, dI) vwCl [(h0, .inr (10, [.ref tp, h0_courtReader, h0_lawReader, h0_draft, .ref aC, h0_laws, .ref g0, .ref k0, .ref ac, .ref sd, .ref mi, .ref dw, .ref rf, .int lc, .int lh, .int br, .int hi])), (aC, .inr (1, [.ref aR, .ref aB, .ref aP, .int nb, .int np])), (aB, .inl (cI, 24, .inl fb)), (aP, .inl (cI, 20, .inl fp)), (g0, .inr (7, [.ref gY, .ref gF, .ref gP, .int u.1, .int glt, .int gsh, .int gwd, .int u.2.1, .int gmo])), (gY, .inl (cI, 6, .inl gfY)), (gF, .inl (cI, 5, .inl gfF)), (gP, .inl (cI, 80, .inl u.2.2.1)), (sd, .inr (8, [.ref w1, .ref w2, .ref aC, .ref g0, .ref aL, .ref aK, .null])), (dw, .inr (3, [.long u.2.2.2]))] t.heap ∧ va_D (va_A [(h0, .inr (10, [.ref tp, h0_courtReader, h0_lawReader, h0_draft, .ref aC, h0_laws, .ref g0, .ref k0, .ref ac, .ref sd, .ref mi, .ref dw, .ref rf, .int lc, .int lh, .int br, .int hi])), (aC, .inr (1, [.ref aR, .ref aB, .ref aP, .int nb, .int np])), (aB, .inl (cI, 24, .inl fb)), (aP, .inl (cI, 20, .inl fp)), (g0, .inr (7, [.ref gY, .ref gF, .ref gP, .int gpn, .int glt, .int gsh, .int gwd, .int gpu, .int gmo])), (gY, .inl (cI, 6, .inl gfY)), (gF, .inl (cI, 5, .inl gfF)), (gP, .inl (cI, 80, .inl gfP)), (sd, .inr (8, [.ref w1, .ref w2, .ref aC, .ref g0, .ref aL, .ref aK, .null])), (dw, .inr (3, [.long x0]))] sz) [(h0, .inr (10, [.ref tp, h0_courtReader, h0_lawReader, h0_draft, .ref aC, h0_laws, .ref g0, .ref k0, .ref ac, .ref sd, .ref mi, .ref dw, .ref rf, .int lc, .int lh, .int br, .int hi])), (aC, .inr (1, [.ref aR, .ref aB, .ref aP, .int nb, .int np])), (aB, .inl (cI, 24, .inl fb)), (aP, .inl (cI, 20, .inl fp)), (g0, .inr (7, [.ref gY, .ref gF, .ref gP, .int u.1, .int glt, .int gsh, .int gwd, .int u.2.1, .int gmo])), (gY, .inl (cI, 6, .inl gfY)), (gF, .inl (cI, 5, .inl gfF)), (gP, .inl (cI, 80, .inl u.2.2.1)), (sd, .inr (8, [.ref w1, .ref w2, .ref aC, .ref g0, .ref aL, .ref aK, .null])), (dw, .inr (3, [.long u.2.2.2]))]) (va_A [(h0, .inr (10, [.ref tp, h0_courtReader, h0_lawReader, h0_draft, .ref aC, h0_laws, .ref g0, .ref k0, .ref ac, .ref sd, .ref mi, .ref dw, .ref rf, .int lc, .int lh, .int br, .int hi])), (aC, .inr (1, [.ref aR, .ref aB, .ref aP, .int nb, .int np])), (aB, .inl (cI, 24, .inl fb)), (aP, .inl (cI, 20, .inl fp)), (g0, .inr (7, [.ref gY, .ref gF, .ref gP, .int gpn, .int glt, .int gsh, .int gwd, .int gpu, .int gmo])), (gY, .inl (cI, 6, .inl gfY)), (gF, .inl (cI, 5, .inl gfF)), (gP, .inl (cI, 80, .inl gfP)), (sd, .inr (8, [.ref w1, .ref w2, .ref aC, .ref g0, .ref aL, .ref aK, .null])), (dw, .inr (3, [.long x0]))] sz)) 0 0 (va_A [(h0, .inr (10, [.ref tp, h0_courtReader, h0_lawReader, h0_draft, .ref aC, h0_laws, .ref g0, .ref k0, .ref ac, .ref sd, .ref mi, .ref dw, .ref rf, .int lc, .int lh, .int br, .int hi])), (aC, .inr (1, [.ref aR, .ref aB, .ref aP, .int nb, .int np])), (aB, .inl (cI, 24, .inl fb)), (aP, .inl (cI, 20, .inl fp)), (g0, .inr (7, [.ref gY, .ref gF, .ref gP, .int gpn, .int glt, .int gsh, .int gwd, .int gpu, .int gmo])), (gY, .inl (cI, 6, .inl gfY)), (gF, .inl (cI, 5, .inl gfF)), (gP, .inl (cI, 80, .inl gfP)), (sd, .inr (8, [.ref w1, .ref w2, .ref aC, .ref g0, .ref aL, .ref aK, .null])), (dw, .inr (3, [.long x0]))] sz) := by
  refine Met.ofW (cc := cX10_paintByDraws) (maxL := 3) (ret := none) (by decide) rfl ?_
  intro p e s m args below meth c s₁ B hml hv
  have y_gwd : zHid ((-1) ≤ gwd.toInt ∧ gwd.toInt ≤ 5) := n_gwd
  have y_hi : zHid (0 ≤ hi.toInt ∧ hi.toInt ≤ 1) := n_hi
  have y_lc : zHid (0 ≤ lc.toInt ∧ lc.toInt ≤ 4) := n_lc
  clear n_gwd n_hi n_lc
  obtain ⟨hargs, hsz, hP, hK, hT⟩ := hv
  have hx := B.exec
  have hb := B.bytes
  have hr := B.returns
  have hts : ∀ w ∈ wA, w.before args s = true := fun w h => atoms_spec (ws := .code yX10_paintByDraws cX10_paintByDraws 3 none :: wA) B.pre w (List.mem_cons_of_mem _ h)
  have hown : s.vm.findClass RX10 = some m.cls := findClass_of_methodNamed B.named
  have hlocks := B.notSynchronized
  subst hsz
  have hD := hT.self (sz := s.heap.size)
  generalize hAe : va_A [(h0, .inr (10, [.ref tp, h0_courtReader, h0_lawReader, h0_draft, .ref aC, h0_laws, .ref g0, .ref k0, .ref ac, .ref sd, .ref mi, .ref dw, .ref rf, .int lc, .int lh, .int br, .int hi])), (aC, .inr (1, [.ref aR, .ref aB, .ref aP, .int nb, .int np])), (aB, .inl (cI, 24, .inl fb)), (aP, .inl (cI, 20, .inl fp)), (g0, .inr (7, [.ref gY, .ref gF, .ref gP, .int gpn, .int glt, .int gsh, .int gwd, .int gpu, .int gmo])), (gY, .inl (cI, 6, .inl gfY)), (gF, .inl (cI, 5, .inl gfF)), (gP, .inl (cI, 80, .inl gfP)), (sd, .inr (8, [.ref w1, .ref w2, .ref aC, .ref g0, .ref aL, .ref aK, .null])), (dw, .inr (3, [.long x0]))] s.heap.size = A at hD ⊢
  have hA : ∀ q : Nat, s.heap.size ≤ q → A q := fun q h => by rw [← hAe]; exact Or.inr h
  have hl := lv_entry ([.ref h0]) (n := 3) (Nat.le_of_ble_eq_true rfl)
  rw [show entryFrame m args 3 = entryFrame m ([.ref h0] : List Value).toArray 3 by rw [hargs], lg_entry_eq]
  generalize (lg_sl ([.ref h0]) ++ List.replicate (3 - (lg_sl ([.ref h0])).length) Slot.unset).toArray = ls at hl ⊢
  have hl : lv_has ls 3 [(0, .ref h0)] := hl
  refine zstart (fun H hH => ?_)
  rw [← hH] at hP
  have hS : va_S A s.heap H [] := by rw [hH]; exact va_S.rf
  generalize ([] : List Loc) = locs at hS ⊢
  refine zgen (fun R Q hR hQ => ?_)
  refine lv_aload_n hx hb dX10_paintByDraws_0 rfl (lv_at hl 0 rfl) ?_
  refine va_get (D := (dC, dI)) (ci := 10) (v := .ref dw) (C := RX10) (T := TX10) (N := 17) hx hb hts iX10 hown hK hP 0 rfl rfl 11 (by decide) (hts _ qw367) (fun _ h9 => h9) rfl dX10_paintByDraws_1 ?_
  refine lv_aload_n hx hb dX10_paintByDraws_4 rfl (lv_at hl 0 rfl) ?_
  refine va_get (D := (dC, dI)) (ci := 10) (v := .ref aC) (C := RX10) (T := TX10) (N := 17) hx hb hts iX10 hown hK hP 0 rfl rfl 4 (by decide) (hts _ qw360) (fun _ h9 => h9) rfl dX10_paintByDraws_5 ?_
  refine va_get (D := (dC, dI)) (ci := 1) (v := .int np) (C := RX1) (T := TX1) (N := 5) hx hb hts iX1 hown hK hP 1 rfl rfl 4 (by decide) (hts _ qw200) (fun _ h9 => h9) rfl dX10_paintByDraws_8 ?_
  obtain ⟨hPc, hDc, hFc⟩ := zc3 (wc := [(dw, .inr (3, [.long x0]))]) hP hD hS hA [9] (by decide +kernel) rfl
  refine va_calli (va_runV (As := [.int np]) (rest := []) ⟨hx, hb, hml, hown, hts⟩ (g_X3_below_5 l dC dI cI cJ dw np x0 H.size n_np) (cwV 1 hts (zgV qw784 qw785 qw786 qw107 qw787) rfl rfl rfl hd_X3_below ⟨by rw [hR]; exact Nat.le_of_ble_eq_true rfl, by rw [hR]; exact Nat.le_of_ble_eq_true rfl⟩) (zPV hPc hK hDc (va_recv (q := (RX3, TX3, 1)) hK hP (ci := 3) (q0 := 9) rfl rfl)) rfl rfl hl.1 rfl (lv_room (Nat.le_of_ble_eq_true rfl)) dX10_paintByDraws_11 ⟨Nat.zero_le _, Nat.zero_le _⟩) hS (fun q _ h => hFc q h) hFc (fun v11 u11 t H locs ht hvm hw hB hz1 hk1 hS9 => ?_)
  obtain ⟨u11_0, rfl⟩ : ∃ z, z = u11 := ⟨_, rfl⟩
  obtain ⟨hP9, hD9⟩ := zj2 (wX := [(h0, .inr (10, [.ref tp, h0_courtReader, h0_lawReader, h0_draft, .ref aC, h0_laws, .ref g0, .ref k0, .ref ac, .ref sd, .ref mi, .ref dw, .ref rf, .int lc, .int lh, .int br, .int hi])), (aC, .inr (1, [.ref aR, .ref aB, .ref aP, .int nb, .int np])), (aB, .inl (cI, 24, .inl fb)), (aP, .inl (cI, 20, .inl fp)), (g0, .inr (7, [.ref gY, .ref gF, .ref gP, .int gpn, .int glt, .int gsh, .int gwd, .int gpu, .int gmo])), (gY, .inl (cI, 6, .inl gfY)), (gF, .inl (cI, 5, .inl gfF)), (gP, .inl (cI, 80, .inl gfP)), (sd, .inr (8, [.ref w1, .ref w2, .ref aC, .ref g0, .ref aL, .ref aK, .null])), (dw, .inr (3, [.long u11_0]))]) hP hD hk1 hFc ht hB [9] [(false, 0), (false, 1), (false, 2), (false, 3), (false, 4), (false, 5), (false, 6), (false, 7), (false, 8), (true, 0)] rfl (by decide +kernel) (by decide +kernel) rfl
  clear hP hD hS hPc hDc hFc hB hk1 hz1 hvm
  have hP := hP9
  have hD := hD9
  have hS := hS9
  clear hP9 hD9 hS9
  obtain ⟨f11_0, f11_1, f11_2, f11_3, f11_4⟩ : (0 ≤ v11.toInt) ∧ (v11.toInt ≤ 4) ∧ (v11.toInt < np.toInt ∨ np.toInt < 1) ∧ (1 ≤ np.toInt → v11 = sDr (sNx x0) np) ∧ (u11_0 = sNx x0) := hw
  have F11 := f11_3
  have F11_1 := f11_4
  refine lv_istore_n (lv' := [(1, .int v11), (0, .ref h0)]) hx hb dX10_paintByDraws_14 rfl hl (by decide) rfl (fun ls hl => ?_)
  refine lv_aload_n hx hb dX10_paintByDraws_15 rfl (lv_at hl 1 rfl) ?_
  refine va_get (D := (dC, dI)) (ci := 10) (v := .ref dw) (C := RX10) (T := TX10) (N := 17) hx hb hts iX10 hown hK hP 0 rfl rfl 11 (by decide) (hts _ qw367) (fun _ h9 => h9) rfl dX10_paintByDraws_16 ?_
  refine lv_aload_n hx hb dX10_paintByDraws_19 rfl (lv_at hl 1 rfl) ?_
  refine va_get (D := (dC, dI)) (ci := 10) (v := .ref aC) (C := RX10) (T := TX10) (N := 17) hx hb hts iX10 hown hK hP 0 rfl rfl 4 (by decide) (hts _ qw360) (fun _ h9 => h9) rfl dX10_paintByDraws_20 ?_
  refine va_get (D := (dC, dI)) (ci := 1) (v := .int nb) (C := RX1) (T := TX1) (N := 5) hx hb hts iX1 hown hK hP 1 rfl rfl 3 (by decide) (hts _ qw195) (fun _ h9 => h9) rfl dX10_paintByDraws_23 ?_
  obtain ⟨hPc, hDc, hFc⟩ := zc3 (wc := [(dw, .inr (3, [.long u11_0]))]) hP hD hS hA [9] (by decide +kernel) rfl
  refine va_calli (va_runV (As := [.int nb]) (rest := []) ⟨hx, hb, hml, hown, hts⟩ (g_X3_below_6 l dC dI cI cJ dw nb u11_0 H.size n_nb) (cwV 1 hts (zgV qw784 qw785 qw786 qw107 qw787) rfl rfl rfl hd_X3_below ⟨by rw [hR]; exact Nat.le_of_ble_eq_true rfl, by rw [hR]; exact Nat.le_of_ble_eq_true rfl⟩) (zPV hPc hK hDc (va_recv (q := (RX3, TX3, 1)) hK hP (ci := 3) (q0 := 9) rfl rfl)) rfl rfl hl.1 rfl (lv_room (Nat.le_of_ble_eq_true rfl)) dX10_paintByDraws_26 ⟨Nat.zero_le _, Nat.zero_le _⟩) hS (fun q _ h => hFc q h) hFc (fun v26 u26 t H locs ht hvm hw hB hz1 hk1 hS9 => ?_)
  obtain ⟨u26_0, rfl⟩ : ∃ z, z = u26 := ⟨_, rfl⟩
  obtain ⟨hP9, hD9⟩ := zj2 (wX := [(h0, .inr (10, [.ref tp, h0_courtReader, h0_lawReader, h0_draft, .ref aC, h0_laws, .ref g0, .ref k0, .ref ac, .ref sd, .ref mi, .ref dw, .ref rf, .int lc, .int lh, .int br, .int hi])), (aC, .inr (1, [.ref aR, .ref aB, .ref aP, .int nb, .int np])), (aB, .inl (cI, 24, .inl fb)), (aP, .inl (cI, 20, .inl fp)), (g0, .inr (7, [.ref gY, .ref gF, .ref gP, .int gpn, .int glt, .int gsh, .int gwd, .int gpu, .int gmo])), (gY, .inl (cI, 6, .inl gfY)), (gF, .inl (cI, 5, .inl gfF)), (gP, .inl (cI, 80, .inl gfP)), (sd, .inr (8, [.ref w1, .ref w2, .ref aC, .ref g0, .ref aL, .ref aK, .null])), (dw, .inr (3, [.long u26_0]))]) hP hD hk1 hFc ht hB [9] [(false, 0), (false, 1), (false, 2), (false, 3), (false, 4), (false, 5), (false, 6), (false, 7), (false, 8), (true, 0)] rfl (by decide +kernel) (by decide +kernel) rfl
  clear hP hD hS hPc hDc hFc hB hk1 hz1 hvm
  have hP := hP9
  have hD := hD9
  have hS := hS9
  clear hP9 hD9 hS9
  obtain ⟨f26_0, f26_1, f26_2, f26_3, f26_4⟩ : (0 ≤ v26.toInt) ∧ (v26.toInt ≤ 5) ∧ (v26.toInt < nb.toInt ∨ nb.toInt < 1) ∧ (1 ≤ nb.toInt → v26 = sDr (sNx u11_0) nb) ∧ (u26_0 = sNx u11_0) := hw
  have F26 := f26_3
  have F26_1 := f26_4
  refine lv_istore_n (lv' := [(2, .int v26), (1, .int v11), (0, .ref h0)]) hx hb dX10_paintByDraws_29 rfl hl (by decide) rfl (fun ls hl => ?_)
  refine lv_aload_n hx hb dX10_paintByDraws_30 rfl (lv_at hl 2 rfl) ?_
  refine va_get (D := (dC, dI)) (ci := 10) (v := .ref g0) (C := RX10) (T := TX10) (N := 17) hx hb hts iX10 hown hK hP 0 rfl rfl 6 (by decide) (hts _ qw362) (fun _ h9 => h9) rfl dX10_paintByDraws_31 ?_
  refine va_get (D := (dC, dI)) (ci := 7) (v := .int gpu) (C := RX7) (T := TX7) (N := 9) hx hb hts iX7 hown hK hP 4 rfl rfl 7 (by decide) (hts _ qw239) (fun _ h9 => h9) rfl dX10_paintByDraws_34 ?_
  refine lv_aload_n hx hb dX10_paintByDraws_37 rfl (lv_at hl 2 rfl) ?_
  refine va_get (D := (dC, dI)) (ci := 10) (v := .ref aC) (C := RX10) (T := TX10) (N := 17) hx hb hts iX10 hown hK hP 0 rfl rfl 4 (by decide) (hts _ qw360) (fun _ h9 => h9) rfl dX10_paintByDraws_38 ?_
  refine lv_iload_n hx hb dX10_paintByDraws_41 rfl (lv_at hl 1 rfl) ?_
  obtain ⟨hPc, hDc⟩ := zc2 (wc := [(aC, .inr (1, [.ref aR, .ref aB, .ref aP, .int nb, .int np])), (aP, .inl (cI, 20, .inl fp))]) hP hD [1, 3] (by decide +kernel) rfl
  have hFc := zfr hS hA
  refine va_calli (va_runV (As := [.int v11]) (rest := [.int gpu]) ⟨hx, hb, hml, hown, hts⟩ (g_X1_feeOf l dC dI cI cJ aC v11 aR aB aP nb np fp H.size ⟨f11_0, f11_1⟩) (cwV 1 hts (zgV qw609 qw610 qw611 qw102 qw612) rfl rfl rfl hd_X1_feeOf ⟨by rw [hR]; exact Nat.le_of_ble_eq_true rfl, by rw [hR]; exact Nat.le_of_ble_eq_true rfl⟩) (zPV hPc hK hDc (va_recv (q := (RX1, TX1, 5)) hK hP (ci := 1) (q0 := 1) rfl rfl)) rfl rfl hl.1 rfl (lv_room (Nat.le_of_ble_eq_true rfl)) dX10_paintByDraws_42 ⟨Nat.zero_le _, Nat.zero_le _⟩) hS (fun q _ h => hFc q h) hFc (fun v42 u42 t H locs ht hvm hw hB hz1 hk1 hS9 => ?_)
  replace hP := zkeep hP hk1
  replace hS := hS9
  clear hPc hDc hFc hk1 hz1 hvm hS9
  have f42_0 : (v42 = fp (4 * v11.toInt.toNat + 1)) := hw
  have F42 := f42_0
  refine lv_icmp_lt (tgt := 67) hx hb dX10_paintByDraws_45 (by decide) (fun c45 => ?_) (fun c45 => ?_)
  · have c45 : gpu.toInt < v42.toInt := z1 rfl rfl c45
    rw [hQ]
    exact W.vret hx hb hr (fun t ht hW => ⟨⟨(gpn, gpu, gfP, u26_0), rfl, ⟨by (try dsimp only); omega, by (try dsimp only); omega, by (try dsimp only); exact fun kc kT q_fr hc hb h hn0 hn1 => by have a11 := F11 hn1; have a26 := F26 hn0; rw [F11_1] at a26; have zp := congrArg Int32.toInt (zSc_pu h); have zn := congrArg Int32.toInt (zSc_pn h); have y42 : v42 = kc.2.2 (4 * v11.toInt.toNat + 1) := F42.trans (hc.2.2 _ (by omega)); have zx : u26_0 = sNx (sNx x0) := (by rw [F26_1, F11_1]); unfold sDp; rw [← a11, ← a26, ← y42, if_pos (by omega)]; exact ⟨h, zx, fun _ _ => rfl⟩, ci_gfP_zPo⟩, ⟨by rw [ht]; exact hP, hD⟩⟩, hS.F ht⟩) hS.2.2 dX10_paintByDraws_67
  · have c45 : v42.toInt ≤ gpu.toInt := z2 rfl rfl c45
    refine lv_aload_n hx hb dX10_paintByDraws_48 rfl (lv_at hl 2 rfl) ?_
    refine va_get (D := (dC, dI)) (ci := 10) (v := .ref g0) (C := RX10) (T := TX10) (N := 17) hx hb hts iX10 hown hK hP 0 rfl rfl 6 (by decide) (hts _ qw362) (fun _ h9 => h9) rfl dX10_paintByDraws_49 ?_
    refine va_get (D := (dC, dI)) (ci := 7) (v := .int gpn) (C := RX7) (T := TX7) (N := 9) hx hb hts iX7 hown hK hP 4 rfl rfl 3 (by decide) (hts _ qw229) (fun _ h9 => h9) rfl dX10_paintByDraws_52 ?_
    refine lv_bipush (v := 20) hx hb dX10_paintByDraws_55 (by decide) ?_
    refine lv_icmp_ge (tgt := 67) hx hb dX10_paintByDraws_57 (by decide) (fun c57 => ?_) (fun c57 => ?_)
    · have c57 : 20 ≤ gpn.toInt := z3 (by decide) rfl c57
      rw [hQ]
      exact W.vret hx hb hr (fun t ht hW => ⟨⟨(gpn, gpu, gfP, u26_0), rfl, ⟨by (try dsimp only); omega, by (try dsimp only); omega, by (try dsimp only); exact fun kc kT q_fr hc hb h hn0 hn1 => by have a11 := F11 hn1; have a26 := F26 hn0; rw [F11_1] at a26; have zp := congrArg Int32.toInt (zSc_pu h); have zn := congrArg Int32.toInt (zSc_pn h); have y42 : v42 = kc.2.2 (4 * v11.toInt.toNat + 1) := F42.trans (hc.2.2 _ (by omega)); have zx : u26_0 = sNx (sNx x0) := (by rw [F26_1, F11_1]); unfold sDp; rw [← a11, ← a26, ← y42, if_pos (by omega)]; exact ⟨h, zx, fun _ _ => rfl⟩, ci_gfP_zPo⟩, ⟨by rw [ht]; exact hP, hD⟩⟩, hS.F ht⟩) hS.2.2 dX10_paintByDraws_67
    · have c57 : gpn.toInt < 20 := z4 (by decide) rfl c57
      refine lv_aload_n hx hb dX10_paintByDraws_60 rfl (lv_at hl 2 rfl) ?_
      refine lv_iload_n hx hb dX10_paintByDraws_61 rfl (lv_at hl 1 rfl) ?_
      refine lv_iload_n hx hb dX10_paintByDraws_62 rfl (lv_at hl 0 rfl) ?_
      obtain ⟨hPc, hDc, hFc⟩ := zc3 (wc := [(h0, .inr (10, [.ref tp, h0_courtReader, h0_lawReader, h0_draft, .ref aC, h0_laws, .ref g0, .ref k0, .ref ac, .ref sd, .ref mi, .ref dw, .ref rf, .int lc, .int lh, .int br, .int hi])), (aC, .inr (1, [.ref aR, .ref aB, .ref aP, .int nb, .int np])), (aB, .inl (cI, 24, .inl fb)), (aP, .inl (cI, 20, .inl fp)), (g0, .inr (7, [.ref gY, .ref gF, .ref gP, .int gpn, .int glt, .int gsh, .int gwd, .int gpu, .int gmo])), (gY, .inl (cI, 6, .inl gfY)), (gF, .inl (cI, 5, .inl gfF)), (gP, .inl (cI, 80, .inl gfP)), (sd, .inr (8, [.ref w1, .ref w2, .ref aC, .ref g0, .ref aL, .ref aK, .null]))]) hP hD hS hA [0, 1, 2, 3, 4, 5, 6, 7, 8] (by decide +kernel) rfl
      refine va_calli (va_runV (As := [.int v11, .int v26]) (rest := []) ⟨hx, hb, hml, hown, hts⟩ (g_X10_paintNow_n l dC dI cI cJ h0 v11 v26 tp h0_courtReader h0_lawReader h0_draft aC h0_laws g0 k0 ac sd mi dw rf lc lh br hi aR aB aP nb np fb fp gY gF gP gpn glt gsh gwd gpu gmo gfY gfF gfP w1 w2 aL aK H.size (by omega) y_gwd y_hi y_lc n_nb n_np ⟨f11_0, f11_1⟩ ⟨f26_0, f26_1⟩ ci_gfP_zPo) (cwV 2 hts (zgV qw698 qw700 qw14 qw98 qw701) rfl rfl rfl hd_X10_paintNow ⟨by rw [hR]; exact Nat.le_of_ble_eq_true rfl, by rw [hR]; exact Nat.le_of_ble_eq_true rfl⟩) (zPV hPc hK hDc (va_recv (q := (RX10, TX10, 17)) hK hP (ci := 10) (q0 := 0) rfl rfl)) rfl rfl hl.1 rfl (lv_room (Nat.le_of_ble_eq_true rfl)) dX10_paintByDraws_63 ⟨Nat.zero_le _, Nat.zero_le _⟩) hS (fun q _ h => hFc q h) hFc (fun v63 u63 t H locs ht hvm hw hB hz1 hk1 hS9 => ?_)
      obtain ⟨u63_0, u63_1, u63_2⟩ := u63
      obtain ⟨hP9, hD9⟩ := zj2 (wX := [(h0, .inr (10, [.ref tp, h0_courtReader, h0_lawReader, h0_draft, .ref aC, h0_laws, .ref g0, .ref k0, .ref ac, .ref sd, .ref mi, .ref dw, .ref rf, .int lc, .int lh, .int br, .int hi])), (aC, .inr (1, [.ref aR, .ref aB, .ref aP, .int nb, .int np])), (aB, .inl (cI, 24, .inl fb)), (aP, .inl (cI, 20, .inl fp)), (g0, .inr (7, [.ref gY, .ref gF, .ref gP, .int u63_0, .int glt, .int gsh, .int gwd, .int u63_1, .int gmo])), (gY, .inl (cI, 6, .inl gfY)), (gF, .inl (cI, 5, .inl gfF)), (gP, .inl (cI, 80, .inl u63_2)), (sd, .inr (8, [.ref w1, .ref w2, .ref aC, .ref g0, .ref aL, .ref aK, .null])), (dw, .inr (3, [.long u26_0]))]) hP hD hk1 hFc ht hB [0, 1, 2, 3, 4, 5, 6, 7, 8] [(true, 0), (true, 1), (true, 2), (true, 3), (true, 4), (true, 5), (true, 6), (true, 7), (true, 8), (false, 9)] rfl (by decide +kernel) (by decide +kernel) rfl
      clear hP hD hS hPc hDc hFc hB hk1 hz1 hvm
      have hP := hP9
      have hD := hD9
      have hS := hS9
      clear hP9 hD9 hS9
      obtain ⟨f63_0, f63_1, f63_2, f63_3, f63_4, f63_5⟩ : (0 ≤ v63.toInt) ∧ (v63.toInt ≤ 9) ∧ (1 ≤ u63_0.toInt) ∧ (u63_0.toInt ≤ 20) ∧ (∀ (kc : zK3) (kT : zT) (q_fr : Nat → Int32), zCn q_fr fb fp nb.toInt np.toInt kc → zKo nb.toInt np.toInt kc kT → zSc nb.toInt np.toInt kT.1 gfY gfF gfP gpn glt gsh gwd gpu gmo → (0 ≤ v11.toInt ∧ v11.toInt < np.toInt) → (0 ≤ v26.toInt ∧ v26.toInt < nb.toInt) → v63 = sV_pnt kc kT.1 none v11 v26 ∧ zSc nb.toInt np.toInt (sN_pnt kc kT.1 none v11 v26) gfY gfF u63_2 u63_0 glt gsh gwd u63_1 gmo ∧ ∀ i : Nat, (i : Int) < 4 * gpn.toInt → u63_2 i = gfP i) ∧ (zPo u63_2) := hw
      have F63 := f63_4
      refine lv_pop hx hb dX10_paintByDraws_66 rfl ?_
      rw [hQ]
      exact W.vret hx hb hr (fun t ht hW => ⟨⟨(u63_0, u63_1, u63_2, u26_0), rfl, ⟨by (try dsimp only); omega, by (try dsimp only); omega, by (try dsimp only); exact fun kc kT q_fr hc hb h hn0 hn1 => by have a11 := F11 hn1; have a26 := F26 hn0; rw [F11_1] at a26; have zp := congrArg Int32.toInt (zSc_pu h); have zn := congrArg Int32.toInt (zSc_pn h); have y42 : v42 = kc.2.2 (4 * v11.toInt.toNat + 1) := F42.trans (hc.2.2 _ (by omega)); have zx : u26_0 = sNx (sNx x0) := (by rw [F26_1, F11_1]); have z := F63 kc kT _ hc hb h (by omega) (by omega); unfold sDp; rw [← a11, ← a26, ← y42, if_neg (by omega)]; exact ⟨z.2.1, zx, z.2.2⟩, f63_5⟩, ⟨by rw [ht]; exact hP, hD⟩⟩, hS.F ht⟩) hS.2.2 dX10_paintByDraws_67
set_option maxHeartbeats 4000000 in
set_option maxRecDepth 100000 in
theorem g_X10_paintByDraws_l (l : Launch) (dC : Nat → ClassId) (dI : Nat → Nat → Nat) (cI cJ : ClassId) (h0 : Nat) (tp : Nat) (h0_courtReader : Value) (h0_lawReader : Value) (h0_draft : Value) (aC : Nat) (h0_laws : Value) (g0 : Nat) (k0 : Nat) (ac : Nat) (sd : Nat) (mi : Nat) (dw : Nat) (rf : Nat) (lc : Int32) (lh : Int32) (br : Int32) (hi : Int32) (aR : Nat) (aB : Nat) (aP : Nat) (nb : Int32) (np : Int32) (fb : Nat → Int32) (fp : Nat → Int32) (gY : Nat) (gF : Nat) (gP : Nat) (gpn : Int32) (glt : Int32) (gsh : Int32) (gwd : Int32) (gpu : Int32) (gmo : Int32) (gfY : Nat → Int32) (gfF : Nat → Int32) (gfP : Nat → Int32) (w1 : Nat) (w2 : Nat) (aL : Nat) (aK : Nat) (lw : Nat) (fL : Nat → Int32) (fK : Nat → Int32) (lS : Nat) (fS : Nat → Int32) (lk : Nat) (x0 : Int64) (sz : Nat) (n_gpn : 0 ≤ gpn.toInt ∧ gpn.toInt ≤ 20) (n_gwd : (-1) ≤ gwd.toInt ∧ gwd.toInt ≤ 5) (n_hi : 0 ≤ hi.toInt ∧ hi.toInt ≤ 1) (n_lc : 0 ≤ lc.toInt ∧ lc.toInt ≤ 4) (n_nb : 0 ≤ nb.toInt ∧ nb.toInt ≤ 6) (n_np : 0 ≤ np.toInt ∧ np.toInt ≤ 5) (hlk : lk ≤ 241) (ci_fS_zSt : zSt fS) (ci_gfP_zPo : zPo gfP)  : Met l yX10_paintByDraws (.code yX10_paintByDraws cX10_paintByDraws 3 none :: wA) ({ frames := 5, cells := 0, slots := 0, locals := 126 }) (zP (dC, dI) [(cI, .int), (cJ, .long)] [.ref h0] sz [(h0, .inr (10, [.ref tp, h0_courtReader, h0_lawReader, h0_draft, .ref aC, h0_laws, .ref g0, .ref k0, .ref ac, .ref sd, .ref mi, .ref dw, .ref rf, .int lc, .int lh, .int br, .int hi])), (aC, .inr (1, [.ref aR, .ref aB, .ref aP, .int nb, .int np])), (aB, .inl (cI, 24, .inl fb)), (aP, .inl (cI, 20, .inl fp)), (g0, .inr (7, [.ref gY, .ref gF, .ref gP, .int gpn, .int glt, .int gsh, .int gwd, .int gpu, .int gmo])), (gY, .inl (cI, 6, .inl gfY)), (gF, .inl (cI, 5, .inl gfF)), (gP, .inl (cI, 80, .inl gfP)), (sd, .inr (8, [.ref w1, .ref w2, .ref aC, .ref g0, .ref aL, .ref aK, .ref lw])), (aL, .inl (cI, 6, .inl fL)), (aK, .inl (cI, 32, .inl fK)), (lw, .inr (4, [.ref lS])), (lS, .inl (cI, lk, .inl fS)), (dw, .inr (3, [.long x0]))]) (va_Qv (fun (u : Int32 × Int32 × (Nat → Int32) × (Nat → Int32) × (Nat → Int32) × Int64) => (0 ≤ u.1.toInt) ∧ (u.1.toInt ≤ 20) ∧ (∀ (kc : zK3) (kT : zT) (q_fr : Nat → Int32) (kt : (Int → Int) × Int), zCn q_fr fb fp nb.toInt np.toInt kc → zKo nb.toInt np.toInt kc kT → zSc nb.toInt np.toInt kT.1 gfY gfF gfP gpn glt gsh gwd gpu gmo → zLwC fS lk kt → 1 ≤ nb.toInt → 1 ≤ np.toInt → zSc nb.toInt np.toInt (sDp nb np kc (some kt) kT.1 x0) gfY gfF u.2.2.1 u.1 glt gsh gwd u.2.1 gmo ∧ u.2.2.2.2.2 = sNx (sNx x0) ∧ ∀ i : Nat, (i : Int) < 4 * gpn.toInt → u.2.2.1 i = gfP i) ∧ (zPo u.2.2.1)) (fun (u : Int32 × Int32 × (Nat → Int32) × (Nat → Int32) × (Nat → Int32) × Int64) (t : State) => va_P (dC, dI) vwCl [(h0, .inr (10, [.ref tp, h0_courtReader, h0_lawReader, h0_draft, .ref aC, h0_laws, .ref g0, .ref k0, .ref ac, .ref sd, .ref mi, .ref dw, .ref rf, .int lc, .int lh, .int br, .int hi])), (aC, .inr (1, [.ref aR, .ref aB, .ref aP, .int nb, .int np])), (aB, .inl (cI, 24, .inl fb)), (aP, .inl (cI, 20, .inl fp)), (g0, .inr (7, [.ref gY, .ref gF, .ref gP, .int u.1, .int glt, .int gsh, .int gwd, .int u.2.1, .int gmo])), (gY, .inl (cI, 6, .inl gfY)), (gF, .inl (cI, 5, .inl gfF)), (gP, .inl (cI, 80, .inl u.2.2.1)), (sd, .inr (8, [.ref w1, .ref w2, .ref aC, .ref g0, .ref aL, .ref aK, .ref lw])), (aL, .inl (cI, 6, .inl u.2.2.2.1)), (aK, .inl (cI, 32, .inl u.2.2.2.2.1)), (lw, .inr (4, [.ref lS])), (lS, .inl (cI, lk, .inl fS)), (dw, .inr (3, [.long u.2.2.2.2.2]))] t.heap ∧ va_D (va_A [(h0, .inr (10, [.ref tp, h0_courtReader, h0_lawReader, h0_draft, .ref aC, h0_laws, .ref g0, .ref k0, .ref ac, .ref sd, .ref mi, .ref dw, .ref rf, .int lc, .int lh, .int br, .int hi])), (aC, .inr (1, [.ref aR, .ref aB, .ref aP, .int nb, .int np])), (aB, .inl (cI, 24, .inl fb)), (aP, .inl (cI, 20, .inl fp)), (g0, .inr (7, [.ref gY, .ref gF, .ref gP, .int gpn, .int glt, .int gsh, .int gwd, .int gpu, .int gmo])), (gY, .inl (cI, 6, .inl gfY)), (gF, .inl (cI, 5, .inl gfF)), (gP, .inl (cI, 80, .inl gfP)), (sd, .inr (8, [.ref w1, .ref w2, .ref aC, .ref g0, .ref aL, .ref aK, .ref lw])), (aL, .inl (cI, 6, .inl fL)), (aK, .inl (cI, 32, .inl fK)), (lw, .inr (4, [.ref lS])), (lS, .inl (cI, lk, .inl fS)), (dw, .inr (3, [.long x0]))] sz) [(h0, .inr (10, [.ref tp, h0_courtReader, h0_lawReader, h0_draft, .ref aC, h0_laws, .ref g0, .ref k0, .ref ac, .ref sd, .ref mi, .ref dw, .ref rf, .int lc, .int lh, .int br, .int hi])), (aC, .inr (1, [.ref aR, .ref aB, .ref aP, .int nb, .int np])), (aB, .inl (cI, 24, .inl fb)), (aP, .inl (cI, 20, .inl fp)), (g0, .inr (7, [.ref gY, .ref gF, .ref gP, .int u.1, .int glt, .int gsh, .int gwd, .int u.2.1, .int gmo])), (gY, .inl (cI, 6, .inl gfY)), (gF, .inl (cI, 5, .inl gfF)), (gP, .inl (cI, 80, .inl u.2.2.1)), (sd, .inr (8, [.ref w1, .ref w2, .ref aC, .ref g0, .ref aL, .ref aK, .ref lw])), (aL, .inl (cI, 6, .inl u.2.2.2.1)), (aK, .inl (cI, 32, .inl u.2.2.2.2.1)), (lw, .inr (4, [.ref lS])), (lS, .inl (cI, lk, .inl fS)), (dw, .inr (3, [.long u.2.2.2.2.2]))]) (va_A [(h0, .inr (10, [.ref tp, h0_courtReader, h0_lawReader, h0_draft, .ref aC, h0_laws, .ref g0, .ref k0, .ref ac, .ref sd, .ref mi, .ref dw, .ref rf, .int lc, .int lh, .int br, .int hi])), (aC, .inr (1, [.ref aR, .ref aB, .ref aP, .int nb, .int np])), (aB, .inl (cI, 24, .inl fb)), (aP, .inl (cI, 20, .inl fp)), (g0, .inr (7, [.ref gY, .ref gF, .ref gP, .int gpn, .int glt, .int gsh, .int gwd, .int gpu, .int gmo])), (gY, .inl (cI, 6, .inl gfY)), (gF, .inl (cI, 5, .inl gfF)), (gP, .inl (cI, 80, .inl gfP)), (sd, .inr (8, [.ref w1, .ref w2, .ref aC, .ref g0, .ref aL, .ref aK, .ref lw])), (aL, .inl (cI, 6, .inl fL)), (aK, .inl (cI, 32, .inl fK)), (lw, .inr (4, [.ref lS])), (lS, .inl (cI, lk, .inl fS)), (dw, .inr (3, [.long x0]))] sz)) 0 0 (va_A [(h0, .inr (10, [.ref tp, h0_courtReader, h0_lawReader, h0_draft, .ref aC, h0_laws, .ref g0, .ref k0, .ref ac, .ref sd, .ref mi, .ref dw, .ref rf, .int lc, .int lh, .int br, .int hi])), (aC, .inr (1, [.ref aR, .ref aB, .ref aP, .int nb, .int np])), (aB, .inl (cI, 24, .inl fb)), (aP, .inl (cI, 20, .inl fp)), (g0, .inr (7, [.ref gY, .ref gF, .ref gP, .int gpn, .int glt, .int gsh, .int gwd, .int gpu, .int gmo])), (gY, .inl (cI, 6, .inl gfY)), (gF, .inl (cI, 5, .inl gfF)), (gP, .inl (cI, 80, .inl gfP)), (sd, .inr (8, [.ref w1, .ref w2, .ref aC, .ref g0, .ref aL, .ref aK, .ref lw])), (aL, .inl (cI, 6, .inl fL)), (aK, .inl (cI, 32, .inl fK)), (lw, .inr (4, [.ref lS])), (lS, .inl (cI, lk, .inl fS)), (dw, .inr (3, [.long x0]))] sz) := by
  refine Met.ofW (cc := cX10_paintByDraws) (maxL := 3) (ret := none) (by decide) rfl ?_
  intro p e s m args below meth c s₁ B hml hv
  have y_gwd : zHid ((-1) ≤ gwd.toInt ∧ gwd.toInt ≤ 5) := n_gwd
  have y_hi : zHid (0 ≤ hi.toInt ∧ hi.toInt ≤ 1) := n_hi
  have y_lc : zHid (0 ≤ lc.toInt ∧ lc.toInt ≤ 4) := n_lc
  clear n_gwd n_hi n_lc
  obtain ⟨hargs, hsz, hP, hK, hT⟩ := hv
  have hx := B.exec
  have hb := B.bytes
  have hr := B.returns
  have hts : ∀ w ∈ wA, w.before args s = true := fun w h => atoms_spec (ws := .code yX10_paintByDraws cX10_paintByDraws 3 none :: wA) B.pre w (List.mem_cons_of_mem _ h)
  have hown : s.vm.findClass RX10 = some m.cls := findClass_of_methodNamed B.named
  have hlocks := B.notSynchronized
  subst hsz
  have hD := hT.self (sz := s.heap.size)
  generalize hAe : va_A [(h0, .inr (10, [.ref tp, h0_courtReader, h0_lawReader, h0_draft, .ref aC, h0_laws, .ref g0, .ref k0, .ref ac, .ref sd, .ref mi, .ref dw, .ref rf, .int lc, .int lh, .int br, .int hi])), (aC, .inr (1, [.ref aR, .ref aB, .ref aP, .int nb, .int np])), (aB, .inl (cI, 24, .inl fb)), (aP, .inl (cI, 20, .inl fp)), (g0, .inr (7, [.ref gY, .ref gF, .ref gP, .int gpn, .int glt, .int gsh, .int gwd, .int gpu, .int gmo])), (gY, .inl (cI, 6, .inl gfY)), (gF, .inl (cI, 5, .inl gfF)), (gP, .inl (cI, 80, .inl gfP)), (sd, .inr (8, [.ref w1, .ref w2, .ref aC, .ref g0, .ref aL, .ref aK, .ref lw])), (aL, .inl (cI, 6, .inl fL)), (aK, .inl (cI, 32, .inl fK)), (lw, .inr (4, [.ref lS])), (lS, .inl (cI, lk, .inl fS)), (dw, .inr (3, [.long x0]))] s.heap.size = A at hD ⊢
  have hA : ∀ q : Nat, s.heap.size ≤ q → A q := fun q h => by rw [← hAe]; exact Or.inr h
  have hl := lv_entry ([.ref h0]) (n := 3) (Nat.le_of_ble_eq_true rfl)
  rw [show entryFrame m args 3 = entryFrame m ([.ref h0] : List Value).toArray 3 by rw [hargs], lg_entry_eq]
  generalize (lg_sl ([.ref h0]) ++ List.replicate (3 - (lg_sl ([.ref h0])).length) Slot.unset).toArray = ls at hl ⊢
  have hl : lv_has ls 3 [(0, .ref h0)] := hl
  refine zstart (fun H hH => ?_)
  rw [← hH] at hP
  have hS : va_S A s.heap H [] := by rw [hH]; exact va_S.rf
  generalize ([] : List Loc) = locs at hS ⊢
  refine zgen (fun R Q hR hQ => ?_)
  refine lv_aload_n hx hb dX10_paintByDraws_0 rfl (lv_at hl 0 rfl) ?_
  refine va_get (D := (dC, dI)) (ci := 10) (v := .ref dw) (C := RX10) (T := TX10) (N := 17) hx hb hts iX10 hown hK hP 0 rfl rfl 11 (by decide) (hts _ qw367) (fun _ h9 => h9) rfl dX10_paintByDraws_1 ?_
  refine lv_aload_n hx hb dX10_paintByDraws_4 rfl (lv_at hl 0 rfl) ?_
  refine va_get (D := (dC, dI)) (ci := 10) (v := .ref aC) (C := RX10) (T := TX10) (N := 17) hx hb hts iX10 hown hK hP 0 rfl rfl 4 (by decide) (hts _ qw360) (fun _ h9 => h9) rfl dX10_paintByDraws_5 ?_
  refine va_get (D := (dC, dI)) (ci := 1) (v := .int np) (C := RX1) (T := TX1) (N := 5) hx hb hts iX1 hown hK hP 1 rfl rfl 4 (by decide) (hts _ qw200) (fun _ h9 => h9) rfl dX10_paintByDraws_8 ?_
  obtain ⟨hPc, hDc, hFc⟩ := zc3 (wc := [(dw, .inr (3, [.long x0]))]) hP hD hS hA [13] (by decide +kernel) rfl
  refine va_calli (va_runV (As := [.int np]) (rest := []) ⟨hx, hb, hml, hown, hts⟩ (g_X3_below_5 l dC dI cI cJ dw np x0 H.size n_np) (cwV 1 hts (zgV qw784 qw785 qw786 qw107 qw787) rfl rfl rfl hd_X3_below ⟨by rw [hR]; exact Nat.le_of_ble_eq_true rfl, by rw [hR]; exact Nat.le_of_ble_eq_true rfl⟩) (zPV hPc hK hDc (va_recv (q := (RX3, TX3, 1)) hK hP (ci := 3) (q0 := 13) rfl rfl)) rfl rfl hl.1 rfl (lv_room (Nat.le_of_ble_eq_true rfl)) dX10_paintByDraws_11 ⟨Nat.zero_le _, Nat.zero_le _⟩) hS (fun q _ h => hFc q h) hFc (fun v11 u11 t H locs ht hvm hw hB hz1 hk1 hS9 => ?_)
  obtain ⟨u11_0, rfl⟩ : ∃ z, z = u11 := ⟨_, rfl⟩
  obtain ⟨hP9, hD9⟩ := zj2 (wX := [(h0, .inr (10, [.ref tp, h0_courtReader, h0_lawReader, h0_draft, .ref aC, h0_laws, .ref g0, .ref k0, .ref ac, .ref sd, .ref mi, .ref dw, .ref rf, .int lc, .int lh, .int br, .int hi])), (aC, .inr (1, [.ref aR, .ref aB, .ref aP, .int nb, .int np])), (aB, .inl (cI, 24, .inl fb)), (aP, .inl (cI, 20, .inl fp)), (g0, .inr (7, [.ref gY, .ref gF, .ref gP, .int gpn, .int glt, .int gsh, .int gwd, .int gpu, .int gmo])), (gY, .inl (cI, 6, .inl gfY)), (gF, .inl (cI, 5, .inl gfF)), (gP, .inl (cI, 80, .inl gfP)), (sd, .inr (8, [.ref w1, .ref w2, .ref aC, .ref g0, .ref aL, .ref aK, .ref lw])), (aL, .inl (cI, 6, .inl fL)), (aK, .inl (cI, 32, .inl fK)), (lw, .inr (4, [.ref lS])), (lS, .inl (cI, lk, .inl fS)), (dw, .inr (3, [.long u11_0]))]) hP hD hk1 hFc ht hB [13] [(false, 0), (false, 1), (false, 2), (false, 3), (false, 4), (false, 5), (false, 6), (false, 7), (false, 8), (false, 9), (false, 10), (false, 11), (false, 12), (true, 0)] rfl (by decide +kernel) (by decide +kernel) rfl
  clear hP hD hS hPc hDc hFc hB hk1 hz1 hvm
  have hP := hP9
  have hD := hD9
  have hS := hS9
  clear hP9 hD9 hS9
  obtain ⟨f11_0, f11_1, f11_2, f11_3, f11_4⟩ : (0 ≤ v11.toInt) ∧ (v11.toInt ≤ 4) ∧ (v11.toInt < np.toInt ∨ np.toInt < 1) ∧ (1 ≤ np.toInt → v11 = sDr (sNx x0) np) ∧ (u11_0 = sNx x0) := hw
  have F11 := f11_3
  have F11_1 := f11_4
  refine lv_istore_n (lv' := [(1, .int v11), (0, .ref h0)]) hx hb dX10_paintByDraws_14 rfl hl (by decide) rfl (fun ls hl => ?_)
  refine lv_aload_n hx hb dX10_paintByDraws_15 rfl (lv_at hl 1 rfl) ?_
  refine va_get (D := (dC, dI)) (ci := 10) (v := .ref dw) (C := RX10) (T := TX10) (N := 17) hx hb hts iX10 hown hK hP 0 rfl rfl 11 (by decide) (hts _ qw367) (fun _ h9 => h9) rfl dX10_paintByDraws_16 ?_
  refine lv_aload_n hx hb dX10_paintByDraws_19 rfl (lv_at hl 1 rfl) ?_
  refine va_get (D := (dC, dI)) (ci := 10) (v := .ref aC) (C := RX10) (T := TX10) (N := 17) hx hb hts iX10 hown hK hP 0 rfl rfl 4 (by decide) (hts _ qw360) (fun _ h9 => h9) rfl dX10_paintByDraws_20 ?_
  refine va_get (D := (dC, dI)) (ci := 1) (v := .int nb) (C := RX1) (T := TX1) (N := 5) hx hb hts iX1 hown hK hP 1 rfl rfl 3 (by decide) (hts _ qw195) (fun _ h9 => h9) rfl dX10_paintByDraws_23 ?_
  obtain ⟨hPc, hDc, hFc⟩ := zc3 (wc := [(dw, .inr (3, [.long u11_0]))]) hP hD hS hA [13] (by decide +kernel) rfl
  refine va_calli (va_runV (As := [.int nb]) (rest := []) ⟨hx, hb, hml, hown, hts⟩ (g_X3_below_6 l dC dI cI cJ dw nb u11_0 H.size n_nb) (cwV 1 hts (zgV qw784 qw785 qw786 qw107 qw787) rfl rfl rfl hd_X3_below ⟨by rw [hR]; exact Nat.le_of_ble_eq_true rfl, by rw [hR]; exact Nat.le_of_ble_eq_true rfl⟩) (zPV hPc hK hDc (va_recv (q := (RX3, TX3, 1)) hK hP (ci := 3) (q0 := 13) rfl rfl)) rfl rfl hl.1 rfl (lv_room (Nat.le_of_ble_eq_true rfl)) dX10_paintByDraws_26 ⟨Nat.zero_le _, Nat.zero_le _⟩) hS (fun q _ h => hFc q h) hFc (fun v26 u26 t H locs ht hvm hw hB hz1 hk1 hS9 => ?_)
  obtain ⟨u26_0, rfl⟩ : ∃ z, z = u26 := ⟨_, rfl⟩
  obtain ⟨hP9, hD9⟩ := zj2 (wX := [(h0, .inr (10, [.ref tp, h0_courtReader, h0_lawReader, h0_draft, .ref aC, h0_laws, .ref g0, .ref k0, .ref ac, .ref sd, .ref mi, .ref dw, .ref rf, .int lc, .int lh, .int br, .int hi])), (aC, .inr (1, [.ref aR, .ref aB, .ref aP, .int nb, .int np])), (aB, .inl (cI, 24, .inl fb)), (aP, .inl (cI, 20, .inl fp)), (g0, .inr (7, [.ref gY, .ref gF, .ref gP, .int gpn, .int glt, .int gsh, .int gwd, .int gpu, .int gmo])), (gY, .inl (cI, 6, .inl gfY)), (gF, .inl (cI, 5, .inl gfF)), (gP, .inl (cI, 80, .inl gfP)), (sd, .inr (8, [.ref w1, .ref w2, .ref aC, .ref g0, .ref aL, .ref aK, .ref lw])), (aL, .inl (cI, 6, .inl fL)), (aK, .inl (cI, 32, .inl fK)), (lw, .inr (4, [.ref lS])), (lS, .inl (cI, lk, .inl fS)), (dw, .inr (3, [.long u26_0]))]) hP hD hk1 hFc ht hB [13] [(false, 0), (false, 1), (false, 2), (false, 3), (false, 4), (false, 5), (false, 6), (false, 7), (false, 8), (false, 9), (false, 10), (false, 11), (false, 12), (true, 0)] rfl (by decide +kernel) (by decide +kernel) rfl
  clear hP hD hS hPc hDc hFc hB hk1 hz1 hvm
  have hP := hP9
  have hD := hD9
  have hS := hS9
  clear hP9 hD9 hS9
  obtain ⟨f26_0, f26_1, f26_2, f26_3, f26_4⟩ : (0 ≤ v26.toInt) ∧ (v26.toInt ≤ 5) ∧ (v26.toInt < nb.toInt ∨ nb.toInt < 1) ∧ (1 ≤ nb.toInt → v26 = sDr (sNx u11_0) nb) ∧ (u26_0 = sNx u11_0) := hw
  have F26 := f26_3
  have F26_1 := f26_4
  refine lv_istore_n (lv' := [(2, .int v26), (1, .int v11), (0, .ref h0)]) hx hb dX10_paintByDraws_29 rfl hl (by decide) rfl (fun ls hl => ?_)
  refine lv_aload_n hx hb dX10_paintByDraws_30 rfl (lv_at hl 2 rfl) ?_
  refine va_get (D := (dC, dI)) (ci := 10) (v := .ref g0) (C := RX10) (T := TX10) (N := 17) hx hb hts iX10 hown hK hP 0 rfl rfl 6 (by decide) (hts _ qw362) (fun _ h9 => h9) rfl dX10_paintByDraws_31 ?_
  refine va_get (D := (dC, dI)) (ci := 7) (v := .int gpu) (C := RX7) (T := TX7) (N := 9) hx hb hts iX7 hown hK hP 4 rfl rfl 7 (by decide) (hts _ qw239) (fun _ h9 => h9) rfl dX10_paintByDraws_34 ?_
  refine lv_aload_n hx hb dX10_paintByDraws_37 rfl (lv_at hl 2 rfl) ?_
  refine va_get (D := (dC, dI)) (ci := 10) (v := .ref aC) (C := RX10) (T := TX10) (N := 17) hx hb hts iX10 hown hK hP 0 rfl rfl 4 (by decide) (hts _ qw360) (fun _ h9 => h9) rfl dX10_paintByDraws_38 ?_
  refine lv_iload_n hx hb dX10_paintByDraws_41 rfl (lv_at hl 1 rfl) ?_
  obtain ⟨hPc, hDc⟩ := zc2 (wc := [(aC, .inr (1, [.ref aR, .ref aB, .ref aP, .int nb, .int np])), (aP, .inl (cI, 20, .inl fp))]) hP hD [1, 3] (by decide +kernel) rfl
  have hFc := zfr hS hA
  refine va_calli (va_runV (As := [.int v11]) (rest := [.int gpu]) ⟨hx, hb, hml, hown, hts⟩ (g_X1_feeOf l dC dI cI cJ aC v11 aR aB aP nb np fp H.size ⟨f11_0, f11_1⟩) (cwV 1 hts (zgV qw609 qw610 qw611 qw102 qw612) rfl rfl rfl hd_X1_feeOf ⟨by rw [hR]; exact Nat.le_of_ble_eq_true rfl, by rw [hR]; exact Nat.le_of_ble_eq_true rfl⟩) (zPV hPc hK hDc (va_recv (q := (RX1, TX1, 5)) hK hP (ci := 1) (q0 := 1) rfl rfl)) rfl rfl hl.1 rfl (lv_room (Nat.le_of_ble_eq_true rfl)) dX10_paintByDraws_42 ⟨Nat.zero_le _, Nat.zero_le _⟩) hS (fun q _ h => hFc q h) hFc (fun v42 u42 t H locs ht hvm hw hB hz1 hk1 hS9 => ?_)
  replace hP := zkeep hP hk1
  replace hS := hS9
  clear hPc hDc hFc hk1 hz1 hvm hS9
  have f42_0 : (v42 = fp (4 * v11.toInt.toNat + 1)) := hw
  have F42 := f42_0
  refine lv_icmp_lt (tgt := 67) hx hb dX10_paintByDraws_45 (by decide) (fun c45 => ?_) (fun c45 => ?_)
  · have c45 : gpu.toInt < v42.toInt := z1 rfl rfl c45
    rw [hQ]
    exact W.vret hx hb hr (fun t ht hW => ⟨⟨(gpn, gpu, gfP, fL, fK, u26_0), rfl, ⟨by (try dsimp only); omega, by (try dsimp only); omega, by (try dsimp only); exact fun kc kT q_fr kt hc hb h ht hn0 hn1 => by have a11 := F11 hn1; have a26 := F26 hn0; rw [F11_1] at a26; have zp := congrArg Int32.toInt (zSc_pu h); have zn := congrArg Int32.toInt (zSc_pn h); have y42 : v42 = kc.2.2 (4 * v11.toInt.toNat + 1) := F42.trans (hc.2.2 _ (by omega)); have zx : u26_0 = sNx (sNx x0) := (by rw [F26_1, F11_1]); unfold sDp; rw [← a11, ← a26, ← y42, if_pos (by omega)]; exact ⟨h, zx, fun _ _ => rfl⟩, ci_gfP_zPo⟩, ⟨by rw [ht]; exact hP, hD⟩⟩, hS.F ht⟩) hS.2.2 dX10_paintByDraws_67
  · have c45 : v42.toInt ≤ gpu.toInt := z2 rfl rfl c45
    refine lv_aload_n hx hb dX10_paintByDraws_48 rfl (lv_at hl 2 rfl) ?_
    refine va_get (D := (dC, dI)) (ci := 10) (v := .ref g0) (C := RX10) (T := TX10) (N := 17) hx hb hts iX10 hown hK hP 0 rfl rfl 6 (by decide) (hts _ qw362) (fun _ h9 => h9) rfl dX10_paintByDraws_49 ?_
    refine va_get (D := (dC, dI)) (ci := 7) (v := .int gpn) (C := RX7) (T := TX7) (N := 9) hx hb hts iX7 hown hK hP 4 rfl rfl 3 (by decide) (hts _ qw229) (fun _ h9 => h9) rfl dX10_paintByDraws_52 ?_
    refine lv_bipush (v := 20) hx hb dX10_paintByDraws_55 (by decide) ?_
    refine lv_icmp_ge (tgt := 67) hx hb dX10_paintByDraws_57 (by decide) (fun c57 => ?_) (fun c57 => ?_)
    · have c57 : 20 ≤ gpn.toInt := z3 (by decide) rfl c57
      rw [hQ]
      exact W.vret hx hb hr (fun t ht hW => ⟨⟨(gpn, gpu, gfP, fL, fK, u26_0), rfl, ⟨by (try dsimp only); omega, by (try dsimp only); omega, by (try dsimp only); exact fun kc kT q_fr kt hc hb h ht hn0 hn1 => by have a11 := F11 hn1; have a26 := F26 hn0; rw [F11_1] at a26; have zp := congrArg Int32.toInt (zSc_pu h); have zn := congrArg Int32.toInt (zSc_pn h); have y42 : v42 = kc.2.2 (4 * v11.toInt.toNat + 1) := F42.trans (hc.2.2 _ (by omega)); have zx : u26_0 = sNx (sNx x0) := (by rw [F26_1, F11_1]); unfold sDp; rw [← a11, ← a26, ← y42, if_pos (by omega)]; exact ⟨h, zx, fun _ _ => rfl⟩, ci_gfP_zPo⟩, ⟨by rw [ht]; exact hP, hD⟩⟩, hS.F ht⟩) hS.2.2 dX10_paintByDraws_67
    · have c57 : gpn.toInt < 20 := z4 (by decide) rfl c57
      refine lv_aload_n hx hb dX10_paintByDraws_60 rfl (lv_at hl 2 rfl) ?_
      refine lv_iload_n hx hb dX10_paintByDraws_61 rfl (lv_at hl 1 rfl) ?_
      refine lv_iload_n hx hb dX10_paintByDraws_62 rfl (lv_at hl 0 rfl) ?_
      obtain ⟨hPc, hDc, hFc⟩ := zc3 (wc := [(h0, .inr (10, [.ref tp, h0_courtReader, h0_lawReader, h0_draft, .ref aC, h0_laws, .ref g0, .ref k0, .ref ac, .ref sd, .ref mi, .ref dw, .ref rf, .int lc, .int lh, .int br, .int hi])), (aC, .inr (1, [.ref aR, .ref aB, .ref aP, .int nb, .int np])), (aB, .inl (cI, 24, .inl fb)), (aP, .inl (cI, 20, .inl fp)), (g0, .inr (7, [.ref gY, .ref gF, .ref gP, .int gpn, .int glt, .int gsh, .int gwd, .int gpu, .int gmo])), (gY, .inl (cI, 6, .inl gfY)), (gF, .inl (cI, 5, .inl gfF)), (gP, .inl (cI, 80, .inl gfP)), (sd, .inr (8, [.ref w1, .ref w2, .ref aC, .ref g0, .ref aL, .ref aK, .ref lw])), (aL, .inl (cI, 6, .inl fL)), (aK, .inl (cI, 32, .inl fK)), (lw, .inr (4, [.ref lS])), (lS, .inl (cI, lk, .inl fS))]) hP hD hS hA [0, 1, 2, 3, 4, 5, 6, 7, 8, 9, 10, 11, 12] (by decide +kernel) rfl
      refine va_calli (va_runV (As := [.int v11, .int v26]) (rest := []) ⟨hx, hb, hml, hown, hts⟩ (g_X10_paintNow_l l dC dI cI cJ h0 v11 v26 tp h0_courtReader h0_lawReader h0_draft aC h0_laws g0 k0 ac sd mi dw rf lc lh br hi aR aB aP nb np fb fp gY gF gP gpn glt gsh gwd gpu gmo gfY gfF gfP w1 w2 aL aK lw fL fK lS fS lk H.size (by omega) y_gwd y_hi y_lc n_nb n_np ⟨f11_0, f11_1⟩ ⟨f26_0, f26_1⟩ (hlk) ci_fS_zSt ci_gfP_zPo) (cwV 2 hts (zgV qw698 qw700 qw14 qw98 qw701) rfl rfl rfl hd_X10_paintNow ⟨by rw [hR]; exact Nat.le_of_ble_eq_true rfl, by rw [hR]; exact Nat.le_of_ble_eq_true rfl⟩) (zPV hPc hK hDc (va_recv (q := (RX10, TX10, 17)) hK hP (ci := 10) (q0 := 0) rfl rfl)) rfl rfl hl.1 rfl (lv_room (Nat.le_of_ble_eq_true rfl)) dX10_paintByDraws_63 ⟨Nat.zero_le _, Nat.zero_le _⟩) hS (fun q _ h => hFc q h) hFc (fun v63 u63 t H locs ht hvm hw hB hz1 hk1 hS9 => ?_)
      obtain ⟨u63_0, u63_1, u63_2, u63_3, u63_4⟩ := u63
      obtain ⟨hP9, hD9⟩ := zj2 (wX := [(h0, .inr (10, [.ref tp, h0_courtReader, h0_lawReader, h0_draft, .ref aC, h0_laws, .ref g0, .ref k0, .ref ac, .ref sd, .ref mi, .ref dw, .ref rf, .int lc, .int lh, .int br, .int hi])), (aC, .inr (1, [.ref aR, .ref aB, .ref aP, .int nb, .int np])), (aB, .inl (cI, 24, .inl fb)), (aP, .inl (cI, 20, .inl fp)), (g0, .inr (7, [.ref gY, .ref gF, .ref gP, .int u63_0, .int glt, .int gsh, .int gwd, .int u63_1, .int gmo])), (gY, .inl (cI, 6, .inl gfY)), (gF, .inl (cI, 5, .inl gfF)), (gP, .inl (cI, 80, .inl u63_2)), (sd, .inr (8, [.ref w1, .ref w2, .ref aC, .ref g0, .ref aL, .ref aK, .ref lw])), (aL, .inl (cI, 6, .inl u63_3)), (aK, .inl (cI, 32, .inl u63_4)), (lw, .inr (4, [.ref lS])), (lS, .inl (cI, lk, .inl fS)), (dw, .inr (3, [.long u26_0]))]) hP hD hk1 hFc ht hB [0, 1, 2, 3, 4, 5, 6, 7, 8, 9, 10, 11, 12] [(true, 0), (true, 1), (true, 2), (true, 3), (true, 4), (true, 5), (true, 6), (true, 7), (true, 8), (true, 9), (true, 10), (true, 11), (true, 12), (false, 13)] rfl (by decide +kernel) (by decide +kernel) rfl
      clear hP hD hS hPc hDc hFc hB hk1 hz1 hvm
      have hP := hP9
      have hD := hD9
      have hS := hS9
      clear hP9 hD9 hS9
      obtain ⟨f63_0, f63_1, f63_2, f63_3, f63_4, f63_5⟩ : (0 ≤ v63.toInt) ∧ (v63.toInt ≤ 9) ∧ (1 ≤ u63_0.toInt) ∧ (u63_0.toInt ≤ 20) ∧ (∀ (kc : zK3) (kT : zT) (q_fr : Nat → Int32) (kt : (Int → Int) × Int), zCn q_fr fb fp nb.toInt np.toInt kc → zKo nb.toInt np.toInt kc kT → zSc nb.toInt np.toInt kT.1 gfY gfF gfP gpn glt gsh gwd gpu gmo → zLwC fS lk kt → (0 ≤ v11.toInt ∧ v11.toInt < np.toInt) → (0 ≤ v26.toInt ∧ v26.toInt < nb.toInt) → v63 = sV_pnt kc kT.1 (some kt) v11 v26 ∧ zSc nb.toInt np.toInt (sN_pnt kc kT.1 (some kt) v11 v26) gfY gfF u63_2 u63_0 glt gsh gwd u63_1 gmo ∧ ∀ i : Nat, (i : Int) < 4 * gpn.toInt → u63_2 i = gfP i) ∧ (zPo u63_2) := hw
      have F63 := f63_4
      refine lv_pop hx hb dX10_paintByDraws_66 rfl ?_
      rw [hQ]
      exact W.vret hx hb hr (fun t ht hW => ⟨⟨(u63_0, u63_1, u63_2, u63_3, u63_4, u26_0), rfl, ⟨by (try dsimp only); omega, by (try dsimp only); omega, by (try dsimp only); exact fun kc kT q_fr kt hc hb h ht hn0 hn1 => by have a11 := F11 hn1; have a26 := F26 hn0; rw [F11_1] at a26; have zp := congrArg Int32.toInt (zSc_pu h); have zn := congrArg Int32.toInt (zSc_pn h); have y42 : v42 = kc.2.2 (4 * v11.toInt.toNat + 1) := F42.trans (hc.2.2 _ (by omega)); have zx : u26_0 = sNx (sNx x0) := (by rw [F26_1, F11_1]); have z := F63 kc kT _ kt hc hb h ht (by omega) (by omega); unfold sDp; rw [← a11, ← a26, ← y42, if_neg (by omega)]; exact ⟨z.2.1, zx, z.2.2⟩, f63_5⟩, ⟨by rw [ht]; exact hP, hD⟩⟩, hS.F ht⟩) hS.2.2 dX10_paintByDraws_67
set_option maxHeartbeats 4000000 in
set_option maxRecDepth 100000 in
theorem g_X10_belief_n (l : Launch) (dC : Nat → ClassId) (dI : Nat → Nat → Nat) (cI cJ : ClassId) (h0 : Nat) (p0 : Int32) (p1 : Int32) (tp : Nat) (h0_courtReader : Value) (h0_lawReader : Value) (h0_draft : Value) (aC : Nat) (h0_laws : Value) (g0 : Nat) (k0 : Nat) (ac : Nat) (sd : Nat) (mi : Nat) (dw : Nat) (rf : Nat) (lc : Int32) (lh : Int32) (br : Int32) (hi : Int32) (aR : Nat) (aB : Nat) (aP : Nat) (nb : Int32) (np : Int32) (fb : Nat → Int32) (fp : Nat → Int32) (gY : Nat) (gF : Nat) (gP : Nat) (gpn : Int32) (glt : Int32) (gsh : Int32) (gwd : Int32) (gpu : Int32) (gmo : Int32) (gfY : Nat → Int32) (gfF : Nat → Int32) (gfP : Nat → Int32) (w1 : Nat) (w2 : Nat) (aL : Nat) (aK : Nat) (mW : Nat) (mt : Int64) (lf : Int32) (mV : Nat) (mA : Nat) (mT : Nat) (fW : Nat → Int64) (sz : Nat) (n_gpn : 0 ≤ gpn.toInt ∧ gpn.toInt ≤ 20) (n_gwd : (-1) ≤ gwd.toInt ∧ gwd.toInt ≤ 5) (n_hi : 0 ≤ hi.toInt ∧ hi.toInt ≤ 1) (n_lc : 0 ≤ lc.toInt ∧ lc.toInt ≤ 4) (n_lf : 0 ≤ lf.toInt ∧ lf.toInt ≤ 9) (n_nb : 0 ≤ nb.toInt ∧ nb.toInt ≤ 6) (n_np : 0 ≤ np.toInt ∧ np.toInt ≤ 5)  (ci_gfP_zPo : zPo gfP)  : Met l yX10_belief (.code yX10_belief cX10_belief 3 (some .int) :: wA) ({ frames := 6, cells := 0, slots := 0, locals := 153 }) (zPW (dC, dI) [(cI, .int), (cJ, .long)] [.ref h0, .int p0, .int p1] sz [(h0, .inr (10, [.ref tp, h0_courtReader, h0_lawReader, h0_draft, .ref aC, h0_laws, .ref g0, .ref k0, .ref ac, .ref sd, .ref mi, .ref dw, .ref rf, .int lc, .int lh, .int br, .int hi])), (aC, .inr (1, [.ref aR, .ref aB, .ref aP, .int nb, .int np])), (aB, .inl (cI, 24, .inl fb)), (aP, .inl (cI, 20, .inl fp)), (g0, .inr (7, [.ref gY, .ref gF, .ref gP, .int gpn, .int glt, .int gsh, .int gwd, .int gpu, .int gmo])), (gY, .inl (cI, 6, .inl gfY)), (gF, .inl (cI, 5, .inl gfF)), (gP, .inl (cI, 80, .inl gfP)), (sd, .inr (8, [.ref w1, .ref w2, .ref aC, .ref g0, .ref aL, .ref aK, .null])), (mi, .inr (6, [.ref aC, .ref g0, .ref sd, .ref mW, .long mt, .int lf, .ref mV, .ref mA, .ref mT])), (mW, .inl (cJ, 10, .inr (.inl fW)))] (va_A [(h0, .inr (10, [.ref tp, h0_courtReader, h0_lawReader, h0_draft, .ref aC, h0_laws, .ref g0, .ref k0, .ref ac, .ref sd, .ref mi, .ref dw, .ref rf, .int lc, .int lh, .int br, .int hi])), (aC, .inr (1, [.ref aR, .ref aB, .ref aP, .int nb, .int np])), (aB, .inl (cI, 24, .inl fb)), (aP, .inl (cI, 20, .inl fp)), (g0, .inr (7, [.ref gY, .ref gF, .ref gP, .int gpn, .int glt, .int gsh, .int gwd, .int gpu, .int gmo])), (gY, .inl (cI, 6, .inl gfY)), (gF, .inl (cI, 5, .inl gfF)), (gP, .inl (cI, 80, .inl gfP)), (sd, .inr (8, [.ref w1, .ref w2, .ref aC, .ref g0, .ref aL, .ref aK, .null])), (mi, .inr (6, [.ref aC, .ref g0, .ref sd, .ref mW, .long mt, .int lf, .ref mV, .ref mA, .ref mT])), (mW, .inl (cJ, 10, .inr (.inl fW)))] sz)) (va_Qi (fun (r : Int32) (u : Int64 × Int32 × (Nat → Int64)) => (0 ≤ u.2.1.toInt) ∧ (u.2.1.toInt ≤ 9) ∧ (∀ (kc : zK3) (kT : zT) (q_fr : Nat → Int32) (q_fR : Nat → Int32) (q_pl : Int32) (q_cn : Int32) (q_frf : Nat → Int32), zCn q_fr fb fp nb.toInt np.toInt kc → zKo nb.toInt np.toInt kc kT → zTc nb.toInt np.toInt kT gfY gfF gfP gpn glt gsh gwd gpu gmo q_fR q_pl q_cn q_frf → r = sV_bel nb.toInt kc kT.1 none p0 p1)) (fun (u : Int64 × Int32 × (Nat → Int64)) (t : State) => va_P (dC, dI) vwCl [(h0, .inr (10, [.ref tp, h0_courtReader, h0_lawReader, h0_draft, .ref aC, h0_laws, .ref g0, .ref k0, .ref ac, .ref sd, .ref mi, .ref dw, .ref rf, .int lc, .int lh, .int br, .int hi])), (aC, .inr (1, [.ref aR, .ref aB, .ref aP, .int nb, .int np])), (aB, .inl (cI, 24, .inl fb)), (aP, .inl (cI, 20, .inl fp)), (g0, .inr (7, [.ref gY, .ref gF, .ref gP, .int gpn, .int glt, .int gsh, .int gwd, .int gpu, .int gmo])), (gY, .inl (cI, 6, .inl gfY)), (gF, .inl (cI, 5, .inl gfF)), (gP, .inl (cI, 80, .inl gfP)), (sd, .inr (8, [.ref w1, .ref w2, .ref aC, .ref g0, .ref aL, .ref aK, .null])), (mi, .inr (6, [.ref aC, .ref g0, .ref sd, .ref mW, .long u.1, .int u.2.1, .ref mV, .ref mA, .ref mT])), (mW, .inl (cJ, 10, .inr (.inl u.2.2)))] t.heap ∧ va_D (va_A [(h0, .inr (10, [.ref tp, h0_courtReader, h0_lawReader, h0_draft, .ref aC, h0_laws, .ref g0, .ref k0, .ref ac, .ref sd, .ref mi, .ref dw, .ref rf, .int lc, .int lh, .int br, .int hi])), (aC, .inr (1, [.ref aR, .ref aB, .ref aP, .int nb, .int np])), (aB, .inl (cI, 24, .inl fb)), (aP, .inl (cI, 20, .inl fp)), (g0, .inr (7, [.ref gY, .ref gF, .ref gP, .int gpn, .int glt, .int gsh, .int gwd, .int gpu, .int gmo])), (gY, .inl (cI, 6, .inl gfY)), (gF, .inl (cI, 5, .inl gfF)), (gP, .inl (cI, 80, .inl gfP)), (sd, .inr (8, [.ref w1, .ref w2, .ref aC, .ref g0, .ref aL, .ref aK, .null])), (mi, .inr (6, [.ref aC, .ref g0, .ref sd, .ref mW, .long mt, .int lf, .ref mV, .ref mA, .ref mT])), (mW, .inl (cJ, 10, .inr (.inl fW)))] sz) [(h0, .inr (10, [.ref tp, h0_courtReader, h0_lawReader, h0_draft, .ref aC, h0_laws, .ref g0, .ref k0, .ref ac, .ref sd, .ref mi, .ref dw, .ref rf, .int lc, .int lh, .int br, .int hi])), (aC, .inr (1, [.ref aR, .ref aB, .ref aP, .int nb, .int np])), (aB, .inl (cI, 24, .inl fb)), (aP, .inl (cI, 20, .inl fp)), (g0, .inr (7, [.ref gY, .ref gF, .ref gP, .int gpn, .int glt, .int gsh, .int gwd, .int gpu, .int gmo])), (gY, .inl (cI, 6, .inl gfY)), (gF, .inl (cI, 5, .inl gfF)), (gP, .inl (cI, 80, .inl gfP)), (sd, .inr (8, [.ref w1, .ref w2, .ref aC, .ref g0, .ref aL, .ref aK, .null])), (mi, .inr (6, [.ref aC, .ref g0, .ref sd, .ref mW, .long u.1, .int u.2.1, .ref mV, .ref mA, .ref mT])), (mW, .inl (cJ, 10, .inr (.inl u.2.2)))]) (va_A [(h0, .inr (10, [.ref tp, h0_courtReader, h0_lawReader, h0_draft, .ref aC, h0_laws, .ref g0, .ref k0, .ref ac, .ref sd, .ref mi, .ref dw, .ref rf, .int lc, .int lh, .int br, .int hi])), (aC, .inr (1, [.ref aR, .ref aB, .ref aP, .int nb, .int np])), (aB, .inl (cI, 24, .inl fb)), (aP, .inl (cI, 20, .inl fp)), (g0, .inr (7, [.ref gY, .ref gF, .ref gP, .int gpn, .int glt, .int gsh, .int gwd, .int gpu, .int gmo])), (gY, .inl (cI, 6, .inl gfY)), (gF, .inl (cI, 5, .inl gfF)), (gP, .inl (cI, 80, .inl gfP)), (sd, .inr (8, [.ref w1, .ref w2, .ref aC, .ref g0, .ref aL, .ref aK, .null])), (mi, .inr (6, [.ref aC, .ref g0, .ref sd, .ref mW, .long mt, .int lf, .ref mV, .ref mA, .ref mT])), (mW, .inl (cJ, 10, .inr (.inl fW)))] sz)) 0 0 (va_A [(h0, .inr (10, [.ref tp, h0_courtReader, h0_lawReader, h0_draft, .ref aC, h0_laws, .ref g0, .ref k0, .ref ac, .ref sd, .ref mi, .ref dw, .ref rf, .int lc, .int lh, .int br, .int hi])), (aC, .inr (1, [.ref aR, .ref aB, .ref aP, .int nb, .int np])), (aB, .inl (cI, 24, .inl fb)), (aP, .inl (cI, 20, .inl fp)), (g0, .inr (7, [.ref gY, .ref gF, .ref gP, .int gpn, .int glt, .int gsh, .int gwd, .int gpu, .int gmo])), (gY, .inl (cI, 6, .inl gfY)), (gF, .inl (cI, 5, .inl gfF)), (gP, .inl (cI, 80, .inl gfP)), (sd, .inr (8, [.ref w1, .ref w2, .ref aC, .ref g0, .ref aL, .ref aK, .null])), (mi, .inr (6, [.ref aC, .ref g0, .ref sd, .ref mW, .long mt, .int lf, .ref mV, .ref mA, .ref mT])), (mW, .inl (cJ, 10, .inr (.inl fW)))] sz) := by
  refine Met.ofW (cc := cX10_belief) (maxL := 3) (ret := (some .int)) (by decide) rfl ?_
  intro p e s m args below meth c s₁ B hml hv
  have y_gpn : zHid (0 ≤ gpn.toInt ∧ gpn.toInt ≤ 20) := n_gpn
  have y_gwd : zHid ((-1) ≤ gwd.toInt ∧ gwd.toInt ≤ 5) := n_gwd
  have y_hi : zHid (0 ≤ hi.toInt ∧ hi.toInt ≤ 1) := n_hi
  have y_lc : zHid (0 ≤ lc.toInt ∧ lc.toInt ≤ 4) := n_lc
  clear n_gpn n_gwd n_hi n_lc
  obtain ⟨⟨hargs, hsz, hP, hK, hT⟩, hV⟩ := hv
  have hx := B.exec
  have hb := B.bytes
  have hr := B.returns
  have hts : ∀ w ∈ wA, w.before args s = true := fun w h => atoms_spec (ws := .code yX10_belief cX10_belief 3 (some .int) :: wA) B.pre w (List.mem_cons_of_mem _ h)
  have hown : s.vm.findClass RX10 = some m.cls := findClass_of_methodNamed B.named
  have hlocks := B.notSynchronized
  subst hsz
  have hD := hT.self (sz := s.heap.size)
  generalize hAe : va_A [(h0, .inr (10, [.ref tp, h0_courtReader, h0_lawReader, h0_draft, .ref aC, h0_laws, .ref g0, .ref k0, .ref ac, .ref sd, .ref mi, .ref dw, .ref rf, .int lc, .int lh, .int br, .int hi])), (aC, .inr (1, [.ref aR, .ref aB, .ref aP, .int nb, .int np])), (aB, .inl (cI, 24, .inl fb)), (aP, .inl (cI, 20, .inl fp)), (g0, .inr (7, [.ref gY, .ref gF, .ref gP, .int gpn, .int glt, .int gsh, .int gwd, .int gpu, .int gmo])), (gY, .inl (cI, 6, .inl gfY)), (gF, .inl (cI, 5, .inl gfF)), (gP, .inl (cI, 80, .inl gfP)), (sd, .inr (8, [.ref w1, .ref w2, .ref aC, .ref g0, .ref aL, .ref aK, .null])), (mi, .inr (6, [.ref aC, .ref g0, .ref sd, .ref mW, .long mt, .int lf, .ref mV, .ref mA, .ref mT])), (mW, .inl (cJ, 10, .inr (.inl fW)))] s.heap.size = A at hD hV ⊢
  have hA : ∀ q : Nat, s.heap.size ≤ q → A q := fun q h => by rw [← hAe]; exact Or.inr h
  have hl := lv_entry ([.ref h0, .int p0, .int p1]) (n := 3) (Nat.le_of_ble_eq_true rfl)
  rw [show entryFrame m args 3 = entryFrame m ([.ref h0, .int p0, .int p1] : List Value).toArray 3 by rw [hargs], lg_entry_eq]
  generalize (lg_sl ([.ref h0, .int p0, .int p1]) ++ List.replicate (3 - (lg_sl ([.ref h0, .int p0, .int p1])).length) Slot.unset).toArray = ls at hl ⊢
  have hl : lv_has ls 3 [(0, .ref h0), (1, .int p0), (2, .int p1)] := hl
  refine zstart (fun H hH => ?_)
  rw [← hH] at hP
  have hS : va_S A s.heap H [] := by rw [hH]; exact va_S.rf
  generalize ([] : List Loc) = locs at hS ⊢
  refine zgen (fun R Q hR hQ => ?_)
  refine lv_aload_n hx hb dX10_belief_0 rfl (lv_at hl 0 rfl) ?_
  refine lv_iload_n hx hb dX10_belief_1 rfl (lv_at hl 1 rfl) ?_
  obtain ⟨hPc, hDc⟩ := zc2 (wc := [(h0, .inr (10, [.ref tp, h0_courtReader, h0_lawReader, h0_draft, .ref aC, h0_laws, .ref g0, .ref k0, .ref ac, .ref sd, .ref mi, .ref dw, .ref rf, .int lc, .int lh, .int br, .int hi])), (aC, .inr (1, [.ref aR, .ref aB, .ref aP, .int nb, .int np]))]) hP hD [0, 1] (by decide +kernel) rfl
  have hFc := zfr hS hA
  refine va_calli (va_runV (As := [.int p0]) (rest := []) ⟨hx, hb, hml, hown, hts⟩ (g_X10_isBride l dC dI cI cJ h0 p0 (.ref tp) h0_courtReader h0_lawReader h0_draft aC h0_laws (.ref g0) (.ref k0) (.ref ac) (.ref sd) (.ref mi) (.ref dw) (.ref rf) (.int lc) (.int lh) (.int br) (.int hi) aR aB aP nb np H.size n_nb) (cwV 1 hts (zgV qw625 qw627 qw12 qw98 qw628) rfl rfl rfl hd_X10_isBride ⟨by rw [hR]; exact Nat.le_of_ble_eq_true rfl, by rw [hR]; exact Nat.le_of_ble_eq_true rfl⟩) (zPV hPc hK hDc (va_recv (q := (RX10, TX10, 17)) hK hP (ci := 10) (q0 := 0) rfl rfl)) rfl rfl hl.1 rfl (lv_room (Nat.le_of_ble_eq_true rfl)) dX10_belief_2 ⟨Nat.zero_le _, Nat.zero_le _⟩) hS (fun q _ h => hFc q h) hFc (fun v2 u2 t H locs ht hvm hw hB hz1 hk1 hS9 => ?_)
  replace hP := zkeep hP hk1
  replace hS := hS9
  clear hPc hDc hFc hk1 hz1 hvm hS9
  obtain ⟨f2_0, f2_1, f2_2, f2_3⟩ : (0 ≤ v2.toInt) ∧ (v2.toInt ≤ 1) ∧ (¬ v2.toInt = 0 → (0 ≤ p0.toInt ∧ p0.toInt < nb.toInt)) ∧ (v2.toInt = 0 → ¬ (0 ≤ p0.toInt ∧ p0.toInt < nb.toInt)) := hw
  refine lv_if_eq (tgt := 15) hx hb dX10_belief_5 (by decide) (fun c5 => ?_) (fun c5 => ?_)
  · have c5 : v2.toInt = 0 := z5 rfl (by decide) c5
    refine lv_iconst (v := (-1)) hx hb dX10_belief_15 (by decide) ?_
    have zr0 : ((-1) : Int32).toInt = (-1) := by decide
    rw [hQ]
    exact W.iret (v := ((-1))) hx hb hr (fun t ht hW => ⟨⟨(-1), (mt, lf, fW), rfl, ⟨by (try dsimp only); omega, by (try dsimp only); omega, by (try dsimp only); exact fun kc kT q_fr q_fR q_pl q_cn q_frf hc hb h => by unfold sV_bel; rw [if_neg (by omega)]; ⟩, ⟨by rw [ht]; exact hP, hD⟩⟩, hS.F ht⟩) hS.2.2 dX10_belief_16
  · have c5 : ¬ v2.toInt = 0 := z6 rfl (by decide) c5
    refine lv_iload_n hx hb dX10_belief_8 rfl (lv_at hl 2 rfl) ?_
    have hPc : va_P (dC, dI) vwCl [] H := zP0
    have hDc : va_D (fun _ => True) [] := zD0
    have hFc := zfr hS hA
    refine va_calli (va_runS (As := [.int p1]) (rest := []) ⟨hx, hb, hml, hown, hts⟩ (g_X10_isFace l dC dI cI cJ p1 H.size) (cwS 1 hts (zgS qw640 qw641 qw98 qw642) rfl rfl rfl hd_X10_isFace ⟨by rw [hR]; exact Nat.le_of_ble_eq_true rfl, by rw [hR]; exact Nat.le_of_ble_eq_true rfl⟩) (zPS hPc hK hDc) rfl rfl hl.1 rfl (lv_room (Nat.le_of_ble_eq_true rfl)) dX10_belief_9 ⟨Nat.zero_le _, Nat.zero_le _⟩) hS (fun q _ h => hFc q h) hFc (fun v9 u9 t H locs ht hvm hw hB hz1 hk1 hS9 => ?_)
    replace hP := zkeep hP hk1
    replace hS := hS9
    clear hPc hDc hFc hk1 hz1 hvm hS9
    obtain ⟨f9_0, f9_1, f9_2, f9_3⟩ : (0 ≤ v9.toInt) ∧ (v9.toInt ≤ 1) ∧ (¬ v9.toInt = 0 → (0 ≤ p1.toInt ∧ p1.toInt ≤ 9)) ∧ (v9.toInt = 0 → ¬ (0 ≤ p1.toInt ∧ p1.toInt ≤ 9)) := hw
    refine lv_if_ne (tgt := 17) hx hb dX10_belief_12 (by decide) (fun c12 => ?_) (fun c12 => ?_)
    · have c12 : ¬ v9.toInt = 0 := z6 rfl (by decide) c12
      refine lv_aload_n hx hb dX10_belief_17 rfl (lv_at hl 0 rfl) ?_
      refine va_get (D := (dC, dI)) (ci := 10) (v := .ref mi) (C := RX10) (T := TX10) (N := 17) hx hb hts iX10 hown hK hP 0 rfl rfl 10 (by decide) (hts _ qw366) (fun _ h9 => h9) rfl dX10_belief_18 ?_
      refine lv_iload_n hx hb dX10_belief_21 rfl (lv_at hl 1 rfl) ?_
      obtain ⟨hPc, hDc, hFc⟩ := zc3 (wc := [(mi, .inr (6, [.ref aC, .ref g0, .ref sd, .ref mW, .long mt, .int lf, .ref mV, .ref mA, .ref mT])), (aC, .inr (1, [.ref aR, .ref aB, .ref aP, .int nb, .int np])), (aB, .inl (cI, 24, .inl fb)), (aP, .inl (cI, 20, .inl fp)), (g0, .inr (7, [.ref gY, .ref gF, .ref gP, .int gpn, .int glt, .int gsh, .int gwd, .int gpu, .int gmo])), (gY, .inl (cI, 6, .inl gfY)), (gF, .inl (cI, 5, .inl gfF)), (gP, .inl (cI, 80, .inl gfP)), (sd, .inr (8, [.ref w1, .ref w2, .ref aC, .ref g0, .ref aL, .ref aK, .null])), (mW, .inl (cJ, 10, .inr (.inl fW)))]) hP hD hS hA [9, 1, 2, 3, 4, 5, 6, 7, 8, 10] (by decide +kernel) rfl
      refine va_callv (va_runV (As := [.int p0]) (rest := []) ⟨hx, hb, hml, hown, hts⟩ (g_X6_weigh_n l dC dI cI cJ mi p0 aC g0 sd mW mt lf mV mA mT aR aB aP nb np fb fp gY gF gP gpn glt gsh gwd gpu gmo gfY gfF gfP w1 w2 aL aK fW H.size y_gpn n_lf (by omega) ci_gfP_zPo) (cwV 1 hts (zgV qw829 qw830 qw831 qw106 qw832) rfl rfl rfl hd_X6_weigh ⟨by rw [hR]; exact Nat.le_of_ble_eq_true rfl, by rw [hR]; exact Nat.le_of_ble_eq_true rfl⟩) (zPWV hPc hK hDc (va_recv (q := (RX6, TX6, 9)) hK hP (ci := 6) (q0 := 9) rfl rfl) (zV_call hV hS hFc)) rfl rfl hl.1 rfl (lv_room (Nat.le_of_ble_eq_true rfl)) dX10_belief_22 ⟨Nat.zero_le _, Nat.zero_le _⟩) hS (fun q _ h => hFc q h) hFc (fun u22 t H locs ht hvm hw hB hz1 hk1 hS9 => ?_)
      obtain ⟨u22_0, u22_1, u22_2⟩ := u22
      obtain ⟨hP9, hD9⟩ := zj2 (wX := [(h0, .inr (10, [.ref tp, h0_courtReader, h0_lawReader, h0_draft, .ref aC, h0_laws, .ref g0, .ref k0, .ref ac, .ref sd, .ref mi, .ref dw, .ref rf, .int lc, .int lh, .int br, .int hi])), (aC, .inr (1, [.ref aR, .ref aB, .ref aP, .int nb, .int np])), (aB, .inl (cI, 24, .inl fb)), (aP, .inl (cI, 20, .inl fp)), (g0, .inr (7, [.ref gY, .ref gF, .ref gP, .int gpn, .int glt, .int gsh, .int gwd, .int gpu, .int gmo])), (gY, .inl (cI, 6, .inl gfY)), (gF, .inl (cI, 5, .inl gfF)), (gP, .inl (cI, 80, .inl gfP)), (sd, .inr (8, [.ref w1, .ref w2, .ref aC, .ref g0, .ref aL, .ref aK, .null])), (mi, .inr (6, [.ref aC, .ref g0, .ref sd, .ref mW, .long u22_0, .int u22_1, .ref mV, .ref mA, .ref mT])), (mW, .inl (cJ, 10, .inr (.inl u22_2)))]) hP hD hk1 hFc ht hB [9, 1, 2, 3, 4, 5, 6, 7, 8, 10] [(false, 0), (true, 1), (true, 2), (true, 3), (true, 4), (true, 5), (true, 6), (true, 7), (true, 8), (true, 0), (true, 9)] rfl (by decide +kernel) (by decide +kernel) rfl
      clear hP hD hS hPc hDc hFc hB hk1 hz1 hvm
      have hP := hP9
      have hD := hD9
      have hS := hS9
      clear hP9 hD9 hS9
      obtain ⟨f22_0, f22_1, f22_2⟩ : (0 ≤ u22_1.toInt) ∧ (u22_1.toInt ≤ 9) ∧ (∀ (kc : zK3) (kT : zT) (q_fr : Nat → Int32), zCn q_fr fb fp nb.toInt np.toInt kc → zKo nb.toInt np.toInt kc kT → zSc nb.toInt np.toInt kT.1 gfY gfF gfP gpn glt gsh gwd gpu gmo → (0 ≤ p0.toInt ∧ p0.toInt < nb.toInt) → zWe kc kT.1 none p0 u22_2 u22_0 u22_1) := hw
      have F22 := f22_2
      refine lv_aload_n hx hb dX10_belief_25 rfl (lv_at hl 0 rfl) ?_
      refine va_get (D := (dC, dI)) (ci := 10) (v := .ref mi) (C := RX10) (T := TX10) (N := 17) hx hb hts iX10 hown hK hP 0 rfl rfl 10 (by decide) (hts _ qw366) (fun _ h9 => h9) rfl dX10_belief_26 ?_
      refine lv_iload_n hx hb dX10_belief_29 rfl (lv_at hl 2 rfl) ?_
      obtain ⟨hPc, hDc⟩ := zc2 (wc := [(mi, .inr (6, [.ref aC, .ref g0, .ref sd, .ref mW, .long u22_0, .int u22_1, .ref mV, .ref mA, .ref mT])), (mW, .inl (cJ, 10, .inr (.inl u22_2)))]) hP hD [9, 10] (by decide +kernel) rfl
      have hFc := zfr hS hA
      refine va_calli (va_runV (As := [.int p1]) (rest := []) ⟨hx, hb, hml, hown, hts⟩ (g_X6_share l dC dI cI cJ mi p1 aC g0 sd mW u22_0 u22_1 mV mA mT u22_2 H.size (by omega)) (cwV 1 hts (zgV qw855 qw851 qw852 qw106 qw853) rfl rfl rfl hd_X6_share ⟨by rw [hR]; exact Nat.le_of_ble_eq_true rfl, by rw [hR]; exact Nat.le_of_ble_eq_true rfl⟩) (zPV hPc hK hDc (va_recv (q := (RX6, TX6, 9)) hK hP (ci := 6) (q0 := 9) rfl rfl)) rfl rfl hl.1 rfl (lv_room (Nat.le_of_ble_eq_true rfl)) dX10_belief_30 ⟨Nat.zero_le _, Nat.zero_le _⟩) hS (fun q _ h => hFc q h) hFc (fun v30 u30 t H locs ht hvm hw hB hz1 hk1 hS9 => ?_)
      replace hP := zkeep hP hk1
      replace hS := hS9
      clear hPc hDc hFc hk1 hz1 hvm hS9
      have f30_0 : (v30 = sBv u22_2 u22_0 p1.toInt.toNat) := hw
      have F30 := f30_0
      rw [hQ]
      exact W.iret (v := v30) hx hb hr (fun t ht hW => ⟨⟨v30, (u22_0, u22_1, u22_2), rfl, ⟨by (try dsimp only); omega, by (try dsimp only); omega, by (try dsimp only); exact fun kc kT q_fr q_fR q_pl q_cn q_frf hc hb h => by unfold sV_bel; rw [if_pos (by omega)]; exact F30.trans ((F22 kc kT _ hc hb h.1 (by omega)).1 _ (by omega))⟩, ⟨by rw [ht]; exact hP, hD⟩⟩, hS.F ht⟩) hS.2.2 dX10_belief_33
    · have c12 : v9.toInt = 0 := z5 rfl (by decide) c12
      refine lv_iconst (v := (-1)) hx hb dX10_belief_15 (by decide) ?_
      have zr0 : ((-1) : Int32).toInt = (-1) := by decide
      rw [hQ]
      exact W.iret (v := ((-1))) hx hb hr (fun t ht hW => ⟨⟨(-1), (mt, lf, fW), rfl, ⟨by (try dsimp only); omega, by (try dsimp only); omega, by (try dsimp only); exact fun kc kT q_fr q_fR q_pl q_cn q_frf hc hb h => by unfold sV_bel; rw [if_neg (by omega)]; ⟩, ⟨by rw [ht]; exact hP, hD⟩⟩, hS.F ht⟩) hS.2.2 dX10_belief_16
set_option maxHeartbeats 4000000 in
set_option maxRecDepth 100000 in
theorem g_X10_likely_n (l : Launch) (dC : Nat → ClassId) (dI : Nat → Nat → Nat) (cI cJ : ClassId) (h0 : Nat) (p0 : Int32) (p1 : Int32) (tp : Nat) (h0_courtReader : Value) (h0_lawReader : Value) (h0_draft : Value) (aC : Nat) (h0_laws : Value) (g0 : Nat) (k0 : Nat) (ac : Nat) (sd : Nat) (mi : Nat) (dw : Nat) (rf : Nat) (lc : Int32) (lh : Int32) (br : Int32) (hi : Int32) (aR : Nat) (aB : Nat) (aP : Nat) (nb : Int32) (np : Int32) (fb : Nat → Int32) (fp : Nat → Int32) (gY : Nat) (gF : Nat) (gP : Nat) (gpn : Int32) (glt : Int32) (gsh : Int32) (gwd : Int32) (gpu : Int32) (gmo : Int32) (gfY : Nat → Int32) (gfF : Nat → Int32) (gfP : Nat → Int32) (w1 : Nat) (w2 : Nat) (aL : Nat) (aK : Nat) (mW : Nat) (mt : Int64) (lf : Int32) (mV : Nat) (mA : Nat) (mT : Nat) (fW : Nat → Int64) (sz : Nat) (n_gpn : 0 ≤ gpn.toInt ∧ gpn.toInt ≤ 20) (n_gwd : (-1) ≤ gwd.toInt ∧ gwd.toInt ≤ 5) (n_hi : 0 ≤ hi.toInt ∧ hi.toInt ≤ 1) (n_lc : 0 ≤ lc.toInt ∧ lc.toInt ≤ 4) (n_lf : 0 ≤ lf.toInt ∧ lf.toInt ≤ 9) (n_nb : 0 ≤ nb.toInt ∧ nb.toInt ≤ 6) (n_np : 0 ≤ np.toInt ∧ np.toInt ≤ 5)  (ci_gfP_zPo : zPo gfP)  : Met l yX10_likely (.code yX10_likely cX10_likely 3 (some .int) :: wA) ({ frames := 6, cells := 0, slots := 0, locals := 153 }) (zPW (dC, dI) [(cI, .int), (cJ, .long)] [.ref h0, .int p0, .int p1] sz [(h0, .inr (10, [.ref tp, h0_courtReader, h0_lawReader, h0_draft, .ref aC, h0_laws, .ref g0, .ref k0, .ref ac, .ref sd, .ref mi, .ref dw, .ref rf, .int lc, .int lh, .int br, .int hi])), (aC, .inr (1, [.ref aR, .ref aB, .ref aP, .int nb, .int np])), (aB, .inl (cI, 24, .inl fb)), (aP, .inl (cI, 20, .inl fp)), (g0, .inr (7, [.ref gY, .ref gF, .ref gP, .int gpn, .int glt, .int gsh, .int gwd, .int gpu, .int gmo])), (gY, .inl (cI, 6, .inl gfY)), (gF, .inl (cI, 5, .inl gfF)), (gP, .inl (cI, 80, .inl gfP)), (sd, .inr (8, [.ref w1, .ref w2, .ref aC, .ref g0, .ref aL, .ref aK, .null])), (mi, .inr (6, [.ref aC, .ref g0, .ref sd, .ref mW, .long mt, .int lf, .ref mV, .ref mA, .ref mT])), (mW, .inl (cJ, 10, .inr (.inl fW)))] (va_A [(h0, .inr (10, [.ref tp, h0_courtReader, h0_lawReader, h0_draft, .ref aC, h0_laws, .ref g0, .ref k0, .ref ac, .ref sd, .ref mi, .ref dw, .ref rf, .int lc, .int lh, .int br, .int hi])), (aC, .inr (1, [.ref aR, .ref aB, .ref aP, .int nb, .int np])), (aB, .inl (cI, 24, .inl fb)), (aP, .inl (cI, 20, .inl fp)), (g0, .inr (7, [.ref gY, .ref gF, .ref gP, .int gpn, .int glt, .int gsh, .int gwd, .int gpu, .int gmo])), (gY, .inl (cI, 6, .inl gfY)), (gF, .inl (cI, 5, .inl gfF)), (gP, .inl (cI, 80, .inl gfP)), (sd, .inr (8, [.ref w1, .ref w2, .ref aC, .ref g0, .ref aL, .ref aK, .null])), (mi, .inr (6, [.ref aC, .ref g0, .ref sd, .ref mW, .long mt, .int lf, .ref mV, .ref mA, .ref mT])), (mW, .inl (cJ, 10, .inr (.inl fW)))] sz)) (va_Qi (fun (r : Int32) (u : Int64 × Int32 × (Nat → Int64)) => (0 ≤ u.2.1.toInt) ∧ (u.2.1.toInt ≤ 9) ∧ (∀ (kc : zK3) (kT : zT) (q_fr : Nat → Int32) (q_fR : Nat → Int32) (q_pl : Int32) (q_cn : Int32) (q_frf : Nat → Int32), zCn q_fr fb fp nb.toInt np.toInt kc → zKo nb.toInt np.toInt kc kT → zTc nb.toInt np.toInt kT gfY gfF gfP gpn glt gsh gwd gpu gmo q_fR q_pl q_cn q_frf → r = sV_lik nb.toInt kc kT.1 none p0 p1)) (fun (u : Int64 × Int32 × (Nat → Int64)) (t : State) => va_P (dC, dI) vwCl [(h0, .inr (10, [.ref tp, h0_courtReader, h0_lawReader, h0_draft, .ref aC, h0_laws, .ref g0, .ref k0, .ref ac, .ref sd, .ref mi, .ref dw, .ref rf, .int lc, .int lh, .int br, .int hi])), (aC, .inr (1, [.ref aR, .ref aB, .ref aP, .int nb, .int np])), (aB, .inl (cI, 24, .inl fb)), (aP, .inl (cI, 20, .inl fp)), (g0, .inr (7, [.ref gY, .ref gF, .ref gP, .int gpn, .int glt, .int gsh, .int gwd, .int gpu, .int gmo])), (gY, .inl (cI, 6, .inl gfY)), (gF, .inl (cI, 5, .inl gfF)), (gP, .inl (cI, 80, .inl gfP)), (sd, .inr (8, [.ref w1, .ref w2, .ref aC, .ref g0, .ref aL, .ref aK, .null])), (mi, .inr (6, [.ref aC, .ref g0, .ref sd, .ref mW, .long u.1, .int u.2.1, .ref mV, .ref mA, .ref mT])), (mW, .inl (cJ, 10, .inr (.inl u.2.2)))] t.heap ∧ va_D (va_A [(h0, .inr (10, [.ref tp, h0_courtReader, h0_lawReader, h0_draft, .ref aC, h0_laws, .ref g0, .ref k0, .ref ac, .ref sd, .ref mi, .ref dw, .ref rf, .int lc, .int lh, .int br, .int hi])), (aC, .inr (1, [.ref aR, .ref aB, .ref aP, .int nb, .int np])), (aB, .inl (cI, 24, .inl fb)), (aP, .inl (cI, 20, .inl fp)), (g0, .inr (7, [.ref gY, .ref gF, .ref gP, .int gpn, .int glt, .int gsh, .int gwd, .int gpu, .int gmo])), (gY, .inl (cI, 6, .inl gfY)), (gF, .inl (cI, 5, .inl gfF)), (gP, .inl (cI, 80, .inl gfP)), (sd, .inr (8, [.ref w1, .ref w2, .ref aC, .ref g0, .ref aL, .ref aK, .null])), (mi, .inr (6, [.ref aC, .ref g0, .ref sd, .ref mW, .long mt, .int lf, .ref mV, .ref mA, .ref mT])), (mW, .inl (cJ, 10, .inr (.inl fW)))] sz) [(h0, .inr (10, [.ref tp, h0_courtReader, h0_lawReader, h0_draft, .ref aC, h0_laws, .ref g0, .ref k0, .ref ac, .ref sd, .ref mi, .ref dw, .ref rf, .int lc, .int lh, .int br, .int hi])), (aC, .inr (1, [.ref aR, .ref aB, .ref aP, .int nb, .int np])), (aB, .inl (cI, 24, .inl fb)), (aP, .inl (cI, 20, .inl fp)), (g0, .inr (7, [.ref gY, .ref gF, .ref gP, .int gpn, .int glt, .int gsh, .int gwd, .int gpu, .int gmo])), (gY, .inl (cI, 6, .inl gfY)), (gF, .inl (cI, 5, .inl gfF)), (gP, .inl (cI, 80, .inl gfP)), (sd, .inr (8, [.ref w1, .ref w2, .ref aC, .ref g0, .ref aL, .ref aK, .null])), (mi, .inr (6, [.ref aC, .ref g0, .ref sd, .ref mW, .long u.1, .int u.2.1, .ref mV, .ref mA, .ref mT])), (mW, .inl (cJ, 10, .inr (.inl u.2.2)))]) (va_A [(h0, .inr (10, [.ref tp, h0_courtReader, h0_lawReader, h0_draft, .ref aC, h0_laws, .ref g0, .ref k0, .ref ac, .ref sd, .ref mi, .ref dw, .ref rf, .int lc, .int lh, .int br, .int hi])), (aC, .inr (1, [.ref aR, .ref aB, .ref aP, .int nb, .int np])), (aB, .inl (cI, 24, .inl fb)), (aP, .inl (cI, 20, .inl fp)), (g0, .inr (7, [.ref gY, .ref gF, .ref gP, .int gpn, .int glt, .int gsh, .int gwd, .int gpu, .int gmo])), (gY, .inl (cI, 6, .inl gfY)), (gF, .inl (cI, 5, .inl gfF)), (gP, .inl (cI, 80, .inl gfP)), (sd, .inr (8, [.ref w1, .ref w2, .ref aC, .ref g0, .ref aL, .ref aK, .null])), (mi, .inr (6, [.ref aC, .ref g0, .ref sd, .ref mW, .long mt, .int lf, .ref mV, .ref mA, .ref mT])), (mW, .inl (cJ, 10, .inr (.inl fW)))] sz)) 0 0 (va_A [(h0, .inr (10, [.ref tp, h0_courtReader, h0_lawReader, h0_draft, .ref aC, h0_laws, .ref g0, .ref k0, .ref ac, .ref sd, .ref mi, .ref dw, .ref rf, .int lc, .int lh, .int br, .int hi])), (aC, .inr (1, [.ref aR, .ref aB, .ref aP, .int nb, .int np])), (aB, .inl (cI, 24, .inl fb)), (aP, .inl (cI, 20, .inl fp)), (g0, .inr (7, [.ref gY, .ref gF, .ref gP, .int gpn, .int glt, .int gsh, .int gwd, .int gpu, .int gmo])), (gY, .inl (cI, 6, .inl gfY)), (gF, .inl (cI, 5, .inl gfF)), (gP, .inl (cI, 80, .inl gfP)), (sd, .inr (8, [.ref w1, .ref w2, .ref aC, .ref g0, .ref aL, .ref aK, .null])), (mi, .inr (6, [.ref aC, .ref g0, .ref sd, .ref mW, .long mt, .int lf, .ref mV, .ref mA, .ref mT])), (mW, .inl (cJ, 10, .inr (.inl fW)))] sz) := by
  refine Met.ofW (cc := cX10_likely) (maxL := 3) (ret := (some .int)) (by decide) rfl ?_
  intro p e s m args below meth c s₁ B hml hv
  have y_gpn : zHid (0 ≤ gpn.toInt ∧ gpn.toInt ≤ 20) := n_gpn
  have y_gwd : zHid ((-1) ≤ gwd.toInt ∧ gwd.toInt ≤ 5) := n_gwd
  have y_hi : zHid (0 ≤ hi.toInt ∧ hi.toInt ≤ 1) := n_hi
  have y_lc : zHid (0 ≤ lc.toInt ∧ lc.toInt ≤ 4) := n_lc
  clear n_gpn n_gwd n_hi n_lc
  obtain ⟨⟨hargs, hsz, hP, hK, hT⟩, hV⟩ := hv
  have hx := B.exec
  have hb := B.bytes
  have hr := B.returns
  have hts : ∀ w ∈ wA, w.before args s = true := fun w h => atoms_spec (ws := .code yX10_likely cX10_likely 3 (some .int) :: wA) B.pre w (List.mem_cons_of_mem _ h)
  have hown : s.vm.findClass RX10 = some m.cls := findClass_of_methodNamed B.named
  have hlocks := B.notSynchronized
  subst hsz
  have hD := hT.self (sz := s.heap.size)
  generalize hAe : va_A [(h0, .inr (10, [.ref tp, h0_courtReader, h0_lawReader, h0_draft, .ref aC, h0_laws, .ref g0, .ref k0, .ref ac, .ref sd, .ref mi, .ref dw, .ref rf, .int lc, .int lh, .int br, .int hi])), (aC, .inr (1, [.ref aR, .ref aB, .ref aP, .int nb, .int np])), (aB, .inl (cI, 24, .inl fb)), (aP, .inl (cI, 20, .inl fp)), (g0, .inr (7, [.ref gY, .ref gF, .ref gP, .int gpn, .int glt, .int gsh, .int gwd, .int gpu, .int gmo])), (gY, .inl (cI, 6, .inl gfY)), (gF, .inl (cI, 5, .inl gfF)), (gP, .inl (cI, 80, .inl gfP)), (sd, .inr (8, [.ref w1, .ref w2, .ref aC, .ref g0, .ref aL, .ref aK, .null])), (mi, .inr (6, [.ref aC, .ref g0, .ref sd, .ref mW, .long mt, .int lf, .ref mV, .ref mA, .ref mT])), (mW, .inl (cJ, 10, .inr (.inl fW)))] s.heap.size = A at hD hV ⊢
  have hA : ∀ q : Nat, s.heap.size ≤ q → A q := fun q h => by rw [← hAe]; exact Or.inr h
  have hl := lv_entry ([.ref h0, .int p0, .int p1]) (n := 3) (Nat.le_of_ble_eq_true rfl)
  rw [show entryFrame m args 3 = entryFrame m ([.ref h0, .int p0, .int p1] : List Value).toArray 3 by rw [hargs], lg_entry_eq]
  generalize (lg_sl ([.ref h0, .int p0, .int p1]) ++ List.replicate (3 - (lg_sl ([.ref h0, .int p0, .int p1])).length) Slot.unset).toArray = ls at hl ⊢
  have hl : lv_has ls 3 [(0, .ref h0), (1, .int p0), (2, .int p1)] := hl
  refine zstart (fun H hH => ?_)
  rw [← hH] at hP
  have hS : va_S A s.heap H [] := by rw [hH]; exact va_S.rf
  generalize ([] : List Loc) = locs at hS ⊢
  refine zgen (fun R Q hR hQ => ?_)
  refine lv_aload_n hx hb dX10_likely_0 rfl (lv_at hl 0 rfl) ?_
  refine lv_iload_n hx hb dX10_likely_1 rfl (lv_at hl 1 rfl) ?_
  obtain ⟨hPc, hDc⟩ := zc2 (wc := [(h0, .inr (10, [.ref tp, h0_courtReader, h0_lawReader, h0_draft, .ref aC, h0_laws, .ref g0, .ref k0, .ref ac, .ref sd, .ref mi, .ref dw, .ref rf, .int lc, .int lh, .int br, .int hi])), (aC, .inr (1, [.ref aR, .ref aB, .ref aP, .int nb, .int np]))]) hP hD [0, 1] (by decide +kernel) rfl
  have hFc := zfr hS hA
  refine va_calli (va_runV (As := [.int p0]) (rest := []) ⟨hx, hb, hml, hown, hts⟩ (g_X10_isBride l dC dI cI cJ h0 p0 (.ref tp) h0_courtReader h0_lawReader h0_draft aC h0_laws (.ref g0) (.ref k0) (.ref ac) (.ref sd) (.ref mi) (.ref dw) (.ref rf) (.int lc) (.int lh) (.int br) (.int hi) aR aB aP nb np H.size n_nb) (cwV 1 hts (zgV qw625 qw627 qw12 qw98 qw628) rfl rfl rfl hd_X10_isBride ⟨by rw [hR]; exact Nat.le_of_ble_eq_true rfl, by rw [hR]; exact Nat.le_of_ble_eq_true rfl⟩) (zPV hPc hK hDc (va_recv (q := (RX10, TX10, 17)) hK hP (ci := 10) (q0 := 0) rfl rfl)) rfl rfl hl.1 rfl (lv_room (Nat.le_of_ble_eq_true rfl)) dX10_likely_2 ⟨Nat.zero_le _, Nat.zero_le _⟩) hS (fun q _ h => hFc q h) hFc (fun v2 u2 t H locs ht hvm hw hB hz1 hk1 hS9 => ?_)
  replace hP := zkeep hP hk1
  replace hS := hS9
  clear hPc hDc hFc hk1 hz1 hvm hS9
  obtain ⟨f2_0, f2_1, f2_2, f2_3⟩ : (0 ≤ v2.toInt) ∧ (v2.toInt ≤ 1) ∧ (¬ v2.toInt = 0 → (0 ≤ p0.toInt ∧ p0.toInt < nb.toInt)) ∧ (v2.toInt = 0 → ¬ (0 ≤ p0.toInt ∧ p0.toInt < nb.toInt)) := hw
  refine lv_if_eq (tgt := 17) hx hb dX10_likely_5 (by decide) (fun c5 => ?_) (fun c5 => ?_)
  · have c5 : v2.toInt = 0 := z5 rfl (by decide) c5
    refine lv_iconst (v := (-1)) hx hb dX10_likely_17 (by decide) ?_
    have zr0 : ((-1) : Int32).toInt = (-1) := by decide
    rw [hQ]
    exact W.iret (v := ((-1))) hx hb hr (fun t ht hW => ⟨⟨(-1), (mt, lf, fW), rfl, ⟨by (try dsimp only); omega, by (try dsimp only); omega, by (try dsimp only); exact fun kc kT q_fr q_fR q_pl q_cn q_frf hc hb h => by unfold sV_lik; rw [if_neg (by omega)]; ⟩, ⟨by rw [ht]; exact hP, hD⟩⟩, hS.F ht⟩) hS.2.2 dX10_likely_18
  · have c5 : ¬ v2.toInt = 0 := z6 rfl (by decide) c5
    refine lv_iload_n hx hb dX10_likely_8 rfl (lv_at hl 2 rfl) ?_
    refine lv_if_lt (tgt := 17) hx hb dX10_likely_9 (by decide) (fun c9 => ?_) (fun c9 => ?_)
    · have c9 : p1.toInt < 0 := z1 rfl (by decide) c9
      refine lv_iconst (v := (-1)) hx hb dX10_likely_17 (by decide) ?_
      have zr0 : ((-1) : Int32).toInt = (-1) := by decide
      rw [hQ]
      exact W.iret (v := ((-1))) hx hb hr (fun t ht hW => ⟨⟨(-1), (mt, lf, fW), rfl, ⟨by (try dsimp only); omega, by (try dsimp only); omega, by (try dsimp only); exact fun kc kT q_fr q_fR q_pl q_cn q_frf hc hb h => by unfold sV_lik; rw [if_neg (by omega)]; ⟩, ⟨by rw [ht]; exact hP, hD⟩⟩, hS.F ht⟩) hS.2.2 dX10_likely_18
    · have c9 : 0 ≤ p1.toInt := z2 rfl (by decide) c9
      refine lv_iload_n hx hb dX10_likely_12 rfl (lv_at hl 2 rfl) ?_
      refine lv_iconst (v := 1) hx hb dX10_likely_13 (by decide) ?_
      refine lv_icmp_le (tgt := 19) hx hb dX10_likely_14 (by decide) (fun c14 => ?_) (fun c14 => ?_)
      · have c14 : p1.toInt ≤ 1 := z3 rfl (by decide) c14
        refine lv_aload_n hx hb dX10_likely_19 rfl (lv_at hl 0 rfl) ?_
        refine va_get (D := (dC, dI)) (ci := 10) (v := .ref mi) (C := RX10) (T := TX10) (N := 17) hx hb hts iX10 hown hK hP 0 rfl rfl 10 (by decide) (hts _ qw366) (fun _ h9 => h9) rfl dX10_likely_20 ?_
        refine lv_iload_n hx hb dX10_likely_23 rfl (lv_at hl 1 rfl) ?_
        obtain ⟨hPc, hDc, hFc⟩ := zc3 (wc := [(mi, .inr (6, [.ref aC, .ref g0, .ref sd, .ref mW, .long mt, .int lf, .ref mV, .ref mA, .ref mT])), (aC, .inr (1, [.ref aR, .ref aB, .ref aP, .int nb, .int np])), (aB, .inl (cI, 24, .inl fb)), (aP, .inl (cI, 20, .inl fp)), (g0, .inr (7, [.ref gY, .ref gF, .ref gP, .int gpn, .int glt, .int gsh, .int gwd, .int gpu, .int gmo])), (gY, .inl (cI, 6, .inl gfY)), (gF, .inl (cI, 5, .inl gfF)), (gP, .inl (cI, 80, .inl gfP)), (sd, .inr (8, [.ref w1, .ref w2, .ref aC, .ref g0, .ref aL, .ref aK, .null])), (mW, .inl (cJ, 10, .inr (.inl fW)))]) hP hD hS hA [9, 1, 2, 3, 4, 5, 6, 7, 8, 10] (by decide +kernel) rfl
        refine va_callv (va_runV (As := [.int p0]) (rest := []) ⟨hx, hb, hml, hown, hts⟩ (g_X6_weigh_n l dC dI cI cJ mi p0 aC g0 sd mW mt lf mV mA mT aR aB aP nb np fb fp gY gF gP gpn glt gsh gwd gpu gmo gfY gfF gfP w1 w2 aL aK fW H.size y_gpn n_lf (by omega) ci_gfP_zPo) (cwV 1 hts (zgV qw829 qw830 qw831 qw106 qw832) rfl rfl rfl hd_X6_weigh ⟨by rw [hR]; exact Nat.le_of_ble_eq_true rfl, by rw [hR]; exact Nat.le_of_ble_eq_true rfl⟩) (zPWV hPc hK hDc (va_recv (q := (RX6, TX6, 9)) hK hP (ci := 6) (q0 := 9) rfl rfl) (zV_call hV hS hFc)) rfl rfl hl.1 rfl (lv_room (Nat.le_of_ble_eq_true rfl)) dX10_likely_24 ⟨Nat.zero_le _, Nat.zero_le _⟩) hS (fun q _ h => hFc q h) hFc (fun u24 t H locs ht hvm hw hB hz1 hk1 hS9 => ?_)
        obtain ⟨u24_0, u24_1, u24_2⟩ := u24
        obtain ⟨hP9, hD9⟩ := zj2 (wX := [(h0, .inr (10, [.ref tp, h0_courtReader, h0_lawReader, h0_draft, .ref aC, h0_laws, .ref g0, .ref k0, .ref ac, .ref sd, .ref mi, .ref dw, .ref rf, .int lc, .int lh, .int br, .int hi])), (aC, .inr (1, [.ref aR, .ref aB, .ref aP, .int nb, .int np])), (aB, .inl (cI, 24, .inl fb)), (aP, .inl (cI, 20, .inl fp)), (g0, .inr (7, [.ref gY, .ref gF, .ref gP, .int gpn, .int glt, .int gsh, .int gwd, .int gpu, .int gmo])), (gY, .inl (cI, 6, .inl gfY)), (gF, .inl (cI, 5, .inl gfF)), (gP, .inl (cI, 80, .inl gfP)), (sd, .inr (8, [.ref w1, .ref w2, .ref aC, .ref g0, .ref aL, .ref aK, .null])), (mi, .inr (6, [.ref aC, .ref g0, .ref sd, .ref mW, .long u24_0, .int u24_1, .ref mV, .ref mA, .ref mT])), (mW, .inl (cJ, 10, .inr (.inl u24_2)))]) hP hD hk1 hFc ht hB [9, 1, 2, 3, 4, 5, 6, 7, 8, 10] [(false, 0), (true, 1), (true, 2), (true, 3), (true, 4), (true, 5), (true, 6), (true, 7), (true, 8), (true, 0), (true, 9)] rfl (by decide +kernel) (by decide +kernel) rfl
        clear hP hD hS hPc hDc hFc hB hk1 hz1 hvm
        have hP := hP9
        have hD := hD9
        have hS := hS9
        clear hP9 hD9 hS9
        obtain ⟨f24_0, f24_1, f24_2⟩ : (0 ≤ u24_1.toInt) ∧ (u24_1.toInt ≤ 9) ∧ (∀ (kc : zK3) (kT : zT) (q_fr : Nat → Int32), zCn q_fr fb fp nb.toInt np.toInt kc → zKo nb.toInt np.toInt kc kT → zSc nb.toInt np.toInt kT.1 gfY gfF gfP gpn glt gsh gwd gpu gmo → (0 ≤ p0.toInt ∧ p0.toInt < nb.toInt) → zWe kc kT.1 none p0 u24_2 u24_0 u24_1) := hw
        have F24 := f24_2
        refine lv_iload_n hx hb dX10_likely_27 rfl (lv_at hl 2 rfl) ?_
        refine lv_if_ne (tgt := 41) hx hb dX10_likely_28 (by decide) (fun c28 => ?_) (fun c28 => ?_)
        · have c28 : ¬ p1.toInt = 0 := z6 rfl (by decide) c28
          refine lv_aload_n hx hb dX10_likely_41 rfl (lv_at hl 0 rfl) ?_
          refine va_get (D := (dC, dI)) (ci := 10) (v := .ref mi) (C := RX10) (T := TX10) (N := 17) hx hb hts iX10 hown hK hP 0 rfl rfl 10 (by decide) (hts _ qw366) (fun _ h9 => h9) rfl dX10_likely_42 ?_
          refine lv_aload_n hx hb dX10_likely_45 rfl (lv_at hl 0 rfl) ?_
          refine va_get (D := (dC, dI)) (ci := 10) (v := .ref mi) (C := RX10) (T := TX10) (N := 17) hx hb hts iX10 hown hK hP 0 rfl rfl 10 (by decide) (hts _ qw366) (fun _ h9 => h9) rfl dX10_likely_46 ?_
          refine va_get (D := (dC, dI)) (ci := 6) (v := .int u24_1) (C := RX6) (T := TX6) (N := 9) hx hb hts iX6 hown hK hP 9 rfl rfl 5 (by decide) (hts _ qw322) (fun _ h9 => h9) rfl dX10_likely_49 ?_
          obtain ⟨hPc, hDc⟩ := zc2 (wc := [(mi, .inr (6, [.ref aC, .ref g0, .ref sd, .ref mW, .long u24_0, .int u24_1, .ref mV, .ref mA, .ref mT])), (mW, .inl (cJ, 10, .inr (.inl u24_2)))]) hP hD [9, 10] (by decide +kernel) rfl
          have hFc := zfr hS hA
          refine va_calli (va_runV (As := [.int u24_1]) (rest := []) ⟨hx, hb, hml, hown, hts⟩ (g_X6_share l dC dI cI cJ mi u24_1 aC g0 sd mW u24_0 u24_1 mV mA mT u24_2 H.size ⟨f24_0, f24_1⟩) (cwV 1 hts (zgV qw855 qw851 qw852 qw106 qw853) rfl rfl rfl hd_X6_share ⟨by rw [hR]; exact Nat.le_of_ble_eq_true rfl, by rw [hR]; exact Nat.le_of_ble_eq_true rfl⟩) (zPV hPc hK hDc (va_recv (q := (RX6, TX6, 9)) hK hP (ci := 6) (q0 := 9) rfl rfl)) rfl rfl hl.1 rfl (lv_room (Nat.le_of_ble_eq_true rfl)) dX10_likely_52 ⟨Nat.zero_le _, Nat.zero_le _⟩) hS (fun q _ h => hFc q h) hFc (fun v52 u52 t H locs ht hvm hw hB hz1 hk1 hS9 => ?_)
          replace hP := zkeep hP hk1
          replace hS := hS9
          clear hPc hDc hFc hk1 hz1 hvm hS9
          have f52_0 : (v52 = sBv u24_2 u24_0 u24_1.toInt.toNat) := hw
          have F52 := f52_0
          rw [hQ]
          exact W.iret (v := v52) hx hb hr (fun t ht hW => ⟨⟨v52, (u24_0, u24_1, u24_2), rfl, ⟨by (try dsimp only); omega, by (try dsimp only); omega, by (try dsimp only); exact fun kc kT q_fr q_fR q_pl q_cn q_frf hc hb h => by have z := (F24 kc kT _ hc hb h.1 (by omega)); unfold sV_lik; rw [if_pos (by omega)]; rw [if_neg (by omega), ← z.2]; exact F52.trans (z.1 _ (by omega))⟩, ⟨by rw [ht]; exact hP, hD⟩⟩, hS.F ht⟩) hS.2.2 dX10_likely_55
        · have c28 : p1.toInt = 0 := z5 rfl (by decide) c28
          refine lv_aload_n hx hb dX10_likely_31 rfl (lv_at hl 0 rfl) ?_
          refine va_get (D := (dC, dI)) (ci := 10) (v := .ref mi) (C := RX10) (T := TX10) (N := 17) hx hb hts iX10 hown hK hP 0 rfl rfl 10 (by decide) (hts _ qw366) (fun _ h9 => h9) rfl dX10_likely_32 ?_
          refine va_get (D := (dC, dI)) (ci := 6) (v := .int u24_1) (C := RX6) (T := TX6) (N := 9) hx hb hts iX6 hown hK hP 9 rfl rfl 5 (by decide) (hts _ qw322) (fun _ h9 => h9) rfl dX10_likely_35 ?_
          refine lv_goto (tgt := 55) hx hb dX10_likely_38 (by decide) ?_
          rw [hQ]
          exact W.iret (v := u24_1) hx hb hr (fun t ht hW => ⟨⟨u24_1, (u24_0, u24_1, u24_2), rfl, ⟨by (try dsimp only); omega, by (try dsimp only); omega, by (try dsimp only); exact fun kc kT q_fr q_fR q_pl q_cn q_frf hc hb h => by have z := (F24 kc kT _ hc hb h.1 (by omega)); unfold sV_lik; rw [if_pos (by omega)]; rw [if_pos (by omega)]; exact z.2⟩, ⟨by rw [ht]; exact hP, hD⟩⟩, hS.F ht⟩) hS.2.2 dX10_likely_55
      · have c14 : 1 < p1.toInt := z4 rfl (by decide) c14
        refine lv_iconst (v := (-1)) hx hb dX10_likely_17 (by decide) ?_
        have zr0 : ((-1) : Int32).toInt = (-1) := by decide
        rw [hQ]
        exact W.iret (v := ((-1))) hx hb hr (fun t ht hW => ⟨⟨(-1), (mt, lf, fW), rfl, ⟨by (try dsimp only); omega, by (try dsimp only); omega, by (try dsimp only); exact fun kc kT q_fr q_fR q_pl q_cn q_frf hc hb h => by unfold sV_lik; rw [if_neg (by omega)]; ⟩, ⟨by rw [ht]; exact hP, hD⟩⟩, hS.F ht⟩) hS.2.2 dX10_likely_18
set_option maxHeartbeats 4000000 in
set_option maxRecDepth 100000 in
theorem g_X10_sure_n (l : Launch) (dC : Nat → ClassId) (dI : Nat → Nat → Nat) (cI cJ : ClassId) (h0 : Nat) (p0 : Int32) (p1 : Int32) (tp : Nat) (h0_courtReader : Value) (h0_lawReader : Value) (h0_draft : Value) (aC : Nat) (h0_laws : Value) (g0 : Nat) (k0 : Nat) (ac : Nat) (sd : Nat) (mi : Nat) (dw : Nat) (rf : Nat) (lc : Int32) (lh : Int32) (br : Int32) (hi : Int32) (aR : Nat) (aB : Nat) (aP : Nat) (nb : Int32) (np : Int32) (fb : Nat → Int32) (fp : Nat → Int32) (gY : Nat) (gF : Nat) (gP : Nat) (gpn : Int32) (glt : Int32) (gsh : Int32) (gwd : Int32) (gpu : Int32) (gmo : Int32) (gfY : Nat → Int32) (gfF : Nat → Int32) (gfP : Nat → Int32) (w1 : Nat) (w2 : Nat) (aL : Nat) (aK : Nat) (mW : Nat) (mt : Int64) (lf : Int32) (mV : Nat) (mA : Nat) (mT : Nat) (fW : Nat → Int64) (sz : Nat) (n_gpn : 0 ≤ gpn.toInt ∧ gpn.toInt ≤ 20) (n_gwd : (-1) ≤ gwd.toInt ∧ gwd.toInt ≤ 5) (n_hi : 0 ≤ hi.toInt ∧ hi.toInt ≤ 1) (n_lc : 0 ≤ lc.toInt ∧ lc.toInt ≤ 4) (n_lf : 0 ≤ lf.toInt ∧ lf.toInt ≤ 9) (n_nb : 0 ≤ nb.toInt ∧ nb.toInt ≤ 6) (n_np : 0 ≤ np.toInt ∧ np.toInt ≤ 5)  (ci_gfP_zPo : zPo gfP)  : Met l yX10_sure (.code yX10_sure cX10_sure 3 (some .int) :: wA) ({ frames := 6, cells := 0, slots := 0, locals := 153 }) (zPW (dC, dI) [(cI, .int), (cJ, .long)] [.ref h0, .int p0, .int p1] sz [(h0, .inr (10, [.ref tp, h0_courtReader, h0_lawReader, h0_draft, .ref aC, h0_laws, .ref g0, .ref k0, .ref ac, .ref sd, .ref mi, .ref dw, .ref rf, .int lc, .int lh, .int br, .int hi])), (aC, .inr (1, [.ref aR, .ref aB, .ref aP, .int nb, .int np])), (aB, .inl (cI, 24, .inl fb)), (aP, .inl (cI, 20, .inl fp)), (g0, .inr (7, [.ref gY, .ref gF, .ref gP, .int gpn, .int glt, .int gsh, .int gwd, .int gpu, .int gmo])), (gY, .inl (cI, 6, .inl gfY)), (gF, .inl (cI, 5, .inl gfF)), (gP, .inl (cI, 80, .inl gfP)), (sd, .inr (8, [.ref w1, .ref w2, .ref aC, .ref g0, .ref aL, .ref aK, .null])), (mi, .inr (6, [.ref aC, .ref g0, .ref sd, .ref mW, .long mt, .int lf, .ref mV, .ref mA, .ref mT])), (mW, .inl (cJ, 10, .inr (.inl fW)))] (va_A [(h0, .inr (10, [.ref tp, h0_courtReader, h0_lawReader, h0_draft, .ref aC, h0_laws, .ref g0, .ref k0, .ref ac, .ref sd, .ref mi, .ref dw, .ref rf, .int lc, .int lh, .int br, .int hi])), (aC, .inr (1, [.ref aR, .ref aB, .ref aP, .int nb, .int np])), (aB, .inl (cI, 24, .inl fb)), (aP, .inl (cI, 20, .inl fp)), (g0, .inr (7, [.ref gY, .ref gF, .ref gP, .int gpn, .int glt, .int gsh, .int gwd, .int gpu, .int gmo])), (gY, .inl (cI, 6, .inl gfY)), (gF, .inl (cI, 5, .inl gfF)), (gP, .inl (cI, 80, .inl gfP)), (sd, .inr (8, [.ref w1, .ref w2, .ref aC, .ref g0, .ref aL, .ref aK, .null])), (mi, .inr (6, [.ref aC, .ref g0, .ref sd, .ref mW, .long mt, .int lf, .ref mV, .ref mA, .ref mT])), (mW, .inl (cJ, 10, .inr (.inl fW)))] sz)) (va_Qi (fun (r : Int32) (u : Int64 × Int32 × (Nat → Int64)) => ((-1) ≤ r.toInt) ∧ (r.toInt ≤ 1) ∧ (0 ≤ u.2.1.toInt) ∧ (u.2.1.toInt ≤ 9) ∧ (∀ (kc : zK3) (kT : zT) (q_fr : Nat → Int32) (q_fR : Nat → Int32) (q_pl : Int32) (q_cn : Int32) (q_frf : Nat → Int32), zCn q_fr fb fp nb.toInt np.toInt kc → zKo nb.toInt np.toInt kc kT → zTc nb.toInt np.toInt kT gfY gfF gfP gpn glt gsh gwd gpu gmo q_fR q_pl q_cn q_frf → r = sV_sur nb.toInt kc kT.1 none p0 p1)) (fun (u : Int64 × Int32 × (Nat → Int64)) (t : State) => va_P (dC, dI) vwCl [(h0, .inr (10, [.ref tp, h0_courtReader, h0_lawReader, h0_draft, .ref aC, h0_laws, .ref g0, .ref k0, .ref ac, .ref sd, .ref mi, .ref dw, .ref rf, .int lc, .int lh, .int br, .int hi])), (aC, .inr (1, [.ref aR, .ref aB, .ref aP, .int nb, .int np])), (aB, .inl (cI, 24, .inl fb)), (aP, .inl (cI, 20, .inl fp)), (g0, .inr (7, [.ref gY, .ref gF, .ref gP, .int gpn, .int glt, .int gsh, .int gwd, .int gpu, .int gmo])), (gY, .inl (cI, 6, .inl gfY)), (gF, .inl (cI, 5, .inl gfF)), (gP, .inl (cI, 80, .inl gfP)), (sd, .inr (8, [.ref w1, .ref w2, .ref aC, .ref g0, .ref aL, .ref aK, .null])), (mi, .inr (6, [.ref aC, .ref g0, .ref sd, .ref mW, .long u.1, .int u.2.1, .ref mV, .ref mA, .ref mT])), (mW, .inl (cJ, 10, .inr (.inl u.2.2)))] t.heap ∧ va_D (va_A [(h0, .inr (10, [.ref tp, h0_courtReader, h0_lawReader, h0_draft, .ref aC, h0_laws, .ref g0, .ref k0, .ref ac, .ref sd, .ref mi, .ref dw, .ref rf, .int lc, .int lh, .int br, .int hi])), (aC, .inr (1, [.ref aR, .ref aB, .ref aP, .int nb, .int np])), (aB, .inl (cI, 24, .inl fb)), (aP, .inl (cI, 20, .inl fp)), (g0, .inr (7, [.ref gY, .ref gF, .ref gP, .int gpn, .int glt, .int gsh, .int gwd, .int gpu, .int gmo])), (gY, .inl (cI, 6, .inl gfY)), (gF, .inl (cI, 5, .inl gfF)), (gP, .inl (cI, 80, .inl gfP)), (sd, .inr (8, [.ref w1, .ref w2, .ref aC, .ref g0, .ref aL, .ref aK, .null])), (mi, .inr (6, [.ref aC, .ref g0, .ref sd, .ref mW, .long mt, .int lf, .ref mV, .ref mA, .ref mT])), (mW, .inl (cJ, 10, .inr (.inl fW)))] sz) [(h0, .inr (10, [.ref tp, h0_courtReader, h0_lawReader, h0_draft, .ref aC, h0_laws, .ref g0, .ref k0, .ref ac, .ref sd, .ref mi, .ref dw, .ref rf, .int lc, .int lh, .int br, .int hi])), (aC, .inr (1, [.ref aR, .ref aB, .ref aP, .int nb, .int np])), (aB, .inl (cI, 24, .inl fb)), (aP, .inl (cI, 20, .inl fp)), (g0, .inr (7, [.ref gY, .ref gF, .ref gP, .int gpn, .int glt, .int gsh, .int gwd, .int gpu, .int gmo])), (gY, .inl (cI, 6, .inl gfY)), (gF, .inl (cI, 5, .inl gfF)), (gP, .inl (cI, 80, .inl gfP)), (sd, .inr (8, [.ref w1, .ref w2, .ref aC, .ref g0, .ref aL, .ref aK, .null])), (mi, .inr (6, [.ref aC, .ref g0, .ref sd, .ref mW, .long u.1, .int u.2.1, .ref mV, .ref mA, .ref mT])), (mW, .inl (cJ, 10, .inr (.inl u.2.2)))]) (va_A [(h0, .inr (10, [.ref tp, h0_courtReader, h0_lawReader, h0_draft, .ref aC, h0_laws, .ref g0, .ref k0, .ref ac, .ref sd, .ref mi, .ref dw, .ref rf, .int lc, .int lh, .int br, .int hi])), (aC, .inr (1, [.ref aR, .ref aB, .ref aP, .int nb, .int np])), (aB, .inl (cI, 24, .inl fb)), (aP, .inl (cI, 20, .inl fp)), (g0, .inr (7, [.ref gY, .ref gF, .ref gP, .int gpn, .int glt, .int gsh, .int gwd, .int gpu, .int gmo])), (gY, .inl (cI, 6, .inl gfY)), (gF, .inl (cI, 5, .inl gfF)), (gP, .inl (cI, 80, .inl gfP)), (sd, .inr (8, [.ref w1, .ref w2, .ref aC, .ref g0, .ref aL, .ref aK, .null])), (mi, .inr (6, [.ref aC, .ref g0, .ref sd, .ref mW, .long mt, .int lf, .ref mV, .ref mA, .ref mT])), (mW, .inl (cJ, 10, .inr (.inl fW)))] sz)) 0 0 (va_A [(h0, .inr (10, [.ref tp, h0_courtReader, h0_lawReader, h0_draft, .ref aC, h0_laws, .ref g0, .ref k0, .ref ac, .ref sd, .ref mi, .ref dw, .ref rf, .int lc, .int lh, .int br, .int hi])), (aC, .inr (1, [.ref aR, .ref aB, .ref aP, .int nb, .int np])), (aB, .inl (cI, 24, .inl fb)), (aP, .inl (cI, 20, .inl fp)), (g0, .inr (7, [.ref gY, .ref gF, .ref gP, .int gpn, .int glt, .int gsh, .int gwd, .int gpu, .int gmo])), (gY, .inl (cI, 6, .inl gfY)), (gF, .inl (cI, 5, .inl gfF)), (gP, .inl (cI, 80, .inl gfP)), (sd, .inr (8, [.ref w1, .ref w2, .ref aC, .ref g0, .ref aL, .ref aK, .null])), (mi, .inr (6, [.ref aC, .ref g0, .ref sd, .ref mW, .long mt, .int lf, .ref mV, .ref mA, .ref mT])), (mW, .inl (cJ, 10, .inr (.inl fW)))] sz) := by
  refine Met.ofW (cc := cX10_sure) (maxL := 3) (ret := (some .int)) (by decide) rfl ?_
  intro p e s m args below meth c s₁ B hml hv
  have y_gpn : zHid (0 ≤ gpn.toInt ∧ gpn.toInt ≤ 20) := n_gpn
  have y_gwd : zHid ((-1) ≤ gwd.toInt ∧ gwd.toInt ≤ 5) := n_gwd
  have y_hi : zHid (0 ≤ hi.toInt ∧ hi.toInt ≤ 1) := n_hi
  have y_lc : zHid (0 ≤ lc.toInt ∧ lc.toInt ≤ 4) := n_lc
  clear n_gpn n_gwd n_hi n_lc
  obtain ⟨⟨hargs, hsz, hP, hK, hT⟩, hV⟩ := hv
  have hx := B.exec
  have hb := B.bytes
  have hr := B.returns
  have hts : ∀ w ∈ wA, w.before args s = true := fun w h => atoms_spec (ws := .code yX10_sure cX10_sure 3 (some .int) :: wA) B.pre w (List.mem_cons_of_mem _ h)
  have hown : s.vm.findClass RX10 = some m.cls := findClass_of_methodNamed B.named
  have hlocks := B.notSynchronized
  subst hsz
  have hD := hT.self (sz := s.heap.size)
  generalize hAe : va_A [(h0, .inr (10, [.ref tp, h0_courtReader, h0_lawReader, h0_draft, .ref aC, h0_laws, .ref g0, .ref k0, .ref ac, .ref sd, .ref mi, .ref dw, .ref rf, .int lc, .int lh, .int br, .int hi])), (aC, .inr (1, [.ref aR, .ref aB, .ref aP, .int nb, .int np])), (aB, .inl (cI, 24, .inl fb)), (aP, .inl (cI, 20, .inl fp)), (g0, .inr (7, [.ref gY, .ref gF, .ref gP, .int gpn, .int glt, .int gsh, .int gwd, .int gpu, .int gmo])), (gY, .inl (cI, 6, .inl gfY)), (gF, .inl (cI, 5, .inl gfF)), (gP, .inl (cI, 80, .inl gfP)), (sd, .inr (8, [.ref w1, .ref w2, .ref aC, .ref g0, .ref aL, .ref aK, .null])), (mi, .inr (6, [.ref aC, .ref g0, .ref sd, .ref mW, .long mt, .int lf, .ref mV, .ref mA, .ref mT])), (mW, .inl (cJ, 10, .inr (.inl fW)))] s.heap.size = A at hD hV ⊢
  have hA : ∀ q : Nat, s.heap.size ≤ q → A q := fun q h => by rw [← hAe]; exact Or.inr h
  have hl := lv_entry ([.ref h0, .int p0, .int p1]) (n := 3) (Nat.le_of_ble_eq_true rfl)
  rw [show entryFrame m args 3 = entryFrame m ([.ref h0, .int p0, .int p1] : List Value).toArray 3 by rw [hargs], lg_entry_eq]
  generalize (lg_sl ([.ref h0, .int p0, .int p1]) ++ List.replicate (3 - (lg_sl ([.ref h0, .int p0, .int p1])).length) Slot.unset).toArray = ls at hl ⊢
  have hl : lv_has ls 3 [(0, .ref h0), (1, .int p0), (2, .int p1)] := hl
  refine zstart (fun H hH => ?_)
  rw [← hH] at hP
  have hS : va_S A s.heap H [] := by rw [hH]; exact va_S.rf
  generalize ([] : List Loc) = locs at hS ⊢
  refine zgen (fun R Q hR hQ => ?_)
  refine lv_aload_n hx hb dX10_sure_0 rfl (lv_at hl 0 rfl) ?_
  refine lv_iload_n hx hb dX10_sure_1 rfl (lv_at hl 1 rfl) ?_
  obtain ⟨hPc, hDc⟩ := zc2 (wc := [(h0, .inr (10, [.ref tp, h0_courtReader, h0_lawReader, h0_draft, .ref aC, h0_laws, .ref g0, .ref k0, .ref ac, .ref sd, .ref mi, .ref dw, .ref rf, .int lc, .int lh, .int br, .int hi])), (aC, .inr (1, [.ref aR, .ref aB, .ref aP, .int nb, .int np]))]) hP hD [0, 1] (by decide +kernel) rfl
  have hFc := zfr hS hA
  refine va_calli (va_runV (As := [.int p0]) (rest := []) ⟨hx, hb, hml, hown, hts⟩ (g_X10_isBride l dC dI cI cJ h0 p0 (.ref tp) h0_courtReader h0_lawReader h0_draft aC h0_laws (.ref g0) (.ref k0) (.ref ac) (.ref sd) (.ref mi) (.ref dw) (.ref rf) (.int lc) (.int lh) (.int br) (.int hi) aR aB aP nb np H.size n_nb) (cwV 1 hts (zgV qw625 qw627 qw12 qw98 qw628) rfl rfl rfl hd_X10_isBride ⟨by rw [hR]; exact Nat.le_of_ble_eq_true rfl, by rw [hR]; exact Nat.le_of_ble_eq_true rfl⟩) (zPV hPc hK hDc (va_recv (q := (RX10, TX10, 17)) hK hP (ci := 10) (q0 := 0) rfl rfl)) rfl rfl hl.1 rfl (lv_room (Nat.le_of_ble_eq_true rfl)) dX10_sure_2 ⟨Nat.zero_le _, Nat.zero_le _⟩) hS (fun q _ h => hFc q h) hFc (fun v2 u2 t H locs ht hvm hw hB hz1 hk1 hS9 => ?_)
  replace hP := zkeep hP hk1
  replace hS := hS9
  clear hPc hDc hFc hk1 hz1 hvm hS9
  obtain ⟨f2_0, f2_1, f2_2, f2_3⟩ : (0 ≤ v2.toInt) ∧ (v2.toInt ≤ 1) ∧ (¬ v2.toInt = 0 → (0 ≤ p0.toInt ∧ p0.toInt < nb.toInt)) ∧ (v2.toInt = 0 → ¬ (0 ≤ p0.toInt ∧ p0.toInt < nb.toInt)) := hw
  refine lv_if_eq (tgt := 20) hx hb dX10_sure_5 (by decide) (fun c5 => ?_) (fun c5 => ?_)
  · have c5 : v2.toInt = 0 := z5 rfl (by decide) c5
    refine lv_iconst (v := (-1)) hx hb dX10_sure_20 (by decide) ?_
    have zr0 : ((-1) : Int32).toInt = (-1) := by decide
    rw [hQ]
    exact W.iret (v := ((-1))) hx hb hr (fun t ht hW => ⟨⟨(-1), (mt, lf, fW), rfl, ⟨by (try dsimp only); omega, by (try dsimp only); omega, by (try dsimp only); omega, by (try dsimp only); omega, by (try dsimp only); exact fun kc kT q_fr q_fR q_pl q_cn q_frf hc hb h => by unfold sV_sur; rw [if_neg (by omega)]; ⟩, ⟨by rw [ht]; exact hP, hD⟩⟩, hS.F ht⟩) hS.2.2 dX10_sure_21
  · have c5 : ¬ v2.toInt = 0 := z6 rfl (by decide) c5
    refine lv_iload_n hx hb dX10_sure_8 rfl (lv_at hl 2 rfl) ?_
    refine lv_iconst (v := 1) hx hb dX10_sure_9 (by decide) ?_
    refine lv_icmp_lt (tgt := 20) hx hb dX10_sure_10 (by decide) (fun c10 => ?_) (fun c10 => ?_)
    · have c10 : p1.toInt < 1 := z1 rfl (by decide) c10
      refine lv_iconst (v := (-1)) hx hb dX10_sure_20 (by decide) ?_
      have zr0 : ((-1) : Int32).toInt = (-1) := by decide
      rw [hQ]
      exact W.iret (v := ((-1))) hx hb hr (fun t ht hW => ⟨⟨(-1), (mt, lf, fW), rfl, ⟨by (try dsimp only); omega, by (try dsimp only); omega, by (try dsimp only); omega, by (try dsimp only); omega, by (try dsimp only); exact fun kc kT q_fr q_fR q_pl q_cn q_frf hc hb h => by unfold sV_sur; rw [if_neg (by omega)]; ⟩, ⟨by rw [ht]; exact hP, hD⟩⟩, hS.F ht⟩) hS.2.2 dX10_sure_21
    · have c10 : 1 ≤ p1.toInt := z2 rfl (by decide) c10
      refine lv_iload_n hx hb dX10_sure_13 rfl (lv_at hl 2 rfl) ?_
      refine lv_ldcw (v := 1000000) hx hb hown (hts _ qw864) dX10_sure_14 ?_
      refine lv_icmp_le (tgt := 22) hx hb dX10_sure_17 (by decide) (fun c17 => ?_) (fun c17 => ?_)
      · have c17 : p1.toInt ≤ 1000000 := z3 rfl (by decide) c17
        refine lv_aload_n hx hb dX10_sure_22 rfl (lv_at hl 0 rfl) ?_
        refine va_get (D := (dC, dI)) (ci := 10) (v := .ref mi) (C := RX10) (T := TX10) (N := 17) hx hb hts iX10 hown hK hP 0 rfl rfl 10 (by decide) (hts _ qw366) (fun _ h9 => h9) rfl dX10_sure_23 ?_
        refine lv_iload_n hx hb dX10_sure_26 rfl (lv_at hl 1 rfl) ?_
        obtain ⟨hPc, hDc, hFc⟩ := zc3 (wc := [(mi, .inr (6, [.ref aC, .ref g0, .ref sd, .ref mW, .long mt, .int lf, .ref mV, .ref mA, .ref mT])), (aC, .inr (1, [.ref aR, .ref aB, .ref aP, .int nb, .int np])), (aB, .inl (cI, 24, .inl fb)), (aP, .inl (cI, 20, .inl fp)), (g0, .inr (7, [.ref gY, .ref gF, .ref gP, .int gpn, .int glt, .int gsh, .int gwd, .int gpu, .int gmo])), (gY, .inl (cI, 6, .inl gfY)), (gF, .inl (cI, 5, .inl gfF)), (gP, .inl (cI, 80, .inl gfP)), (sd, .inr (8, [.ref w1, .ref w2, .ref aC, .ref g0, .ref aL, .ref aK, .null])), (mW, .inl (cJ, 10, .inr (.inl fW)))]) hP hD hS hA [9, 1, 2, 3, 4, 5, 6, 7, 8, 10] (by decide +kernel) rfl
        refine va_callv (va_runV (As := [.int p0]) (rest := []) ⟨hx, hb, hml, hown, hts⟩ (g_X6_weigh_n l dC dI cI cJ mi p0 aC g0 sd mW mt lf mV mA mT aR aB aP nb np fb fp gY gF gP gpn glt gsh gwd gpu gmo gfY gfF gfP w1 w2 aL aK fW H.size y_gpn n_lf (by omega) ci_gfP_zPo) (cwV 1 hts (zgV qw829 qw830 qw831 qw106 qw832) rfl rfl rfl hd_X6_weigh ⟨by rw [hR]; exact Nat.le_of_ble_eq_true rfl, by rw [hR]; exact Nat.le_of_ble_eq_true rfl⟩) (zPWV hPc hK hDc (va_recv (q := (RX6, TX6, 9)) hK hP (ci := 6) (q0 := 9) rfl rfl) (zV_call hV hS hFc)) rfl rfl hl.1 rfl (lv_room (Nat.le_of_ble_eq_true rfl)) dX10_sure_27 ⟨Nat.zero_le _, Nat.zero_le _⟩) hS (fun q _ h => hFc q h) hFc (fun u27 t H locs ht hvm hw hB hz1 hk1 hS9 => ?_)
        obtain ⟨u27_0, u27_1, u27_2⟩ := u27
        obtain ⟨hP9, hD9⟩ := zj2 (wX := [(h0, .inr (10, [.ref tp, h0_courtReader, h0_lawReader, h0_draft, .ref aC, h0_laws, .ref g0, .ref k0, .ref ac, .ref sd, .ref mi, .ref dw, .ref rf, .int lc, .int lh, .int br, .int hi])), (aC, .inr (1, [.ref aR, .ref aB, .ref aP, .int nb, .int np])), (aB, .inl (cI, 24, .inl fb)), (aP, .inl (cI, 20, .inl fp)), (g0, .inr (7, [.ref gY, .ref gF, .ref gP, .int gpn, .int glt, .int gsh, .int gwd, .int gpu, .int gmo])), (gY, .inl (cI, 6, .inl gfY)), (gF, .inl (cI, 5, .inl gfF)), (gP, .inl (cI, 80, .inl gfP)), (sd, .inr (8, [.ref w1, .ref w2, .ref aC, .ref g0, .ref aL, .ref aK, .null])), (mi, .inr (6, [.ref aC, .ref g0, .ref sd, .ref mW, .long u27_0, .int u27_1, .ref mV, .ref mA, .ref mT])), (mW, .inl (cJ, 10, .inr (.inl u27_2)))]) hP hD hk1 hFc ht hB [9, 1, 2, 3, 4, 5, 6, 7, 8, 10] [(false, 0), (true, 1), (true, 2), (true, 3), (true, 4), (true, 5), (true, 6), (true, 7), (true, 8), (true, 0), (true, 9)] rfl (by decide +kernel) (by decide +kernel) rfl
        clear hP hD hS hPc hDc hFc hB hk1 hz1 hvm
        have hP := hP9
        have hD := hD9
        have hS := hS9
        clear hP9 hD9 hS9
        obtain ⟨f27_0, f27_1, f27_2⟩ : (0 ≤ u27_1.toInt) ∧ (u27_1.toInt ≤ 9) ∧ (∀ (kc : zK3) (kT : zT) (q_fr : Nat → Int32), zCn q_fr fb fp nb.toInt np.toInt kc → zKo nb.toInt np.toInt kc kT → zSc nb.toInt np.toInt kT.1 gfY gfF gfP gpn glt gsh gwd gpu gmo → (0 ≤ p0.toInt ∧ p0.toInt < nb.toInt) → zWe kc kT.1 none p0 u27_2 u27_0 u27_1) := hw
        have F27 := f27_2
        refine lv_aload_n hx hb dX10_sure_30 rfl (lv_at hl 0 rfl) ?_
        refine va_get (D := (dC, dI)) (ci := 10) (v := .ref mi) (C := RX10) (T := TX10) (N := 17) hx hb hts iX10 hown hK hP 0 rfl rfl 10 (by decide) (hts _ qw366) (fun _ h9 => h9) rfl dX10_sure_31 ?_
        refine lv_aload_n hx hb dX10_sure_34 rfl (lv_at hl 0 rfl) ?_
        refine va_get (D := (dC, dI)) (ci := 10) (v := .ref mi) (C := RX10) (T := TX10) (N := 17) hx hb hts iX10 hown hK hP 0 rfl rfl 10 (by decide) (hts _ qw366) (fun _ h9 => h9) rfl dX10_sure_35 ?_
        refine va_get (D := (dC, dI)) (ci := 6) (v := .int u27_1) (C := RX6) (T := TX6) (N := 9) hx hb hts iX6 hown hK hP 9 rfl rfl 5 (by decide) (hts _ qw322) (fun _ h9 => h9) rfl dX10_sure_38 ?_
        obtain ⟨hPc, hDc⟩ := zc2 (wc := [(mi, .inr (6, [.ref aC, .ref g0, .ref sd, .ref mW, .long u27_0, .int u27_1, .ref mV, .ref mA, .ref mT])), (mW, .inl (cJ, 10, .inr (.inl u27_2)))]) hP hD [9, 10] (by decide +kernel) rfl
        have hFc := zfr hS hA
        refine va_calli (va_runV (As := [.int u27_1]) (rest := []) ⟨hx, hb, hml, hown, hts⟩ (g_X6_share l dC dI cI cJ mi u27_1 aC g0 sd mW u27_0 u27_1 mV mA mT u27_2 H.size ⟨f27_0, f27_1⟩) (cwV 1 hts (zgV qw855 qw851 qw852 qw106 qw853) rfl rfl rfl hd_X6_share ⟨by rw [hR]; exact Nat.le_of_ble_eq_true rfl, by rw [hR]; exact Nat.le_of_ble_eq_true rfl⟩) (zPV hPc hK hDc (va_recv (q := (RX6, TX6, 9)) hK hP (ci := 6) (q0 := 9) rfl rfl)) rfl rfl hl.1 rfl (lv_room (Nat.le_of_ble_eq_true rfl)) dX10_sure_41 ⟨Nat.zero_le _, Nat.zero_le _⟩) hS (fun q _ h => hFc q h) hFc (fun v41 u41 t H locs ht hvm hw hB hz1 hk1 hS9 => ?_)
        replace hP := zkeep hP hk1
        replace hS := hS9
        clear hPc hDc hFc hk1 hz1 hvm hS9
        have f41_0 : (v41 = sBv u27_2 u27_0 u27_1.toInt.toNat) := hw
        have F41 := f41_0
        refine lv_iload_n hx hb dX10_sure_44 rfl (lv_at hl 2 rfl) ?_
        refine lv_icmp_lt (tgt := 52) hx hb dX10_sure_45 (by decide) (fun c45 => ?_) (fun c45 => ?_)
        · have c45 : v41.toInt < p1.toInt := z1 rfl rfl c45
          refine lv_iconst (v := 0) hx hb dX10_sure_52 (by decide) ?_
          have zr0 : (0 : Int32).toInt = 0 := by decide
          rw [hQ]
          exact W.iret (v := 0) hx hb hr (fun t ht hW => ⟨⟨0, (u27_0, u27_1, u27_2), rfl, ⟨by (try dsimp only); omega, by (try dsimp only); omega, by (try dsimp only); omega, by (try dsimp only); omega, by (try dsimp only); exact fun kc kT q_fr q_fR q_pl q_cn q_frf hc hb h => by have z := (F27 kc kT _ hc hb h.1 (by omega)); have e : v41 = sBl kc kT.1 none p0 (sLi kc kT.1 none p0).toInt.toNat := (by rw [← z.2]; exact F41.trans (z.1 _ (by omega))); have e2 := congrArg Int32.toInt e; unfold sV_sur; rw [if_pos (by omega)]; exact (if_neg (by omega)).symm⟩, ⟨by rw [ht]; exact hP, hD⟩⟩, hS.F ht⟩) hS.2.2 dX10_sure_53
        · have c45 : p1.toInt ≤ v41.toInt := z2 rfl rfl c45
          refine lv_iconst (v := 1) hx hb dX10_sure_48 (by decide) ?_
          refine lv_goto (tgt := 53) hx hb dX10_sure_49 (by decide) ?_
          have zr0 : (1 : Int32).toInt = 1 := by decide
          rw [hQ]
          exact W.iret (v := 1) hx hb hr (fun t ht hW => ⟨⟨1, (u27_0, u27_1, u27_2), rfl, ⟨by (try dsimp only); omega, by (try dsimp only); omega, by (try dsimp only); omega, by (try dsimp only); omega, by (try dsimp only); exact fun kc kT q_fr q_fR q_pl q_cn q_frf hc hb h => by have z := (F27 kc kT _ hc hb h.1 (by omega)); have e : v41 = sBl kc kT.1 none p0 (sLi kc kT.1 none p0).toInt.toNat := (by rw [← z.2]; exact F41.trans (z.1 _ (by omega))); have e2 := congrArg Int32.toInt e; unfold sV_sur; rw [if_pos (by omega)]; exact (if_pos (by omega)).symm⟩, ⟨by rw [ht]; exact hP, hD⟩⟩, hS.F ht⟩) hS.2.2 dX10_sure_53
      · have c17 : 1000000 < p1.toInt := z4 rfl (by decide) c17
        refine lv_iconst (v := (-1)) hx hb dX10_sure_20 (by decide) ?_
        have zr0 : ((-1) : Int32).toInt = (-1) := by decide
        rw [hQ]
        exact W.iret (v := ((-1))) hx hb hr (fun t ht hW => ⟨⟨(-1), (mt, lf, fW), rfl, ⟨by (try dsimp only); omega, by (try dsimp only); omega, by (try dsimp only); omega, by (try dsimp only); omega, by (try dsimp only); exact fun kc kT q_fr q_fR q_pl q_cn q_frf hc hb h => by unfold sV_sur; rw [if_neg (by omega)]; ⟩, ⟨by rw [ht]; exact hP, hD⟩⟩, hS.F ht⟩) hS.2.2 dX10_sure_21
set_option maxHeartbeats 4000000 in
set_option maxRecDepth 100000 in
theorem g_X10_belief_l (l : Launch) (dC : Nat → ClassId) (dI : Nat → Nat → Nat) (cI cJ : ClassId) (h0 : Nat) (p0 : Int32) (p1 : Int32) (tp : Nat) (h0_courtReader : Value) (h0_lawReader : Value) (h0_draft : Value) (aC : Nat) (h0_laws : Value) (g0 : Nat) (k0 : Nat) (ac : Nat) (sd : Nat) (mi : Nat) (dw : Nat) (rf : Nat) (lc : Int32) (lh : Int32) (br : Int32) (hi : Int32) (aR : Nat) (aB : Nat) (aP : Nat) (nb : Int32) (np : Int32) (fb : Nat → Int32) (fp : Nat → Int32) (gY : Nat) (gF : Nat) (gP : Nat) (gpn : Int32) (glt : Int32) (gsh : Int32) (gwd : Int32) (gpu : Int32) (gmo : Int32) (gfY : Nat → Int32) (gfF : Nat → Int32) (gfP : Nat → Int32) (w1 : Nat) (w2 : Nat) (aL : Nat) (aK : Nat) (lw : Nat) (fL : Nat → Int32) (fK : Nat → Int32) (lS : Nat) (fS : Nat → Int32) (lk : Nat) (mW : Nat) (mt : Int64) (lf : Int32) (mV : Nat) (mA : Nat) (mT : Nat) (fW : Nat → Int64) (sz : Nat) (n_gpn : 0 ≤ gpn.toInt ∧ gpn.toInt ≤ 20) (n_gwd : (-1) ≤ gwd.toInt ∧ gwd.toInt ≤ 5) (n_hi : 0 ≤ hi.toInt ∧ hi.toInt ≤ 1) (n_lc : 0 ≤ lc.toInt ∧ lc.toInt ≤ 4) (n_lf : 0 ≤ lf.toInt ∧ lf.toInt ≤ 9) (n_nb : 0 ≤ nb.toInt ∧ nb.toInt ≤ 6) (n_np : 0 ≤ np.toInt ∧ np.toInt ≤ 5) (hlk : lk ≤ 241) (ci_fS_zSt : zSt fS) (ci_gfP_zPo : zPo gfP)  : Met l yX10_belief (.code yX10_belief cX10_belief 3 (some .int) :: wA) ({ frames := 6, cells := 0, slots := 0, locals := 153 }) (zPW (dC, dI) [(cI, .int), (cJ, .long)] [.ref h0, .int p0, .int p1] sz [(h0, .inr (10, [.ref tp, h0_courtReader, h0_lawReader, h0_draft, .ref aC, h0_laws, .ref g0, .ref k0, .ref ac, .ref sd, .ref mi, .ref dw, .ref rf, .int lc, .int lh, .int br, .int hi])), (aC, .inr (1, [.ref aR, .ref aB, .ref aP, .int nb, .int np])), (aB, .inl (cI, 24, .inl fb)), (aP, .inl (cI, 20, .inl fp)), (g0, .inr (7, [.ref gY, .ref gF, .ref gP, .int gpn, .int glt, .int gsh, .int gwd, .int gpu, .int gmo])), (gY, .inl (cI, 6, .inl gfY)), (gF, .inl (cI, 5, .inl gfF)), (gP, .inl (cI, 80, .inl gfP)), (sd, .inr (8, [.ref w1, .ref w2, .ref aC, .ref g0, .ref aL, .ref aK, .ref lw])), (aL, .inl (cI, 6, .inl fL)), (aK, .inl (cI, 32, .inl fK)), (lw, .inr (4, [.ref lS])), (lS, .inl (cI, lk, .inl fS)), (mi, .inr (6, [.ref aC, .ref g0, .ref sd, .ref mW, .long mt, .int lf, .ref mV, .ref mA, .ref mT])), (mW, .inl (cJ, 10, .inr (.inl fW)))] (va_A [(h0, .inr (10, [.ref tp, h0_courtReader, h0_lawReader, h0_draft, .ref aC, h0_laws, .ref g0, .ref k0, .ref ac, .ref sd, .ref mi, .ref dw, .ref rf, .int lc, .int lh, .int br, .int hi])), (aC, .inr (1, [.ref aR, .ref aB, .ref aP, .int nb, .int np])), (aB, .inl (cI, 24, .inl fb)), (aP, .inl (cI, 20, .inl fp)), (g0, .inr (7, [.ref gY, .ref gF, .ref gP, .int gpn, .int glt, .int gsh, .int gwd, .int gpu, .int gmo])), (gY, .inl (cI, 6, .inl gfY)), (gF, .inl (cI, 5, .inl gfF)), (gP, .inl (cI, 80, .inl gfP)), (sd, .inr (8, [.ref w1, .ref w2, .ref aC, .ref g0, .ref aL, .ref aK, .ref lw])), (aL, .inl (cI, 6, .inl fL)), (aK, .inl (cI, 32, .inl fK)), (lw, .inr (4, [.ref lS])), (lS, .inl (cI, lk, .inl fS)), (mi, .inr (6, [.ref aC, .ref g0, .ref sd, .ref mW, .long mt, .int lf, .ref mV, .ref mA, .ref mT])), (mW, .inl (cJ, 10, .inr (.inl fW)))] sz)) (va_Qi (fun (r : Int32) (u : (Nat → Int32) × (Nat → Int32) × Int64 × Int32 × (Nat → Int64)) => (0 ≤ u.2.2.2.1.toInt) ∧ (u.2.2.2.1.toInt ≤ 9) ∧ (∀ (kc : zK3) (kT : zT) (q_fr : Nat → Int32) (q_fR : Nat → Int32) (q_pl : Int32) (q_cn : Int32) (q_frf : Nat → Int32) (kt : (Int → Int) × Int), zCn q_fr fb fp nb.toInt np.toInt kc → zKo nb.toInt np.toInt kc kT → zTc nb.toInt np.toInt kT gfY gfF gfP gpn glt gsh gwd gpu gmo q_fR q_pl q_cn q_frf → zLwC fS lk kt → r = sV_bel nb.toInt kc kT.1 (some kt) p0 p1)) (fun (u : (Nat → Int32) × (Nat → Int32) × Int64 × Int32 × (Nat → Int64)) (t : State) => va_P (dC, dI) vwCl [(h0, .inr (10, [.ref tp, h0_courtReader, h0_lawReader, h0_draft, .ref aC, h0_laws, .ref g0, .ref k0, .ref ac, .ref sd, .ref mi, .ref dw, .ref rf, .int lc, .int lh, .int br, .int hi])), (aC, .inr (1, [.ref aR, .ref aB, .ref aP, .int nb, .int np])), (aB, .inl (cI, 24, .inl fb)), (aP, .inl (cI, 20, .inl fp)), (g0, .inr (7, [.ref gY, .ref gF, .ref gP, .int gpn, .int glt, .int gsh, .int gwd, .int gpu, .int gmo])), (gY, .inl (cI, 6, .inl gfY)), (gF, .inl (cI, 5, .inl gfF)), (gP, .inl (cI, 80, .inl gfP)), (sd, .inr (8, [.ref w1, .ref w2, .ref aC, .ref g0, .ref aL, .ref aK, .ref lw])), (aL, .inl (cI, 6, .inl u.1)), (aK, .inl (cI, 32, .inl u.2.1)), (lw, .inr (4, [.ref lS])), (lS, .inl (cI, lk, .inl fS)), (mi, .inr (6, [.ref aC, .ref g0, .ref sd, .ref mW, .long u.2.2.1, .int u.2.2.2.1, .ref mV, .ref mA, .ref mT])), (mW, .inl (cJ, 10, .inr (.inl u.2.2.2.2)))] t.heap ∧ va_D (va_A [(h0, .inr (10, [.ref tp, h0_courtReader, h0_lawReader, h0_draft, .ref aC, h0_laws, .ref g0, .ref k0, .ref ac, .ref sd, .ref mi, .ref dw, .ref rf, .int lc, .int lh, .int br, .int hi])), (aC, .inr (1, [.ref aR, .ref aB, .ref aP, .int nb, .int np])), (aB, .inl (cI, 24, .inl fb)), (aP, .inl (cI, 20, .inl fp)), (g0, .inr (7, [.ref gY, .ref gF, .ref gP, .int gpn, .int glt, .int gsh, .int gwd, .int gpu, .int gmo])), (gY, .inl (cI, 6, .inl gfY)), (gF, .inl (cI, 5, .inl gfF)), (gP, .inl (cI, 80, .inl gfP)), (sd, .inr (8, [.ref w1, .ref w2, .ref aC, .ref g0, .ref aL, .ref aK, .ref lw])), (aL, .inl (cI, 6, .inl fL)), (aK, .inl (cI, 32, .inl fK)), (lw, .inr (4, [.ref lS])), (lS, .inl (cI, lk, .inl fS)), (mi, .inr (6, [.ref aC, .ref g0, .ref sd, .ref mW, .long mt, .int lf, .ref mV, .ref mA, .ref mT])), (mW, .inl (cJ, 10, .inr (.inl fW)))] sz) [(h0, .inr (10, [.ref tp, h0_courtReader, h0_lawReader, h0_draft, .ref aC, h0_laws, .ref g0, .ref k0, .ref ac, .ref sd, .ref mi, .ref dw, .ref rf, .int lc, .int lh, .int br, .int hi])), (aC, .inr (1, [.ref aR, .ref aB, .ref aP, .int nb, .int np])), (aB, .inl (cI, 24, .inl fb)), (aP, .inl (cI, 20, .inl fp)), (g0, .inr (7, [.ref gY, .ref gF, .ref gP, .int gpn, .int glt, .int gsh, .int gwd, .int gpu, .int gmo])), (gY, .inl (cI, 6, .inl gfY)), (gF, .inl (cI, 5, .inl gfF)), (gP, .inl (cI, 80, .inl gfP)), (sd, .inr (8, [.ref w1, .ref w2, .ref aC, .ref g0, .ref aL, .ref aK, .ref lw])), (aL, .inl (cI, 6, .inl u.1)), (aK, .inl (cI, 32, .inl u.2.1)), (lw, .inr (4, [.ref lS])), (lS, .inl (cI, lk, .inl fS)), (mi, .inr (6, [.ref aC, .ref g0, .ref sd, .ref mW, .long u.2.2.1, .int u.2.2.2.1, .ref mV, .ref mA, .ref mT])), (mW, .inl (cJ, 10, .inr (.inl u.2.2.2.2)))]) (va_A [(h0, .inr (10, [.ref tp, h0_courtReader, h0_lawReader, h0_draft, .ref aC, h0_laws, .ref g0, .ref k0, .ref ac, .ref sd, .ref mi, .ref dw, .ref rf, .int lc, .int lh, .int br, .int hi])), (aC, .inr (1, [.ref aR, .ref aB, .ref aP, .int nb, .int np])), (aB, .inl (cI, 24, .inl fb)), (aP, .inl (cI, 20, .inl fp)), (g0, .inr (7, [.ref gY, .ref gF, .ref gP, .int gpn, .int glt, .int gsh, .int gwd, .int gpu, .int gmo])), (gY, .inl (cI, 6, .inl gfY)), (gF, .inl (cI, 5, .inl gfF)), (gP, .inl (cI, 80, .inl gfP)), (sd, .inr (8, [.ref w1, .ref w2, .ref aC, .ref g0, .ref aL, .ref aK, .ref lw])), (aL, .inl (cI, 6, .inl fL)), (aK, .inl (cI, 32, .inl fK)), (lw, .inr (4, [.ref lS])), (lS, .inl (cI, lk, .inl fS)), (mi, .inr (6, [.ref aC, .ref g0, .ref sd, .ref mW, .long mt, .int lf, .ref mV, .ref mA, .ref mT])), (mW, .inl (cJ, 10, .inr (.inl fW)))] sz)) 0 0 (va_A [(h0, .inr (10, [.ref tp, h0_courtReader, h0_lawReader, h0_draft, .ref aC, h0_laws, .ref g0, .ref k0, .ref ac, .ref sd, .ref mi, .ref dw, .ref rf, .int lc, .int lh, .int br, .int hi])), (aC, .inr (1, [.ref aR, .ref aB, .ref aP, .int nb, .int np])), (aB, .inl (cI, 24, .inl fb)), (aP, .inl (cI, 20, .inl fp)), (g0, .inr (7, [.ref gY, .ref gF, .ref gP, .int gpn, .int glt, .int gsh, .int gwd, .int gpu, .int gmo])), (gY, .inl (cI, 6, .inl gfY)), (gF, .inl (cI, 5, .inl gfF)), (gP, .inl (cI, 80, .inl gfP)), (sd, .inr (8, [.ref w1, .ref w2, .ref aC, .ref g0, .ref aL, .ref aK, .ref lw])), (aL, .inl (cI, 6, .inl fL)), (aK, .inl (cI, 32, .inl fK)), (lw, .inr (4, [.ref lS])), (lS, .inl (cI, lk, .inl fS)), (mi, .inr (6, [.ref aC, .ref g0, .ref sd, .ref mW, .long mt, .int lf, .ref mV, .ref mA, .ref mT])), (mW, .inl (cJ, 10, .inr (.inl fW)))] sz) := by
  refine Met.ofW (cc := cX10_belief) (maxL := 3) (ret := (some .int)) (by decide) rfl ?_
  intro p e s m args below meth c s₁ B hml hv
  have y_gpn : zHid (0 ≤ gpn.toInt ∧ gpn.toInt ≤ 20) := n_gpn
  have y_gwd : zHid ((-1) ≤ gwd.toInt ∧ gwd.toInt ≤ 5) := n_gwd
  have y_hi : zHid (0 ≤ hi.toInt ∧ hi.toInt ≤ 1) := n_hi
  have y_lc : zHid (0 ≤ lc.toInt ∧ lc.toInt ≤ 4) := n_lc
  clear n_gpn n_gwd n_hi n_lc
  obtain ⟨⟨hargs, hsz, hP, hK, hT⟩, hV⟩ := hv
  have hx := B.exec
  have hb := B.bytes
  have hr := B.returns
  have hts : ∀ w ∈ wA, w.before args s = true := fun w h => atoms_spec (ws := .code yX10_belief cX10_belief 3 (some .int) :: wA) B.pre w (List.mem_cons_of_mem _ h)
  have hown : s.vm.findClass RX10 = some m.cls := findClass_of_methodNamed B.named
  have hlocks := B.notSynchronized
  subst hsz
  have hD := hT.self (sz := s.heap.size)
  generalize hAe : va_A [(h0, .inr (10, [.ref tp, h0_courtReader, h0_lawReader, h0_draft, .ref aC, h0_laws, .ref g0, .ref k0, .ref ac, .ref sd, .ref mi, .ref dw, .ref rf, .int lc, .int lh, .int br, .int hi])), (aC, .inr (1, [.ref aR, .ref aB, .ref aP, .int nb, .int np])), (aB, .inl (cI, 24, .inl fb)), (aP, .inl (cI, 20, .inl fp)), (g0, .inr (7, [.ref gY, .ref gF, .ref gP, .int gpn, .int glt, .int gsh, .int gwd, .int gpu, .int gmo])), (gY, .inl (cI, 6, .inl gfY)), (gF, .inl (cI, 5, .inl gfF)), (gP, .inl (cI, 80, .inl gfP)), (sd, .inr (8, [.ref w1, .ref w2, .ref aC, .ref g0, .ref aL, .ref aK, .ref lw])), (aL, .inl (cI, 6, .inl fL)), (aK, .inl (cI, 32, .inl fK)), (lw, .inr (4, [.ref lS])), (lS, .inl (cI, lk, .inl fS)), (mi, .inr (6, [.ref aC, .ref g0, .ref sd, .ref mW, .long mt, .int lf, .ref mV, .ref mA, .ref mT])), (mW, .inl (cJ, 10, .inr (.inl fW)))] s.heap.size = A at hD hV ⊢
  have hA : ∀ q : Nat, s.heap.size ≤ q → A q := fun q h => by rw [← hAe]; exact Or.inr h
  have hl := lv_entry ([.ref h0, .int p0, .int p1]) (n := 3) (Nat.le_of_ble_eq_true rfl)
  rw [show entryFrame m args 3 = entryFrame m ([.ref h0, .int p0, .int p1] : List Value).toArray 3 by rw [hargs], lg_entry_eq]
  generalize (lg_sl ([.ref h0, .int p0, .int p1]) ++ List.replicate (3 - (lg_sl ([.ref h0, .int p0, .int p1])).length) Slot.unset).toArray = ls at hl ⊢
  have hl : lv_has ls 3 [(0, .ref h0), (1, .int p0), (2, .int p1)] := hl
  refine zstart (fun H hH => ?_)
  rw [← hH] at hP
  have hS : va_S A s.heap H [] := by rw [hH]; exact va_S.rf
  generalize ([] : List Loc) = locs at hS ⊢
  refine zgen (fun R Q hR hQ => ?_)
  refine lv_aload_n hx hb dX10_belief_0 rfl (lv_at hl 0 rfl) ?_
  refine lv_iload_n hx hb dX10_belief_1 rfl (lv_at hl 1 rfl) ?_
  obtain ⟨hPc, hDc⟩ := zc2 (wc := [(h0, .inr (10, [.ref tp, h0_courtReader, h0_lawReader, h0_draft, .ref aC, h0_laws, .ref g0, .ref k0, .ref ac, .ref sd, .ref mi, .ref dw, .ref rf, .int lc, .int lh, .int br, .int hi])), (aC, .inr (1, [.ref aR, .ref aB, .ref aP, .int nb, .int np]))]) hP hD [0, 1] (by decide +kernel) rfl
  have hFc := zfr hS hA
  refine va_calli (va_runV (As := [.int p0]) (rest := []) ⟨hx, hb, hml, hown, hts⟩ (g_X10_isBride l dC dI cI cJ h0 p0 (.ref tp) h0_courtReader h0_lawReader h0_draft aC h0_laws (.ref g0) (.ref k0) (.ref ac) (.ref sd) (.ref mi) (.ref dw) (.ref rf) (.int lc) (.int lh) (.int br) (.int hi) aR aB aP nb np H.size n_nb) (cwV 1 hts (zgV qw625 qw627 qw12 qw98 qw628) rfl rfl rfl hd_X10_isBride ⟨by rw [hR]; exact Nat.le_of_ble_eq_true rfl, by rw [hR]; exact Nat.le_of_ble_eq_true rfl⟩) (zPV hPc hK hDc (va_recv (q := (RX10, TX10, 17)) hK hP (ci := 10) (q0 := 0) rfl rfl)) rfl rfl hl.1 rfl (lv_room (Nat.le_of_ble_eq_true rfl)) dX10_belief_2 ⟨Nat.zero_le _, Nat.zero_le _⟩) hS (fun q _ h => hFc q h) hFc (fun v2 u2 t H locs ht hvm hw hB hz1 hk1 hS9 => ?_)
  replace hP := zkeep hP hk1
  replace hS := hS9
  clear hPc hDc hFc hk1 hz1 hvm hS9
  obtain ⟨f2_0, f2_1, f2_2, f2_3⟩ : (0 ≤ v2.toInt) ∧ (v2.toInt ≤ 1) ∧ (¬ v2.toInt = 0 → (0 ≤ p0.toInt ∧ p0.toInt < nb.toInt)) ∧ (v2.toInt = 0 → ¬ (0 ≤ p0.toInt ∧ p0.toInt < nb.toInt)) := hw
  refine lv_if_eq (tgt := 15) hx hb dX10_belief_5 (by decide) (fun c5 => ?_) (fun c5 => ?_)
  · have c5 : v2.toInt = 0 := z5 rfl (by decide) c5
    refine lv_iconst (v := (-1)) hx hb dX10_belief_15 (by decide) ?_
    have zr0 : ((-1) : Int32).toInt = (-1) := by decide
    rw [hQ]
    exact W.iret (v := ((-1))) hx hb hr (fun t ht hW => ⟨⟨(-1), (fL, fK, mt, lf, fW), rfl, ⟨by (try dsimp only); omega, by (try dsimp only); omega, by (try dsimp only); exact fun kc kT q_fr q_fR q_pl q_cn q_frf kt hc hb h ht => by unfold sV_bel; rw [if_neg (by omega)]; ⟩, ⟨by rw [ht]; exact hP, hD⟩⟩, hS.F ht⟩) hS.2.2 dX10_belief_16
  · have c5 : ¬ v2.toInt = 0 := z6 rfl (by decide) c5
    refine lv_iload_n hx hb dX10_belief_8 rfl (lv_at hl 2 rfl) ?_
    have hPc : va_P (dC, dI) vwCl [] H := zP0
    have hDc : va_D (fun _ => True) [] := zD0
    have hFc := zfr hS hA
    refine va_calli (va_runS (As := [.int p1]) (rest := []) ⟨hx, hb, hml, hown, hts⟩ (g_X10_isFace l dC dI cI cJ p1 H.size) (cwS 1 hts (zgS qw640 qw641 qw98 qw642) rfl rfl rfl hd_X10_isFace ⟨by rw [hR]; exact Nat.le_of_ble_eq_true rfl, by rw [hR]; exact Nat.le_of_ble_eq_true rfl⟩) (zPS hPc hK hDc) rfl rfl hl.1 rfl (lv_room (Nat.le_of_ble_eq_true rfl)) dX10_belief_9 ⟨Nat.zero_le _, Nat.zero_le _⟩) hS (fun q _ h => hFc q h) hFc (fun v9 u9 t H locs ht hvm hw hB hz1 hk1 hS9 => ?_)
    replace hP := zkeep hP hk1
    replace hS := hS9
    clear hPc hDc hFc hk1 hz1 hvm hS9
    obtain ⟨f9_0, f9_1, f9_2, f9_3⟩ : (0 ≤ v9.toInt) ∧ (v9.toInt ≤ 1) ∧ (¬ v9.toInt = 0 → (0 ≤ p1.toInt ∧ p1.toInt ≤ 9)) ∧ (v9.toInt = 0 → ¬ (0 ≤ p1.toInt ∧ p1.toInt ≤ 9)) := hw
    refine lv_if_ne (tgt := 17) hx hb dX10_belief_12 (by decide) (fun c12 => ?_) (fun c12 => ?_)
    · have c12 : ¬ v9.toInt = 0 := z6 rfl (by decide) c12
      refine lv_aload_n hx hb dX10_belief_17 rfl (lv_at hl 0 rfl) ?_
      refine va_get (D := (dC, dI)) (ci := 10) (v := .ref mi) (C := RX10) (T := TX10) (N := 17) hx hb hts iX10 hown hK hP 0 rfl rfl 10 (by decide) (hts _ qw366) (fun _ h9 => h9) rfl dX10_belief_18 ?_
      refine lv_iload_n hx hb dX10_belief_21 rfl (lv_at hl 1 rfl) ?_
      obtain ⟨hPc, hDc, hFc⟩ := zc3 (wc := [(mi, .inr (6, [.ref aC, .ref g0, .ref sd, .ref mW, .long mt, .int lf, .ref mV, .ref mA, .ref mT])), (aC, .inr (1, [.ref aR, .ref aB, .ref aP, .int nb, .int np])), (aB, .inl (cI, 24, .inl fb)), (aP, .inl (cI, 20, .inl fp)), (g0, .inr (7, [.ref gY, .ref gF, .ref gP, .int gpn, .int glt, .int gsh, .int gwd, .int gpu, .int gmo])), (gY, .inl (cI, 6, .inl gfY)), (gF, .inl (cI, 5, .inl gfF)), (gP, .inl (cI, 80, .inl gfP)), (sd, .inr (8, [.ref w1, .ref w2, .ref aC, .ref g0, .ref aL, .ref aK, .ref lw])), (aL, .inl (cI, 6, .inl fL)), (aK, .inl (cI, 32, .inl fK)), (lw, .inr (4, [.ref lS])), (lS, .inl (cI, lk, .inl fS)), (mW, .inl (cJ, 10, .inr (.inl fW)))]) hP hD hS hA [13, 1, 2, 3, 4, 5, 6, 7, 8, 9, 10, 11, 12, 14] (by decide +kernel) rfl
      refine va_callv (va_runV (As := [.int p0]) (rest := []) ⟨hx, hb, hml, hown, hts⟩ (g_X6_weigh_l l dC dI cI cJ mi p0 aC g0 sd mW mt lf mV mA mT aR aB aP nb np fb fp gY gF gP gpn glt gsh gwd gpu gmo gfY gfF gfP w1 w2 aL aK lw fL fK lS fS lk fW H.size y_gpn n_lf (by omega) (hlk) ci_fS_zSt ci_gfP_zPo) (cwV 1 hts (zgV qw829 qw830 qw831 qw106 qw832) rfl rfl rfl hd_X6_weigh ⟨by rw [hR]; exact Nat.le_of_ble_eq_true rfl, by rw [hR]; exact Nat.le_of_ble_eq_true rfl⟩) (zPWV hPc hK hDc (va_recv (q := (RX6, TX6, 9)) hK hP (ci := 6) (q0 := 13) rfl rfl) (zV_call hV hS hFc)) rfl rfl hl.1 rfl (lv_room (Nat.le_of_ble_eq_true rfl)) dX10_belief_22 ⟨Nat.zero_le _, Nat.zero_le _⟩) hS (fun q _ h => hFc q h) hFc (fun u22 t H locs ht hvm hw hB hz1 hk1 hS9 => ?_)
      obtain ⟨u22_0, u22_1, u22_2, u22_3, u22_4⟩ := u22
      obtain ⟨hP9, hD9⟩ := zj2 (wX := [(h0, .inr (10, [.ref tp, h0_courtReader, h0_lawReader, h0_draft, .ref aC, h0_laws, .ref g0, .ref k0, .ref ac, .ref sd, .ref mi, .ref dw, .ref rf, .int lc, .int lh, .int br, .int hi])), (aC, .inr (1, [.ref aR, .ref aB, .ref aP, .int nb, .int np])), (aB, .inl (cI, 24, .inl fb)), (aP, .inl (cI, 20, .inl fp)), (g0, .inr (7, [.ref gY, .ref gF, .ref gP, .int gpn, .int glt, .int gsh, .int gwd, .int gpu, .int gmo])), (gY, .inl (cI, 6, .inl gfY)), (gF, .inl (cI, 5, .inl gfF)), (gP, .inl (cI, 80, .inl gfP)), (sd, .inr (8, [.ref w1, .ref w2, .ref aC, .ref g0, .ref aL, .ref aK, .ref lw])), (aL, .inl (cI, 6, .inl u22_2)), (aK, .inl (cI, 32, .inl u22_3)), (lw, .inr (4, [.ref lS])), (lS, .inl (cI, lk, .inl fS)), (mi, .inr (6, [.ref aC, .ref g0, .ref sd, .ref mW, .long u22_0, .int u22_1, .ref mV, .ref mA, .ref mT])), (mW, .inl (cJ, 10, .inr (.inl u22_4)))]) hP hD hk1 hFc ht hB [13, 1, 2, 3, 4, 5, 6, 7, 8, 9, 10, 11, 12, 14] [(false, 0), (true, 1), (true, 2), (true, 3), (true, 4), (true, 5), (true, 6), (true, 7), (true, 8), (true, 9), (true, 10), (true, 11), (true, 12), (true, 0), (true, 13)] rfl (by decide +kernel) (by decide +kernel) rfl
      clear hP hD hS hPc hDc hFc hB hk1 hz1 hvm
      have hP := hP9
      have hD := hD9
      have hS := hS9
      clear hP9 hD9 hS9
      obtain ⟨f22_0, f22_1, f22_2⟩ : (0 ≤ u22_1.toInt) ∧ (u22_1.toInt ≤ 9) ∧ (∀ (kc : zK3) (kT : zT) (q_fr : Nat → Int32) (kt : (Int → Int) × Int), zCn q_fr fb fp nb.toInt np.toInt kc → zKo nb.toInt np.toInt kc kT → zSc nb.toInt np.toInt kT.1 gfY gfF gfP gpn glt gsh gwd gpu gmo → zLwC fS lk kt → (0 ≤ p0.toInt ∧ p0.toInt < nb.toInt) → zWe kc kT.1 (some kt) p0 u22_4 u22_0 u22_1) := hw
      have F22 := f22_2
      refine lv_aload_n hx hb dX10_belief_25 rfl (lv_at hl 0 rfl) ?_
      refine va_get (D := (dC, dI)) (ci := 10) (v := .ref mi) (C := RX10) (T := TX10) (N := 17) hx hb hts iX10 hown hK hP 0 rfl rfl 10 (by decide) (hts _ qw366) (fun _ h9 => h9) rfl dX10_belief_26 ?_
      refine lv_iload_n hx hb dX10_belief_29 rfl (lv_at hl 2 rfl) ?_
      obtain ⟨hPc, hDc⟩ := zc2 (wc := [(mi, .inr (6, [.ref aC, .ref g0, .ref sd, .ref mW, .long u22_0, .int u22_1, .ref mV, .ref mA, .ref mT])), (mW, .inl (cJ, 10, .inr (.inl u22_4)))]) hP hD [13, 14] (by decide +kernel) rfl
      have hFc := zfr hS hA
      refine va_calli (va_runV (As := [.int p1]) (rest := []) ⟨hx, hb, hml, hown, hts⟩ (g_X6_share l dC dI cI cJ mi p1 aC g0 sd mW u22_0 u22_1 mV mA mT u22_4 H.size (by omega)) (cwV 1 hts (zgV qw855 qw851 qw852 qw106 qw853) rfl rfl rfl hd_X6_share ⟨by rw [hR]; exact Nat.le_of_ble_eq_true rfl, by rw [hR]; exact Nat.le_of_ble_eq_true rfl⟩) (zPV hPc hK hDc (va_recv (q := (RX6, TX6, 9)) hK hP (ci := 6) (q0 := 13) rfl rfl)) rfl rfl hl.1 rfl (lv_room (Nat.le_of_ble_eq_true rfl)) dX10_belief_30 ⟨Nat.zero_le _, Nat.zero_le _⟩) hS (fun q _ h => hFc q h) hFc (fun v30 u30 t H locs ht hvm hw hB hz1 hk1 hS9 => ?_)
      replace hP := zkeep hP hk1
      replace hS := hS9
      clear hPc hDc hFc hk1 hz1 hvm hS9
      have f30_0 : (v30 = sBv u22_4 u22_0 p1.toInt.toNat) := hw
      have F30 := f30_0
      rw [hQ]
      exact W.iret (v := v30) hx hb hr (fun t ht hW => ⟨⟨v30, (u22_2, u22_3, u22_0, u22_1, u22_4), rfl, ⟨by (try dsimp only); omega, by (try dsimp only); omega, by (try dsimp only); exact fun kc kT q_fr q_fR q_pl q_cn q_frf kt hc hb h ht => by unfold sV_bel; rw [if_pos (by omega)]; exact F30.trans ((F22 kc kT _ kt hc hb h.1 ht (by omega)).1 _ (by omega))⟩, ⟨by rw [ht]; exact hP, hD⟩⟩, hS.F ht⟩) hS.2.2 dX10_belief_33
    · have c12 : v9.toInt = 0 := z5 rfl (by decide) c12
      refine lv_iconst (v := (-1)) hx hb dX10_belief_15 (by decide) ?_
      have zr0 : ((-1) : Int32).toInt = (-1) := by decide
      rw [hQ]
      exact W.iret (v := ((-1))) hx hb hr (fun t ht hW => ⟨⟨(-1), (fL, fK, mt, lf, fW), rfl, ⟨by (try dsimp only); omega, by (try dsimp only); omega, by (try dsimp only); exact fun kc kT q_fr q_fR q_pl q_cn q_frf kt hc hb h ht => by unfold sV_bel; rw [if_neg (by omega)]; ⟩, ⟨by rw [ht]; exact hP, hD⟩⟩, hS.F ht⟩) hS.2.2 dX10_belief_16
set_option maxHeartbeats 4000000 in
set_option maxRecDepth 100000 in
theorem g_X10_likely_l (l : Launch) (dC : Nat → ClassId) (dI : Nat → Nat → Nat) (cI cJ : ClassId) (h0 : Nat) (p0 : Int32) (p1 : Int32) (tp : Nat) (h0_courtReader : Value) (h0_lawReader : Value) (h0_draft : Value) (aC : Nat) (h0_laws : Value) (g0 : Nat) (k0 : Nat) (ac : Nat) (sd : Nat) (mi : Nat) (dw : Nat) (rf : Nat) (lc : Int32) (lh : Int32) (br : Int32) (hi : Int32) (aR : Nat) (aB : Nat) (aP : Nat) (nb : Int32) (np : Int32) (fb : Nat → Int32) (fp : Nat → Int32) (gY : Nat) (gF : Nat) (gP : Nat) (gpn : Int32) (glt : Int32) (gsh : Int32) (gwd : Int32) (gpu : Int32) (gmo : Int32) (gfY : Nat → Int32) (gfF : Nat → Int32) (gfP : Nat → Int32) (w1 : Nat) (w2 : Nat) (aL : Nat) (aK : Nat) (lw : Nat) (fL : Nat → Int32) (fK : Nat → Int32) (lS : Nat) (fS : Nat → Int32) (lk : Nat) (mW : Nat) (mt : Int64) (lf : Int32) (mV : Nat) (mA : Nat) (mT : Nat) (fW : Nat → Int64) (sz : Nat) (n_gpn : 0 ≤ gpn.toInt ∧ gpn.toInt ≤ 20) (n_gwd : (-1) ≤ gwd.toInt ∧ gwd.toInt ≤ 5) (n_hi : 0 ≤ hi.toInt ∧ hi.toInt ≤ 1) (n_lc : 0 ≤ lc.toInt ∧ lc.toInt ≤ 4) (n_lf : 0 ≤ lf.toInt ∧ lf.toInt ≤ 9) (n_nb : 0 ≤ nb.toInt ∧ nb.toInt ≤ 6) (n_np : 0 ≤ np.toInt ∧ np.toInt ≤ 5) (hlk : lk ≤ 241) (ci_fS_zSt : zSt fS) (ci_gfP_zPo : zPo gfP)  : Met l yX10_likely (.code yX10_likely cX10_likely 3 (some .int) :: wA) ({ frames := 6, cells := 0, slots := 0, locals := 153 }) (zPW (dC, dI) [(cI, .int), (cJ, .long)] [.ref h0, .int p0, .int p1] sz [(h0, .inr (10, [.ref tp, h0_courtReader, h0_lawReader, h0_draft, .ref aC, h0_laws, .ref g0, .ref k0, .ref ac, .ref sd, .ref mi, .ref dw, .ref rf, .int lc, .int lh, .int br, .int hi])), (aC, .inr (1, [.ref aR, .ref aB, .ref aP, .int nb, .int np])), (aB, .inl (cI, 24, .inl fb)), (aP, .inl (cI, 20, .inl fp)), (g0, .inr (7, [.ref gY, .ref gF, .ref gP, .int gpn, .int glt, .int gsh, .int gwd, .int gpu, .int gmo])), (gY, .inl (cI, 6, .inl gfY)), (gF, .inl (cI, 5, .inl gfF)), (gP, .inl (cI, 80, .inl gfP)), (sd, .inr (8, [.ref w1, .ref w2, .ref aC, .ref g0, .ref aL, .ref aK, .ref lw])), (aL, .inl (cI, 6, .inl fL)), (aK, .inl (cI, 32, .inl fK)), (lw, .inr (4, [.ref lS])), (lS, .inl (cI, lk, .inl fS)), (mi, .inr (6, [.ref aC, .ref g0, .ref sd, .ref mW, .long mt, .int lf, .ref mV, .ref mA, .ref mT])), (mW, .inl (cJ, 10, .inr (.inl fW)))] (va_A [(h0, .inr (10, [.ref tp, h0_courtReader, h0_lawReader, h0_draft, .ref aC, h0_laws, .ref g0, .ref k0, .ref ac, .ref sd, .ref mi, .ref dw, .ref rf, .int lc, .int lh, .int br, .int hi])), (aC, .inr (1, [.ref aR, .ref aB, .ref aP, .int nb, .int np])), (aB, .inl (cI, 24, .inl fb)), (aP, .inl (cI, 20, .inl fp)), (g0, .inr (7, [.ref gY, .ref gF, .ref gP, .int gpn, .int glt, .int gsh, .int gwd, .int gpu, .int gmo])), (gY, .inl (cI, 6, .inl gfY)), (gF, .inl (cI, 5, .inl gfF)), (gP, .inl (cI, 80, .inl gfP)), (sd, .inr (8, [.ref w1, .ref w2, .ref aC, .ref g0, .ref aL, .ref aK, .ref lw])), (aL, .inl (cI, 6, .inl fL)), (aK, .inl (cI, 32, .inl fK)), (lw, .inr (4, [.ref lS])), (lS, .inl (cI, lk, .inl fS)), (mi, .inr (6, [.ref aC, .ref g0, .ref sd, .ref mW, .long mt, .int lf, .ref mV, .ref mA, .ref mT])), (mW, .inl (cJ, 10, .inr (.inl fW)))] sz)) (va_Qi (fun (r : Int32) (u : (Nat → Int32) × (Nat → Int32) × Int64 × Int32 × (Nat → Int64)) => (0 ≤ u.2.2.2.1.toInt) ∧ (u.2.2.2.1.toInt ≤ 9) ∧ (∀ (kc : zK3) (kT : zT) (q_fr : Nat → Int32) (q_fR : Nat → Int32) (q_pl : Int32) (q_cn : Int32) (q_frf : Nat → Int32) (kt : (Int → Int) × Int), zCn q_fr fb fp nb.toInt np.toInt kc → zKo nb.toInt np.toInt kc kT → zTc nb.toInt np.toInt kT gfY gfF gfP gpn glt gsh gwd gpu gmo q_fR q_pl q_cn q_frf → zLwC fS lk kt → r = sV_lik nb.toInt kc kT.1 (some kt) p0 p1)) (fun (u : (Nat → Int32) × (Nat → Int32) × Int64 × Int32 × (Nat → Int64)) (t : State) => va_P (dC, dI) vwCl [(h0, .inr (10, [.ref tp, h0_courtReader, h0_lawReader, h0_draft, .ref aC, h0_laws, .ref g0, .ref k0, .ref ac, .ref sd, .ref mi, .ref dw, .ref rf, .int lc, .int lh, .int br, .int hi])), (aC, .inr (1, [.ref aR, .ref aB, .ref aP, .int nb, .int np])), (aB, .inl (cI, 24, .inl fb)), (aP, .inl (cI, 20, .inl fp)), (g0, .inr (7, [.ref gY, .ref gF, .ref gP, .int gpn, .int glt, .int gsh, .int gwd, .int gpu, .int gmo])), (gY, .inl (cI, 6, .inl gfY)), (gF, .inl (cI, 5, .inl gfF)), (gP, .inl (cI, 80, .inl gfP)), (sd, .inr (8, [.ref w1, .ref w2, .ref aC, .ref g0, .ref aL, .ref aK, .ref lw])), (aL, .inl (cI, 6, .inl u.1)), (aK, .inl (cI, 32, .inl u.2.1)), (lw, .inr (4, [.ref lS])), (lS, .inl (cI, lk, .inl fS)), (mi, .inr (6, [.ref aC, .ref g0, .ref sd, .ref mW, .long u.2.2.1, .int u.2.2.2.1, .ref mV, .ref mA, .ref mT])), (mW, .inl (cJ, 10, .inr (.inl u.2.2.2.2)))] t.heap ∧ va_D (va_A [(h0, .inr (10, [.ref tp, h0_courtReader, h0_lawReader, h0_draft, .ref aC, h0_laws, .ref g0, .ref k0, .ref ac, .ref sd, .ref mi, .ref dw, .ref rf, .int lc, .int lh, .int br, .int hi])), (aC, .inr (1, [.ref aR, .ref aB, .ref aP, .int nb, .int np])), (aB, .inl (cI, 24, .inl fb)), (aP, .inl (cI, 20, .inl fp)), (g0, .inr (7, [.ref gY, .ref gF, .ref gP, .int gpn, .int glt, .int gsh, .int gwd, .int gpu, .int gmo])), (gY, .inl (cI, 6, .inl gfY)), (gF, .inl (cI, 5, .inl gfF)), (gP, .inl (cI, 80, .inl gfP)), (sd, .inr (8, [.ref w1, .ref w2, .ref aC, .ref g0, .ref aL, .ref aK, .ref lw])), (aL, .inl (cI, 6, .inl fL)), (aK, .inl (cI, 32, .inl fK)), (lw, .inr (4, [.ref lS])), (lS, .inl (cI, lk, .inl fS)), (mi, .inr (6, [.ref aC, .ref g0, .ref sd, .ref mW, .long mt, .int lf, .ref mV, .ref mA, .ref mT])), (mW, .inl (cJ, 10, .inr (.inl fW)))] sz) [(h0, .inr (10, [.ref tp, h0_courtReader, h0_lawReader, h0_draft, .ref aC, h0_laws, .ref g0, .ref k0, .ref ac, .ref sd, .ref mi, .ref dw, .ref rf, .int lc, .int lh, .int br, .int hi])), (aC, .inr (1, [.ref aR, .ref aB, .ref aP, .int nb, .int np])), (aB, .inl (cI, 24, .inl fb)), (aP, .inl (cI, 20, .inl fp)), (g0, .inr (7, [.ref gY, .ref gF, .ref gP, .int gpn, .int glt, .int gsh, .int gwd, .int gpu, .int gmo])), (gY, .inl (cI, 6, .inl gfY)), (gF, .inl (cI, 5, .inl gfF)), (gP, .inl (cI, 80, .inl gfP)), (sd, .inr (8, [.ref w1, .ref w2, .ref aC, .ref g0, .ref aL, .ref aK, .ref lw])), (aL, .inl (cI, 6, .inl u.1)), (aK, .inl (cI, 32, .inl u.2.1)), (lw, .inr (4, [.ref lS])), (lS, .inl (cI, lk, .inl fS)), (mi, .inr (6, [.ref aC, .ref g0, .ref sd, .ref mW, .long u.2.2.1, .int u.2.2.2.1, .ref mV, .ref mA, .ref mT])), (mW, .inl (cJ, 10, .inr (.inl u.2.2.2.2)))]) (va_A [(h0, .inr (10, [.ref tp, h0_courtReader, h0_lawReader, h0_draft, .ref aC, h0_laws, .ref g0, .ref k0, .ref ac, .ref sd, .ref mi, .ref dw, .ref rf, .int lc, .int lh, .int br, .int hi])), (aC, .inr (1, [.ref aR, .ref aB, .ref aP, .int nb, .int np])), (aB, .inl (cI, 24, .inl fb)), (aP, .inl (cI, 20, .inl fp)), (g0, .inr (7, [.ref gY, .ref gF, .ref gP, .int gpn, .int glt, .int gsh, .int gwd, .int gpu, .int gmo])), (gY, .inl (cI, 6, .inl gfY)), (gF, .inl (cI, 5, .inl gfF)), (gP, .inl (cI, 80, .inl gfP)), (sd, .inr (8, [.ref w1, .ref w2, .ref aC, .ref g0, .ref aL, .ref aK, .ref lw])), (aL, .inl (cI, 6, .inl fL)), (aK, .inl (cI, 32, .inl fK)), (lw, .inr (4, [.ref lS])), (lS, .inl (cI, lk, .inl fS)), (mi, .inr (6, [.ref aC, .ref g0, .ref sd, .ref mW, .long mt, .int lf, .ref mV, .ref mA, .ref mT])), (mW, .inl (cJ, 10, .inr (.inl fW)))] sz)) 0 0 (va_A [(h0, .inr (10, [.ref tp, h0_courtReader, h0_lawReader, h0_draft, .ref aC, h0_laws, .ref g0, .ref k0, .ref ac, .ref sd, .ref mi, .ref dw, .ref rf, .int lc, .int lh, .int br, .int hi])), (aC, .inr (1, [.ref aR, .ref aB, .ref aP, .int nb, .int np])), (aB, .inl (cI, 24, .inl fb)), (aP, .inl (cI, 20, .inl fp)), (g0, .inr (7, [.ref gY, .ref gF, .ref gP, .int gpn, .int glt, .int gsh, .int gwd, .int gpu, .int gmo])), (gY, .inl (cI, 6, .inl gfY)), (gF, .inl (cI, 5, .inl gfF)), (gP, .inl (cI, 80, .inl gfP)), (sd, .inr (8, [.ref w1, .ref w2, .ref aC, .ref g0, .ref aL, .ref aK, .ref lw])), (aL, .inl (cI, 6, .inl fL)), (aK, .inl (cI, 32, .inl fK)), (lw, .inr (4, [.ref lS])), (lS, .inl (cI, lk, .inl fS)), (mi, .inr (6, [.ref aC, .ref g0, .ref sd, .ref mW, .long mt, .int lf, .ref mV, .ref mA, .ref mT])), (mW, .inl (cJ, 10, .inr (.inl fW)))] sz) := by
  refine Met.ofW (cc := cX10_likely) (maxL := 3) (ret := (some .int)) (by decide) rfl ?_
  intro p e s m args below meth c s₁ B hml hv
  have y_gpn : zHid (0 ≤ gpn.toInt ∧ gpn.toInt ≤ 20) := n_gpn
  have y_gwd : zHid ((-1) ≤ gwd.toInt ∧ gwd.toInt ≤ 5) := n_gwd
  have y_hi : zHid (0 ≤ hi.toInt ∧ hi.toInt ≤ 1) := n_hi
  have y_lc : zHid (0 ≤ lc.toInt ∧ lc.toInt ≤ 4) := n_lc
  clear n_gpn n_gwd n_hi n_lc
  obtain ⟨⟨hargs, hsz, hP, hK, hT⟩, hV⟩ := hv
  have hx := B.exec
  have hb := B.bytes
  have hr := B.returns
  have hts : ∀ w ∈ wA, w.before args s = true := fun w h => atoms_spec (ws := .code yX10_likely cX10_likely 3 (some .int) :: wA) B.pre w (List.mem_cons_of_mem _ h)
  have hown : s.vm.findClass RX10 = some m.cls := findClass_of_methodNamed B.named
  have hlocks := B.notSynchronized
  subst hsz
  have hD := hT.self (sz := s.heap.size)
  generalize hAe : va_A [(h0, .inr (10, [.ref tp, h0_courtReader, h0_lawReader, h0_draft, .ref aC, h0_laws, .ref g0, .ref k0, .ref ac, .ref sd, .ref mi, .ref dw, .ref rf, .int lc, .int lh, .int br, .int hi])), (aC, .inr (1, [.ref aR, .ref aB, .ref aP, .int nb, .int np])), (aB, .inl (cI, 24, .inl fb)), (aP, .inl (cI, 20, .inl fp)), (g0, .inr (7, [.ref gY, .ref gF, .ref gP, .int gpn, .int glt, .int gsh, .int gwd, .int gpu, .int gmo])), (gY, .inl (cI, 6, .inl gfY)), (gF, .inl (cI, 5, .inl gfF)), (gP, .inl (cI, 80, .inl gfP)), (sd, .inr (8, [.ref w1, .ref w2, .ref aC, .ref g0, .ref aL, .ref aK, .ref lw])), (aL, .inl (cI, 6, .inl fL)), (aK, .inl (cI, 32, .inl fK)), (lw, .inr (4, [.ref lS])), (lS, .inl (cI, lk, .inl fS)), (mi, .inr (6, [.ref aC, .ref g0, .ref sd, .ref mW, .long mt, .int lf, .ref mV, .ref mA, .ref mT])), (mW, .inl (cJ, 10, .inr (.inl fW)))] s.heap.size = A at hD hV ⊢
  have hA : ∀ q : Nat, s.heap.size ≤ q → A q := fun q h => by rw [← hAe]; exact Or.inr h
  have hl := lv_entry ([.ref h0, .int p0, .int p1]) (n := 3) (Nat.le_of_ble_eq_true rfl)
  rw [show entryFrame m args 3 = entryFrame m ([.ref h0, .int p0, .int p1] : List Value).toArray 3 by rw [hargs], lg_entry_eq]
  generalize (lg_sl ([.ref h0, .int p0, .int p1]) ++ List.replicate (3 - (lg_sl ([.ref h0, .int p0, .int p1])).length) Slot.unset).toArray = ls at hl ⊢
  have hl : lv_has ls 3 [(0, .ref h0), (1, .int p0), (2, .int p1)] := hl
  refine zstart (fun H hH => ?_)
  rw [← hH] at hP
  have hS : va_S A s.heap H [] := by rw [hH]; exact va_S.rf
  generalize ([] : List Loc) = locs at hS ⊢
  refine zgen (fun R Q hR hQ => ?_)
  refine lv_aload_n hx hb dX10_likely_0 rfl (lv_at hl 0 rfl) ?_
  refine lv_iload_n hx hb dX10_likely_1 rfl (lv_at hl 1 rfl) ?_
  obtain ⟨hPc, hDc⟩ := zc2 (wc := [(h0, .inr (10, [.ref tp, h0_courtReader, h0_lawReader, h0_draft, .ref aC, h0_laws, .ref g0, .ref k0, .ref ac, .ref sd, .ref mi, .ref dw, .ref rf, .int lc, .int lh, .int br, .int hi])), (aC, .inr (1, [.ref aR, .ref aB, .ref aP, .int nb, .int np]))]) hP hD [0, 1] (by decide +kernel) rfl
  have hFc := zfr hS hA
  refine va_calli (va_runV (As := [.int p0]) (rest := []) ⟨hx, hb, hml, hown, hts⟩ (g_X10_isBride l dC dI cI cJ h0 p0 (.ref tp) h0_courtReader h0_lawReader h0_draft aC h0_laws (.ref g0) (.ref k0) (.ref ac) (.ref sd) (.ref mi) (.ref dw) (.ref rf) (.int lc) (.int lh) (.int br) (.int hi) aR aB aP nb np H.size n_nb) (cwV 1 hts (zgV qw625 qw627 qw12 qw98 qw628) rfl rfl rfl hd_X10_isBride ⟨by rw [hR]; exact Nat.le_of_ble_eq_true rfl, by rw [hR]; exact Nat.le_of_ble_eq_true rfl⟩) (zPV hPc hK hDc (va_recv (q := (RX10, TX10, 17)) hK hP (ci := 10) (q0 := 0) rfl rfl)) rfl rfl hl.1 rfl (lv_room (Nat.le_of_ble_eq_true rfl)) dX10_likely_2 ⟨Nat.zero_le _, Nat.zero_le _⟩) hS (fun q _ h => hFc q h) hFc (fun v2 u2 t H locs ht hvm hw hB hz1 hk1 hS9 => ?_)
  replace hP := zkeep hP hk1
  replace hS := hS9
  clear hPc hDc hFc hk1 hz1 hvm hS9
  obtain ⟨f2_0, f2_1, f2_2, f2_3⟩ : (0 ≤ v2.toInt) ∧ (v2.toInt ≤ 1) ∧ (¬ v2.toInt = 0 → (0 ≤ p0.toInt ∧ p0.toInt < nb.toInt)) ∧ (v2.toInt = 0 → ¬ (0 ≤ p0.toInt ∧ p0.toInt < nb.toInt)) := hw
  refine lv_if_eq (tgt := 17) hx hb dX10_likely_5 (by decide) (fun c5 => ?_) (fun c5 => ?_)
  · have c5 : v2.toInt = 0 := z5 rfl (by decide) c5
    refine lv_iconst (v := (-1)) hx hb dX10_likely_17 (by decide) ?_
    have zr0 : ((-1) : Int32).toInt = (-1) := by decide
    rw [hQ]
    exact W.iret (v := ((-1))) hx hb hr (fun t ht hW => ⟨⟨(-1), (fL, fK, mt, lf, fW), rfl, ⟨by (try dsimp only); omega, by (try dsimp only); omega, by (try dsimp only); exact fun kc kT q_fr q_fR q_pl q_cn q_frf kt hc hb h ht => by unfold sV_lik; rw [if_neg (by omega)]; ⟩, ⟨by rw [ht]; exact hP, hD⟩⟩, hS.F ht⟩) hS.2.2 dX10_likely_18
  · have c5 : ¬ v2.toInt = 0 := z6 rfl (by decide) c5
    refine lv_iload_n hx hb dX10_likely_8 rfl (lv_at hl 2 rfl) ?_
    refine lv_if_lt (tgt := 17) hx hb dX10_likely_9 (by decide) (fun c9 => ?_) (fun c9 => ?_)
    · have c9 : p1.toInt < 0 := z1 rfl (by decide) c9
      refine lv_iconst (v := (-1)) hx hb dX10_likely_17 (by decide) ?_
      have zr0 : ((-1) : Int32).toInt = (-1) := by decide
      rw [hQ]
      exact W.iret (v := ((-1))) hx hb hr (fun t ht hW => ⟨⟨(-1), (fL, fK, mt, lf, fW), rfl, ⟨by (try dsimp only); omega, by (try dsimp only); omega, by (try dsimp only); exact fun kc kT q_fr q_fR q_pl q_cn q_frf kt hc hb h ht => by unfold sV_lik; rw [if_neg (by omega)]; ⟩, ⟨by rw [ht]; exact hP, hD⟩⟩, hS.F ht⟩) hS.2.2 dX10_likely_18
    · have c9 : 0 ≤ p1.toInt := z2 rfl (by decide) c9
      refine lv_iload_n hx hb dX10_likely_12 rfl (lv_at hl 2 rfl) ?_
      refine lv_iconst (v := 1) hx hb dX10_likely_13 (by decide) ?_
      refine lv_icmp_le (tgt := 19) hx hb dX10_likely_14 (by decide) (fun c14 => ?_) (fun c14 => ?_)
      · have c14 : p1.toInt ≤ 1 := z3 rfl (by decide) c14
        refine lv_aload_n hx hb dX10_likely_19 rfl (lv_at hl 0 rfl) ?_
        refine va_get (D := (dC, dI)) (ci := 10) (v := .ref mi) (C := RX10) (T := TX10) (N := 17) hx hb hts iX10 hown hK hP 0 rfl rfl 10 (by decide) (hts _ qw366) (fun _ h9 => h9) rfl dX10_likely_20 ?_
        refine lv_iload_n hx hb dX10_likely_23 rfl (lv_at hl 1 rfl) ?_
        obtain ⟨hPc, hDc, hFc⟩ := zc3 (wc := [(mi, .inr (6, [.ref aC, .ref g0, .ref sd, .ref mW, .long mt, .int lf, .ref mV, .ref mA, .ref mT])), (aC, .inr (1, [.ref aR, .ref aB, .ref aP, .int nb, .int np])), (aB, .inl (cI, 24, .inl fb)), (aP, .inl (cI, 20, .inl fp)), (g0, .inr (7, [.ref gY, .ref gF, .ref gP, .int gpn, .int glt, .int gsh, .int gwd, .int gpu, .int gmo])), (gY, .inl (cI, 6, .inl gfY)), (gF, .inl (cI, 5, .inl gfF)), (gP, .inl (cI, 80, .inl gfP)), (sd, .inr (8, [.ref w1, .ref w2, .ref aC, .ref g0, .ref aL, .ref aK, .ref lw])), (aL, .inl (cI, 6, .inl fL)), (aK, .inl (cI, 32, .inl fK)), (lw, .inr (4, [.ref lS])), (lS, .inl (cI, lk, .inl fS)), (mW, .inl (cJ, 10, .inr (.inl fW)))]) hP hD hS hA [13, 1, 2, 3, 4, 5, 6, 7, 8, 9, 10, 11, 12, 14] (by decide +kernel) rfl
        refine va_callv (va_runV (As := [.int p0]) (rest := []) ⟨hx, hb, hml, hown, hts⟩ (g_X6_weigh_l l dC dI cI cJ mi p0 aC g0 sd mW mt lf mV mA mT aR aB aP nb np fb fp gY gF gP gpn glt gsh gwd gpu gmo gfY gfF gfP w1 w2 aL aK lw fL fK lS fS lk fW H.size y_gpn n_lf (by omega) (hlk) ci_fS_zSt ci_gfP_zPo) (cwV 1 hts (zgV qw829 qw830 qw831 qw106 qw832) rfl rfl rfl hd_X6_weigh ⟨by rw [hR]; exact Nat.le_of_ble_eq_true rfl, by rw [hR]; exact Nat.le_of_ble_eq_true rfl⟩) (zPWV hPc hK hDc (va_recv (q := (RX6, TX6, 9)) hK hP (ci := 6) (q0 := 13) rfl rfl) (zV_call hV hS hFc)) rfl rfl hl.1 rfl (lv_room (Nat.le_of_ble_eq_true rfl)) dX10_likely_24 ⟨Nat.zero_le _, Nat.zero_le _⟩) hS (fun q _ h => hFc q h) hFc (fun u24 t H locs ht hvm hw hB hz1 hk1 hS9 => ?_)
        obtain ⟨u24_0, u24_1, u24_2, u24_3, u24_4⟩ := u24
        obtain ⟨hP9, hD9⟩ := zj2 (wX := [(h0, .inr (10, [.ref tp, h0_courtReader, h0_lawReader, h0_draft, .ref aC, h0_laws, .ref g0, .ref k0, .ref ac, .ref sd, .ref mi, .ref dw, .ref rf, .int lc, .int lh, .int br, .int hi])), (aC, .inr (1, [.ref aR, .ref aB, .ref aP, .int nb, .int np])), (aB, .inl (cI, 24, .inl fb)), (aP, .inl (cI, 20, .inl fp)), (g0, .inr (7, [.ref gY, .ref gF, .ref gP, .int gpn, .int glt, .int gsh, .int gwd, .int gpu, .int gmo])), (gY, .inl (cI, 6, .inl gfY)), (gF, .inl (cI, 5, .inl gfF)), (gP, .inl (cI, 80, .inl gfP)), (sd, .inr (8, [.ref w1, .ref w2, .ref aC, .ref g0, .ref aL, .ref aK, .ref lw])), (aL, .inl (cI, 6, .inl u24_2)), (aK, .inl (cI, 32, .inl u24_3)), (lw, .inr (4, [.ref lS])), (lS, .inl (cI, lk, .inl fS)), (mi, .inr (6, [.ref aC, .ref g0, .ref sd, .ref mW, .long u24_0, .int u24_1, .ref mV, .ref mA, .ref mT])), (mW, .inl (cJ, 10, .inr (.inl u24_4)))]) hP hD hk1 hFc ht hB [13, 1, 2, 3, 4, 5, 6, 7, 8, 9, 10, 11, 12, 14] [(false, 0), (true, 1), (true, 2), (true, 3), (true, 4), (true, 5), (true, 6), (true, 7), (true, 8), (true, 9), (true, 10), (true, 11), (true, 12), (true, 0), (true, 13)] rfl (by decide +kernel) (by decide +kernel) rfl
        clear hP hD hS hPc hDc hFc hB hk1 hz1 hvm
        have hP := hP9
        have hD := hD9
        have hS := hS9
        clear hP9 hD9 hS9
        obtain ⟨f24_0, f24_1, f24_2⟩ : (0 ≤ u24_1.toInt) ∧ (u24_1.toInt ≤ 9) ∧ (∀ (kc : zK3) (kT : zT) (q_fr : Nat → Int32) (kt : (Int → Int) × Int), zCn q_fr fb fp nb.toInt np.toInt kc → zKo nb.toInt np.toInt kc kT → zSc nb.toInt np.toInt kT.1 gfY gfF gfP gpn glt gsh gwd gpu gmo → zLwC fS lk kt → (0 ≤ p0.toInt ∧ p0.toInt < nb.toInt) → zWe kc kT.1 (some kt) p0 u24_4 u24_0 u24_1) := hw
        have F24 := f24_2
        refine lv_iload_n hx hb dX10_likely_27 rfl (lv_at hl 2 rfl) ?_
        refine lv_if_ne (tgt := 41) hx hb dX10_likely_28 (by decide) (fun c28 => ?_) (fun c28 => ?_)
        · have c28 : ¬ p1.toInt = 0 := z6 rfl (by decide) c28
          refine lv_aload_n hx hb dX10_likely_41 rfl (lv_at hl 0 rfl) ?_
          refine va_get (D := (dC, dI)) (ci := 10) (v := .ref mi) (C := RX10) (T := TX10) (N := 17) hx hb hts iX10 hown hK hP 0 rfl rfl 10 (by decide) (hts _ qw366) (fun _ h9 => h9) rfl dX10_likely_42 ?_
          refine lv_aload_n hx hb dX10_likely_45 rfl (lv_at hl 0 rfl) ?_
          refine va_get (D := (dC, dI)) (ci := 10) (v := .ref mi) (C := RX10) (T := TX10) (N := 17) hx hb hts iX10 hown hK hP 0 rfl rfl 10 (by decide) (hts _ qw366) (fun _ h9 => h9) rfl dX10_likely_46 ?_
          refine va_get (D := (dC, dI)) (ci := 6) (v := .int u24_1) (C := RX6) (T := TX6) (N := 9) hx hb hts iX6 hown hK hP 13 rfl rfl 5 (by decide) (hts _ qw322) (fun _ h9 => h9) rfl dX10_likely_49 ?_
          obtain ⟨hPc, hDc⟩ := zc2 (wc := [(mi, .inr (6, [.ref aC, .ref g0, .ref sd, .ref mW, .long u24_0, .int u24_1, .ref mV, .ref mA, .ref mT])), (mW, .inl (cJ, 10, .inr (.inl u24_4)))]) hP hD [13, 14] (by decide +kernel) rfl
          have hFc := zfr hS hA
          refine va_calli (va_runV (As := [.int u24_1]) (rest := []) ⟨hx, hb, hml, hown, hts⟩ (g_X6_share l dC dI cI cJ mi u24_1 aC g0 sd mW u24_0 u24_1 mV mA mT u24_4 H.size ⟨f24_0, f24_1⟩) (cwV 1 hts (zgV qw855 qw851 qw852 qw106 qw853) rfl rfl rfl hd_X6_share ⟨by rw [hR]; exact Nat.le_of_ble_eq_true rfl, by rw [hR]; exact Nat.le_of_ble_eq_true rfl⟩) (zPV hPc hK hDc (va_recv (q := (RX6, TX6, 9)) hK hP (ci := 6) (q0 := 13) rfl rfl)) rfl rfl hl.1 rfl (lv_room (Nat.le_of_ble_eq_true rfl)) dX10_likely_52 ⟨Nat.zero_le _, Nat.zero_le _⟩) hS (fun q _ h => hFc q h) hFc (fun v52 u52 t H locs ht hvm hw hB hz1 hk1 hS9 => ?_)
          replace hP := zkeep hP hk1
          replace hS := hS9
          clear hPc hDc hFc hk1 hz1 hvm hS9
          have f52_0 : (v52 = sBv u24_4 u24_0 u24_1.toInt.toNat) := hw
          have F52 := f52_0
          rw [hQ]
          exact W.iret (v := v52) hx hb hr (fun t ht hW => ⟨⟨v52, (u24_2, u24_3, u24_0, u24_1, u24_4), rfl, ⟨by (try dsimp only); omega, by (try dsimp only); omega, by (try dsimp only); exact fun kc kT q_fr q_fR q_pl q_cn q_frf kt hc hb h ht => by have z := (F24 kc kT _ kt hc hb h.1 ht (by omega)); unfold sV_lik; rw [if_pos (by omega)]; rw [if_neg (by omega), ← z.2]; exact F52.trans (z.1 _ (by omega))⟩, ⟨by rw [ht]; exact hP, hD⟩⟩, hS.F ht⟩) hS.2.2 dX10_likely_55
        · have c28 : p1.toInt = 0 := z5 rfl (by decide) c28
          refine lv_aload_n hx hb dX10_likely_31 rfl (lv_at hl 0 rfl) ?_
          refine va_get (D := (dC, dI)) (ci := 10) (v := .ref mi) (C := RX10) (T := TX10) (N := 17) hx hb hts iX10 hown hK hP 0 rfl rfl 10 (by decide) (hts _ qw366) (fun _ h9 => h9) rfl dX10_likely_32 ?_
          refine va_get (D := (dC, dI)) (ci := 6) (v := .int u24_1) (C := RX6) (T := TX6) (N := 9) hx hb hts iX6 hown hK hP 13 rfl rfl 5 (by decide) (hts _ qw322) (fun _ h9 => h9) rfl dX10_likely_35 ?_
          refine lv_goto (tgt := 55) hx hb dX10_likely_38 (by decide) ?_
          rw [hQ]
          exact W.iret (v := u24_1) hx hb hr (fun t ht hW => ⟨⟨u24_1, (u24_2, u24_3, u24_0, u24_1, u24_4), rfl, ⟨by (try dsimp only); omega, by (try dsimp only); omega, by (try dsimp only); exact fun kc kT q_fr q_fR q_pl q_cn q_frf kt hc hb h ht => by have z := (F24 kc kT _ kt hc hb h.1 ht (by omega)); unfold sV_lik; rw [if_pos (by omega)]; rw [if_pos (by omega)]; exact z.2⟩, ⟨by rw [ht]; exact hP, hD⟩⟩, hS.F ht⟩) hS.2.2 dX10_likely_55
      · have c14 : 1 < p1.toInt := z4 rfl (by decide) c14
        refine lv_iconst (v := (-1)) hx hb dX10_likely_17 (by decide) ?_
        have zr0 : ((-1) : Int32).toInt = (-1) := by decide
        rw [hQ]
        exact W.iret (v := ((-1))) hx hb hr (fun t ht hW => ⟨⟨(-1), (fL, fK, mt, lf, fW), rfl, ⟨by (try dsimp only); omega, by (try dsimp only); omega, by (try dsimp only); exact fun kc kT q_fr q_fR q_pl q_cn q_frf kt hc hb h ht => by unfold sV_lik; rw [if_neg (by omega)]; ⟩, ⟨by rw [ht]; exact hP, hD⟩⟩, hS.F ht⟩) hS.2.2 dX10_likely_18
set_option maxHeartbeats 4000000 in
set_option maxRecDepth 100000 in
theorem g_X10_sure_l (l : Launch) (dC : Nat → ClassId) (dI : Nat → Nat → Nat) (cI cJ : ClassId) (h0 : Nat) (p0 : Int32) (p1 : Int32) (tp : Nat) (h0_courtReader : Value) (h0_lawReader : Value) (h0_draft : Value) (aC : Nat) (h0_laws : Value) (g0 : Nat) (k0 : Nat) (ac : Nat) (sd : Nat) (mi : Nat) (dw : Nat) (rf : Nat) (lc : Int32) (lh : Int32) (br : Int32) (hi : Int32) (aR : Nat) (aB : Nat) (aP : Nat) (nb : Int32) (np : Int32) (fb : Nat → Int32) (fp : Nat → Int32) (gY : Nat) (gF : Nat) (gP : Nat) (gpn : Int32) (glt : Int32) (gsh : Int32) (gwd : Int32) (gpu : Int32) (gmo : Int32) (gfY : Nat → Int32) (gfF : Nat → Int32) (gfP : Nat → Int32) (w1 : Nat) (w2 : Nat) (aL : Nat) (aK : Nat) (lw : Nat) (fL : Nat → Int32) (fK : Nat → Int32) (lS : Nat) (fS : Nat → Int32) (lk : Nat) (mW : Nat) (mt : Int64) (lf : Int32) (mV : Nat) (mA : Nat) (mT : Nat) (fW : Nat → Int64) (sz : Nat) (n_gpn : 0 ≤ gpn.toInt ∧ gpn.toInt ≤ 20) (n_gwd : (-1) ≤ gwd.toInt ∧ gwd.toInt ≤ 5) (n_hi : 0 ≤ hi.toInt ∧ hi.toInt ≤ 1) (n_lc : 0 ≤ lc.toInt ∧ lc.toInt ≤ 4) (n_lf : 0 ≤ lf.toInt ∧ lf.toInt ≤ 9) (n_nb : 0 ≤ nb.toInt ∧ nb.toInt ≤ 6) (n_np : 0 ≤ np.toInt ∧ np.toInt ≤ 5) (hlk : lk ≤ 241) (ci_fS_zSt : zSt fS) (ci_gfP_zPo : zPo gfP)  : Met l yX10_sure (.code yX10_sure cX10_sure 3 (some .int) :: wA) ({ frames := 6, cells := 0, slots := 0, locals := 153 }) (zPW (dC, dI) [(cI, .int), (cJ, .long)] [.ref h0, .int p0, .int p1] sz [(h0, .inr (10, [.ref tp, h0_courtReader, h0_lawReader, h0_draft, .ref aC, h0_laws, .ref g0, .ref k0, .ref ac, .ref sd, .ref mi, .ref dw, .ref rf, .int lc, .int lh, .int br, .int hi])), (aC, .inr (1, [.ref aR, .ref aB, .ref aP, .int nb, .int np])), (aB, .inl (cI, 24, .inl fb)), (aP, .inl (cI, 20, .inl fp)), (g0, .inr (7, [.ref gY, .ref gF, .ref gP, .int gpn, .int glt, .int gsh, .int gwd, .int gpu, .int gmo])), (gY, .inl (cI, 6, .inl gfY)), (gF, .inl (cI, 5, .inl gfF)), (gP, .inl (cI, 80, .inl gfP)), (sd, .inr (8, [.ref w1, .ref w2, .ref aC, .ref g0, .ref aL, .ref aK, .ref lw])), (aL, .inl (cI, 6, .inl fL)), (aK, .inl (cI, 32, .inl fK)), (lw, .inr (4, [.ref lS])), (lS, .inl (cI, lk, .inl fS)), (mi, .inr (6, [.ref aC, .ref g0, .ref sd, .ref mW, .long mt, .int lf, .ref mV, .ref mA, .ref mT])), (mW, .inl (cJ, 10, .inr (.inl fW)))] (va_A [(h0, .inr (10, [.ref tp, h0_courtReader, h0_lawReader, h0_draft, .ref aC, h0_laws, .ref g0, .ref k0, .ref ac, .ref sd, .ref mi, .ref dw, .ref rf, .int lc, .int lh, .int br, .int hi])), (aC, .inr (1, [.ref aR, .ref aB, .ref aP, .int nb, .int np])), (aB, .inl (cI, 24, .inl fb)), (aP, .inl (cI, 20, .inl fp)), (g0, .inr (7, [.ref gY, .ref gF, .ref gP, .int gpn, .int glt, .int gsh, .int gwd, .int gpu, .int gmo])), (gY, .inl (cI, 6, .inl gfY)), (gF, .inl (cI, 5, .inl gfF)), (gP, .inl (cI, 80, .inl gfP)), (sd, .inr (8, [.ref w1, .ref w2, .ref aC, .ref g0, .ref aL, .ref aK, .ref lw])), (aL, .inl (cI, 6, .inl fL)), (aK, .inl (cI, 32, .inl fK)), (lw, .inr (4, [.ref lS])), (lS, .inl (cI, lk, .inl fS)), (mi, .inr (6, [.ref aC, .ref g0, .ref sd, .ref mW, .long mt, .int lf, .ref mV, .ref mA, .ref mT])), (mW, .inl (cJ, 10, .inr (.inl fW)))] sz)) (va_Qi (fun (r : Int32) (u : (Nat → Int32) × (Nat → Int32) × Int64 × Int32 × (Nat → Int64)) => ((-1) ≤ r.toInt) ∧ (r.toInt ≤ 1) ∧ (0 ≤ u.2.2.2.1.toInt) ∧ (u.2.2.2.1.toInt ≤ 9) ∧ (∀ (kc : zK3) (kT : zT) (q_fr : Nat → Int32) (q_fR : Nat → Int32) (q_pl : Int32) (q_cn : Int32) (q_frf : Nat → Int32) (kt : (Int → Int) × Int), zCn q_fr fb fp nb.toInt np.toInt kc → zKo nb.toInt np.toInt kc kT → zTc nb.toInt np.toInt kT gfY gfF gfP gpn glt gsh gwd gpu gmo q_fR q_pl q_cn q_frf → zLwC fS lk kt → r = sV_sur nb.toInt kc kT.1 (some kt) p0 p1)) (fun (u : (Nat → Int32) × (Nat → Int32) × Int64 × Int32 × (Nat → Int64)) (t : State) => va_P (dC, dI) vwCl [(h0, .inr (10, [.ref tp, h0_courtReader, h0_lawReader, h0_draft, .ref aC, h0_laws, .ref g0, .ref k0, .ref ac, .ref sd, .ref mi, .ref dw, .ref rf, .int lc, .int lh, .int br, .int hi])), (aC, .inr (1, [.ref aR, .ref aB, .ref aP, .int nb, .int np])), (aB, .inl (cI, 24, .inl fb)), (aP, .inl (cI, 20, .inl fp)), (g0, .inr (7, [.ref gY, .ref gF, .ref gP, .int gpn, .int glt, .int gsh, .int gwd, .int gpu, .int gmo])), (gY, .inl (cI, 6, .inl gfY)), (gF, .inl (cI, 5, .inl gfF)), (gP, .inl (cI, 80, .inl gfP)), (sd, .inr (8, [.ref w1, .ref w2, .ref aC, .ref g0, .ref aL, .ref aK, .ref lw])), (aL, .inl (cI, 6, .inl u.1)), (aK, .inl (cI, 32, .inl u.2.1)), (lw, .inr (4, [.ref lS])), (lS, .inl (cI, lk, .inl fS)), (mi, .inr (6, [.ref aC, .ref g0, .ref sd, .ref mW, .long u.2.2.1, .int u.2.2.2.1, .ref mV, .ref mA, .ref mT])), (mW, .inl (cJ, 10, .inr (.inl u.2.2.2.2)))] t.heap ∧ va_D (va_A [(h0, .inr (10, [.ref tp, h0_courtReader, h0_lawReader, h0_draft, .ref aC, h0_laws, .ref g0, .ref k0, .ref ac, .ref sd, .ref mi, .ref dw, .ref rf, .int lc, .int lh, .int br, .int hi])), (aC, .inr (1, [.ref aR, .ref aB, .ref aP, .int nb, .int np])), (aB, .inl (cI, 24, .inl fb)), (aP, .inl (cI, 20, .inl fp)), (g0, .inr (7, [.ref gY, .ref gF, .ref gP, .int gpn, .int glt, .int gsh, .int gwd, .int gpu, .int gmo])), (gY, .inl (cI, 6, .inl gfY)), (gF, .inl (cI, 5, .inl gfF)), (gP, .inl (cI, 80, .inl gfP)), (sd, .inr (8, [.ref w1, .ref w2, .ref aC, .ref g0, .ref aL, .ref aK, .ref lw])), (aL, .inl (cI, 6, .inl fL)), (aK, .inl (cI, 32, .inl fK)), (lw, .inr (4, [.ref lS])), (lS, .inl (cI, lk, .inl fS)), (mi, .inr (6, [.ref aC, .ref g0, .ref sd, .ref mW, .long mt, .int lf, .ref mV, .ref mA, .ref mT])), (mW, .inl (cJ, 10, .inr (.inl fW)))] sz) [(h0, .inr (10, [.ref tp, h0_courtReader, h0_lawReader, h0_draft, .ref aC, h0_laws, .ref g0, .ref k0, .ref ac, .ref sd, .ref mi, .ref dw, .ref rf, .int lc, .int lh, .int br, .int hi])), (aC, .inr (1, [.ref aR, .ref aB, .ref aP, .int nb, .int np])), (aB, .inl (cI, 24, .inl fb)), (aP, .inl (cI, 20, .inl fp)), (g0, .inr (7, [.ref gY, .ref gF, .ref gP, .int gpn, .int glt, .int gsh, .int gwd, .int gpu, .int gmo])), (gY, .inl (cI, 6, .inl gfY)), (gF, .inl (cI, 5, .inl gfF)), (gP, .inl (cI, 80, .inl gfP)), (sd, .inr (8, [.ref w1, .ref w2, .ref aC, .ref g0, .ref aL, .ref aK, .ref lw])), (aL, .inl (cI, 6, .inl u.1)), (aK, .inl (cI, 32, .inl u.2.1)), (lw, .inr (4, [.ref lS])), (lS, .inl (cI, lk, .inl fS)), (mi, .inr (6, [.ref aC, .ref g0, .ref sd, .ref mW, .long u.2.2.1, .int u.2.2.2.1, .ref mV, .ref mA, .ref mT])), (mW, .inl (cJ, 10, .inr (.inl u.2.2.2.2)))]) (va_A [(h0, .inr (10, [.ref tp, h0_courtReader, h0_lawReader, h0_draft, .ref aC, h0_laws, .ref g0, .ref k0, .ref ac, .ref sd, .ref mi, .ref dw, .ref rf, .int lc, .int lh, .int br, .int hi])), (aC, .inr (1, [.ref aR, .ref aB, .ref aP, .int nb, .int np])), (aB, .inl (cI, 24, .inl fb)), (aP, .inl (cI, 20, .inl fp)), (g0, .inr (7, [.ref gY, .ref gF, .ref gP, .int gpn, .int glt, .int gsh, .int gwd, .int gpu, .int gmo])), (gY, .inl (cI, 6, .inl gfY)), (gF, .inl (cI, 5, .inl gfF)), (gP, .inl (cI, 80, .inl gfP)), (sd, .inr (8, [.ref w1, .ref w2, .ref aC, .ref g0, .ref aL, .ref aK, .ref lw])), (aL, .inl (cI, 6, .inl fL)), (aK, .inl (cI, 32, .inl fK)), (lw, .inr (4, [.ref lS])), (lS, .inl (cI, lk, .inl fS)), (mi, .inr (6, [.ref aC, .ref g0, .ref sd, .ref mW, .long mt, .int lf, .ref mV, .ref mA, .ref mT])), (mW, .inl (cJ, 10, .inr (.inl fW)))] sz)) 0 0 (va_A [(h0, .inr (10, [.ref tp, h0_courtReader, h0_lawReader, h0_draft, .ref aC, h0_laws, .ref g0, .ref k0, .ref ac, .ref sd, .ref mi, .ref dw, .ref rf, .int lc, .int lh, .int br, .int hi])), (aC, .inr (1, [.ref aR, .ref aB, .ref aP, .int nb, .int np])), (aB, .inl (cI, 24, .inl fb)), (aP, .inl (cI, 20, .inl fp)), (g0, .inr (7, [.ref gY, .ref gF, .ref gP, .int gpn, .int glt, .int gsh, .int gwd, .int gpu, .int gmo])), (gY, .inl (cI, 6, .inl gfY)), (gF, .inl (cI, 5, .inl gfF)), (gP, .inl (cI, 80, .inl gfP)), (sd, .inr (8, [.ref w1, .ref w2, .ref aC, .ref g0, .ref aL, .ref aK, .ref lw])), (aL, .inl (cI, 6, .inl fL)), (aK, .inl (cI, 32, .inl fK)), (lw, .inr (4, [.ref lS])), (lS, .inl (cI, lk, .inl fS)), (mi, .inr (6, [.ref aC, .ref g0, .ref sd, .ref mW, .long mt, .int lf, .ref mV, .ref mA, .ref mT])), (mW, .inl (cJ, 10, .inr (.inl fW)))] sz) := by
  refine Met.ofW (cc := cX10_sure) (maxL := 3) (ret := (some .int)) (by decide) rfl ?_
  intro p e s m args below meth c s₁ B hml hv
  have y_gpn : zHid (0 ≤ gpn.toInt ∧ gpn.toInt ≤ 20) := n_gpn
  have y_gwd : zHid ((-1) ≤ gwd.toInt ∧ gwd.toInt ≤ 5) := n_gwd
  have y_hi : zHid (0 ≤ hi.toInt ∧ hi.toInt ≤ 1) := n_hi
  have y_lc : zHid (0 ≤ lc.toInt ∧ lc.toInt ≤ 4) := n_lc
  clear n_gpn n_gwd n_hi n_lc
  obtain ⟨⟨hargs, hsz, hP, hK, hT⟩, hV⟩ := hv
  have hx := B.exec
  have hb := B.bytes
  have hr := B.returns
  have hts : ∀ w ∈ wA, w.before args s = true := fun w h => atoms_spec (ws := .code yX10_sure cX10_sure 3 (some .int) :: wA) B.pre w (List.mem_cons_of_mem _ h)
  have hown : s.vm.findClass RX10 = some m.cls := findClass_of_methodNamed B.named
  have hlocks := B.notSynchronized
  subst hsz
  have hD := hT.self (sz := s.heap.size)
  generalize hAe : va_A [(h0, .inr (10, [.ref tp, h0_courtReader, h0_lawReader, h0_draft, .ref aC, h0_laws, .ref g0, .ref k0, .ref ac, .ref sd, .ref mi, .ref dw, .ref rf, .int lc, .int lh, .int br, .int hi])), (aC, .inr (1, [.ref aR, .ref aB, .ref aP, .int nb, .int np])), (aB, .inl (cI, 24, .inl fb)), (aP, .inl (cI, 20, .inl fp)), (g0, .inr (7, [.ref gY, .ref gF, .ref gP, .int gpn, .int glt, .int gsh, .int gwd, .int gpu, .int gmo])), (gY, .inl (cI, 6, .inl gfY)), (gF, .inl (cI, 5, .inl gfF)), (gP, .inl (cI, 80, .inl gfP)), (sd, .inr (8, [.ref w1, .ref w2, .ref aC, .ref g0, .ref aL, .ref aK, .ref lw])), (aL, .inl (cI, 6, .inl fL)), (aK, .inl (cI, 32, .inl fK)), (lw, .inr (4, [.ref lS])), (lS, .inl (cI, lk, .inl fS)), (mi, .inr (6, [.ref aC, .ref g0, .ref sd, .ref mW, .long mt, .int lf, .ref mV, .ref mA, .ref mT])), (mW, .inl (cJ, 10, .inr (.inl fW)))] s.heap.size = A at hD hV ⊢
  have hA : ∀ q : Nat, s.heap.size ≤ q → A q := fun q h => by rw [← hAe]; exact Or.inr h
  have hl := lv_entry ([.ref h0, .int p0, .int p1]) (n := 3) (Nat.le_of_ble_eq_true rfl)
  rw [show entryFrame m args 3 = entryFrame m ([.ref h0, .int p0, .int p1] : List Value).toArray 3 by rw [hargs], lg_entry_eq]
  generalize (lg_sl ([.ref h0, .int p0, .int p1]) ++ List.replicate (3 - (lg_sl ([.ref h0, .int p0, .int p1])).length) Slot.unset).toArray = ls at hl ⊢
  have hl : lv_has ls 3 [(0, .ref h0), (1, .int p0), (2, .int p1)] := hl
  refine zstart (fun H hH => ?_)
  rw [← hH] at hP
  have hS : va_S A s.heap H [] := by rw [hH]; exact va_S.rf
  generalize ([] : List Loc) = locs at hS ⊢
  refine zgen (fun R Q hR hQ => ?_)
  refine lv_aload_n hx hb dX10_sure_0 rfl (lv_at hl 0 rfl) ?_
  refine lv_iload_n hx hb dX10_sure_1 rfl (lv_at hl 1 rfl) ?_
  obtain ⟨hPc, hDc⟩ := zc2 (wc := [(h0, .inr (10, [.ref tp, h0_courtReader, h0_lawReader, h0_draft, .ref aC, h0_laws, .ref g0, .ref k0, .ref ac, .ref sd, .ref mi, .ref dw, .ref rf, .int lc, .int lh, .int br, .int hi])), (aC, .inr (1, [.ref aR, .ref aB, .ref aP, .int nb, .int np]))]) hP hD [0, 1] (by decide +kernel) rfl
  have hFc := zfr hS hA
  refine va_calli (va_runV (As := [.int p0]) (rest := []) ⟨hx, hb, hml, hown, hts⟩ (g_X10_isBride l dC dI cI cJ h0 p0 (.ref tp) h0_courtReader h0_lawReader h0_draft aC h0_laws (.ref g0) (.ref k0) (.ref ac) (.ref sd) (.ref mi) (.ref dw) (.ref rf) (.int lc) (.int lh) (.int br) (.int hi) aR aB aP nb np H.size n_nb) (cwV 1 hts (zgV qw625 qw627 qw12 qw98 qw628) rfl rfl rfl hd_X10_isBride ⟨by rw [hR]; exact Nat.le_of_ble_eq_true rfl, by rw [hR]; exact Nat.le_of_ble_eq_true rfl⟩) (zPV hPc hK hDc (va_recv (q := (RX10, TX10, 17)) hK hP (ci := 10) (q0 := 0) rfl rfl)) rfl rfl hl.1 rfl (lv_room (Nat.le_of_ble_eq_true rfl)) dX10_sure_2 ⟨Nat.zero_le _, Nat.zero_le _⟩) hS (fun q _ h => hFc q h) hFc (fun v2 u2 t H locs ht hvm hw hB hz1 hk1 hS9 => ?_)
  replace hP := zkeep hP hk1
  replace hS := hS9
  clear hPc hDc hFc hk1 hz1 hvm hS9
  obtain ⟨f2_0, f2_1, f2_2, f2_3⟩ : (0 ≤ v2.toInt) ∧ (v2.toInt ≤ 1) ∧ (¬ v2.toInt = 0 → (0 ≤ p0.toInt ∧ p0.toInt < nb.toInt)) ∧ (v2.toInt = 0 → ¬ (0 ≤ p0.toInt ∧ p0.toInt < nb.toInt)) := hw
  refine lv_if_eq (tgt := 20) hx hb dX10_sure_5 (by decide) (fun c5 => ?_) (fun c5 => ?_)
  · have c5 : v2.toInt = 0 := z5 rfl (by decide) c5
    refine lv_iconst (v := (-1)) hx hb dX10_sure_20 (by decide) ?_
    have zr0 : ((-1) : Int32).toInt = (-1) := by decide
    rw [hQ]
    exact W.iret (v := ((-1))) hx hb hr (fun t ht hW => ⟨⟨(-1), (fL, fK, mt, lf, fW), rfl, ⟨by (try dsimp only); omega, by (try dsimp only); omega, by (try dsimp only); omega, by (try dsimp only); omega, by (try dsimp only); exact fun kc kT q_fr q_fR q_pl q_cn q_frf kt hc hb h ht => by unfold sV_sur; rw [if_neg (by omega)]; ⟩, ⟨by rw [ht]; exact hP, hD⟩⟩, hS.F ht⟩) hS.2.2 dX10_sure_21
  · have c5 : ¬ v2.toInt = 0 := z6 rfl (by decide) c5
    refine lv_iload_n hx hb dX10_sure_8 rfl (lv_at hl 2 rfl) ?_
    refine lv_iconst (v := 1) hx hb dX10_sure_9 (by decide) ?_
    refine lv_icmp_lt (tgt := 20) hx hb dX10_sure_10 (by decide) (fun c10 => ?_) (fun c10 => ?_)
    · have c10 : p1.toInt < 1 := z1 rfl (by decide) c10
      refine lv_iconst (v := (-1)) hx hb dX10_sure_20 (by decide) ?_
      have zr0 : ((-1) : Int32).toInt = (-1) := by decide
      rw [hQ]
      exact W.iret (v := ((-1))) hx hb hr (fun t ht hW => ⟨⟨(-1), (fL, fK, mt, lf, fW), rfl, ⟨by (try dsimp only); omega, by (try dsimp only); omega, by (try dsimp only); omega, by (try dsimp only); omega, by (try dsimp only); exact fun kc kT q_fr q_fR q_pl q_cn q_frf kt hc hb h ht => by unfold sV_sur; rw [if_neg (by omega)]; ⟩, ⟨by rw [ht]; exact hP, hD⟩⟩, hS.F ht⟩) hS.2.2 dX10_sure_21
    · have c10 : 1 ≤ p1.toInt := z2 rfl (by decide) c10
      refine lv_iload_n hx hb dX10_sure_13 rfl (lv_at hl 2 rfl) ?_
      refine lv_ldcw (v := 1000000) hx hb hown (hts _ qw864) dX10_sure_14 ?_
      refine lv_icmp_le (tgt := 22) hx hb dX10_sure_17 (by decide) (fun c17 => ?_) (fun c17 => ?_)
      · have c17 : p1.toInt ≤ 1000000 := z3 rfl (by decide) c17
        refine lv_aload_n hx hb dX10_sure_22 rfl (lv_at hl 0 rfl) ?_
        refine va_get (D := (dC, dI)) (ci := 10) (v := .ref mi) (C := RX10) (T := TX10) (N := 17) hx hb hts iX10 hown hK hP 0 rfl rfl 10 (by decide) (hts _ qw366) (fun _ h9 => h9) rfl dX10_sure_23 ?_
        refine lv_iload_n hx hb dX10_sure_26 rfl (lv_at hl 1 rfl) ?_
        obtain ⟨hPc, hDc, hFc⟩ := zc3 (wc := [(mi, .inr (6, [.ref aC, .ref g0, .ref sd, .ref mW, .long mt, .int lf, .ref mV, .ref mA, .ref mT])), (aC, .inr (1, [.ref aR, .ref aB, .ref aP, .int nb, .int np])), (aB, .inl (cI, 24, .inl fb)), (aP, .inl (cI, 20, .inl fp)), (g0, .inr (7, [.ref gY, .ref gF, .ref gP, .int gpn, .int glt, .int gsh, .int gwd, .int gpu, .int gmo])), (gY, .inl (cI, 6, .inl gfY)), (gF, .inl (cI, 5, .inl gfF)), (gP, .inl (cI, 80, .inl gfP)), (sd, .inr (8, [.ref w1, .ref w2, .ref aC, .ref g0, .ref aL, .ref aK, .ref lw])), (aL, .inl (cI, 6, .inl fL)), (aK, .inl (cI, 32, .inl fK)), (lw, .inr (4, [.ref lS])), (lS, .inl (cI, lk, .inl fS)), (mW, .inl (cJ, 10, .inr (.inl fW)))]) hP hD hS hA [13, 1, 2, 3, 4, 5, 6, 7, 8, 9, 10, 11, 12, 14] (by decide +kernel) rfl
        refine va_callv (va_runV (As := [.int p0]) (rest := []) ⟨hx, hb, hml, hown, hts⟩ (g_X6_weigh_l l dC dI cI cJ mi p0 aC g0 sd mW mt lf mV mA mT aR aB aP nb np fb fp gY gF gP gpn glt gsh gwd gpu gmo gfY gfF gfP w1 w2 aL aK lw fL fK lS fS lk fW H.size y_gpn n_lf (by omega) (hlk) ci_fS_zSt ci_gfP_zPo) (cwV 1 hts (zgV qw829 qw830 qw831 qw106 qw832) rfl rfl rfl hd_X6_weigh ⟨by rw [hR]; exact Nat.le_of_ble_eq_true rfl, by rw [hR]; exact Nat.le_of_ble_eq_true rfl⟩) (zPWV hPc hK hDc (va_recv (q := (RX6, TX6, 9)) hK hP (ci := 6) (q0 := 13) rfl rfl) (zV_call hV hS hFc)) rfl rfl hl.1 rfl (lv_room (Nat.le_of_ble_eq_true rfl)) dX10_sure_27 ⟨Nat.zero_le _, Nat.zero_le _⟩) hS (fun q _ h => hFc q h) hFc (fun u27 t H locs ht hvm hw hB hz1 hk1 hS9 => ?_)
        obtain ⟨u27_0, u27_1, u27_2, u27_3, u27_4⟩ := u27
        obtain ⟨hP9, hD9⟩ := zj2 (wX := [(h0, .inr (10, [.ref tp, h0_courtReader, h0_lawReader, h0_draft, .ref aC, h0_laws, .ref g0, .ref k0, .ref ac, .ref sd, .ref mi, .ref dw, .ref rf, .int lc, .int lh, .int br, .int hi])), (aC, .inr (1, [.ref aR, .ref aB, .ref aP, .int nb, .int np])), (aB, .inl (cI, 24, .inl fb)), (aP, .inl (cI, 20, .inl fp)), (g0, .inr (7, [.ref gY, .ref gF, .ref gP, .int gpn, .int glt, .int gsh, .int gwd, .int gpu, .int gmo])), (gY, .inl (cI, 6, .inl gfY)), (gF, .inl (cI, 5, .inl gfF)), (gP, .inl (cI, 80, .inl gfP)), (sd, .inr (8, [.ref w1, .ref w2, .ref aC, .ref g0, .ref aL, .ref aK, .ref lw])), (aL, .inl (cI, 6, .inl u27_2)), (aK, .inl (cI, 32, .inl u27_3)), (lw, .inr (4, [.ref lS])), (lS, .inl (cI, lk, .inl fS)), (mi, .inr (6, [.ref aC, .ref g0, .ref sd, .ref mW, .long u27_0, .int u27_1, .ref mV, .ref mA, .ref mT])), (mW, .inl (cJ, 10, .inr (.inl u27_4)))]) hP hD hk1 hFc ht hB [13, 1, 2, 3, 4, 5, 6, 7, 8, 9, 10, 11, 12, 14] [(false, 0), (true, 1), (true, 2), (true, 3), (true, 4), (true, 5), (true, 6), (true, 7), (true, 8), (true, 9), (true, 10), (true, 11), (true, 12), (true, 0), (true, 13)] rfl (by decide +kernel) (by decide +kernel) rfl
        clear hP hD hS hPc hDc hFc hB hk1 hz1 hvm
        have hP := hP9
        have hD := hD9
        have hS := hS9
        clear hP9 hD9 hS9
        obtain ⟨f27_0, f27_1, f27_2⟩ : (0 ≤ u27_1.toInt) ∧ (u27_1.toInt ≤ 9) ∧ (∀ (kc : zK3) (kT : zT) (q_fr : Nat → Int32) (kt : (Int → Int) × Int), zCn q_fr fb fp nb.toInt np.toInt kc → zKo nb.toInt np.toInt kc kT → zSc nb.toInt np.toInt kT.1 gfY gfF gfP gpn glt gsh gwd gpu gmo → zLwC fS lk kt → (0 ≤ p0.toInt ∧ p0.toInt < nb.toInt) → zWe kc kT.1 (some kt) p0 u27_4 u27_0 u27_1) := hw
        have F27 := f27_2
        refine lv_aload_n hx hb dX10_sure_30 rfl (lv_at hl 0 rfl) ?_
        refine va_get (D := (dC, dI)) (ci := 10) (v := .ref mi) (C := RX10) (T := TX10) (N := 17) hx hb hts iX10 hown hK hP 0 rfl rfl 10 (by decide) (hts _ qw366) (fun _ h9 => h9) rfl dX10_sure_31 ?_
        refine lv_aload_n hx hb dX10_sure_34 rfl (lv_at hl 0 rfl) ?_
        refine va_get (D := (dC, dI)) (ci := 10) (v := .ref mi) (C := RX10) (T := TX10) (N := 17) hx hb hts iX10 hown hK hP 0 rfl rfl 10 (by decide) (hts _ qw366) (fun _ h9 => h9) rfl dX10_sure_35 ?_
        refine va_get (D := (dC, dI)) (ci := 6) (v := .int u27_1) (C := RX6) (T := TX6) (N := 9) hx hb hts iX6 hown hK hP 13 rfl rfl 5 (by decide) (hts _ qw322) (fun _ h9 => h9) rfl dX10_sure_38 ?_
        obtain ⟨hPc, hDc⟩ := zc2 (wc := [(mi, .inr (6, [.ref aC, .ref g0, .ref sd, .ref mW, .long u27_0, .int u27_1, .ref mV, .ref mA, .ref mT])), (mW, .inl (cJ, 10, .inr (.inl u27_4)))]) hP hD [13, 14] (by decide +kernel) rfl
        have hFc := zfr hS hA
        refine va_calli (va_runV (As := [.int u27_1]) (rest := []) ⟨hx, hb, hml, hown, hts⟩ (g_X6_share l dC dI cI cJ mi u27_1 aC g0 sd mW u27_0 u27_1 mV mA mT u27_4 H.size ⟨f27_0, f27_1⟩) (cwV 1 hts (zgV qw855 qw851 qw852 qw106 qw853) rfl rfl rfl hd_X6_share ⟨by rw [hR]; exact Nat.le_of_ble_eq_true rfl, by rw [hR]; exact Nat.le_of_ble_eq_true rfl⟩) (zPV hPc hK hDc (va_recv (q := (RX6, TX6, 9)) hK hP (ci := 6) (q0 := 13) rfl rfl)) rfl rfl hl.1 rfl (lv_room (Nat.le_of_ble_eq_true rfl)) dX10_sure_41 ⟨Nat.zero_le _, Nat.zero_le _⟩) hS (fun q _ h => hFc q h) hFc (fun v41 u41 t H locs ht hvm hw hB hz1 hk1 hS9 => ?_)
        replace hP := zkeep hP hk1
        replace hS := hS9
        clear hPc hDc hFc hk1 hz1 hvm hS9
        have f41_0 : (v41 = sBv u27_4 u27_0 u27_1.toInt.toNat) := hw
        have F41 := f41_0
        refine lv_iload_n hx hb dX10_sure_44 rfl (lv_at hl 2 rfl) ?_
        refine lv_icmp_lt (tgt := 52) hx hb dX10_sure_45 (by decide) (fun c45 => ?_) (fun c45 => ?_)
        · have c45 : v41.toInt < p1.toInt := z1 rfl rfl c45
          refine lv_iconst (v := 0) hx hb dX10_sure_52 (by decide) ?_
          have zr0 : (0 : Int32).toInt = 0 := by decide
          rw [hQ]
          exact W.iret (v := 0) hx hb hr (fun t ht hW => ⟨⟨0, (u27_2, u27_3, u27_0, u27_1, u27_4), rfl, ⟨by (try dsimp only); omega, by (try dsimp only); omega, by (try dsimp only); omega, by (try dsimp only); omega, by (try dsimp only); exact fun kc kT q_fr q_fR q_pl q_cn q_frf kt hc hb h ht => by have z := (F27 kc kT _ kt hc hb h.1 ht (by omega)); have e : v41 = sBl kc kT.1 (some kt) p0 (sLi kc kT.1 (some kt) p0).toInt.toNat := (by rw [← z.2]; exact F41.trans (z.1 _ (by omega))); have e2 := congrArg Int32.toInt e; unfold sV_sur; rw [if_pos (by omega)]; exact (if_neg (by omega)).symm⟩, ⟨by rw [ht]; exact hP, hD⟩⟩, hS.F ht⟩) hS.2.2 dX10_sure_53
        · have c45 : p1.toInt ≤ v41.toInt := z2 rfl rfl c45
          refine lv_iconst (v := 1) hx hb dX10_sure_48 (by decide) ?_
          refine lv_goto (tgt := 53) hx hb dX10_sure_49 (by decide) ?_
          have zr0 : (1 : Int32).toInt = 1 := by decide
          rw [hQ]
          exact W.iret (v := 1) hx hb hr (fun t ht hW => ⟨⟨1, (u27_2, u27_3, u27_0, u27_1, u27_4), rfl, ⟨by (try dsimp only); omega, by (try dsimp only); omega, by (try dsimp only); omega, by (try dsimp only); omega, by (try dsimp only); exact fun kc kT q_fr q_fR q_pl q_cn q_frf kt hc hb h ht => by have z := (F27 kc kT _ kt hc hb h.1 ht (by omega)); have e : v41 = sBl kc kT.1 (some kt) p0 (sLi kc kT.1 (some kt) p0).toInt.toNat := (by rw [← z.2]; exact F41.trans (z.1 _ (by omega))); have e2 := congrArg Int32.toInt e; unfold sV_sur; rw [if_pos (by omega)]; exact (if_pos (by omega)).symm⟩, ⟨by rw [ht]; exact hP, hD⟩⟩, hS.F ht⟩) hS.2.2 dX10_sure_53
      · have c17 : 1000000 < p1.toInt := z4 rfl (by decide) c17
        refine lv_iconst (v := (-1)) hx hb dX10_sure_20 (by decide) ?_
        have zr0 : ((-1) : Int32).toInt = (-1) := by decide
        rw [hQ]
        exact W.iret (v := ((-1))) hx hb hr (fun t ht hW => ⟨⟨(-1), (fL, fK, mt, lf, fW), rfl, ⟨by (try dsimp only); omega, by (try dsimp only); omega, by (try dsimp only); omega, by (try dsimp only); omega, by (try dsimp only); exact fun kc kT q_fr q_fR q_pl q_cn q_frf kt hc hb h ht => by unfold sV_sur; rw [if_neg (by omega)]; ⟩, ⟨by rw [ht]; exact hP, hD⟩⟩, hS.F ht⟩) hS.2.2 dX10_sure_21
set_option maxHeartbeats 4000000 in
set_option maxRecDepth 100000 in
theorem g_X10_next_n (l : Launch) (dC : Nat → ClassId) (dI : Nat → Nat → Nat) (cI cJ : ClassId) (h0 : Nat) (p0 : Int32) (tp : Nat) (h0_courtReader : Value) (h0_lawReader : Value) (h0_draft : Value) (aC : Nat) (h0_laws : Value) (g0 : Nat) (k0 : Nat) (ac : Nat) (sd : Nat) (mi : Nat) (dw : Nat) (rf : Nat) (lc : Int32) (lh : Int32) (br : Int32) (hi : Int32) (aR : Nat) (aB : Nat) (aP : Nat) (nb : Int32) (np : Int32) (fb : Nat → Int32) (fp : Nat → Int32) (gY : Nat) (gF : Nat) (gP : Nat) (gpn : Int32) (glt : Int32) (gsh : Int32) (gwd : Int32) (gpu : Int32) (gmo : Int32) (gfY : Nat → Int32) (gfF : Nat → Int32) (gfP : Nat → Int32) (w1 : Nat) (w2 : Nat) (aL : Nat) (aK : Nat) (mW : Nat) (mt : Int64) (lf : Int32) (mV : Nat) (mA : Nat) (mT : Nat) (fA : Nat → Int32) (sz : Nat) (n_gpn : 0 ≤ gpn.toInt ∧ gpn.toInt ≤ 20) (n_gwd : (-1) ≤ gwd.toInt ∧ gwd.toInt ≤ 5) (n_hi : 0 ≤ hi.toInt ∧ hi.toInt ≤ 1) (n_lc : 0 ≤ lc.toInt ∧ lc.toInt ≤ 4) (n_lf : 0 ≤ lf.toInt ∧ lf.toInt ≤ 9) (n_nb : 0 ≤ nb.toInt ∧ nb.toInt ≤ 6) (n_np : 0 ≤ np.toInt ∧ np.toInt ≤ 5)  (ci_gfP_zPo : zPo gfP)  : Met l yX10_next (.code yX10_next cX10_next 2 (some .int) :: wA) ({ frames := 6, cells := 0, slots := 0, locals := 155 }) (zPW (dC, dI) [(cI, .int), (cJ, .long)] [.ref h0, .int p0] sz [(h0, .inr (10, [.ref tp, h0_courtReader, h0_lawReader, h0_draft, .ref aC, h0_laws, .ref g0, .ref k0, .ref ac, .ref sd, .ref mi, .ref dw, .ref rf, .int lc, .int lh, .int br, .int hi])), (aC, .inr (1, [.ref aR, .ref aB, .ref aP, .int nb, .int np])), (aB, .inl (cI, 24, .inl fb)), (aP, .inl (cI, 20, .inl fp)), (g0, .inr (7, [.ref gY, .ref gF, .ref gP, .int gpn, .int glt, .int gsh, .int gwd, .int gpu, .int gmo])), (gY, .inl (cI, 6, .inl gfY)), (gF, .inl (cI, 5, .inl gfF)), (gP, .inl (cI, 80, .inl gfP)), (sd, .inr (8, [.ref w1, .ref w2, .ref aC, .ref g0, .ref aL, .ref aK, .null])), (mi, .inr (6, [.ref aC, .ref g0, .ref sd, .ref mW, .long mt, .int lf, .ref mV, .ref mA, .ref mT])), (mA, .inl (cI, 10, .inl fA))] (va_A [(h0, .inr (10, [.ref tp, h0_courtReader, h0_lawReader, h0_draft, .ref aC, h0_laws, .ref g0, .ref k0, .ref ac, .ref sd, .ref mi, .ref dw, .ref rf, .int lc, .int lh, .int br, .int hi])), (aC, .inr (1, [.ref aR, .ref aB, .ref aP, .int nb, .int np])), (aB, .inl (cI, 24, .inl fb)), (aP, .inl (cI, 20, .inl fp)), (g0, .inr (7, [.ref gY, .ref gF, .ref gP, .int gpn, .int glt, .int gsh, .int gwd, .int gpu, .int gmo])), (gY, .inl (cI, 6, .inl gfY)), (gF, .inl (cI, 5, .inl gfF)), (gP, .inl (cI, 80, .inl gfP)), (sd, .inr (8, [.ref w1, .ref w2, .ref aC, .ref g0, .ref aL, .ref aK, .null])), (mi, .inr (6, [.ref aC, .ref g0, .ref sd, .ref mW, .long mt, .int lf, .ref mV, .ref mA, .ref mT])), (mA, .inl (cI, 10, .inl fA))] sz)) (va_Qi (fun (r : Int32) (u : (Nat → Int32)) => ((-1) ≤ r.toInt) ∧ (r.toInt ≤ 4) ∧ (∀ (kc : zK3) (kT : zT) (q_fr : Nat → Int32) (q_fR : Nat → Int32) (q_pl : Int32) (q_cn : Int32) (q_frf : Nat → Int32), zCn q_fr fb fp nb.toInt np.toInt kc → zKo nb.toInt np.toInt kc kT → zTc nb.toInt np.toInt kT gfY gfF gfP gpn glt gsh gwd gpu gmo q_fR q_pl q_cn q_frf → r.toInt = sV_nex nb.toInt np.toInt.toNat kc kT.1 none p0)) (fun (u : (Nat → Int32)) (t : State) => va_P (dC, dI) vwCl [(h0, .inr (10, [.ref tp, h0_courtReader, h0_lawReader, h0_draft, .ref aC, h0_laws, .ref g0, .ref k0, .ref ac, .ref sd, .ref mi, .ref dw, .ref rf, .int lc, .int lh, .int br, .int hi])), (aC, .inr (1, [.ref aR, .ref aB, .ref aP, .int nb, .int np])), (aB, .inl (cI, 24, .inl fb)), (aP, .inl (cI, 20, .inl fp)), (g0, .inr (7, [.ref gY, .ref gF, .ref gP, .int gpn, .int glt, .int gsh, .int gwd, .int gpu, .int gmo])), (gY, .inl (cI, 6, .inl gfY)), (gF, .inl (cI, 5, .inl gfF)), (gP, .inl (cI, 80, .inl gfP)), (sd, .inr (8, [.ref w1, .ref w2, .ref aC, .ref g0, .ref aL, .ref aK, .null])), (mi, .inr (6, [.ref aC, .ref g0, .ref sd, .ref mW, .long mt, .int lf, .ref mV, .ref mA, .ref mT])), (mA, .inl (cI, 10, .inl u))] t.heap ∧ va_D (va_A [(h0, .inr (10, [.ref tp, h0_courtReader, h0_lawReader, h0_draft, .ref aC, h0_laws, .ref g0, .ref k0, .ref ac, .ref sd, .ref mi, .ref dw, .ref rf, .int lc, .int lh, .int br, .int hi])), (aC, .inr (1, [.ref aR, .ref aB, .ref aP, .int nb, .int np])), (aB, .inl (cI, 24, .inl fb)), (aP, .inl (cI, 20, .inl fp)), (g0, .inr (7, [.ref gY, .ref gF, .ref gP, .int gpn, .int glt, .int gsh, .int gwd, .int gpu, .int gmo])), (gY, .inl (cI, 6, .inl gfY)), (gF, .inl (cI, 5, .inl gfF)), (gP, .inl (cI, 80, .inl gfP)), (sd, .inr (8, [.ref w1, .ref w2, .ref aC, .ref g0, .ref aL, .ref aK, .null])), (mi, .inr (6, [.ref aC, .ref g0, .ref sd, .ref mW, .long mt, .int lf, .ref mV, .ref mA, .ref mT])), (mA, .inl (cI, 10, .inl fA))] sz) [(h0, .inr (10, [.ref tp, h0_courtReader, h0_lawReader, h0_draft, .ref aC, h0_laws, .ref g0, .ref k0, .ref ac, .ref sd, .ref mi, .ref dw, .ref rf, .int lc, .int lh, .int br, .int hi])), (aC, .inr (1, [.ref aR, .ref aB, .ref aP, .int nb, .int np])), (aB, .inl (cI, 24, .inl fb)), (aP, .inl (cI, 20, .inl fp)), (g0, .inr (7, [.ref gY, .ref gF, .ref gP, .int gpn, .int glt, .int gsh, .int gwd, .int gpu, .int gmo])), (gY, .inl (cI, 6, .inl gfY)), (gF, .inl (cI, 5, .inl gfF)), (gP, .inl (cI, 80, .inl gfP)), (sd, .inr (8, [.ref w1, .ref w2, .ref aC, .ref g0, .ref aL, .ref aK, .null])), (mi, .inr (6, [.ref aC, .ref g0, .ref sd, .ref mW, .long mt, .int lf, .ref mV, .ref mA, .ref mT])), (mA, .inl (cI, 10, .inl u))]) (va_A [(h0, .inr (10, [.ref tp, h0_courtReader, h0_lawReader, h0_draft, .ref aC, h0_laws, .ref g0, .ref k0, .ref ac, .ref sd, .ref mi, .ref dw, .ref rf, .int lc, .int lh, .int br, .int hi])), (aC, .inr (1, [.ref aR, .ref aB, .ref aP, .int nb, .int np])), (aB, .inl (cI, 24, .inl fb)), (aP, .inl (cI, 20, .inl fp)), (g0, .inr (7, [.ref gY, .ref gF, .ref gP, .int gpn, .int glt, .int gsh, .int gwd, .int gpu, .int gmo])), (gY, .inl (cI, 6, .inl gfY)), (gF, .inl (cI, 5, .inl gfF)), (gP, .inl (cI, 80, .inl gfP)), (sd, .inr (8, [.ref w1, .ref w2, .ref aC, .ref g0, .ref aL, .ref aK, .null])), (mi, .inr (6, [.ref aC, .ref g0, .ref sd, .ref mW, .long mt, .int lf, .ref mV, .ref mA, .ref mT])), (mA, .inl (cI, 10, .inl fA))] sz)) 0 0 (va_A [(h0, .inr (10, [.ref tp, h0_courtReader, h0_lawReader, h0_draft, .ref aC, h0_laws, .ref g0, .ref k0, .ref ac, .ref sd, .ref mi, .ref dw, .ref rf, .int lc, .int lh, .int br, .int hi])), (aC, .inr (1, [.ref aR, .ref aB, .ref aP, .int nb, .int np])), (aB, .inl (cI, 24, .inl fb)), (aP, .inl (cI, 20, .inl fp)), (g0, .inr (7, [.ref gY, .ref gF, .ref gP, .int gpn, .int glt, .int gsh, .int gwd, .int gpu, .int gmo])), (gY, .inl (cI, 6, .inl gfY)), (gF, .inl (cI, 5, .inl gfF)), (gP, .inl (cI, 80, .inl gfP)), (sd, .inr (8, [.ref w1, .ref w2, .ref aC, .ref g0, .ref aL, .ref aK, .null])), (mi, .inr (6, [.ref aC, .ref g0, .ref sd, .ref mW, .long mt, .int lf, .ref mV, .ref mA, .ref mT])), (mA, .inl (cI, 10, .inl fA))] sz) := by
  refine Met.ofW (cc := cX10_next) (maxL := 2) (ret := (some .int)) (by decide) rfl ?_
  intro p e s m args below meth c s₁ B hml hv
  have y_gpn : zHid (0 ≤ gpn.toInt ∧ gpn.toInt ≤ 20) := n_gpn
  have y_gwd : zHid ((-1) ≤ gwd.toInt ∧ gwd.toInt ≤ 5) := n_gwd
  have y_hi : zHid (0 ≤ hi.toInt ∧ hi.toInt ≤ 1) := n_hi
  have y_lc : zHid (0 ≤ lc.toInt ∧ lc.toInt ≤ 4) := n_lc
  have y_lf : zHid (0 ≤ lf.toInt ∧ lf.toInt ≤ 9) := n_lf
  clear n_gpn n_gwd n_hi n_lc n_lf
  obtain ⟨⟨hargs, hsz, hP, hK, hT⟩, hV⟩ := hv
  have hx := B.exec
  have hb := B.bytes
  have hr := B.returns
  have hts : ∀ w ∈ wA, w.before args s = true := fun w h => atoms_spec (ws := .code yX10_next cX10_next 2 (some .int) :: wA) B.pre w (List.mem_cons_of_mem _ h)
  have hown : s.vm.findClass RX10 = some m.cls := findClass_of_methodNamed B.named
  have hlocks := B.notSynchronized
  subst hsz
  have hD := hT.self (sz := s.heap.size)
  generalize hAe : va_A [(h0, .inr (10, [.ref tp, h0_courtReader, h0_lawReader, h0_draft, .ref aC, h0_laws, .ref g0, .ref k0, .ref ac, .ref sd, .ref mi, .ref dw, .ref rf, .int lc, .int lh, .int br, .int hi])), (aC, .inr (1, [.ref aR, .ref aB, .ref aP, .int nb, .int np])), (aB, .inl (cI, 24, .inl fb)), (aP, .inl (cI, 20, .inl fp)), (g0, .inr (7, [.ref gY, .ref gF, .ref gP, .int gpn, .int glt, .int gsh, .int gwd, .int gpu, .int gmo])), (gY, .inl (cI, 6, .inl gfY)), (gF, .inl (cI, 5, .inl gfF)), (gP, .inl (cI, 80, .inl gfP)), (sd, .inr (8, [.ref w1, .ref w2, .ref aC, .ref g0, .ref aL, .ref aK, .null])), (mi, .inr (6, [.ref aC, .ref g0, .ref sd, .ref mW, .long mt, .int lf, .ref mV, .ref mA, .ref mT])), (mA, .inl (cI, 10, .inl fA))] s.heap.size = A at hD hV ⊢
  have hA : ∀ q : Nat, s.heap.size ≤ q → A q := fun q h => by rw [← hAe]; exact Or.inr h
  have hl := lv_entry ([.ref h0, .int p0]) (n := 2) (Nat.le_of_ble_eq_true rfl)
  rw [show entryFrame m args 2 = entryFrame m ([.ref h0, .int p0] : List Value).toArray 2 by rw [hargs], lg_entry_eq]
  generalize (lg_sl ([.ref h0, .int p0]) ++ List.replicate (2 - (lg_sl ([.ref h0, .int p0])).length) Slot.unset).toArray = ls at hl ⊢
  have hl : lv_has ls 2 [(0, .ref h0), (1, .int p0)] := hl
  refine zstart (fun H hH => ?_)
  rw [← hH] at hP
  have hS : va_S A s.heap H [] := by rw [hH]; exact va_S.rf
  generalize ([] : List Loc) = locs at hS ⊢
  refine zgen (fun R Q hR hQ => ?_)
  refine lv_aload_n hx hb dX10_next_0 rfl (lv_at hl 0 rfl) ?_
  refine lv_iload_n hx hb dX10_next_1 rfl (lv_at hl 1 rfl) ?_
  obtain ⟨hPc, hDc⟩ := zc2 (wc := [(h0, .inr (10, [.ref tp, h0_courtReader, h0_lawReader, h0_draft, .ref aC, h0_laws, .ref g0, .ref k0, .ref ac, .ref sd, .ref mi, .ref dw, .ref rf, .int lc, .int lh, .int br, .int hi])), (aC, .inr (1, [.ref aR, .ref aB, .ref aP, .int nb, .int np]))]) hP hD [0, 1] (by decide +kernel) rfl
  have hFc := zfr hS hA
  refine va_calli (va_runV (As := [.int p0]) (rest := []) ⟨hx, hb, hml, hown, hts⟩ (g_X10_isBride l dC dI cI cJ h0 p0 (.ref tp) h0_courtReader h0_lawReader h0_draft aC h0_laws (.ref g0) (.ref k0) (.ref ac) (.ref sd) (.ref mi) (.ref dw) (.ref rf) (.int lc) (.int lh) (.int br) (.int hi) aR aB aP nb np H.size n_nb) (cwV 1 hts (zgV qw625 qw627 qw12 qw98 qw628) rfl rfl rfl hd_X10_isBride ⟨by rw [hR]; exact Nat.le_of_ble_eq_true rfl, by rw [hR]; exact Nat.le_of_ble_eq_true rfl⟩) (zPV hPc hK hDc (va_recv (q := (RX10, TX10, 17)) hK hP (ci := 10) (q0 := 0) rfl rfl)) rfl rfl hl.1 rfl (lv_room (Nat.le_of_ble_eq_true rfl)) dX10_next_2 ⟨Nat.zero_le _, Nat.zero_le _⟩) hS (fun q _ h => hFc q h) hFc (fun v2 u2 t H locs ht hvm hw hB hz1 hk1 hS9 => ?_)
  replace hP := zkeep hP hk1
  replace hS := hS9
  clear hPc hDc hFc hk1 hz1 hvm hS9
  obtain ⟨f2_0, f2_1, f2_2, f2_3⟩ : (0 ≤ v2.toInt) ∧ (v2.toInt ≤ 1) ∧ (¬ v2.toInt = 0 → (0 ≤ p0.toInt ∧ p0.toInt < nb.toInt)) ∧ (v2.toInt = 0 → ¬ (0 ≤ p0.toInt ∧ p0.toInt < nb.toInt)) := hw
  refine lv_if_eq (tgt := 19) hx hb dX10_next_5 (by decide) (fun c5 => ?_) (fun c5 => ?_)
  · have c5 : v2.toInt = 0 := z5 rfl (by decide) c5
    refine lv_iconst (v := (-1)) hx hb dX10_next_19 (by decide) ?_
    have zr0 : ((-1) : Int32).toInt = (-1) := by decide
    rw [hQ]
    exact W.iret (v := ((-1))) hx hb hr (fun t ht hW => ⟨⟨(-1), fA, rfl, ⟨by (try dsimp only); omega, by (try dsimp only); omega, fun kc kT q_fr q_fR q_pl q_cn q_frf hc hb h => by unfold sV_nex; rw [if_neg (by omega)]; decide⟩, ⟨by rw [ht]; exact hP, hD⟩⟩, hS.F ht⟩) hS.2.2 dX10_next_20
  · have c5 : ¬ v2.toInt = 0 := z6 rfl (by decide) c5
    refine lv_aload_n hx hb dX10_next_8 rfl (lv_at hl 0 rfl) ?_
    refine va_get (D := (dC, dI)) (ci := 10) (v := .ref mi) (C := RX10) (T := TX10) (N := 17) hx hb hts iX10 hown hK hP 0 rfl rfl 10 (by decide) (hts _ qw366) (fun _ h9 => h9) rfl dX10_next_9 ?_
    refine lv_iload_n hx hb dX10_next_12 rfl (lv_at hl 1 rfl) ?_
    obtain ⟨hPc, hDc, hFc⟩ := zc3 (wc := [(mi, .inr (6, [.ref aC, .ref g0, .ref sd, .ref mW, .long mt, .int lf, .ref mV, .ref mA, .ref mT])), (aC, .inr (1, [.ref aR, .ref aB, .ref aP, .int nb, .int np])), (aB, .inl (cI, 24, .inl fb)), (aP, .inl (cI, 20, .inl fp)), (g0, .inr (7, [.ref gY, .ref gF, .ref gP, .int gpn, .int glt, .int gsh, .int gwd, .int gpu, .int gmo])), (gY, .inl (cI, 6, .inl gfY)), (gF, .inl (cI, 5, .inl gfF)), (gP, .inl (cI, 80, .inl gfP)), (sd, .inr (8, [.ref w1, .ref w2, .ref aC, .ref g0, .ref aL, .ref aK, .null])), (mA, .inl (cI, 10, .inl fA))]) hP hD hS hA [9, 1, 2, 3, 4, 5, 6, 7, 8, 10] (by decide +kernel) rfl
    refine va_calli (va_runV (As := [.int p0]) (rest := []) ⟨hx, hb, hml, hown, hts⟩ (g_X6_bestSketcher_n l dC dI cI cJ mi p0 aC g0 sd mW mt lf mV mA mT aR aB aP nb np fb fp gY gF gP gpn glt gsh gwd gpu gmo gfY gfF gfP w1 w2 aL aK fA H.size y_gpn n_np (by omega) ci_gfP_zPo) (cwV 1 hts (zgV qw869 qw870 qw871 qw106 qw872) rfl rfl rfl hd_X6_bestSketcher ⟨by rw [hR]; exact Nat.le_of_ble_eq_true rfl, by rw [hR]; exact Nat.le_of_ble_eq_true rfl⟩) (zPWV hPc hK hDc (va_recv (q := (RX6, TX6, 9)) hK hP (ci := 6) (q0 := 9) rfl rfl) (zV_call hV hS hFc)) rfl rfl hl.1 rfl (lv_room (Nat.le_of_ble_eq_true rfl)) dX10_next_13 ⟨Nat.zero_le _, Nat.zero_le _⟩) hS (fun q _ h => hFc q h) hFc (fun v13 u13 t H locs ht hvm hw hB hz1 hk1 hS9 => ?_)
    obtain ⟨u13_0, rfl⟩ : ∃ z, z = u13 := ⟨_, rfl⟩
    obtain ⟨hP9, hD9⟩ := zj2 (wX := [(h0, .inr (10, [.ref tp, h0_courtReader, h0_lawReader, h0_draft, .ref aC, h0_laws, .ref g0, .ref k0, .ref ac, .ref sd, .ref mi, .ref dw, .ref rf, .int lc, .int lh, .int br, .int hi])), (aC, .inr (1, [.ref aR, .ref aB, .ref aP, .int nb, .int np])), (aB, .inl (cI, 24, .inl fb)), (aP, .inl (cI, 20, .inl fp)), (g0, .inr (7, [.ref gY, .ref gF, .ref gP, .int gpn, .int glt, .int gsh, .int gwd, .int gpu, .int gmo])), (gY, .inl (cI, 6, .inl gfY)), (gF, .inl (cI, 5, .inl gfF)), (gP, .inl (cI, 80, .inl gfP)), (sd, .inr (8, [.ref w1, .ref w2, .ref aC, .ref g0, .ref aL, .ref aK, .null])), (mi, .inr (6, [.ref aC, .ref g0, .ref sd, .ref mW, .long mt, .int lf, .ref mV, .ref mA, .ref mT])), (mA, .inl (cI, 10, .inl u13_0))]) hP hD hk1 hFc ht hB [9, 1, 2, 3, 4, 5, 6, 7, 8, 10] [(false, 0), (true, 1), (true, 2), (true, 3), (true, 4), (true, 5), (true, 6), (true, 7), (true, 8), (true, 0), (true, 9)] rfl (by decide +kernel) (by decide +kernel) rfl
    clear hP hD hS hPc hDc hFc hB hk1 hz1 hvm
    have hP := hP9
    have hD := hD9
    have hS := hS9
    clear hP9 hD9 hS9
    obtain ⟨f13_0, f13_1, f13_2⟩ : ((-1) ≤ v13.toInt) ∧ (v13.toInt ≤ 4) ∧ (∀ (kc : zK3) (kT : zT) (q_fr : Nat → Int32), zCn q_fr fb fp nb.toInt np.toInt kc → zKo nb.toInt np.toInt kc kT → zSc nb.toInt np.toInt kT.1 gfY gfF gfP gpn glt gsh gwd gpu gmo → (0 ≤ p0.toInt ∧ p0.toInt < nb.toInt) → v13.toInt = (sNe kc kT.1 none p0 np.toInt.toNat).1) := hw
    have F13 := f13_2
    refine lv_goto (tgt := 20) hx hb dX10_next_16 (by decide) ?_
    rw [hQ]
    exact W.iret (v := v13) hx hb hr (fun t ht hW => ⟨⟨v13, u13_0, rfl, ⟨by (try dsimp only); omega, by (try dsimp only); omega, fun kc kT q_fr q_fR q_pl q_cn q_frf hc hb h => by unfold sV_nex; rw [if_pos (by omega)]; exact F13 kc kT _ hc hb h.1 (by omega)⟩, ⟨by rw [ht]; exact hP, hD⟩⟩, hS.F ht⟩) hS.2.2 dX10_next_20
set_option maxHeartbeats 4000000 in
set_option maxRecDepth 100000 in
theorem g_X10_next_l (l : Launch) (dC : Nat → ClassId) (dI : Nat → Nat → Nat) (cI cJ : ClassId) (h0 : Nat) (p0 : Int32) (tp : Nat) (h0_courtReader : Value) (h0_lawReader : Value) (h0_draft : Value) (aC : Nat) (h0_laws : Value) (g0 : Nat) (k0 : Nat) (ac : Nat) (sd : Nat) (mi : Nat) (dw : Nat) (rf : Nat) (lc : Int32) (lh : Int32) (br : Int32) (hi : Int32) (aR : Nat) (aB : Nat) (aP : Nat) (nb : Int32) (np : Int32) (fb : Nat → Int32) (fp : Nat → Int32) (gY : Nat) (gF : Nat) (gP : Nat) (gpn : Int32) (glt : Int32) (gsh : Int32) (gwd : Int32) (gpu : Int32) (gmo : Int32) (gfY : Nat → Int32) (gfF : Nat → Int32) (gfP : Nat → Int32) (w1 : Nat) (w2 : Nat) (aL : Nat) (aK : Nat) (lw : Nat) (fL : Nat → Int32) (fK : Nat → Int32) (lS : Nat) (fS : Nat → Int32) (lk : Nat) (mW : Nat) (mt : Int64) (lf : Int32) (mV : Nat) (mA : Nat) (mT : Nat) (fA : Nat → Int32) (sz : Nat) (n_gpn : 0 ≤ gpn.toInt ∧ gpn.toInt ≤ 20) (n_gwd : (-1) ≤ gwd.toInt ∧ gwd.toInt ≤ 5) (n_hi : 0 ≤ hi.toInt ∧ hi.toInt ≤ 1) (n_lc : 0 ≤ lc.toInt ∧ lc.toInt ≤ 4) (n_lf : 0 ≤ lf.toInt ∧ lf.toInt ≤ 9) (n_nb : 0 ≤ nb.toInt ∧ nb.toInt ≤ 6) (n_np : 0 ≤ np.toInt ∧ np.toInt ≤ 5) (hlk : lk ≤ 241) (ci_fS_zSt : zSt fS) (ci_gfP_zPo : zPo gfP)  : Met l yX10_next (.code yX10_next cX10_next 2 (some .int) :: wA) ({ frames := 6, cells := 0, slots := 0, locals := 155 }) (zPW (dC, dI) [(cI, .int), (cJ, .long)] [.ref h0, .int p0] sz [(h0, .inr (10, [.ref tp, h0_courtReader, h0_lawReader, h0_draft, .ref aC, h0_laws, .ref g0, .ref k0, .ref ac, .ref sd, .ref mi, .ref dw, .ref rf, .int lc, .int lh, .int br, .int hi])), (aC, .inr (1, [.ref aR, .ref aB, .ref aP, .int nb, .int np])), (aB, .inl (cI, 24, .inl fb)), (aP, .inl (cI, 20, .inl fp)), (g0, .inr (7, [.ref gY, .ref gF, .ref gP, .int gpn, .int glt, .int gsh, .int gwd, .int gpu, .int gmo])), (gY, .inl (cI, 6, .inl gfY)), (gF, .inl (cI, 5, .inl gfF)), (gP, .inl (cI, 80, .inl gfP)), (sd, .inr (8, [.ref w1, .ref w2, .ref aC, .ref g0, .ref aL, .ref aK, .ref lw])), (aL, .inl (cI, 6, .inl fL)), (aK, .inl (cI, 32, .inl fK)), (lw, .inr (4, [.ref lS])), (lS, .inl (cI, lk, .inl fS)), (mi, .inr (6, [.ref aC, .ref g0, .ref sd, .ref mW, .long mt, .int lf, .ref mV, .ref mA, .ref mT])), (mA, .inl (cI, 10, .inl fA))] (va_A [(h0, .inr (10, [.ref tp, h0_courtReader, h0_lawReader, h0_draft, .ref aC, h0_laws, .ref g0, .ref k0, .ref ac, .ref sd, .ref mi, .ref dw, .ref rf, .int lc, .int lh, .int br, .int hi])), (aC, .inr (1, [.ref aR, .ref aB, .ref aP, .int nb, .int np])), (aB, .inl (cI, 24, .inl fb)), (aP, .inl (cI, 20, .inl fp)), (g0, .inr (7, [.ref gY, .ref gF, .ref gP, .int gpn, .int glt, .int gsh, .int gwd, .int gpu, .int gmo])), (gY, .inl (cI, 6, .inl gfY)), (gF, .inl (cI, 5, .inl gfF)), (gP, .inl (cI, 80, .inl gfP)), (sd, .inr (8, [.ref w1, .ref w2, .ref aC, .ref g0, .ref aL, .ref aK, .ref lw])), (aL, .inl (cI, 6, .inl fL)), (aK, .inl (cI, 32, .inl fK)), (lw, .inr (4, [.ref lS])), (lS, .inl (cI, lk, .inl fS)), (mi, .inr (6, [.ref aC, .ref g0, .ref sd, .ref mW, .long mt, .int lf, .ref mV, .ref mA, .ref mT])), (mA, .inl (cI, 10, .inl fA))] sz)) (va_Qi (fun (r : Int32) (u : (Nat → Int32) × (Nat → Int32) × (Nat → Int32)) => ((-1) ≤ r.toInt) ∧ (r.toInt ≤ 4) ∧ (∀ (kc : zK3) (kT : zT) (q_fr : Nat → Int32) (q_fR : Nat → Int32) (q_pl : Int32) (q_cn : Int32) (q_frf : Nat → Int32) (kt : (Int → Int) × Int), zCn q_fr fb fp nb.toInt np.toInt kc → zKo nb.toInt np.toInt kc kT → zTc nb.toInt np.toInt kT gfY gfF gfP gpn glt gsh gwd gpu gmo q_fR q_pl q_cn q_frf → zLwC fS lk kt → r.toInt = sV_nex nb.toInt np.toInt.toNat kc kT.1 (some kt) p0)) (fun (u : (Nat → Int32) × (Nat → Int32) × (Nat → Int32)) (t : State) => va_P (dC, dI) vwCl [(h0, .inr (10, [.ref tp, h0_courtReader, h0_lawReader, h0_draft, .ref aC, h0_laws, .ref g0, .ref k0, .ref ac, .ref sd, .ref mi, .ref dw, .ref rf, .int lc, .int lh, .int br, .int hi])), (aC, .inr (1, [.ref aR, .ref aB, .ref aP, .int nb, .int np])), (aB, .inl (cI, 24, .inl fb)), (aP, .inl (cI, 20, .inl fp)), (g0, .inr (7, [.ref gY, .ref gF, .ref gP, .int gpn, .int glt, .int gsh, .int gwd, .int gpu, .int gmo])), (gY, .inl (cI, 6, .inl gfY)), (gF, .inl (cI, 5, .inl gfF)), (gP, .inl (cI, 80, .inl gfP)), (sd, .inr (8, [.ref w1, .ref w2, .ref aC, .ref g0, .ref aL, .ref aK, .ref lw])), (aL, .inl (cI, 6, .inl u.1)), (aK, .inl (cI, 32, .inl u.2.1)), (lw, .inr (4, [.ref lS])), (lS, .inl (cI, lk, .inl fS)), (mi, .inr (6, [.ref aC, .ref g0, .ref sd, .ref mW, .long mt, .int lf, .ref mV, .ref mA, .ref mT])), (mA, .inl (cI, 10, .inl u.2.2))] t.heap ∧ va_D (va_A [(h0, .inr (10, [.ref tp, h0_courtReader, h0_lawReader, h0_draft, .ref aC, h0_laws, .ref g0, .ref k0, .ref ac, .ref sd, .ref mi, .ref dw, .ref rf, .int lc, .int lh, .int br, .int hi])), (aC, .inr (1, [.ref aR, .ref aB, .ref aP, .int nb, .int np])), (aB, .inl (cI, 24, .inl fb)), (aP, .inl (cI, 20, .inl fp)), (g0, .inr (7, [.ref gY, .ref gF, .ref gP, .int gpn, .int glt, .int gsh, .int gwd, .int gpu, .int gmo])), (gY, .inl (cI, 6, .inl gfY)), (gF, .inl (cI, 5, .inl gfF)), (gP, .inl (cI, 80, .inl gfP)), (sd, .inr (8, [.ref w1, .ref w2, .ref aC, .ref g0, .ref aL, .ref aK, .ref lw])), (aL, .inl (cI, 6, .inl fL)), (aK, .inl (cI, 32, .inl fK)), (lw, .inr (4, [.ref lS])), (lS, .inl (cI, lk, .inl fS)), (mi, .inr (6, [.ref aC, .ref g0, .ref sd, .ref mW, .long mt, .int lf, .ref mV, .ref mA, .ref mT])), (mA, .inl (cI, 10, .inl fA))] sz) [(h0, .inr (10, [.ref tp, h0_courtReader, h0_lawReader, h0_draft, .ref aC, h0_laws, .ref g0, .ref k0, .ref ac, .ref sd, .ref mi, .ref dw, .ref rf, .int lc, .int lh, .int br, .int hi])), (aC, .inr (1, [.ref aR, .ref aB, .ref aP, .int nb, .int np])), (aB, .inl (cI, 24, .inl fb)), (aP, .inl (cI, 20, .inl fp)), (g0, .inr (7, [.ref gY, .ref gF, .ref gP, .int gpn, .int glt, .int gsh, .int gwd, .int gpu, .int gmo])), (gY, .inl (cI, 6, .inl gfY)), (gF, .inl (cI, 5, .inl gfF)), (gP, .inl (cI, 80, .inl gfP)), (sd, .inr (8, [.ref w1, .ref w2, .ref aC, .ref g0, .ref aL, .ref aK, .ref lw])), (aL, .inl (cI, 6, .inl u.1)), (aK, .inl (cI, 32, .inl u.2.1)), (lw, .inr (4, [.ref lS])), (lS, .inl (cI, lk, .inl fS)), (mi, .inr (6, [.ref aC, .ref g0, .ref sd, .ref mW, .long mt, .int lf, .ref mV, .ref mA, .ref mT])), (mA, .inl (cI, 10, .inl u.2.2))]) (va_A [(h0, .inr (10, [.ref tp, h0_courtReader, h0_lawReader, h0_draft, .ref aC, h0_laws, .ref g0, .ref k0, .ref ac, .ref sd, .ref mi, .ref dw, .ref rf, .int lc, .int lh, .int br, .int hi])), (aC, .inr (1, [.ref aR, .ref aB, .ref aP, .int nb, .int np])), (aB, .inl (cI, 24, .inl fb)), (aP, .inl (cI, 20, .inl fp)), (g0, .inr (7, [.ref gY, .ref gF, .ref gP, .int gpn, .int glt, .int gsh, .int gwd, .int gpu, .int gmo])), (gY, .inl (cI, 6, .inl gfY)), (gF, .inl (cI, 5, .inl gfF)), (gP, .inl (cI, 80, .inl gfP)), (sd, .inr (8, [.ref w1, .ref w2, .ref aC, .ref g0, .ref aL, .ref aK, .ref lw])), (aL, .inl (cI, 6, .inl fL)), (aK, .inl (cI, 32, .inl fK)), (lw, .inr (4, [.ref lS])), (lS, .inl (cI, lk, .inl fS)), (mi, .inr (6, [.ref aC, .ref g0, .ref sd, .ref mW, .long mt, .int lf, .ref mV, .ref mA, .ref mT])), (mA, .inl (cI, 10, .inl fA))] sz)) 0 0 (va_A [(h0, .inr (10, [.ref tp, h0_courtReader, h0_lawReader, h0_draft, .ref aC, h0_laws, .ref g0, .ref k0, .ref ac, .ref sd, .ref mi, .ref dw, .ref rf, .int lc, .int lh, .int br, .int hi])), (aC, .inr (1, [.ref aR, .ref aB, .ref aP, .int nb, .int np])), (aB, .inl (cI, 24, .inl fb)), (aP, .inl (cI, 20, .inl fp)), (g0, .inr (7, [.ref gY, .ref gF, .ref gP, .int gpn, .int glt, .int gsh, .int gwd, .int gpu, .int gmo])), (gY, .inl (cI, 6, .inl gfY)), (gF, .inl (cI, 5, .inl gfF)), (gP, .inl (cI, 80, .inl gfP)), (sd, .inr (8, [.ref w1, .ref w2, .ref aC, .ref g0, .ref aL, .ref aK, .ref lw])), (aL, .inl (cI, 6, .inl fL)), (aK, .inl (cI, 32, .inl fK)), (lw, .inr (4, [.ref lS])), (lS, .inl (cI, lk, .inl fS)), (mi, .inr (6, [.ref aC, .ref g0, .ref sd, .ref mW, .long mt, .int lf, .ref mV, .ref mA, .ref mT])), (mA, .inl (cI, 10, .inl fA))] sz) := by
  refine Met.ofW (cc := cX10_next) (maxL := 2) (ret := (some .int)) (by decide) rfl ?_
  intro p e s m args below meth c s₁ B hml hv
  have y_gpn : zHid (0 ≤ gpn.toInt ∧ gpn.toInt ≤ 20) := n_gpn
  have y_gwd : zHid ((-1) ≤ gwd.toInt ∧ gwd.toInt ≤ 5) := n_gwd
  have y_hi : zHid (0 ≤ hi.toInt ∧ hi.toInt ≤ 1) := n_hi
  have y_lc : zHid (0 ≤ lc.toInt ∧ lc.toInt ≤ 4) := n_lc
  have y_lf : zHid (0 ≤ lf.toInt ∧ lf.toInt ≤ 9) := n_lf
  clear n_gpn n_gwd n_hi n_lc n_lf
  obtain ⟨⟨hargs, hsz, hP, hK, hT⟩, hV⟩ := hv
  have hx := B.exec
  have hb := B.bytes
  have hr := B.returns
  have hts : ∀ w ∈ wA, w.before args s = true := fun w h => atoms_spec (ws := .code yX10_next cX10_next 2 (some .int) :: wA) B.pre w (List.mem_cons_of_mem _ h)
  have hown : s.vm.findClass RX10 = some m.cls := findClass_of_methodNamed B.named
  have hlocks := B.notSynchronized
  subst hsz
  have hD := hT.self (sz := s.heap.size)
  generalize hAe : va_A [(h0, .inr (10, [.ref tp, h0_courtReader, h0_lawReader, h0_draft, .ref aC, h0_laws, .ref g0, .ref k0, .ref ac, .ref sd, .ref mi, .ref dw, .ref rf, .int lc, .int lh, .int br, .int hi])), (aC, .inr (1, [.ref aR, .ref aB, .ref aP, .int nb, .int np])), (aB, .inl (cI, 24, .inl fb)), (aP, .inl (cI, 20, .inl fp)), (g0, .inr (7, [.ref gY, .ref gF, .ref gP, .int gpn, .int glt, .int gsh, .int gwd, .int gpu, .int gmo])), (gY, .inl (cI, 6, .inl gfY)), (gF, .inl (cI, 5, .inl gfF)), (gP, .inl (cI, 80, .inl gfP)), (sd, .inr (8, [.ref w1, .ref w2, .ref aC, .ref g0, .ref aL, .ref aK, .ref lw])), (aL, .inl (cI, 6, .inl fL)), (aK, .inl (cI, 32, .inl fK)), (lw, .inr (4, [.ref lS])), (lS, .inl (cI, lk, .inl fS)), (mi, .inr (6, [.ref aC, .ref g0, .ref sd, .ref mW, .long mt, .int lf, .ref mV, .ref mA, .ref mT])), (mA, .inl (cI, 10, .inl fA))] s.heap.size = A at hD hV ⊢
  have hA : ∀ q : Nat, s.heap.size ≤ q → A q := fun q h => by rw [← hAe]; exact Or.inr h
  have hl := lv_entry ([.ref h0, .int p0]) (n := 2) (Nat.le_of_ble_eq_true rfl)
  rw [show entryFrame m args 2 = entryFrame m ([.ref h0, .int p0] : List Value).toArray 2 by rw [hargs], lg_entry_eq]
  generalize (lg_sl ([.ref h0, .int p0]) ++ List.replicate (2 - (lg_sl ([.ref h0, .int p0])).length) Slot.unset).toArray = ls at hl ⊢
  have hl : lv_has ls 2 [(0, .ref h0), (1, .int p0)] := hl
  refine zstart (fun H hH => ?_)
  rw [← hH] at hP
  have hS : va_S A s.heap H [] := by rw [hH]; exact va_S.rf
  generalize ([] : List Loc) = locs at hS ⊢
  refine zgen (fun R Q hR hQ => ?_)
  refine lv_aload_n hx hb dX10_next_0 rfl (lv_at hl 0 rfl) ?_
  refine lv_iload_n hx hb dX10_next_1 rfl (lv_at hl 1 rfl) ?_
  obtain ⟨hPc, hDc⟩ := zc2 (wc := [(h0, .inr (10, [.ref tp, h0_courtReader, h0_lawReader, h0_draft, .ref aC, h0_laws, .ref g0, .ref k0, .ref ac, .ref sd, .ref mi, .ref dw, .ref rf, .int lc, .int lh, .int br, .int hi])), (aC, .inr (1, [.ref aR, .ref aB, .ref aP, .int nb, .int np]))]) hP hD [0, 1] (by decide +kernel) rfl
  have hFc := zfr hS hA
  refine va_calli (va_runV (As := [.int p0]) (rest := []) ⟨hx, hb, hml, hown, hts⟩ (g_X10_isBride l dC dI cI cJ h0 p0 (.ref tp) h0_courtReader h0_lawReader h0_draft aC h0_laws (.ref g0) (.ref k0) (.ref ac) (.ref sd) (.ref mi) (.ref dw) (.ref rf) (.int lc) (.int lh) (.int br) (.int hi) aR aB aP nb np H.size n_nb) (cwV 1 hts (zgV qw625 qw627 qw12 qw98 qw628) rfl rfl rfl hd_X10_isBride ⟨by rw [hR]; exact Nat.le_of_ble_eq_true rfl, by rw [hR]; exact Nat.le_of_ble_eq_true rfl⟩) (zPV hPc hK hDc (va_recv (q := (RX10, TX10, 17)) hK hP (ci := 10) (q0 := 0) rfl rfl)) rfl rfl hl.1 rfl (lv_room (Nat.le_of_ble_eq_true rfl)) dX10_next_2 ⟨Nat.zero_le _, Nat.zero_le _⟩) hS (fun q _ h => hFc q h) hFc (fun v2 u2 t H locs ht hvm hw hB hz1 hk1 hS9 => ?_)
  replace hP := zkeep hP hk1
  replace hS := hS9
  clear hPc hDc hFc hk1 hz1 hvm hS9
  obtain ⟨f2_0, f2_1, f2_2, f2_3⟩ : (0 ≤ v2.toInt) ∧ (v2.toInt ≤ 1) ∧ (¬ v2.toInt = 0 → (0 ≤ p0.toInt ∧ p0.toInt < nb.toInt)) ∧ (v2.toInt = 0 → ¬ (0 ≤ p0.toInt ∧ p0.toInt < nb.toInt)) := hw
  refine lv_if_eq (tgt := 19) hx hb dX10_next_5 (by decide) (fun c5 => ?_) (fun c5 => ?_)
  · have c5 : v2.toInt = 0 := z5 rfl (by decide) c5
    refine lv_iconst (v := (-1)) hx hb dX10_next_19 (by decide) ?_
    have zr0 : ((-1) : Int32).toInt = (-1) := by decide
    rw [hQ]
    exact W.iret (v := ((-1))) hx hb hr (fun t ht hW => ⟨⟨(-1), (fL, fK, fA), rfl, ⟨by (try dsimp only); omega, by (try dsimp only); omega, by (try dsimp only); exact fun kc kT q_fr q_fR q_pl q_cn q_frf kt hc hb h ht => by unfold sV_nex; rw [if_neg (by omega)]; decide⟩, ⟨by rw [ht]; exact hP, hD⟩⟩, hS.F ht⟩) hS.2.2 dX10_next_20
  · have c5 : ¬ v2.toInt = 0 := z6 rfl (by decide) c5
    refine lv_aload_n hx hb dX10_next_8 rfl (lv_at hl 0 rfl) ?_
    refine va_get (D := (dC, dI)) (ci := 10) (v := .ref mi) (C := RX10) (T := TX10) (N := 17) hx hb hts iX10 hown hK hP 0 rfl rfl 10 (by decide) (hts _ qw366) (fun _ h9 => h9) rfl dX10_next_9 ?_
    refine lv_iload_n hx hb dX10_next_12 rfl (lv_at hl 1 rfl) ?_
    obtain ⟨hPc, hDc, hFc⟩ := zc3 (wc := [(mi, .inr (6, [.ref aC, .ref g0, .ref sd, .ref mW, .long mt, .int lf, .ref mV, .ref mA, .ref mT])), (aC, .inr (1, [.ref aR, .ref aB, .ref aP, .int nb, .int np])), (aB, .inl (cI, 24, .inl fb)), (aP, .inl (cI, 20, .inl fp)), (g0, .inr (7, [.ref gY, .ref gF, .ref gP, .int gpn, .int glt, .int gsh, .int gwd, .int gpu, .int gmo])), (gY, .inl (cI, 6, .inl gfY)), (gF, .inl (cI, 5, .inl gfF)), (gP, .inl (cI, 80, .inl gfP)), (sd, .inr (8, [.ref w1, .ref w2, .ref aC, .ref g0, .ref aL, .ref aK, .ref lw])), (aL, .inl (cI, 6, .inl fL)), (aK, .inl (cI, 32, .inl fK)), (lw, .inr (4, [.ref lS])), (lS, .inl (cI, lk, .inl fS)), (mA, .inl (cI, 10, .inl fA))]) hP hD hS hA [13, 1, 2, 3, 4, 5, 6, 7, 8, 9, 10, 11, 12, 14] (by decide +kernel) rfl
    refine va_calli (va_runV (As := [.int p0]) (rest := []) ⟨hx, hb, hml, hown, hts⟩ (g_X6_bestSketcher_l l dC dI cI cJ mi p0 aC g0 sd mW mt lf mV mA mT aR aB aP nb np fb fp gY gF gP gpn glt gsh gwd gpu gmo gfY gfF gfP w1 w2 aL aK lw fL fK lS fS lk fA H.size y_gpn n_np (by omega) (hlk) ci_fS_zSt ci_gfP_zPo) (cwV 1 hts (zgV qw869 qw870 qw871 qw106 qw872) rfl rfl rfl hd_X6_bestSketcher ⟨by rw [hR]; exact Nat.le_of_ble_eq_true rfl, by rw [hR]; exact Nat.le_of_ble_eq_true rfl⟩) (zPWV hPc hK hDc (va_recv (q := (RX6, TX6, 9)) hK hP (ci := 6) (q0 := 13) rfl rfl) (zV_call hV hS hFc)) rfl rfl hl.1 rfl (lv_room (Nat.le_of_ble_eq_true rfl)) dX10_next_13 ⟨Nat.zero_le _, Nat.zero_le _⟩) hS (fun q _ h => hFc q h) hFc (fun v13 u13 t H locs ht hvm hw hB hz1 hk1 hS9 => ?_)
    obtain ⟨u13_0, u13_1, u13_2⟩ := u13
    obtain ⟨hP9, hD9⟩ := zj2 (wX := [(h0, .inr (10, [.ref tp, h0_courtReader, h0_lawReader, h0_draft, .ref aC, h0_laws, .ref g0, .ref k0, .ref ac, .ref sd, .ref mi, .ref dw, .ref rf, .int lc, .int lh, .int br, .int hi])), (aC, .inr (1, [.ref aR, .ref aB, .ref aP, .int nb, .int np])), (aB, .inl (cI, 24, .inl fb)), (aP, .inl (cI, 20, .inl fp)), (g0, .inr (7, [.ref gY, .ref gF, .ref gP, .int gpn, .int glt, .int gsh, .int gwd, .int gpu, .int gmo])), (gY, .inl (cI, 6, .inl gfY)), (gF, .inl (cI, 5, .inl gfF)), (gP, .inl (cI, 80, .inl gfP)), (sd, .inr (8, [.ref w1, .ref w2, .ref aC, .ref g0, .ref aL, .ref aK, .ref lw])), (aL, .inl (cI, 6, .inl u13_0)), (aK, .inl (cI, 32, .inl u13_1)), (lw, .inr (4, [.ref lS])), (lS, .inl (cI, lk, .inl fS)), (mi, .inr (6, [.ref aC, .ref g0, .ref sd, .ref mW, .long mt, .int lf, .ref mV, .ref mA, .ref mT])), (mA, .inl (cI, 10, .inl u13_2))]) hP hD hk1 hFc ht hB [13, 1, 2, 3, 4, 5, 6, 7, 8, 9, 10, 11, 12, 14] [(false, 0), (true, 1), (true, 2), (true, 3), (true, 4), (true, 5), (true, 6), (true, 7), (true, 8), (true, 9), (true, 10), (true, 11), (true, 12), (true, 0), (true, 13)] rfl (by decide +kernel) (by decide +kernel) rfl
    clear hP hD hS hPc hDc hFc hB hk1 hz1 hvm
    have hP := hP9
    have hD := hD9
    have hS := hS9
    clear hP9 hD9 hS9
    obtain ⟨f13_0, f13_1, f13_2⟩ : ((-1) ≤ v13.toInt) ∧ (v13.toInt ≤ 4) ∧ (∀ (kc : zK3) (kT : zT) (q_fr : Nat → Int32) (kt : (Int → Int) × Int), zCn q_fr fb fp nb.toInt np.toInt kc → zKo nb.toInt np.toInt kc kT → zSc nb.toInt np.toInt kT.1 gfY gfF gfP gpn glt gsh gwd gpu gmo → zLwC fS lk kt → (0 ≤ p0.toInt ∧ p0.toInt < nb.toInt) → v13.toInt = (sNe kc kT.1 (some kt) p0 np.toInt.toNat).1) := hw
    have F13 := f13_2
    refine lv_goto (tgt := 20) hx hb dX10_next_16 (by decide) ?_
    rw [hQ]
    exact W.iret (v := v13) hx hb hr (fun t ht hW => ⟨⟨v13, (u13_0, u13_1, u13_2), rfl, ⟨by (try dsimp only); omega, by (try dsimp only); omega, by (try dsimp only); exact fun kc kT q_fr q_fR q_pl q_cn q_frf kt hc hb h ht => by unfold sV_nex; rw [if_pos (by omega)]; exact F13 kc kT _ kt hc hb h.1 ht (by omega)⟩, ⟨by rw [ht]; exact hP, hD⟩⟩, hS.F ht⟩) hS.2.2 dX10_next_20
set_option maxHeartbeats 4000000 in
set_option maxRecDepth 100000 in
theorem g_X10_apart_n (l : Launch) (dC : Nat → ClassId) (dI : Nat → Nat → Nat) (cI cJ : ClassId) (h0 : Nat) (p0 : Int32) (tp : Nat) (h0_courtReader : Value) (h0_lawReader : Value) (h0_draft : Value) (aC : Nat) (h0_laws : Value) (g0 : Nat) (k0 : Nat) (ac : Nat) (sd : Nat) (mi : Nat) (dw : Nat) (rf : Nat) (lc : Int32) (lh : Int32) (br : Int32) (hi : Int32) (aR : Nat) (aB : Nat) (aP : Nat) (nb : Int32) (np : Int32) (fb : Nat → Int32) (fp : Nat → Int32) (gY : Nat) (gF : Nat) (gP : Nat) (gpn : Int32) (glt : Int32) (gsh : Int32) (gwd : Int32) (gpu : Int32) (gmo : Int32) (gfY : Nat → Int32) (gfF : Nat → Int32) (gfP : Nat → Int32) (w1 : Nat) (w2 : Nat) (aL : Nat) (aK : Nat) (mW : Nat) (mt : Int64) (lf : Int32) (mV : Nat) (mA : Nat) (mT : Nat) (fV : Nat → Int32) (fT : Nat → Int32) (sz : Nat) (n_gpn : 0 ≤ gpn.toInt ∧ gpn.toInt ≤ 20) (n_gwd : (-1) ≤ gwd.toInt ∧ gwd.toInt ≤ 5) (n_hi : 0 ≤ hi.toInt ∧ hi.toInt ≤ 1) (n_lc : 0 ≤ lc.toInt ∧ lc.toInt ≤ 4) (n_lf : 0 ≤ lf.toInt ∧ lf.toInt ≤ 9) (n_nb : 0 ≤ nb.toInt ∧ nb.toInt ≤ 6) (n_np : 0 ≤ np.toInt ∧ np.toInt ≤ 5)  (ci_gfP_zPo : zPo gfP)  : Met l yX10_apart (.code yX10_apart cX10_apart 2 (some .int) :: wA) ({ frames := 6, cells := 0, slots := 0, locals := 155 }) (zPW (dC, dI) [(cI, .int), (cJ, .long)] [.ref h0, .int p0] sz [(h0, .inr (10, [.ref tp, h0_courtReader, h0_lawReader, h0_draft, .ref aC, h0_laws, .ref g0, .ref k0, .ref ac, .ref sd, .ref mi, .ref dw, .ref rf, .int lc, .int lh, .int br, .int hi])), (aC, .inr (1, [.ref aR, .ref aB, .ref aP, .int nb, .int np])), (aB, .inl (cI, 24, .inl fb)), (aP, .inl (cI, 20, .inl fp)), (g0, .inr (7, [.ref gY, .ref gF, .ref gP, .int gpn, .int glt, .int gsh, .int gwd, .int gpu, .int gmo])), (gY, .inl (cI, 6, .inl gfY)), (gF, .inl (cI, 5, .inl gfF)), (gP, .inl (cI, 80, .inl gfP)), (sd, .inr (8, [.ref w1, .ref w2, .ref aC, .ref g0, .ref aL, .ref aK, .null])), (mi, .inr (6, [.ref aC, .ref g0, .ref sd, .ref mW, .long mt, .int lf, .ref mV, .ref mA, .ref mT])), (mV, .inl (cI, 10, .inl fV)), (mT, .inl (cI, 45, .inl fT))] (va_A [(h0, .inr (10, [.ref tp, h0_courtReader, h0_lawReader, h0_draft, .ref aC, h0_laws, .ref g0, .ref k0, .ref ac, .ref sd, .ref mi, .ref dw, .ref rf, .int lc, .int lh, .int br, .int hi])), (aC, .inr (1, [.ref aR, .ref aB, .ref aP, .int nb, .int np])), (aB, .inl (cI, 24, .inl fb)), (aP, .inl (cI, 20, .inl fp)), (g0, .inr (7, [.ref gY, .ref gF, .ref gP, .int gpn, .int glt, .int gsh, .int gwd, .int gpu, .int gmo])), (gY, .inl (cI, 6, .inl gfY)), (gF, .inl (cI, 5, .inl gfF)), (gP, .inl (cI, 80, .inl gfP)), (sd, .inr (8, [.ref w1, .ref w2, .ref aC, .ref g0, .ref aL, .ref aK, .null])), (mi, .inr (6, [.ref aC, .ref g0, .ref sd, .ref mW, .long mt, .int lf, .ref mV, .ref mA, .ref mT])), (mV, .inl (cI, 10, .inl fV)), (mT, .inl (cI, 45, .inl fT))] sz)) (va_Qi (fun (r : Int32) (u : (Nat → Int32) × (Nat → Int32)) => ((-1) ≤ r.toInt) ∧ (r.toInt ≤ 98) ∧ (∀ (kc : zK3) (kT : zT) (q_fr : Nat → Int32) (q_fR : Nat → Int32) (q_pl : Int32) (q_cn : Int32) (q_frf : Nat → Int32), zCn q_fr fb fp nb.toInt np.toInt kc → zKo nb.toInt np.toInt kc kT → zTc nb.toInt np.toInt kT gfY gfF gfP gpn glt gsh gwd gpu gmo q_fR q_pl q_cn q_frf → r.toInt = sV_apa nb.toInt np.toInt.toNat kc kT.1 none p0)) (fun (u : (Nat → Int32) × (Nat → Int32)) (t : State) => va_P (dC, dI) vwCl [(h0, .inr (10, [.ref tp, h0_courtReader, h0_lawReader, h0_draft, .ref aC, h0_laws, .ref g0, .ref k0, .ref ac, .ref sd, .ref mi, .ref dw, .ref rf, .int lc, .int lh, .int br, .int hi])), (aC, .inr (1, [.ref aR, .ref aB, .ref aP, .int nb, .int np])), (aB, .inl (cI, 24, .inl fb)), (aP, .inl (cI, 20, .inl fp)), (g0, .inr (7, [.ref gY, .ref gF, .ref gP, .int gpn, .int glt, .int gsh, .int gwd, .int gpu, .int gmo])), (gY, .inl (cI, 6, .inl gfY)), (gF, .inl (cI, 5, .inl gfF)), (gP, .inl (cI, 80, .inl gfP)), (sd, .inr (8, [.ref w1, .ref w2, .ref aC, .ref g0, .ref aL, .ref aK, .null])), (mi, .inr (6, [.ref aC, .ref g0, .ref sd, .ref mW, .long mt, .int lf, .ref mV, .ref mA, .ref mT])), (mV, .inl (cI, 10, .inl u.1)), (mT, .inl (cI, 45, .inl u.2))] t.heap ∧ va_D (va_A [(h0, .inr (10, [.ref tp, h0_courtReader, h0_lawReader, h0_draft, .ref aC, h0_laws, .ref g0, .ref k0, .ref ac, .ref sd, .ref mi, .ref dw, .ref rf, .int lc, .int lh, .int br, .int hi])), (aC, .inr (1, [.ref aR, .ref aB, .ref aP, .int nb, .int np])), (aB, .inl (cI, 24, .inl fb)), (aP, .inl (cI, 20, .inl fp)), (g0, .inr (7, [.ref gY, .ref gF, .ref gP, .int gpn, .int glt, .int gsh, .int gwd, .int gpu, .int gmo])), (gY, .inl (cI, 6, .inl gfY)), (gF, .inl (cI, 5, .inl gfF)), (gP, .inl (cI, 80, .inl gfP)), (sd, .inr (8, [.ref w1, .ref w2, .ref aC, .ref g0, .ref aL, .ref aK, .null])), (mi, .inr (6, [.ref aC, .ref g0, .ref sd, .ref mW, .long mt, .int lf, .ref mV, .ref mA, .ref mT])), (mV, .inl (cI, 10, .inl fV)), (mT, .inl (cI, 45, .inl fT))] sz) [(h0, .inr (10, [.ref tp, h0_courtReader, h0_lawReader, h0_draft, .ref aC, h0_laws, .ref g0, .ref k0, .ref ac, .ref sd, .ref mi, .ref dw, .ref rf, .int lc, .int lh, .int br, .int hi])), (aC, .inr (1, [.ref aR, .ref aB, .ref aP, .int nb, .int np])), (aB, .inl (cI, 24, .inl fb)), (aP, .inl (cI, 20, .inl fp)), (g0, .inr (7, [.ref gY, .ref gF, .ref gP, .int gpn, .int glt, .int gsh, .int gwd, .int gpu, .int gmo])), (gY, .inl (cI, 6, .inl gfY)), (gF, .inl (cI, 5, .inl gfF)), (gP, .inl (cI, 80, .inl gfP)), (sd, .inr (8, [.ref w1, .ref w2, .ref aC, .ref g0, .ref aL, .ref aK, .null])), (mi, .inr (6, [.ref aC, .ref g0, .ref sd, .ref mW, .long mt, .int lf, .ref mV, .ref mA, .ref mT])), (mV, .inl (cI, 10, .inl u.1)), (mT, .inl (cI, 45, .inl u.2))]) (va_A [(h0, .inr (10, [.ref tp, h0_courtReader, h0_lawReader, h0_draft, .ref aC, h0_laws, .ref g0, .ref k0, .ref ac, .ref sd, .ref mi, .ref dw, .ref rf, .int lc, .int lh, .int br, .int hi])), (aC, .inr (1, [.ref aR, .ref aB, .ref aP, .int nb, .int np])), (aB, .inl (cI, 24, .inl fb)), (aP, .inl (cI, 20, .inl fp)), (g0, .inr (7, [.ref gY, .ref gF, .ref gP, .int gpn, .int glt, .int gsh, .int gwd, .int gpu, .int gmo])), (gY, .inl (cI, 6, .inl gfY)), (gF, .inl (cI, 5, .inl gfF)), (gP, .inl (cI, 80, .inl gfP)), (sd, .inr (8, [.ref w1, .ref w2, .ref aC, .ref g0, .ref aL, .ref aK, .null])), (mi, .inr (6, [.ref aC, .ref g0, .ref sd, .ref mW, .long mt, .int lf, .ref mV, .ref mA, .ref mT])), (mV, .inl (cI, 10, .inl fV)), (mT, .inl (cI, 45, .inl fT))] sz)) 0 0 (va_A [(h0, .inr (10, [.ref tp, h0_courtReader, h0_lawReader, h0_draft, .ref aC, h0_laws, .ref g0, .ref k0, .ref ac, .ref sd, .ref mi, .ref dw, .ref rf, .int lc, .int lh, .int br, .int hi])), (aC, .inr (1, [.ref aR, .ref aB, .ref aP, .int nb, .int np])), (aB, .inl (cI, 24, .inl fb)), (aP, .inl (cI, 20, .inl fp)), (g0, .inr (7, [.ref gY, .ref gF, .ref gP, .int gpn, .int glt, .int gsh, .int gwd, .int gpu, .int gmo])), (gY, .inl (cI, 6, .inl gfY)), (gF, .inl (cI, 5, .inl gfF)), (gP, .inl (cI, 80, .inl gfP)), (sd, .inr (8, [.ref w1, .ref w2, .ref aC, .ref g0, .ref aL, .ref aK, .null])), (mi, .inr (6, [.ref aC, .ref g0, .ref sd, .ref mW, .long mt, .int lf, .ref mV, .ref mA, .ref mT])), (mV, .inl (cI, 10, .inl fV)), (mT, .inl (cI, 45, .inl fT))] sz) := by
  refine Met.ofW (cc := cX10_apart) (maxL := 2) (ret := (some .int)) (by decide) rfl ?_
  intro p e s m args below meth c s₁ B hml hv
  have y_gpn : zHid (0 ≤ gpn.toInt ∧ gpn.toInt ≤ 20) := n_gpn
  have y_gwd : zHid ((-1) ≤ gwd.toInt ∧ gwd.toInt ≤ 5) := n_gwd
  have y_hi : zHid (0 ≤ hi.toInt ∧ hi.toInt ≤ 1) := n_hi
  have y_lc : zHid (0 ≤ lc.toInt ∧ lc.toInt ≤ 4) := n_lc
  have y_lf : zHid (0 ≤ lf.toInt ∧ lf.toInt ≤ 9) := n_lf
  clear n_gpn n_gwd n_hi n_lc n_lf
  obtain ⟨⟨hargs, hsz, hP, hK, hT⟩, hV⟩ := hv
  have hx := B.exec
  have hb := B.bytes
  have hr := B.returns
  have hts : ∀ w ∈ wA, w.before args s = true := fun w h => atoms_spec (ws := .code yX10_apart cX10_apart 2 (some .int) :: wA) B.pre w (List.mem_cons_of_mem _ h)
  have hown : s.vm.findClass RX10 = some m.cls := findClass_of_methodNamed B.named
  have hlocks := B.notSynchronized
  subst hsz
  have hD := hT.self (sz := s.heap.size)
  generalize hAe : va_A [(h0, .inr (10, [.ref tp, h0_courtReader, h0_lawReader, h0_draft, .ref aC, h0_laws, .ref g0, .ref k0, .ref ac, .ref sd, .ref mi, .ref dw, .ref rf, .int lc, .int lh, .int br, .int hi])), (aC, .inr (1, [.ref aR, .ref aB, .ref aP, .int nb, .int np])), (aB, .inl (cI, 24, .inl fb)), (aP, .inl (cI, 20, .inl fp)), (g0, .inr (7, [.ref gY, .ref gF, .ref gP, .int gpn, .int glt, .int gsh, .int gwd, .int gpu, .int gmo])), (gY, .inl (cI, 6, .inl gfY)), (gF, .inl (cI, 5, .inl gfF)), (gP, .inl (cI, 80, .inl gfP)), (sd, .inr (8, [.ref w1, .ref w2, .ref aC, .ref g0, .ref aL, .ref aK, .null])), (mi, .inr (6, [.ref aC, .ref g0, .ref sd, .ref mW, .long mt, .int lf, .ref mV, .ref mA, .ref mT])), (mV, .inl (cI, 10, .inl fV)), (mT, .inl (cI, 45, .inl fT))] s.heap.size = A at hD hV ⊢
  have hA : ∀ q : Nat, s.heap.size ≤ q → A q := fun q h => by rw [← hAe]; exact Or.inr h
  have hl := lv_entry ([.ref h0, .int p0]) (n := 2) (Nat.le_of_ble_eq_true rfl)
  rw [show entryFrame m args 2 = entryFrame m ([.ref h0, .int p0] : List Value).toArray 2 by rw [hargs], lg_entry_eq]
  generalize (lg_sl ([.ref h0, .int p0]) ++ List.replicate (2 - (lg_sl ([.ref h0, .int p0])).length) Slot.unset).toArray = ls at hl ⊢
  have hl : lv_has ls 2 [(0, .ref h0), (1, .int p0)] := hl
  refine zstart (fun H hH => ?_)
  rw [← hH] at hP
  have hS : va_S A s.heap H [] := by rw [hH]; exact va_S.rf
  generalize ([] : List Loc) = locs at hS ⊢
  refine zgen (fun R Q hR hQ => ?_)
  refine lv_aload_n hx hb dX10_apart_0 rfl (lv_at hl 0 rfl) ?_
  refine lv_iload_n hx hb dX10_apart_1 rfl (lv_at hl 1 rfl) ?_
  obtain ⟨hPc, hDc⟩ := zc2 (wc := [(h0, .inr (10, [.ref tp, h0_courtReader, h0_lawReader, h0_draft, .ref aC, h0_laws, .ref g0, .ref k0, .ref ac, .ref sd, .ref mi, .ref dw, .ref rf, .int lc, .int lh, .int br, .int hi])), (aC, .inr (1, [.ref aR, .ref aB, .ref aP, .int nb, .int np]))]) hP hD [0, 1] (by decide +kernel) rfl
  have hFc := zfr hS hA
  refine va_calli (va_runV (As := [.int p0]) (rest := []) ⟨hx, hb, hml, hown, hts⟩ (g_X10_isBride l dC dI cI cJ h0 p0 (.ref tp) h0_courtReader h0_lawReader h0_draft aC h0_laws (.ref g0) (.ref k0) (.ref ac) (.ref sd) (.ref mi) (.ref dw) (.ref rf) (.int lc) (.int lh) (.int br) (.int hi) aR aB aP nb np H.size n_nb) (cwV 1 hts (zgV qw625 qw627 qw12 qw98 qw628) rfl rfl rfl hd_X10_isBride ⟨by rw [hR]; exact Nat.le_of_ble_eq_true rfl, by rw [hR]; exact Nat.le_of_ble_eq_true rfl⟩) (zPV hPc hK hDc (va_recv (q := (RX10, TX10, 17)) hK hP (ci := 10) (q0 := 0) rfl rfl)) rfl rfl hl.1 rfl (lv_room (Nat.le_of_ble_eq_true rfl)) dX10_apart_2 ⟨Nat.zero_le _, Nat.zero_le _⟩) hS (fun q _ h => hFc q h) hFc (fun v2 u2 t H locs ht hvm hw hB hz1 hk1 hS9 => ?_)
  replace hP := zkeep hP hk1
  replace hS := hS9
  clear hPc hDc hFc hk1 hz1 hvm hS9
  obtain ⟨f2_0, f2_1, f2_2, f2_3⟩ : (0 ≤ v2.toInt) ∧ (v2.toInt ≤ 1) ∧ (¬ v2.toInt = 0 → (0 ≤ p0.toInt ∧ p0.toInt < nb.toInt)) ∧ (v2.toInt = 0 → ¬ (0 ≤ p0.toInt ∧ p0.toInt < nb.toInt)) := hw
  refine lv_if_eq (tgt := 19) hx hb dX10_apart_5 (by decide) (fun c5 => ?_) (fun c5 => ?_)
  · have c5 : v2.toInt = 0 := z5 rfl (by decide) c5
    refine lv_iconst (v := (-1)) hx hb dX10_apart_19 (by decide) ?_
    have zr0 : ((-1) : Int32).toInt = (-1) := by decide
    rw [hQ]
    exact W.iret (v := ((-1))) hx hb hr (fun t ht hW => ⟨⟨(-1), (fV, fT), rfl, ⟨by (try dsimp only); omega, by (try dsimp only); omega, by (try dsimp only); exact fun kc kT q_fr q_fR q_pl q_cn q_frf hc hb h => by unfold sV_apa; rw [if_neg (by omega)]; decide⟩, ⟨by rw [ht]; exact hP, hD⟩⟩, hS.F ht⟩) hS.2.2 dX10_apart_20
  · have c5 : ¬ v2.toInt = 0 := z6 rfl (by decide) c5
    refine lv_aload_n hx hb dX10_apart_8 rfl (lv_at hl 0 rfl) ?_
    refine va_get (D := (dC, dI)) (ci := 10) (v := .ref mi) (C := RX10) (T := TX10) (N := 17) hx hb hts iX10 hown hK hP 0 rfl rfl 10 (by decide) (hts _ qw366) (fun _ h9 => h9) rfl dX10_apart_9 ?_
    refine lv_iload_n hx hb dX10_apart_12 rfl (lv_at hl 1 rfl) ?_
    obtain ⟨hPc, hDc, hFc⟩ := zc3 (wc := [(mi, .inr (6, [.ref aC, .ref g0, .ref sd, .ref mW, .long mt, .int lf, .ref mV, .ref mA, .ref mT])), (aC, .inr (1, [.ref aR, .ref aB, .ref aP, .int nb, .int np])), (aB, .inl (cI, 24, .inl fb)), (aP, .inl (cI, 20, .inl fp)), (g0, .inr (7, [.ref gY, .ref gF, .ref gP, .int gpn, .int glt, .int gsh, .int gwd, .int gpu, .int gmo])), (gY, .inl (cI, 6, .inl gfY)), (gF, .inl (cI, 5, .inl gfF)), (gP, .inl (cI, 80, .inl gfP)), (sd, .inr (8, [.ref w1, .ref w2, .ref aC, .ref g0, .ref aL, .ref aK, .null])), (mV, .inl (cI, 10, .inl fV)), (mT, .inl (cI, 45, .inl fT))]) hP hD hS hA [9, 1, 2, 3, 4, 5, 6, 7, 8, 10, 11] (by decide +kernel) rfl
    refine va_calli (va_runV (As := [.int p0]) (rest := []) ⟨hx, hb, hml, hown, hts⟩ (g_X6_fewestSketchers_n l dC dI cI cJ mi p0 aC g0 sd mW mt lf mV mA mT aR aB aP nb np fb fp gY gF gP gpn glt gsh gwd gpu gmo gfY gfF gfP w1 w2 aL aK fV fT H.size y_gpn n_np (by omega) ci_gfP_zPo) (cwV 1 hts (zgV qw884 qw885 qw886 qw106 qw887) rfl rfl rfl hd_X6_fewestSketchers ⟨by rw [hR]; exact Nat.le_of_ble_eq_true rfl, by rw [hR]; exact Nat.le_of_ble_eq_true rfl⟩) (zPWV hPc hK hDc (va_recv (q := (RX6, TX6, 9)) hK hP (ci := 6) (q0 := 9) rfl rfl) (zV_call hV hS hFc)) rfl rfl hl.1 rfl (lv_room (Nat.le_of_ble_eq_true rfl)) dX10_apart_13 ⟨Nat.zero_le _, Nat.zero_le _⟩) hS (fun q _ h => hFc q h) hFc (fun v13 u13 t H locs ht hvm hw hB hz1 hk1 hS9 => ?_)
    obtain ⟨u13_0, u13_1⟩ := u13
    obtain ⟨hP9, hD9⟩ := zj2 (wX := [(h0, .inr (10, [.ref tp, h0_courtReader, h0_lawReader, h0_draft, .ref aC, h0_laws, .ref g0, .ref k0, .ref ac, .ref sd, .ref mi, .ref dw, .ref rf, .int lc, .int lh, .int br, .int hi])), (aC, .inr (1, [.ref aR, .ref aB, .ref aP, .int nb, .int np])), (aB, .inl (cI, 24, .inl fb)), (aP, .inl (cI, 20, .inl fp)), (g0, .inr (7, [.ref gY, .ref gF, .ref gP, .int gpn, .int glt, .int gsh, .int gwd, .int gpu, .int gmo])), (gY, .inl (cI, 6, .inl gfY)), (gF, .inl (cI, 5, .inl gfF)), (gP, .inl (cI, 80, .inl gfP)), (sd, .inr (8, [.ref w1, .ref w2, .ref aC, .ref g0, .ref aL, .ref aK, .null])), (mi, .inr (6, [.ref aC, .ref g0, .ref sd, .ref mW, .long mt, .int lf, .ref mV, .ref mA, .ref mT])), (mV, .inl (cI, 10, .inl u13_0)), (mT, .inl (cI, 45, .inl u13_1))]) hP hD hk1 hFc ht hB [9, 1, 2, 3, 4, 5, 6, 7, 8, 10, 11] [(false, 0), (true, 1), (true, 2), (true, 3), (true, 4), (true, 5), (true, 6), (true, 7), (true, 8), (true, 0), (true, 9), (true, 10)] rfl (by decide +kernel) (by decide +kernel) rfl
    clear hP hD hS hPc hDc hFc hB hk1 hz1 hvm
    have hP := hP9
    have hD := hD9
    have hS := hS9
    clear hP9 hD9 hS9
    obtain ⟨f13_0, f13_1, f13_2⟩ : ((-1) ≤ v13.toInt) ∧ (v13.toInt ≤ 98) ∧ (∀ (kc : zK3) (kT : zT) (q_fr : Nat → Int32), zCn q_fr fb fp nb.toInt np.toInt kc → zKo nb.toInt np.toInt kc kT → zSc nb.toInt np.toInt kT.1 gfY gfF gfP gpn glt gsh gwd gpu gmo → (0 ≤ p0.toInt ∧ p0.toInt < nb.toInt) → v13.toInt = zBst (fun s => aAp kc kT.1 none np.toInt.toNat p0 s) sBn (2 ^ np.toInt.toNat)) := hw
    have F13 := f13_2
    refine lv_goto (tgt := 20) hx hb dX10_apart_16 (by decide) ?_
    rw [hQ]
    exact W.iret (v := v13) hx hb hr (fun t ht hW => ⟨⟨v13, (u13_0, u13_1), rfl, ⟨by (try dsimp only); omega, by (try dsimp only); omega, by (try dsimp only); exact fun kc kT q_fr q_fR q_pl q_cn q_frf hc hb h => by unfold sV_apa; rw [if_pos (by omega), ← sV_apC (by omega)]; exact F13 kc kT _ hc hb h.1 (by omega)⟩, ⟨by rw [ht]; exact hP, hD⟩⟩, hS.F ht⟩) hS.2.2 dX10_apart_20
set_option maxHeartbeats 4000000 in
set_option maxRecDepth 100000 in
theorem g_X10_apart_l (l : Launch) (dC : Nat → ClassId) (dI : Nat → Nat → Nat) (cI cJ : ClassId) (h0 : Nat) (p0 : Int32) (tp : Nat) (h0_courtReader : Value) (h0_lawReader : Value) (h0_draft : Value) (aC : Nat) (h0_laws : Value) (g0 : Nat) (k0 : Nat) (ac : Nat) (sd : Nat) (mi : Nat) (dw : Nat) (rf : Nat) (lc : Int32) (lh : Int32) (br : Int32) (hi : Int32) (aR : Nat) (aB : Nat) (aP : Nat) (nb : Int32) (np : Int32) (fb : Nat → Int32) (fp : Nat → Int32) (gY : Nat) (gF : Nat) (gP : Nat) (gpn : Int32) (glt : Int32) (gsh : Int32) (gwd : Int32) (gpu : Int32) (gmo : Int32) (gfY : Nat → Int32) (gfF : Nat → Int32) (gfP : Nat → Int32) (w1 : Nat) (w2 : Nat) (aL : Nat) (aK : Nat) (lw : Nat) (fL : Nat → Int32) (fK : Nat → Int32) (lS : Nat) (fS : Nat → Int32) (lk : Nat) (mW : Nat) (mt : Int64) (lf : Int32) (mV : Nat) (mA : Nat) (mT : Nat) (fV : Nat → Int32) (fT : Nat → Int32) (sz : Nat) (n_gpn : 0 ≤ gpn.toInt ∧ gpn.toInt ≤ 20) (n_gwd : (-1) ≤ gwd.toInt ∧ gwd.toInt ≤ 5) (n_hi : 0 ≤ hi.toInt ∧ hi.toInt ≤ 1) (n_lc : 0 ≤ lc.toInt ∧ lc.toInt ≤ 4) (n_lf : 0 ≤ lf.toInt ∧ lf.toInt ≤ 9) (n_nb : 0 ≤ nb.toInt ∧ nb.toInt ≤ 6) (n_np : 0 ≤ np.toInt ∧ np.toInt ≤ 5) (hlk : lk ≤ 241) (ci_fS_zSt : zSt fS) (ci_gfP_zPo : zPo gfP)  : Met l yX10_apart (.code yX10_apart cX10_apart 2 (some .int) :: wA) ({ frames := 6, cells := 0, slots := 0, locals := 155 }) (zPW (dC, dI) [(cI, .int), (cJ, .long)] [.ref h0, .int p0] sz [(h0, .inr (10, [.ref tp, h0_courtReader, h0_lawReader, h0_draft, .ref aC, h0_laws, .ref g0, .ref k0, .ref ac, .ref sd, .ref mi, .ref dw, .ref rf, .int lc, .int lh, .int br, .int hi])), (aC, .inr (1, [.ref aR, .ref aB, .ref aP, .int nb, .int np])), (aB, .inl (cI, 24, .inl fb)), (aP, .inl (cI, 20, .inl fp)), (g0, .inr (7, [.ref gY, .ref gF, .ref gP, .int gpn, .int glt, .int gsh, .int gwd, .int gpu, .int gmo])), (gY, .inl (cI, 6, .inl gfY)), (gF, .inl (cI, 5, .inl gfF)), (gP, .inl (cI, 80, .inl gfP)), (sd, .inr (8, [.ref w1, .ref w2, .ref aC, .ref g0, .ref aL, .ref aK, .ref lw])), (aL, .inl (cI, 6, .inl fL)), (aK, .inl (cI, 32, .inl fK)), (lw, .inr (4, [.ref lS])), (lS, .inl (cI, lk, .inl fS)), (mi, .inr (6, [.ref aC, .ref g0, .ref sd, .ref mW, .long mt, .int lf, .ref mV, .ref mA, .ref mT])), (mV, .inl (cI, 10, .inl fV)), (mT, .inl (cI, 45, .inl fT))] (va_A [(h0, .inr (10, [.ref tp, h0_courtReader, h0_lawReader, h0_draft, .ref aC, h0_laws, .ref g0, .ref k0, .ref ac, .ref sd, .ref mi, .ref dw, .ref rf, .int lc, .int lh, .int br, .int hi])), (aC, .inr (1, [.ref aR, .ref aB, .ref aP, .int nb, .int np])), (aB, .inl (cI, 24, .inl fb)), (aP, .inl (cI, 20, .inl fp)), (g0, .inr (7, [.ref gY, .ref gF, .ref gP, .int gpn, .int glt, .int gsh, .int gwd, .int gpu, .int gmo])), (gY, .inl (cI, 6, .inl gfY)), (gF, .inl (cI, 5, .inl gfF)), (gP, .inl (cI, 80, .inl gfP)), (sd, .inr (8, [.ref w1, .ref w2, .ref aC, .ref g0, .ref aL, .ref aK, .ref lw])), (aL, .inl (cI, 6, .inl fL)), (aK, .inl (cI, 32, .inl fK)), (lw, .inr (4, [.ref lS])), (lS, .inl (cI, lk, .inl fS)), (mi, .inr (6, [.ref aC, .ref g0, .ref sd, .ref mW, .long mt, .int lf, .ref mV, .ref mA, .ref mT])), (mV, .inl (cI, 10, .inl fV)), (mT, .inl (cI, 45, .inl fT))] sz)) (va_Qi (fun (r : Int32) (u : (Nat → Int32) × (Nat → Int32) × (Nat → Int32) × (Nat → Int32)) => ((-1) ≤ r.toInt) ∧ (r.toInt ≤ 98) ∧ (∀ (kc : zK3) (kT : zT) (q_fr : Nat → Int32) (q_fR : Nat → Int32) (q_pl : Int32) (q_cn : Int32) (q_frf : Nat → Int32) (kt : (Int → Int) × Int), zCn q_fr fb fp nb.toInt np.toInt kc → zKo nb.toInt np.toInt kc kT → zTc nb.toInt np.toInt kT gfY gfF gfP gpn glt gsh gwd gpu gmo q_fR q_pl q_cn q_frf → zLwC fS lk kt → r.toInt = sV_apa nb.toInt np.toInt.toNat kc kT.1 (some kt) p0)) (fun (u : (Nat → Int32) × (Nat → Int32) × (Nat → Int32) × (Nat → Int32)) (t : State) => va_P (dC, dI) vwCl [(h0, .inr (10, [.ref tp, h0_courtReader, h0_lawReader, h0_draft, .ref aC, h0_laws, .ref g0, .ref k0, .ref ac, .ref sd, .ref mi, .ref dw, .ref rf, .int lc, .int lh, .int br, .int hi])), (aC, .inr (1, [.ref aR, .ref aB, .ref aP, .int nb, .int np])), (aB, .inl (cI, 24, .inl fb)), (aP, .inl (cI, 20, .inl fp)), (g0, .inr (7, [.ref gY, .ref gF, .ref gP, .int gpn, .int glt, .int gsh, .int gwd, .int gpu, .int gmo])), (gY, .inl (cI, 6, .inl gfY)), (gF, .inl (cI, 5, .inl gfF)), (gP, .inl (cI, 80, .inl gfP)), (sd, .inr (8, [.ref w1, .ref w2, .ref aC, .ref g0, .ref aL, .ref aK, .ref lw])), (aL, .inl (cI, 6, .inl u.1)), (aK, .inl (cI, 32, .inl u.2.1)), (lw, .inr (4, [.ref lS])), (lS, .inl (cI, lk, .inl fS)), (mi, .inr (6, [.ref aC, .ref g0, .ref sd, .ref mW, .long mt, .int lf, .ref mV, .ref mA, .ref mT])), (mV, .inl (cI, 10, .inl u.2.2.1)), (mT, .inl (cI, 45, .inl u.2.2.2))] t.heap ∧ va_D (va_A [(h0, .inr (10, [.ref tp, h0_courtReader, h0_lawReader, h0_draft, .ref aC, h0_laws, .ref g0, .ref k0, .ref ac, .ref sd, .ref mi, .ref dw, .ref rf, .int lc, .int lh, .int br, .int hi])), (aC, .inr (1, [.ref aR, .ref aB, .ref aP, .int nb, .int np])), (aB, .inl (cI, 24, .inl fb)), (aP, .inl (cI, 20, .inl fp)), (g0, .inr (7, [.ref gY, .ref gF, .ref gP, .int gpn, .int glt, .int gsh, .int gwd, .int gpu, .int gmo])), (gY, .inl (cI, 6, .inl gfY)), (gF, .inl (cI, 5, .inl gfF)), (gP, .inl (cI, 80, .inl gfP)), (sd, .inr (8, [.ref w1, .ref w2, .ref aC, .ref g0, .ref aL, .ref aK, .ref lw])), (aL, .inl (cI, 6, .inl fL)), (aK, .inl (cI, 32, .inl fK)), (lw, .inr (4, [.ref lS])), (lS, .inl (cI, lk, .inl fS)), (mi, .inr (6, [.ref aC, .ref g0, .ref sd, .ref mW, .long mt, .int lf, .ref mV, .ref mA, .ref mT])), (mV, .inl (cI, 10, .inl fV)), (mT, .inl (cI, 45, .inl fT))] sz) [(h0, .inr (10, [.ref tp, h0_courtReader, h0_lawReader, h0_draft, .ref aC, h0_laws, .ref g0, .ref k0, .ref ac, .ref sd, .ref mi, .ref dw, .ref rf, .int lc, .int lh, .int br, .int hi])), (aC, .inr (1, [.ref aR, .ref aB, .ref aP, .int nb, .int np])), (aB, .inl (cI, 24, .inl fb)), (aP, .inl (cI, 20, .inl fp)), (g0, .inr (7, [.ref gY, .ref gF, .ref gP, .int gpn, .int glt, .int gsh, .int gwd, .int gpu, .int gmo])), (gY, .inl (cI, 6, .inl gfY)), (gF, .inl (cI, 5, .inl gfF)), (gP, .inl (cI, 80, .inl gfP)), (sd, .inr (8, [.ref w1, .ref w2, .ref aC, .ref g0, .ref aL, .ref aK, .ref lw])), (aL, .inl (cI, 6, .inl u.1)), (aK, .inl (cI, 32, .inl u.2.1)), (lw, .inr (4, [.ref lS])), (lS, .inl (cI, lk, .inl fS)), (mi, .inr (6, [.ref aC, .ref g0, .ref sd, .ref mW, .long mt, .int lf, .ref mV, .ref mA, .ref mT])), (mV, .inl (cI, 10, .inl u.2.2.1)), (mT, .inl (cI, 45, .inl u.2.2.2))]) (va_A [(h0, .inr (10, [.ref tp, h0_courtReader, h0_lawReader, h0_draft, .ref aC, h0_laws, .ref g0, .ref k0, .ref ac, .ref sd, .ref mi, .ref dw, .ref rf, .int lc, .int lh, .int br, .int hi])), (aC, .inr (1, [.ref aR, .ref aB, .ref aP, .int nb, .int np])), (aB, .inl (cI, 24, .inl fb)), (aP, .inl (cI, 20, .inl fp)), (g0, .inr (7, [.ref gY, .ref gF, .ref gP, .int gpn, .int glt, .int gsh, .int gwd, .int gpu, .int gmo])), (gY, .inl (cI, 6, .inl gfY)), (gF, .inl (cI, 5, .inl gfF)), (gP, .inl (cI, 80, .inl gfP)), (sd, .inr (8, [.ref w1, .ref w2, .ref aC, .ref g0, .ref aL, .ref aK, .ref lw])), (aL, .inl (cI, 6, .inl fL)), (aK, .inl (cI, 32, .inl fK)), (lw, .inr (4, [.ref lS])), (lS, .inl (cI, lk, .inl fS)), (mi, .inr (6, [.ref aC, .ref g0, .ref sd, .ref mW, .long mt, .int lf, .ref mV, .ref mA, .ref mT])), (mV, .inl (cI, 10, .inl fV)), (mT, .inl (cI, 45, .inl fT))] sz)) 0 0 (va_A [(h0, .inr (10, [.ref tp, h0_courtReader, h0_lawReader, h0_draft, .ref aC, h0_laws, .ref g0, .ref k0, .ref ac, .ref sd, .ref mi, .ref dw, .ref rf, .int lc, .int lh, .int br, .int hi])), (aC, .inr (1, [.ref aR, .ref aB, .ref aP, .int nb, .int np])), (aB, .inl (cI, 24, .inl fb)), (aP, .inl (cI, 20, .inl fp)), (g0, .inr (7, [.ref gY, .ref gF, .ref gP, .int gpn, .int glt, .int gsh, .int gwd, .int gpu, .int gmo])), (gY, .inl (cI, 6, .inl gfY)), (gF, .inl (cI, 5, .inl gfF)), (gP, .inl (cI, 80, .inl gfP)), (sd, .inr (8, [.ref w1, .ref w2, .ref aC, .ref g0, .ref aL, .ref aK, .ref lw])), (aL, .inl (cI, 6, .inl fL)), (aK, .inl (cI, 32, .inl fK)), (lw, .inr (4, [.ref lS])), (lS, .inl (cI, lk, .inl fS)), (mi, .inr (6, [.ref aC, .ref g0, .ref sd, .ref mW, .long mt, .int lf, .ref mV, .ref mA, .ref mT])), (mV, .inl (cI, 10, .inl fV)), (mT, .inl (cI, 45, .inl fT))] sz) := by
  refine Met.ofW (cc := cX10_apart) (maxL := 2) (ret := (some .int)) (by decide) rfl ?_
  intro p e s m args below meth c s₁ B hml hv
  have y_gpn : zHid (0 ≤ gpn.toInt ∧ gpn.toInt ≤ 20) := n_gpn
  have y_gwd : zHid ((-1) ≤ gwd.toInt ∧ gwd.toInt ≤ 5) := n_gwd
  have y_hi : zHid (0 ≤ hi.toInt ∧ hi.toInt ≤ 1) := n_hi
  have y_lc : zHid (0 ≤ lc.toInt ∧ lc.toInt ≤ 4) := n_lc
  have y_lf : zHid (0 ≤ lf.toInt ∧ lf.toInt ≤ 9) := n_lf
  clear n_gpn n_gwd n_hi n_lc n_lf
  obtain ⟨⟨hargs, hsz, hP, hK, hT⟩, hV⟩ := hv
  have hx := B.exec
  have hb := B.bytes
  have hr := B.returns
  have hts : ∀ w ∈ wA, w.before args s = true := fun w h => atoms_spec (ws := .code yX10_apart cX10_apart 2 (some .int) :: wA) B.pre w (List.mem_cons_of_mem _ h)
  have hown : s.vm.findClass RX10 = some m.cls := findClass_of_methodNamed B.named
  have hlocks := B.notSynchronized
  subst hsz
  have hD := hT.self (sz := s.heap.size)
  generalize hAe : va_A [(h0, .inr (10, [.ref tp, h0_courtReader, h0_lawReader, h0_draft, .ref aC, h0_laws, .ref g0, .ref k0, .ref ac, .ref sd, .ref mi, .ref dw, .ref rf, .int lc, .int lh, .int br, .int hi])), (aC, .inr (1, [.ref aR, .ref aB, .ref aP, .int nb, .int np])), (aB, .inl (cI, 24, .inl fb)), (aP, .inl (cI, 20, .inl fp)), (g0, .inr (7, [.ref gY, .ref gF, .ref gP, .int gpn, .int glt, .int gsh, .int gwd, .int gpu, .int gmo])), (gY, .inl (cI, 6, .inl gfY)), (gF, .inl (cI, 5, .inl gfF)), (gP, .inl (cI, 80, .inl gfP)), (sd, .inr (8, [.ref w1, .ref w2, .ref aC, .ref g0, .ref aL, .ref aK, .ref lw])), (aL, .inl (cI, 6, .inl fL)), (aK, .inl (cI, 32, .inl fK)), (lw, .inr (4, [.ref lS])), (lS, .inl (cI, lk, .inl fS)), (mi, .inr (6, [.ref aC, .ref g0, .ref sd, .ref mW, .long mt, .int lf, .ref mV, .ref mA, .ref mT])), (mV, .inl (cI, 10, .inl fV)), (mT, .inl (cI, 45, .inl fT))] s.heap.size = A at hD hV ⊢
  have hA : ∀ q : Nat, s.heap.size ≤ q → A q := fun q h => by rw [← hAe]; exact Or.inr h
  have hl := lv_entry ([.ref h0, .int p0]) (n := 2) (Nat.le_of_ble_eq_true rfl)
  rw [show entryFrame m args 2 = entryFrame m ([.ref h0, .int p0] : List Value).toArray 2 by rw [hargs], lg_entry_eq]
  generalize (lg_sl ([.ref h0, .int p0]) ++ List.replicate (2 - (lg_sl ([.ref h0, .int p0])).length) Slot.unset).toArray = ls at hl ⊢
  have hl : lv_has ls 2 [(0, .ref h0), (1, .int p0)] := hl
  refine zstart (fun H hH => ?_)
  rw [← hH] at hP
  have hS : va_S A s.heap H [] := by rw [hH]; exact va_S.rf
  generalize ([] : List Loc) = locs at hS ⊢
  refine zgen (fun R Q hR hQ => ?_)
  refine lv_aload_n hx hb dX10_apart_0 rfl (lv_at hl 0 rfl) ?_
  refine lv_iload_n hx hb dX10_apart_1 rfl (lv_at hl 1 rfl) ?_
  obtain ⟨hPc, hDc⟩ := zc2 (wc := [(h0, .inr (10, [.ref tp, h0_courtReader, h0_lawReader, h0_draft, .ref aC, h0_laws, .ref g0, .ref k0, .ref ac, .ref sd, .ref mi, .ref dw, .ref rf, .int lc, .int lh, .int br, .int hi])), (aC, .inr (1, [.ref aR, .ref aB, .ref aP, .int nb, .int np]))]) hP hD [0, 1] (by decide +kernel) rfl
  have hFc := zfr hS hA
  refine va_calli (va_runV (As := [.int p0]) (rest := []) ⟨hx, hb, hml, hown, hts⟩ (g_X10_isBride l dC dI cI cJ h0 p0 (.ref tp) h0_courtReader h0_lawReader h0_draft aC h0_laws (.ref g0) (.ref k0) (.ref ac) (.ref sd) (.ref mi) (.ref dw) (.ref rf) (.int lc) (.int lh) (.int br) (.int hi) aR aB aP nb np H.size n_nb) (cwV 1 hts (zgV qw625 qw627 qw12 qw98 qw628) rfl rfl rfl hd_X10_isBride ⟨by rw [hR]; exact Nat.le_of_ble_eq_true rfl, by rw [hR]; exact Nat.le_of_ble_eq_true rfl⟩) (zPV hPc hK hDc (va_recv (q := (RX10, TX10, 17)) hK hP (ci := 10) (q0 := 0) rfl rfl)) rfl rfl hl.1 rfl (lv_room (Nat.le_of_ble_eq_true rfl)) dX10_apart_2 ⟨Nat.zero_le _, Nat.zero_le _⟩) hS (fun q _ h => hFc q h) hFc (fun v2 u2 t H locs ht hvm hw hB hz1 hk1 hS9 => ?_)
  replace hP := zkeep hP hk1
  replace hS := hS9
  clear hPc hDc hFc hk1 hz1 hvm hS9
  obtain ⟨f2_0, f2_1, f2_2, f2_3⟩ : (0 ≤ v2.toInt) ∧ (v2.toInt ≤ 1) ∧ (¬ v2.toInt = 0 → (0 ≤ p0.toInt ∧ p0.toInt < nb.toInt)) ∧ (v2.toInt = 0 → ¬ (0 ≤ p0.toInt ∧ p0.toInt < nb.toInt)) := hw
  refine lv_if_eq (tgt := 19) hx hb dX10_apart_5 (by decide) (fun c5 => ?_) (fun c5 => ?_)
  · have c5 : v2.toInt = 0 := z5 rfl (by decide) c5
    refine lv_iconst (v := (-1)) hx hb dX10_apart_19 (by decide) ?_
    have zr0 : ((-1) : Int32).toInt = (-1) := by decide
    rw [hQ]
    exact W.iret (v := ((-1))) hx hb hr (fun t ht hW => ⟨⟨(-1), (fL, fK, fV, fT), rfl, ⟨by (try dsimp only); omega, by (try dsimp only); omega, by (try dsimp only); exact fun kc kT q_fr q_fR q_pl q_cn q_frf kt hc hb h ht => by unfold sV_apa; rw [if_neg (by omega)]; decide⟩, ⟨by rw [ht]; exact hP, hD⟩⟩, hS.F ht⟩) hS.2.2 dX10_apart_20
  · have c5 : ¬ v2.toInt = 0 := z6 rfl (by decide) c5
    refine lv_aload_n hx hb dX10_apart_8 rfl (lv_at hl 0 rfl) ?_
    refine va_get (D := (dC, dI)) (ci := 10) (v := .ref mi) (C := RX10) (T := TX10) (N := 17) hx hb hts iX10 hown hK hP 0 rfl rfl 10 (by decide) (hts _ qw366) (fun _ h9 => h9) rfl dX10_apart_9 ?_
    refine lv_iload_n hx hb dX10_apart_12 rfl (lv_at hl 1 rfl) ?_
    obtain ⟨hPc, hDc, hFc⟩ := zc3 (wc := [(mi, .inr (6, [.ref aC, .ref g0, .ref sd, .ref mW, .long mt, .int lf, .ref mV, .ref mA, .ref mT])), (aC, .inr (1, [.ref aR, .ref aB, .ref aP, .int nb, .int np])), (aB, .inl (cI, 24, .inl fb)), (aP, .inl (cI, 20, .inl fp)), (g0, .inr (7, [.ref gY, .ref gF, .ref gP, .int gpn, .int glt, .int gsh, .int gwd, .int gpu, .int gmo])), (gY, .inl (cI, 6, .inl gfY)), (gF, .inl (cI, 5, .inl gfF)), (gP, .inl (cI, 80, .inl gfP)), (sd, .inr (8, [.ref w1, .ref w2, .ref aC, .ref g0, .ref aL, .ref aK, .ref lw])), (aL, .inl (cI, 6, .inl fL)), (aK, .inl (cI, 32, .inl fK)), (lw, .inr (4, [.ref lS])), (lS, .inl (cI, lk, .inl fS)), (mV, .inl (cI, 10, .inl fV)), (mT, .inl (cI, 45, .inl fT))]) hP hD hS hA [13, 1, 2, 3, 4, 5, 6, 7, 8, 9, 10, 11, 12, 14, 15] (by decide +kernel) rfl
    refine va_calli (va_runV (As := [.int p0]) (rest := []) ⟨hx, hb, hml, hown, hts⟩ (g_X6_fewestSketchers_l l dC dI cI cJ mi p0 aC g0 sd mW mt lf mV mA mT aR aB aP nb np fb fp gY gF gP gpn glt gsh gwd gpu gmo gfY gfF gfP w1 w2 aL aK lw fL fK lS fS lk fV fT H.size y_gpn n_np (by omega) (hlk) ci_fS_zSt ci_gfP_zPo) (cwV 1 hts (zgV qw884 qw885 qw886 qw106 qw887) rfl rfl rfl hd_X6_fewestSketchers ⟨by rw [hR]; exact Nat.le_of_ble_eq_true rfl, by rw [hR]; exact Nat.le_of_ble_eq_true rfl⟩) (zPWV hPc hK hDc (va_recv (q := (RX6, TX6, 9)) hK hP (ci := 6) (q0 := 13) rfl rfl) (zV_call hV hS hFc)) rfl rfl hl.1 rfl (lv_room (Nat.le_of_ble_eq_true rfl)) dX10_apart_13 ⟨Nat.zero_le _, Nat.zero_le _⟩) hS (fun q _ h => hFc q h) hFc (fun v13 u13 t H locs ht hvm hw hB hz1 hk1 hS9 => ?_)
    obtain ⟨u13_0, u13_1, u13_2, u13_3⟩ := u13
    obtain ⟨hP9, hD9⟩ := zj2 (wX := [(h0, .inr (10, [.ref tp, h0_courtReader, h0_lawReader, h0_draft, .ref aC, h0_laws, .ref g0, .ref k0, .ref ac, .ref sd, .ref mi, .ref dw, .ref rf, .int lc, .int lh, .int br, .int hi])), (aC, .inr (1, [.ref aR, .ref aB, .ref aP, .int nb, .int np])), (aB, .inl (cI, 24, .inl fb)), (aP, .inl (cI, 20, .inl fp)), (g0, .inr (7, [.ref gY, .ref gF, .ref gP, .int gpn, .int glt, .int gsh, .int gwd, .int gpu, .int gmo])), (gY, .inl (cI, 6, .inl gfY)), (gF, .inl (cI, 5, .inl gfF)), (gP, .inl (cI, 80, .inl gfP)), (sd, .inr (8, [.ref w1, .ref w2, .ref aC, .ref g0, .ref aL, .ref aK, .ref lw])), (aL, .inl (cI, 6, .inl u13_0)), (aK, .inl (cI, 32, .inl u13_1)), (lw, .inr (4, [.ref lS])), (lS, .inl (cI, lk, .inl fS)), (mi, .inr (6, [.ref aC, .ref g0, .ref sd, .ref mW, .long mt, .int lf, .ref mV, .ref mA, .ref mT])), (mV, .inl (cI, 10, .inl u13_2)), (mT, .inl (cI, 45, .inl u13_3))]) hP hD hk1 hFc ht hB [13, 1, 2, 3, 4, 5, 6, 7, 8, 9, 10, 11, 12, 14, 15] [(false, 0), (true, 1), (true, 2), (true, 3), (true, 4), (true, 5), (true, 6), (true, 7), (true, 8), (true, 9), (true, 10), (true, 11), (true, 12), (true, 0), (true, 13), (true, 14)] rfl (by decide +kernel) (by decide +kernel) rfl
    clear hP hD hS hPc hDc hFc hB hk1 hz1 hvm
    have hP := hP9
    have hD := hD9
    have hS := hS9
    clear hP9 hD9 hS9
    obtain ⟨f13_0, f13_1, f13_2⟩ : ((-1) ≤ v13.toInt) ∧ (v13.toInt ≤ 98) ∧ (∀ (kc : zK3) (kT : zT) (q_fr : Nat → Int32) (kt : (Int → Int) × Int), zCn q_fr fb fp nb.toInt np.toInt kc → zKo nb.toInt np.toInt kc kT → zSc nb.toInt np.toInt kT.1 gfY gfF gfP gpn glt gsh gwd gpu gmo → zLwC fS lk kt → (0 ≤ p0.toInt ∧ p0.toInt < nb.toInt) → v13.toInt = zBst (fun s => aAp kc kT.1 (some kt) np.toInt.toNat p0 s) sBn (2 ^ np.toInt.toNat)) := hw
    have F13 := f13_2
    refine lv_goto (tgt := 20) hx hb dX10_apart_16 (by decide) ?_
    rw [hQ]
    exact W.iret (v := v13) hx hb hr (fun t ht hW => ⟨⟨v13, (u13_0, u13_1, u13_2, u13_3), rfl, ⟨by (try dsimp only); omega, by (try dsimp only); omega, by (try dsimp only); exact fun kc kT q_fr q_fR q_pl q_cn q_frf kt hc hb h ht => by unfold sV_apa; rw [if_pos (by omega), ← sV_apC (by omega)]; exact F13 kc kT _ kt hc hb h.1 ht (by omega)⟩, ⟨by rw [ht]; exact hP, hD⟩⟩, hS.F ht⟩) hS.2.2 dX10_apart_20
set_option maxHeartbeats 4000000 in
set_option maxRecDepth 100000 in
theorem g_X10_choice_n (l : Launch) (dC : Nat → ClassId) (dI : Nat → Nat → Nat) (cI cJ : ClassId) (h0 : Nat) (p0 : Int32) (tp : Nat) (h0_courtReader : Value) (h0_lawReader : Value) (h0_draft : Value) (aC : Nat) (h0_laws : Value) (g0 : Nat) (k0 : Nat) (ac : Nat) (sd : Nat) (mi : Nat) (dw : Nat) (rf : Nat) (lc : Int32) (lh : Int32) (br : Int32) (hi : Int32) (aR : Nat) (aB : Nat) (aP : Nat) (nb : Int32) (np : Int32) (fr : Nat → Int32) (fb : Nat → Int32) (fp : Nat → Int32) (gY : Nat) (gF : Nat) (gP : Nat) (gpn : Int32) (glt : Int32) (gsh : Int32) (gwd : Int32) (gpu : Int32) (gmo : Int32) (gfY : Nat → Int32) (gfF : Nat → Int32) (gfP : Nat → Int32) (w1 : Nat) (w2 : Nat) (aL : Nat) (aK : Nat) (mW : Nat) (mt : Int64) (lf : Int32) (mV : Nat) (mA : Nat) (mT : Nat) (fW : Nat → Int64) (sz : Nat) (n_gpn : 0 ≤ gpn.toInt ∧ gpn.toInt ≤ 20) (n_gwd : (-1) ≤ gwd.toInt ∧ gwd.toInt ≤ 5) (n_hi : 0 ≤ hi.toInt ∧ hi.toInt ≤ 1) (n_lc : 0 ≤ lc.toInt ∧ lc.toInt ≤ 4) (n_lf : 0 ≤ lf.toInt ∧ lf.toInt ≤ 9) (n_nb : 0 ≤ nb.toInt ∧ nb.toInt ≤ 6) (n_np : 0 ≤ np.toInt ∧ np.toInt ≤ 5) (n_p0 : 0 ≤ p0.toInt ∧ p0.toInt ≤ 2)  (ci_gfP_zPo : zPo gfP)  : Met l yX10_choice (.code yX10_choice cX10_choice 7 (some .int) :: wA) ({ frames := 6, cells := 0, slots := 0, locals := 153 }) (zPW (dC, dI) [(cI, .int), (cJ, .long)] [.ref h0, .int p0] sz [(h0, .inr (10, [.ref tp, h0_courtReader, h0_lawReader, h0_draft, .ref aC, h0_laws, .ref g0, .ref k0, .ref ac, .ref sd, .ref mi, .ref dw, .ref rf, .int lc, .int lh, .int br, .int hi])), (aC, .inr (1, [.ref aR, .ref aB, .ref aP, .int nb, .int np])), (aR, .inl (cI, 3, .inl fr)), (aB, .inl (cI, 24, .inl fb)), (aP, .inl (cI, 20, .inl fp)), (g0, .inr (7, [.ref gY, .ref gF, .ref gP, .int gpn, .int glt, .int gsh, .int gwd, .int gpu, .int gmo])), (gY, .inl (cI, 6, .inl gfY)), (gF, .inl (cI, 5, .inl gfF)), (gP, .inl (cI, 80, .inl gfP)), (sd, .inr (8, [.ref w1, .ref w2, .ref aC, .ref g0, .ref aL, .ref aK, .null])), (mi, .inr (6, [.ref aC, .ref g0, .ref sd, .ref mW, .long mt, .int lf, .ref mV, .ref mA, .ref mT])), (mW, .inl (cJ, 10, .inr (.inl fW)))] (va_A [(h0, .inr (10, [.ref tp, h0_courtReader, h0_lawReader, h0_draft, .ref aC, h0_laws, .ref g0, .ref k0, .ref ac, .ref sd, .ref mi, .ref dw, .ref rf, .int lc, .int lh, .int br, .int hi])), (aC, .inr (1, [.ref aR, .ref aB, .ref aP, .int nb, .int np])), (aR, .inl (cI, 3, .inl fr)), (aB, .inl (cI, 24, .inl fb)), (aP, .inl (cI, 20, .inl fp)), (g0, .inr (7, [.ref gY, .ref gF, .ref gP, .int gpn, .int glt, .int gsh, .int gwd, .int gpu, .int gmo])), (gY, .inl (cI, 6, .inl gfY)), (gF, .inl (cI, 5, .inl gfF)), (gP, .inl (cI, 80, .inl gfP)), (sd, .inr (8, [.ref w1, .ref w2, .ref aC, .ref g0, .ref aL, .ref aK, .null])), (mi, .inr (6, [.ref aC, .ref g0, .ref sd, .ref mW, .long mt, .int lf, .ref mV, .ref mA, .ref mT])), (mW, .inl (cJ, 10, .inr (.inl fW)))] sz)) (va_Qi (fun (r : Int32) (u : Int64 × Int32 × (Nat → Int64)) => (0 ≤ r.toInt) ∧ (r.toInt ≤ 5) ∧ (0 ≤ u.2.1.toInt) ∧ (u.2.1.toInt ≤ 9)) (fun (u : Int64 × Int32 × (Nat → Int64)) (t : State) => va_P (dC, dI) vwCl [(h0, .inr (10, [.ref tp, h0_courtReader, h0_lawReader, h0_draft, .ref aC, h0_laws, .ref g0, .ref k0, .ref ac, .ref sd, .ref mi, .ref dw, .ref rf, .int lc, .int lh, .int br, .int hi])), (aC, .inr (1, [.ref aR, .ref aB, .ref aP, .int nb, .int np])), (aR, .inl (cI, 3, .inl fr)), (aB, .inl (cI, 24, .inl fb)), (aP, .inl (cI, 20, .inl fp)), (g0, .inr (7, [.ref gY, .ref gF, .ref gP, .int gpn, .int glt, .int gsh, .int gwd, .int gpu, .int gmo])), (gY, .inl (cI, 6, .inl gfY)), (gF, .inl (cI, 5, .inl gfF)), (gP, .inl (cI, 80, .inl gfP)), (sd, .inr (8, [.ref w1, .ref w2, .ref aC, .ref g0, .ref aL, .ref aK, .null])), (mi, .inr (6, [.ref aC, .ref g0, .ref sd, .ref mW, .long u.1, .int u.2.1, .ref mV, .ref mA, .ref mT])), (mW, .inl (cJ, 10, .inr (.inl u.2.2)))] t.heap ∧ va_D (va_A [(h0, .inr (10, [.ref tp, h0_courtReader, h0_lawReader, h0_draft, .ref aC, h0_laws, .ref g0, .ref k0, .ref ac, .ref sd, .ref mi, .ref dw, .ref rf, .int lc, .int lh, .int br, .int hi])), (aC, .inr (1, [.ref aR, .ref aB, .ref aP, .int nb, .int np])), (aR, .inl (cI, 3, .inl fr)), (aB, .inl (cI, 24, .inl fb)), (aP, .inl (cI, 20, .inl fp)), (g0, .inr (7, [.ref gY, .ref gF, .ref gP, .int gpn, .int glt, .int gsh, .int gwd, .int gpu, .int gmo])), (gY, .inl (cI, 6, .inl gfY)), (gF, .inl (cI, 5, .inl gfF)), (gP, .inl (cI, 80, .inl gfP)), (sd, .inr (8, [.ref w1, .ref w2, .ref aC, .ref g0, .ref aL, .ref aK, .null])), (mi, .inr (6, [.ref aC, .ref g0, .ref sd, .ref mW, .long mt, .int lf, .ref mV, .ref mA, .ref mT])), (mW, .inl (cJ, 10, .inr (.inl fW)))] sz) [(h0, .inr (10, [.ref tp, h0_courtReader, h0_lawReader, h0_draft, .ref aC, h0_laws, .ref g0, .ref k0, .ref ac, .ref sd, .ref mi, .ref dw, .ref rf, .int lc, .int lh, .int br, .int hi])), (aC, .inr (1, [.ref aR, .ref aB, .ref aP, .int nb, .int np])), (aR, .inl (cI, 3, .inl fr)), (aB, .inl (cI, 24, .inl fb)), (aP, .inl (cI, 20, .inl fp)), (g0, .inr (7, [.ref gY, .ref gF, .ref gP, .int gpn, .int glt, .int gsh, .int gwd, .int gpu, .int gmo])), (gY, .inl (cI, 6, .inl gfY)), (gF, .inl (cI, 5, .inl gfF)), (gP, .inl (cI, 80, .inl gfP)), (sd, .inr (8, [.ref w1, .ref w2, .ref aC, .ref g0, .ref aL, .ref aK, .null])), (mi, .inr (6, [.ref aC, .ref g0, .ref sd, .ref mW, .long u.1, .int u.2.1, .ref mV, .ref mA, .ref mT])), (mW, .inl (cJ, 10, .inr (.inl u.2.2)))]) (va_A [(h0, .inr (10, [.ref tp, h0_courtReader, h0_lawReader, h0_draft, .ref aC, h0_laws, .ref g0, .ref k0, .ref ac, .ref sd, .ref mi, .ref dw, .ref rf, .int lc, .int lh, .int br, .int hi])), (aC, .inr (1, [.ref aR, .ref aB, .ref aP, .int nb, .int np])), (aR, .inl (cI, 3, .inl fr)), (aB, .inl (cI, 24, .inl fb)), (aP, .inl (cI, 20, .inl fp)), (g0, .inr (7, [.ref gY, .ref gF, .ref gP, .int gpn, .int glt, .int gsh, .int gwd, .int gpu, .int gmo])), (gY, .inl (cI, 6, .inl gfY)), (gF, .inl (cI, 5, .inl gfF)), (gP, .inl (cI, 80, .inl gfP)), (sd, .inr (8, [.ref w1, .ref w2, .ref aC, .ref g0, .ref aL, .ref aK, .null])), (mi, .inr (6, [.ref aC, .ref g0, .ref sd, .ref mW, .long mt, .int lf, .ref mV, .ref mA, .ref mT])), (mW, .inl (cJ, 10, .inr (.inl fW)))] sz)) 0 0 (va_A [(h0, .inr (10, [.ref tp, h0_courtReader, h0_lawReader, h0_draft, .ref aC, h0_laws, .ref g0, .ref k0, .ref ac, .ref sd, .ref mi, .ref dw, .ref rf, .int lc, .int lh, .int br, .int hi])), (aC, .inr (1, [.ref aR, .ref aB, .ref aP, .int nb, .int np])), (aR, .inl (cI, 3, .inl fr)), (aB, .inl (cI, 24, .inl fb)), (aP, .inl (cI, 20, .inl fp)), (g0, .inr (7, [.ref gY, .ref gF, .ref gP, .int gpn, .int glt, .int gsh, .int gwd, .int gpu, .int gmo])), (gY, .inl (cI, 6, .inl gfY)), (gF, .inl (cI, 5, .inl gfF)), (gP, .inl (cI, 80, .inl gfP)), (sd, .inr (8, [.ref w1, .ref w2, .ref aC, .ref g0, .ref aL, .ref aK, .null])), (mi, .inr (6, [.ref aC, .ref g0, .ref sd, .ref mW, .long mt, .int lf, .ref mV, .ref mA, .ref mT])), (mW, .inl (cJ, 10, .inr (.inl fW)))] sz) := by
  refine Met.ofW (cc := cX10_choice) (maxL := 7) (ret := (some .int)) (by decide) rfl ?_
  intro p e s m args below meth c s₁ B hml hv
  have y_gpn : zHid (0 ≤ gpn.toInt ∧ gpn.toInt ≤ 20) := n_gpn
  have y_gwd : zHid ((-1) ≤ gwd.toInt ∧ gwd.toInt ≤ 5) := n_gwd
  have y_hi : zHid (0 ≤ hi.toInt ∧ hi.toInt ≤ 1) := n_hi
  have y_lc : zHid (0 ≤ lc.toInt ∧ lc.toInt ≤ 4) := n_lc
  have y_lf : zHid (0 ≤ lf.toInt ∧ lf.toInt ≤ 9) := n_lf
  clear n_gpn n_gwd n_hi n_lc n_lf
  obtain ⟨⟨hargs, hsz, hP, hK, hT⟩, hV⟩ := hv
  have hx := B.exec
  have hb := B.bytes
  have hr := B.returns
  have hts : ∀ w ∈ wA, w.before args s = true := fun w h => atoms_spec (ws := .code yX10_choice cX10_choice 7 (some .int) :: wA) B.pre w (List.mem_cons_of_mem _ h)
  have hown : s.vm.findClass RX10 = some m.cls := findClass_of_methodNamed B.named
  have hlocks := B.notSynchronized
  subst hsz
  have hD := hT.self (sz := s.heap.size)
  generalize hAe : va_A [(h0, .inr (10, [.ref tp, h0_courtReader, h0_lawReader, h0_draft, .ref aC, h0_laws, .ref g0, .ref k0, .ref ac, .ref sd, .ref mi, .ref dw, .ref rf, .int lc, .int lh, .int br, .int hi])), (aC, .inr (1, [.ref aR, .ref aB, .ref aP, .int nb, .int np])), (aR, .inl (cI, 3, .inl fr)), (aB, .inl (cI, 24, .inl fb)), (aP, .inl (cI, 20, .inl fp)), (g0, .inr (7, [.ref gY, .ref gF, .ref gP, .int gpn, .int glt, .int gsh, .int gwd, .int gpu, .int gmo])), (gY, .inl (cI, 6, .inl gfY)), (gF, .inl (cI, 5, .inl gfF)), (gP, .inl (cI, 80, .inl gfP)), (sd, .inr (8, [.ref w1, .ref w2, .ref aC, .ref g0, .ref aL, .ref aK, .null])), (mi, .inr (6, [.ref aC, .ref g0, .ref sd, .ref mW, .long mt, .int lf, .ref mV, .ref mA, .ref mT])), (mW, .inl (cJ, 10, .inr (.inl fW)))] s.heap.size = A at hD hV ⊢
  have hA : ∀ q : Nat, s.heap.size ≤ q → A q := fun q h => by rw [← hAe]; exact Or.inr h
  have hl := lv_entry ([.ref h0, .int p0]) (n := 7) (Nat.le_of_ble_eq_true rfl)
  rw [show entryFrame m args 7 = entryFrame m ([.ref h0, .int p0] : List Value).toArray 7 by rw [hargs], lg_entry_eq]
  generalize (lg_sl ([.ref h0, .int p0]) ++ List.replicate (7 - (lg_sl ([.ref h0, .int p0])).length) Slot.unset).toArray = ls at hl ⊢
  have hl : lv_has ls 7 [(0, .ref h0), (1, .int p0)] := hl
  refine zstart (fun H hH => ?_)
  rw [← hH] at hP
  have hS : va_S A s.heap H [] := by rw [hH]; exact va_S.rf
  generalize ([] : List Loc) = locs at hS ⊢
  refine zgen (fun R Q hR hQ => ?_)
  refine lv_iconst (v := 0) hx hb dX10_choice_0 (by decide) ?_
  refine lv_istore_n (lv' := [(2, .int 0), (0, .ref h0), (1, .int p0)]) hx hb dX10_choice_1 rfl hl (by decide) rfl (fun ls hl => ?_)
  refine lv_iconst (v := (-1)) hx hb dX10_choice_2 (by decide) ?_
  refine lv_istore_n (lv' := [(3, .int (-1)), (2, .int 0), (0, .ref h0), (1, .int p0)]) hx hb dX10_choice_3 rfl hl (by decide) rfl (fun ls hl => ?_)
  refine lv_iconst (v := 0) hx hb dX10_choice_4 (by decide) ?_
  have J7 : ∀ (n : Nat) (m7_A_mW : Nat → Int64) (m7_F_mi_4 : Int64) (m7_F_mi_5 : Int32) (m7_L_2 : Int32) (m7_L_3 : Int32) (m7_L_4 : Int32), (0 ≤ m7_F_mi_5.toInt ∧ m7_F_mi_5.toInt ≤ 9) → (0 ≤ m7_L_2.toInt ∧ m7_L_2.toInt ≤ 5) → ((-1) ≤ m7_L_3.toInt) → (0 ≤ m7_L_4.toInt ∧ m7_L_4.toInt ≤ 6) → (7 - m7_L_4.toInt).toNat = n → ∀ (H : Heap) (locs : List Loc) (ls : Array Slot), va_P (dC, dI) vwCl [(h0, .inr (10, [.ref tp, h0_courtReader, h0_lawReader, h0_draft, .ref aC, h0_laws, .ref g0, .ref k0, .ref ac, .ref sd, .ref mi, .ref dw, .ref rf, .int lc, .int lh, .int br, .int hi])), (aC, .inr (1, [.ref aR, .ref aB, .ref aP, .int nb, .int np])), (aR, .inl (cI, 3, .inl fr)), (aB, .inl (cI, 24, .inl fb)), (aP, .inl (cI, 20, .inl fp)), (g0, .inr (7, [.ref gY, .ref gF, .ref gP, .int gpn, .int glt, .int gsh, .int gwd, .int gpu, .int gmo])), (gY, .inl (cI, 6, .inl gfY)), (gF, .inl (cI, 5, .inl gfF)), (gP, .inl (cI, 80, .inl gfP)), (sd, .inr (8, [.ref w1, .ref w2, .ref aC, .ref g0, .ref aL, .ref aK, .null])), (mi, .inr (6, [.ref aC, .ref g0, .ref sd, .ref mW, .long m7_F_mi_4, .int m7_F_mi_5, .ref mV, .ref mA, .ref mT])), (mW, .inl (cJ, 10, .inr (.inl m7_A_mW)))] H → va_D A [(h0, .inr (10, [.ref tp, h0_courtReader, h0_lawReader, h0_draft, .ref aC, h0_laws, .ref g0, .ref k0, .ref ac, .ref sd, .ref mi, .ref dw, .ref rf, .int lc, .int lh, .int br, .int hi])), (aC, .inr (1, [.ref aR, .ref aB, .ref aP, .int nb, .int np])), (aR, .inl (cI, 3, .inl fr)), (aB, .inl (cI, 24, .inl fb)), (aP, .inl (cI, 20, .inl fp)), (g0, .inr (7, [.ref gY, .ref gF, .ref gP, .int gpn, .int glt, .int gsh, .int gwd, .int gpu, .int gmo])), (gY, .inl (cI, 6, .inl gfY)), (gF, .inl (cI, 5, .inl gfF)), (gP, .inl (cI, 80, .inl gfP)), (sd, .inr (8, [.ref w1, .ref w2, .ref aC, .ref g0, .ref aL, .ref aK, .null])), (mi, .inr (6, [.ref aC, .ref g0, .ref sd, .ref mW, .long m7_F_mi_4, .int m7_F_mi_5, .ref mV, .ref mA, .ref mT])), (mW, .inl (cJ, 10, .inr (.inl m7_A_mW)))] → va_S A s.heap H locs → lv_has ls 7 [(4, .int m7_L_4), (3, .int m7_L_3), (2, .int m7_L_2), (0, .ref h0), (1, .int p0)] → W p l e R s m args below meth c H locs 0 0 Q (F0 m 7 ls []) := by
    intro n7
    induction n7 using Nat.strongRecOn with
    | _ n7 ih7 =>
      intro m7_A_mW m7_F_mi_4 m7_F_mi_5 m7_L_2 m7_L_3 m7_L_4 jf7_0 jf7_1 jf7_2 jf7_3 hmu7 H locs ls hP hD hS hl
      refine lv_iload hx hb dX10_choice_7 (lv_at hl 0 rfl) ?_
      refine lv_aload_n hx hb dX10_choice_9 rfl (lv_at hl 3 rfl) ?_
      refine va_get (D := (dC, dI)) (ci := 10) (v := .ref aC) (C := RX10) (T := TX10) (N := 17) hx hb hts iX10 hown hK hP 0 rfl rfl 4 (by decide) (hts _ qw360) (fun _ h9 => h9) rfl dX10_choice_10 ?_
      refine va_get (D := (dC, dI)) (ci := 1) (v := .int nb) (C := RX1) (T := TX1) (N := 5) hx hb hts iX1 hown hK hP 1 rfl rfl 3 (by decide) (hts _ qw195) (fun _ h9 => h9) rfl dX10_choice_13 ?_
      refine lv_icmp_ge (tgt := 92) hx hb dX10_choice_16 (by decide) (fun c16 => ?_) (fun c16 => ?_)
      · have c16 : nb.toInt ≤ m7_L_4.toInt := z3 rfl rfl c16
        refine lv_iload_n hx hb dX10_choice_92 rfl (lv_at hl 2 rfl) ?_
        rw [hQ]
        exact W.iret (v := m7_L_2) hx hb hr (fun t ht hW => ⟨⟨m7_L_2, (m7_F_mi_4, m7_F_mi_5, m7_A_mW), rfl, ⟨by (try dsimp only); omega, by (try dsimp only); omega, by (try dsimp only); omega, by (try dsimp only); omega⟩, ⟨by rw [ht]; exact hP, hD⟩⟩, hS.F ht⟩) hS.2.2 dX10_choice_93
      · have c16 : m7_L_4.toInt < nb.toInt := z4 rfl rfl c16
        refine lv_iload_n hx hb dX10_choice_19 rfl (lv_at hl 4 rfl) ?_
        refine lv_iconst (v := 1) hx hb dX10_choice_20 (by decide) ?_
        have J37 : ∀ (m37_S_0 : Int32), ∀ (H : Heap) (locs : List Loc) (ls : Array Slot), va_P (dC, dI) vwCl [(h0, .inr (10, [.ref tp, h0_courtReader, h0_lawReader, h0_draft, .ref aC, h0_laws, .ref g0, .ref k0, .ref ac, .ref sd, .ref mi, .ref dw, .ref rf, .int lc, .int lh, .int br, .int hi])), (aC, .inr (1, [.ref aR, .ref aB, .ref aP, .int nb, .int np])), (aR, .inl (cI, 3, .inl fr)), (aB, .inl (cI, 24, .inl fb)), (aP, .inl (cI, 20, .inl fp)), (g0, .inr (7, [.ref gY, .ref gF, .ref gP, .int gpn, .int glt, .int gsh, .int gwd, .int gpu, .int gmo])), (gY, .inl (cI, 6, .inl gfY)), (gF, .inl (cI, 5, .inl gfF)), (gP, .inl (cI, 80, .inl gfP)), (sd, .inr (8, [.ref w1, .ref w2, .ref aC, .ref g0, .ref aL, .ref aK, .null])), (mi, .inr (6, [.ref aC, .ref g0, .ref sd, .ref mW, .long m7_F_mi_4, .int m7_F_mi_5, .ref mV, .ref mA, .ref mT])), (mW, .inl (cJ, 10, .inr (.inl m7_A_mW)))] H → va_D A [(h0, .inr (10, [.ref tp, h0_courtReader, h0_lawReader, h0_draft, .ref aC, h0_laws, .ref g0, .ref k0, .ref ac, .ref sd, .ref mi, .ref dw, .ref rf, .int lc, .int lh, .int br, .int hi])), (aC, .inr (1, [.ref aR, .ref aB, .ref aP, .int nb, .int np])), (aR, .inl (cI, 3, .inl fr)), (aB, .inl (cI, 24, .inl fb)), (aP, .inl (cI, 20, .inl fp)), (g0, .inr (7, [.ref gY, .ref gF, .ref gP, .int gpn, .int glt, .int gsh, .int gwd, .int gpu, .int gmo])), (gY, .inl (cI, 6, .inl gfY)), (gF, .inl (cI, 5, .inl gfF)), (gP, .inl (cI, 80, .inl gfP)), (sd, .inr (8, [.ref w1, .ref w2, .ref aC, .ref g0, .ref aL, .ref aK, .null])), (mi, .inr (6, [.ref aC, .ref g0, .ref sd, .ref mW, .long m7_F_mi_4, .int m7_F_mi_5, .ref mV, .ref mA, .ref mT])), (mW, .inl (cJ, 10, .inr (.inl m7_A_mW)))] → va_S A s.heap H locs → lv_has ls 7 [(4, .int m7_L_4), (3, .int m7_L_3), (2, .int m7_L_2), (0, .ref h0), (1, .int p0)] → W p l e R s m args below meth c H locs 0 0 Q (F0 m 37 ls [.int m37_S_0]) := by
          intro m37_S_0  H locs ls hP hD hS hl
          refine lv_istore (lv' := [(5, .int m37_S_0), (4, .int m7_L_4), (3, .int m7_L_3), (2, .int m7_L_2), (0, .ref h0), (1, .int p0)]) hx hb dX10_choice_37 hl (by decide) rfl (fun ls hl => ?_)
          refine lv_iload_n hx hb dX10_choice_39 rfl (lv_at hl 5 rfl) ?_
          have J61 : ∀ (m61_A_mW : Nat → Int64) (m61_F_mi_4 : Int64) (m61_F_mi_5 : Int32) (m61_L_5 : Int32), (0 ≤ m61_F_mi_5.toInt ∧ m61_F_mi_5.toInt ≤ 9) → ∀ (H : Heap) (locs : List Loc) (ls : Array Slot), va_P (dC, dI) vwCl [(h0, .inr (10, [.ref tp, h0_courtReader, h0_lawReader, h0_draft, .ref aC, h0_laws, .ref g0, .ref k0, .ref ac, .ref sd, .ref mi, .ref dw, .ref rf, .int lc, .int lh, .int br, .int hi])), (aC, .inr (1, [.ref aR, .ref aB, .ref aP, .int nb, .int np])), (aR, .inl (cI, 3, .inl fr)), (aB, .inl (cI, 24, .inl fb)), (aP, .inl (cI, 20, .inl fp)), (g0, .inr (7, [.ref gY, .ref gF, .ref gP, .int gpn, .int glt, .int gsh, .int gwd, .int gpu, .int gmo])), (gY, .inl (cI, 6, .inl gfY)), (gF, .inl (cI, 5, .inl gfF)), (gP, .inl (cI, 80, .inl gfP)), (sd, .inr (8, [.ref w1, .ref w2, .ref aC, .ref g0, .ref aL, .ref aK, .null])), (mi, .inr (6, [.ref aC, .ref g0, .ref sd, .ref mW, .long m61_F_mi_4, .int m61_F_mi_5, .ref mV, .ref mA, .ref mT])), (mW, .inl (cJ, 10, .inr (.inl m61_A_mW)))] H → va_D A [(h0, .inr (10, [.ref tp, h0_courtReader, h0_lawReader, h0_draft, .ref aC, h0_laws, .ref g0, .ref k0, .ref ac, .ref sd, .ref mi, .ref dw, .ref rf, .int lc, .int lh, .int br, .int hi])), (aC, .inr (1, [.ref aR, .ref aB, .ref aP, .int nb, .int np])), (aR, .inl (cI, 3, .inl fr)), (aB, .inl (cI, 24, .inl fb)), (aP, .inl (cI, 20, .inl fp)), (g0, .inr (7, [.ref gY, .ref gF, .ref gP, .int gpn, .int glt, .int gsh, .int gwd, .int gpu, .int gmo])), (gY, .inl (cI, 6, .inl gfY)), (gF, .inl (cI, 5, .inl gfF)), (gP, .inl (cI, 80, .inl gfP)), (sd, .inr (8, [.ref w1, .ref w2, .ref aC, .ref g0, .ref aL, .ref aK, .null])), (mi, .inr (6, [.ref aC, .ref g0, .ref sd, .ref mW, .long m61_F_mi_4, .int m61_F_mi_5, .ref mV, .ref mA, .ref mT])), (mW, .inl (cJ, 10, .inr (.inl m61_A_mW)))] → va_S A s.heap H locs → lv_has ls 7 [(5, .int m61_L_5), (4, .int m7_L_4), (3, .int m7_L_3), (2, .int m7_L_2), (0, .ref h0), (1, .int p0)] → W p l e R s m args below meth c H locs 0 0 Q (F0 m 61 ls []) := by
            intro m61_A_mW m61_F_mi_4 m61_F_mi_5 m61_L_5 jf61_0 H locs ls hP hD hS hl
            refine lv_aload_n hx hb dX10_choice_61 rfl (lv_at hl 4 rfl) ?_
            refine va_get (D := (dC, dI)) (ci := 10) (v := .ref aC) (C := RX10) (T := TX10) (N := 17) hx hb hts iX10 hown hK hP 0 rfl rfl 4 (by decide) (hts _ qw360) (fun _ h9 => h9) rfl dX10_choice_62 ?_
            refine lv_iload hx hb dX10_choice_65 (lv_at hl 1 rfl) ?_
            refine lv_iload hx hb dX10_choice_67 (lv_at hl 0 rfl) ?_
            obtain ⟨hPc, hDc⟩ := zc2 (wc := [(aC, .inr (1, [.ref aR, .ref aB, .ref aP, .int nb, .int np])), (aR, .inl (cI, 3, .inl fr)), (aB, .inl (cI, 24, .inl fb))]) hP hD [1, 2, 3] (by decide +kernel) rfl
            have hFc := zfr hS hA
            refine va_calli (va_runV (As := [.int m7_L_4, .int m61_L_5]) (rest := []) ⟨hx, hb, hml, hown, hts⟩ (g_X1_worthWith l dC dI cI cJ aC m7_L_4 m61_L_5 aR aB aP nb np fr fb H.size (by omega)) (cwV 2 hts (zgV qw906 qw907 qw908 qw102 qw909) rfl rfl rfl hd_X1_worthWith ⟨by rw [hR]; exact Nat.le_of_ble_eq_true rfl, by rw [hR]; exact Nat.le_of_ble_eq_true rfl⟩) (zPV hPc hK hDc (va_recv (q := (RX1, TX1, 5)) hK hP (ci := 1) (q0 := 1) rfl rfl)) rfl rfl hl.1 rfl (lv_room (Nat.le_of_ble_eq_true rfl)) dX10_choice_69 ⟨Nat.zero_le _, Nat.zero_le _⟩) hS (fun q _ h => hFc q h) hFc (fun v69 u69 t H locs ht hvm hw hB hz1 hk1 hS9 => ?_)
            replace hP := zkeep hP hk1
            replace hS := hS9
            clear hPc hDc hFc hk1 hz1 hvm hS9
            have f69_0 : (v69 = zWo m61_L_5 (fr 1) (fb (4 * m7_L_4.toInt.toNat + 1)) (fr 2)) := hw
            have F69 := f69_0
            refine lv_istore (lv' := [(6, .int v69), (5, .int m61_L_5), (4, .int m7_L_4), (3, .int m7_L_3), (2, .int m7_L_2), (0, .ref h0), (1, .int p0)]) hx hb dX10_choice_72 hl (by decide) rfl (fun ls hl => ?_)
            refine lv_iload hx hb dX10_choice_74 (lv_at hl 0 rfl) ?_
            refine lv_iload_n hx hb dX10_choice_76 rfl (lv_at hl 3 rfl) ?_
            have J86 : ∀ (m86_L_2 : Int32) (m86_L_3 : Int32), (0 ≤ m86_L_2.toInt ∧ m86_L_2.toInt ≤ 5) → ((-1) ≤ m86_L_3.toInt) → ∀ (H : Heap) (locs : List Loc) (ls : Array Slot), va_P (dC, dI) vwCl [(h0, .inr (10, [.ref tp, h0_courtReader, h0_lawReader, h0_draft, .ref aC, h0_laws, .ref g0, .ref k0, .ref ac, .ref sd, .ref mi, .ref dw, .ref rf, .int lc, .int lh, .int br, .int hi])), (aC, .inr (1, [.ref aR, .ref aB, .ref aP, .int nb, .int np])), (aR, .inl (cI, 3, .inl fr)), (aB, .inl (cI, 24, .inl fb)), (aP, .inl (cI, 20, .inl fp)), (g0, .inr (7, [.ref gY, .ref gF, .ref gP, .int gpn, .int glt, .int gsh, .int gwd, .int gpu, .int gmo])), (gY, .inl (cI, 6, .inl gfY)), (gF, .inl (cI, 5, .inl gfF)), (gP, .inl (cI, 80, .inl gfP)), (sd, .inr (8, [.ref w1, .ref w2, .ref aC, .ref g0, .ref aL, .ref aK, .null])), (mi, .inr (6, [.ref aC, .ref g0, .ref sd, .ref mW, .long m61_F_mi_4, .int m61_F_mi_5, .ref mV, .ref mA, .ref mT])), (mW, .inl (cJ, 10, .inr (.inl m61_A_mW)))] H → va_D A [(h0, .inr (10, [.ref tp, h0_courtReader, h0_lawReader, h0_draft, .ref aC, h0_laws, .ref g0, .ref k0, .ref ac, .ref sd, .ref mi, .ref dw, .ref rf, .int lc, .int lh, .int br, .int hi])), (aC, .inr (1, [.ref aR, .ref aB, .ref aP, .int nb, .int np])), (aR, .inl (cI, 3, .inl fr)), (aB, .inl (cI, 24, .inl fb)), (aP, .inl (cI, 20, .inl fp)), (g0, .inr (7, [.ref gY, .ref gF, .ref gP, .int gpn, .int glt, .int gsh, .int gwd, .int gpu, .int gmo])), (gY, .inl (cI, 6, .inl gfY)), (gF, .inl (cI, 5, .inl gfF)), (gP, .inl (cI, 80, .inl gfP)), (sd, .inr (8, [.ref w1, .ref w2, .ref aC, .ref g0, .ref aL, .ref aK, .null])), (mi, .inr (6, [.ref aC, .ref g0, .ref sd, .ref mW, .long m61_F_mi_4, .int m61_F_mi_5, .ref mV, .ref mA, .ref mT])), (mW, .inl (cJ, 10, .inr (.inl m61_A_mW)))] → va_S A s.heap H locs → lv_has ls 7 [(6, .int v69), (5, .int m61_L_5), (4, .int m7_L_4), (3, .int m86_L_3), (2, .int m86_L_2), (0, .ref h0), (1, .int p0)] → W p l e R s m args below meth c H locs 0 0 Q (F0 m 86 ls []) := by
              intro m86_L_2 m86_L_3 jf86_0 jf86_1 H locs ls hP hD hS hl
              obtain ⟨v86, e86⟩ : ∃ y : Int32, y = m7_L_4 + Int32.ofInt (1) := ⟨_, rfl⟩
              refine lv_iinc (v := v86) (lv' := [(4, .int v86), (6, .int v69), (5, .int m61_L_5), (3, .int m86_L_3), (2, .int m86_L_2), (0, .ref h0), (1, .int p0)]) hx hb dX10_choice_86 hl (k := 2) rfl e86.symm (by decide) rfl (fun ls hl => ?_)
              have i86 : v86.toInt = m7_L_4.toInt + 1 := zaddI e86 (by decide) (by omega) (by omega)
              refine lv_goto (tgt := 7) hx hb dX10_choice_89 (by decide) ?_
              exact ih7 _ (by omega) m61_A_mW m61_F_mi_4 m61_F_mi_5 m86_L_2 m86_L_3 v86 jf61_0 jf86_0 jf86_1 (by omega) rfl H locs ls hP hD hS (lv_sub hl [0, 3, 4, 5, 6] rfl)
            refine lv_icmp_le (tgt := 86) hx hb dX10_choice_77 (by decide) (fun c77 => ?_) (fun c77 => ?_)
            · have c77 : v69.toInt ≤ m7_L_3.toInt := z3 rfl rfl c77
              exact J86 m7_L_2 m7_L_3 jf7_1 jf7_2 H locs ls hP hD hS (lv_sub hl [0, 1, 2, 3, 4, 5, 6] rfl)
            · have c77 : m7_L_3.toInt < v69.toInt := z4 rfl rfl c77
              refine lv_iload hx hb dX10_choice_80 (lv_at hl 2 rfl) ?_
              refine lv_istore_n (lv' := [(2, .int m7_L_4), (6, .int v69), (5, .int m61_L_5), (4, .int m7_L_4), (3, .int m7_L_3), (0, .ref h0), (1, .int p0)]) hx hb dX10_choice_82 rfl hl (by decide) rfl (fun ls hl => ?_)
              refine lv_iload hx hb dX10_choice_83 (lv_at hl 1 rfl) ?_
              refine lv_istore_n (lv' := [(3, .int v69), (2, .int m7_L_4), (6, .int v69), (5, .int m61_L_5), (4, .int m7_L_4), (0, .ref h0), (1, .int p0)]) hx hb dX10_choice_85 rfl hl (by decide) rfl (fun ls hl => ?_)
              exact J86 m7_L_4 v69 (by omega) (by omega) H locs ls hP hD hS (lv_sub hl [2, 3, 4, 0, 1, 5, 6] rfl)
          refine lv_if_ne (tgt := 61) hx hb dX10_choice_40 (by decide) (fun c40 => ?_) (fun c40 => ?_)
          · have c40 : ¬ p0.toInt = 0 := z6 rfl (by decide) c40
            exact J61 m7_A_mW m7_F_mi_4 m7_F_mi_5 m37_S_0 jf7_0 H locs ls hP hD hS (lv_sub hl [0, 1, 2, 3, 4, 5] rfl)
          · have c40 : p0.toInt = 0 := z5 rfl (by decide) c40
            refine lv_aload_n hx hb dX10_choice_43 rfl (lv_at hl 4 rfl) ?_
            refine va_get (D := (dC, dI)) (ci := 10) (v := .ref mi) (C := RX10) (T := TX10) (N := 17) hx hb hts iX10 hown hK hP 0 rfl rfl 10 (by decide) (hts _ qw366) (fun _ h9 => h9) rfl dX10_choice_44 ?_
            refine lv_iload hx hb dX10_choice_47 (lv_at hl 1 rfl) ?_
            obtain ⟨hPc, hDc, hFc⟩ := zc3 (wc := [(mi, .inr (6, [.ref aC, .ref g0, .ref sd, .ref mW, .long m7_F_mi_4, .int m7_F_mi_5, .ref mV, .ref mA, .ref mT])), (aC, .inr (1, [.ref aR, .ref aB, .ref aP, .int nb, .int np])), (aB, .inl (cI, 24, .inl fb)), (aP, .inl (cI, 20, .inl fp)), (g0, .inr (7, [.ref gY, .ref gF, .ref gP, .int gpn, .int glt, .int gsh, .int gwd, .int gpu, .int gmo])), (gY, .inl (cI, 6, .inl gfY)), (gF, .inl (cI, 5, .inl gfF)), (gP, .inl (cI, 80, .inl gfP)), (sd, .inr (8, [.ref w1, .ref w2, .ref aC, .ref g0, .ref aL, .ref aK, .null])), (mW, .inl (cJ, 10, .inr (.inl m7_A_mW)))]) hP hD hS hA [10, 1, 3, 4, 5, 6, 7, 8, 9, 11] (by decide +kernel) rfl
            refine va_callv (va_runV (As := [.int m7_L_4]) (rest := []) ⟨hx, hb, hml, hown, hts⟩ (g_X6_weigh_n l dC dI cI cJ mi m7_L_4 aC g0 sd mW m7_F_mi_4 m7_F_mi_5 mV mA mT aR aB aP nb np fb fp gY gF gP gpn glt gsh gwd gpu gmo gfY gfF gfP w1 w2 aL aK m7_A_mW H.size y_gpn jf7_0 (by omega) ci_gfP_zPo) (cwV 1 hts (zgV qw829 qw830 qw831 qw106 qw832) rfl rfl rfl hd_X6_weigh ⟨by rw [hR]; exact Nat.le_of_ble_eq_true rfl, by rw [hR]; exact Nat.le_of_ble_eq_true rfl⟩) (zPWV hPc hK hDc (va_recv (q := (RX6, TX6, 9)) hK hP (ci := 6) (q0 := 10) rfl rfl) (zV_call hV hS hFc)) rfl rfl hl.1 rfl (lv_room (Nat.le_of_ble_eq_true rfl)) dX10_choice_49 ⟨Nat.zero_le _, Nat.zero_le _⟩) hS (fun q _ h => hFc q h) hFc (fun u49 t H locs ht hvm hw hB hz1 hk1 hS9 => ?_)
            obtain ⟨u49_0, u49_1, u49_2⟩ := u49
            obtain ⟨hP9, hD9⟩ := zj2 (wX := [(h0, .inr (10, [.ref tp, h0_courtReader, h0_lawReader, h0_draft, .ref aC, h0_laws, .ref g0, .ref k0, .ref ac, .ref sd, .ref mi, .ref dw, .ref rf, .int lc, .int lh, .int br, .int hi])), (aC, .inr (1, [.ref aR, .ref aB, .ref aP, .int nb, .int np])), (aR, .inl (cI, 3, .inl fr)), (aB, .inl (cI, 24, .inl fb)), (aP, .inl (cI, 20, .inl fp)), (g0, .inr (7, [.ref gY, .ref gF, .ref gP, .int gpn, .int glt, .int gsh, .int gwd, .int gpu, .int gmo])), (gY, .inl (cI, 6, .inl gfY)), (gF, .inl (cI, 5, .inl gfF)), (gP, .inl (cI, 80, .inl gfP)), (sd, .inr (8, [.ref w1, .ref w2, .ref aC, .ref g0, .ref aL, .ref aK, .null])), (mi, .inr (6, [.ref aC, .ref g0, .ref sd, .ref mW, .long u49_0, .int u49_1, .ref mV, .ref mA, .ref mT])), (mW, .inl (cJ, 10, .inr (.inl u49_2)))]) hP hD hk1 hFc ht hB [10, 1, 3, 4, 5, 6, 7, 8, 9, 11] [(false, 0), (true, 1), (false, 2), (true, 2), (true, 3), (true, 4), (true, 5), (true, 6), (true, 7), (true, 8), (true, 0), (true, 9)] rfl (by decide +kernel) (by decide +kernel) rfl
            clear hP hD hS hPc hDc hFc hB hk1 hz1 hvm
            have hP := hP9
            have hD := hD9
            have hS := hS9
            clear hP9 hD9 hS9
            obtain ⟨f49_0, f49_1, f49_2⟩ : (0 ≤ u49_1.toInt) ∧ (u49_1.toInt ≤ 9) ∧ (∀ (kc : zK3) (kT : zT) (q_fr : Nat → Int32), zCn q_fr fb fp nb.toInt np.toInt kc → zKo nb.toInt np.toInt kc kT → zSc nb.toInt np.toInt kT.1 gfY gfF gfP gpn glt gsh gwd gpu gmo → (0 ≤ m7_L_4.toInt ∧ m7_L_4.toInt < nb.toInt) → zWe kc kT.1 none m7_L_4 u49_2 u49_0 u49_1) := hw
            have F49 := f49_2
            refine lv_aload_n hx hb dX10_choice_52 rfl (lv_at hl 4 rfl) ?_
            refine va_get (D := (dC, dI)) (ci := 10) (v := .ref mi) (C := RX10) (T := TX10) (N := 17) hx hb hts iX10 hown hK hP 0 rfl rfl 10 (by decide) (hts _ qw366) (fun _ h9 => h9) rfl dX10_choice_53 ?_
            refine va_get (D := (dC, dI)) (ci := 6) (v := .int u49_1) (C := RX6) (T := TX6) (N := 9) hx hb hts iX6 hown hK hP 10 rfl rfl 5 (by decide) (hts _ qw322) (fun _ h9 => h9) rfl dX10_choice_56 ?_
            refine lv_istore (lv' := [(5, .int u49_1), (4, .int m7_L_4), (3, .int m7_L_3), (2, .int m7_L_2), (0, .ref h0), (1, .int p0)]) hx hb dX10_choice_59 hl (by decide) rfl (fun ls hl => ?_)
            exact J61 u49_2 u49_0 u49_1 u49_1 ⟨f49_0, f49_1⟩ H locs ls hP hD hS (lv_sub hl [0, 1, 2, 3, 4, 5] rfl)
        refine lv_icmp_ne (tgt := 36) hx hb dX10_choice_21 (by decide) (fun c21 => ?_) (fun c21 => ?_)
        · have c21 : ¬ p0.toInt = 1 := z6 rfl (by decide) c21
          refine lv_iconst (v := 0) hx hb dX10_choice_36 (by decide) ?_
          exact J37 0  H locs ls hP hD hS (lv_sub hl [0, 1, 2, 3, 4] rfl)
        · have c21 : p0.toInt = 1 := z5 rfl (by decide) c21
          refine lv_aload_n hx hb dX10_choice_24 rfl (lv_at hl 3 rfl) ?_
          refine va_get (D := (dC, dI)) (ci := 10) (v := .ref aC) (C := RX10) (T := TX10) (N := 17) hx hb hts iX10 hown hK hP 0 rfl rfl 4 (by decide) (hts _ qw360) (fun _ h9 => h9) rfl dX10_choice_25 ?_
          refine lv_iload hx hb dX10_choice_28 (lv_at hl 0 rfl) ?_
          obtain ⟨hPc, hDc⟩ := zc2 (wc := [(aC, .inr (1, [.ref aR, .ref aB, .ref aP, .int nb, .int np])), (aB, .inl (cI, 24, .inl fb))]) hP hD [1, 3] (by decide +kernel) rfl
          have hFc := zfr hS hA
          refine va_calli (va_runV (As := [.int m7_L_4]) (rest := []) ⟨hx, hb, hml, hown, hts⟩ (g_X1_faceOf l dC dI cI cJ aC m7_L_4 aR aB aP nb np fb H.size (by omega)) (cwV 1 hts (zgV qw702 qw703 qw704 qw102 qw705) rfl rfl rfl hd_X1_faceOf ⟨by rw [hR]; exact Nat.le_of_ble_eq_true rfl, by rw [hR]; exact Nat.le_of_ble_eq_true rfl⟩) (zPV hPc hK hDc (va_recv (q := (RX1, TX1, 5)) hK hP (ci := 1) (q0 := 1) rfl rfl)) rfl rfl hl.1 rfl (lv_room (Nat.le_of_ble_eq_true rfl)) dX10_choice_30 ⟨Nat.zero_le _, Nat.zero_le _⟩) hS (fun q _ h => hFc q h) hFc (fun v30 u30 t H locs ht hvm hw hB hz1 hk1 hS9 => ?_)
          replace hP := zkeep hP hk1
          replace hS := hS9
          clear hPc hDc hFc hk1 hz1 hvm hS9
          have f30_0 : (v30 = fb (4 * m7_L_4.toInt.toNat)) := hw
          have F30 := f30_0
          refine lv_goto (tgt := 37) hx hb dX10_choice_33 (by decide) ?_
          exact J37 v30  H locs ls hP hD hS (lv_sub hl [0, 1, 2, 3, 4] rfl)
  refine lv_istore (lv' := [(4, .int 0), (3, .int (-1)), (2, .int 0), (0, .ref h0), (1, .int p0)]) hx hb dX10_choice_5 hl (by decide) rfl (fun ls hl => ?_)
  exact J7 _ fW mt lf 0 (-1) 0 y_lf (by decide) (by decide) (by decide) rfl H locs ls hP hD hS (lv_sub hl [0, 1, 2, 3, 4] rfl)
set_option maxHeartbeats 4000000 in
set_option maxRecDepth 100000 in
theorem g_X10_choice_l (l : Launch) (dC : Nat → ClassId) (dI : Nat → Nat → Nat) (cI cJ : ClassId) (h0 : Nat) (p0 : Int32) (tp : Nat) (h0_courtReader : Value) (h0_lawReader : Value) (h0_draft : Value) (aC : Nat) (h0_laws : Value) (g0 : Nat) (k0 : Nat) (ac : Nat) (sd : Nat) (mi : Nat) (dw : Nat) (rf : Nat) (lc : Int32) (lh : Int32) (br : Int32) (hi : Int32) (aR : Nat) (aB : Nat) (aP : Nat) (nb : Int32) (np : Int32) (fr : Nat → Int32) (fb : Nat → Int32) (fp : Nat → Int32) (gY : Nat) (gF : Nat) (gP : Nat) (gpn : Int32) (glt : Int32) (gsh : Int32) (gwd : Int32) (gpu : Int32) (gmo : Int32) (gfY : Nat → Int32) (gfF : Nat → Int32) (gfP : Nat → Int32) (w1 : Nat) (w2 : Nat) (aL : Nat) (aK : Nat) (lw : Nat) (fL : Nat → Int32) (fK : Nat → Int32) (lS : Nat) (fS : Nat → Int32) (lk : Nat) (mW : Nat) (mt : Int64) (lf : Int32) (mV : Nat) (mA : Nat) (mT : Nat) (fW : Nat → Int64) (sz : Nat) (n_gpn : 0 ≤ gpn.toInt ∧ gpn.toInt ≤ 20) (n_gwd : (-1) ≤ gwd.toInt ∧ gwd.toInt ≤ 5) (n_hi : 0 ≤ hi.toInt ∧ hi.toInt ≤ 1) (n_lc : 0 ≤ lc.toInt ∧ lc.toInt ≤ 4) (n_lf : 0 ≤ lf.toInt ∧ lf.toInt ≤ 9) (n_nb : 0 ≤ nb.toInt ∧ nb.toInt ≤ 6) (n_np : 0 ≤ np.toInt ∧ np.toInt ≤ 5) (n_p0 : 0 ≤ p0.toInt ∧ p0.toInt ≤ 2) (hlk : lk ≤ 241) (ci_fS_zSt : zSt fS) (ci_gfP_zPo : zPo gfP)  : Met l yX10_choice (.code yX10_choice cX10_choice 7 (some .int) :: wA) ({ frames := 6, cells := 0, slots := 0, locals := 153 }) (zPW (dC, dI) [(cI, .int), (cJ, .long)] [.ref h0, .int p0] sz [(h0, .inr (10, [.ref tp, h0_courtReader, h0_lawReader, h0_draft, .ref aC, h0_laws, .ref g0, .ref k0, .ref ac, .ref sd, .ref mi, .ref dw, .ref rf, .int lc, .int lh, .int br, .int hi])), (aC, .inr (1, [.ref aR, .ref aB, .ref aP, .int nb, .int np])), (aR, .inl (cI, 3, .inl fr)), (aB, .inl (cI, 24, .inl fb)), (aP, .inl (cI, 20, .inl fp)), (g0, .inr (7, [.ref gY, .ref gF, .ref gP, .int gpn, .int glt, .int gsh, .int gwd, .int gpu, .int gmo])), (gY, .inl (cI, 6, .inl gfY)), (gF, .inl (cI, 5, .inl gfF)), (gP, .inl (cI, 80, .inl gfP)), (sd, .inr (8, [.ref w1, .ref w2, .ref aC, .ref g0, .ref aL, .ref aK, .ref lw])), (aL, .inl (cI, 6, .inl fL)), (aK, .inl (cI, 32, .inl fK)), (lw, .inr (4, [.ref lS])), (lS, .inl (cI, lk, .inl fS)), (mi, .inr (6, [.ref aC, .ref g0, .ref sd, .ref mW, .long mt, .int lf, .ref mV, .ref mA, .ref mT])), (mW, .inl (cJ, 10, .inr (.inl fW)))] (va_A [(h0, .inr (10, [.ref tp, h0_courtReader, h0_lawReader, h0_draft, .ref aC, h0_laws, .ref g0, .ref k0, .ref ac, .ref sd, .ref mi, .ref dw, .ref rf, .int lc, .int lh, .int br, .int hi])), (aC, .inr (1, [.ref aR, .ref aB, .ref aP, .int nb, .int np])), (aR, .inl (cI, 3, .inl fr)), (aB, .inl (cI, 24, .inl fb)), (aP, .inl (cI, 20, .inl fp)), (g0, .inr (7, [.ref gY, .ref gF, .ref gP, .int gpn, .int glt, .int gsh, .int gwd, .int gpu, .int gmo])), (gY, .inl (cI, 6, .inl gfY)), (gF, .inl (cI, 5, .inl gfF)), (gP, .inl (cI, 80, .inl gfP)), (sd, .inr (8, [.ref w1, .ref w2, .ref aC, .ref g0, .ref aL, .ref aK, .ref lw])), (aL, .inl (cI, 6, .inl fL)), (aK, .inl (cI, 32, .inl fK)), (lw, .inr (4, [.ref lS])), (lS, .inl (cI, lk, .inl fS)), (mi, .inr (6, [.ref aC, .ref g0, .ref sd, .ref mW, .long mt, .int lf, .ref mV, .ref mA, .ref mT])), (mW, .inl (cJ, 10, .inr (.inl fW)))] sz)) (va_Qi (fun (r : Int32) (u : (Nat → Int32) × (Nat → Int32) × Int64 × Int32 × (Nat → Int64)) => (0 ≤ r.toInt) ∧ (r.toInt ≤ 5) ∧ (0 ≤ u.2.2.2.1.toInt) ∧ (u.2.2.2.1.toInt ≤ 9)) (fun (u : (Nat → Int32) × (Nat → Int32) × Int64 × Int32 × (Nat → Int64)) (t : State) => va_P (dC, dI) vwCl [(h0, .inr (10, [.ref tp, h0_courtReader, h0_lawReader, h0_draft, .ref aC, h0_laws, .ref g0, .ref k0, .ref ac, .ref sd, .ref mi, .ref dw, .ref rf, .int lc, .int lh, .int br, .int hi])), (aC, .inr (1, [.ref aR, .ref aB, .ref aP, .int nb, .int np])), (aR, .inl (cI, 3, .inl fr)), (aB, .inl (cI, 24, .inl fb)), (aP, .inl (cI, 20, .inl fp)), (g0, .inr (7, [.ref gY, .ref gF, .ref gP, .int gpn, .int glt, .int gsh, .int gwd, .int gpu, .int gmo])), (gY, .inl (cI, 6, .inl gfY)), (gF, .inl (cI, 5, .inl gfF)), (gP, .inl (cI, 80, .inl gfP)), (sd, .inr (8, [.ref w1, .ref w2, .ref aC, .ref g0, .ref aL, .ref aK, .ref lw])), (aL, .inl (cI, 6, .inl u.1)), (aK, .inl (cI, 32, .inl u.2.1)), (lw, .inr (4, [.ref lS])), (lS, .inl (cI, lk, .inl fS)), (mi, .inr (6, [.ref aC, .ref g0, .ref sd, .ref mW, .long u.2.2.1, .int u.2.2.2.1, .ref mV, .ref mA, .ref mT])), (mW, .inl (cJ, 10, .inr (.inl u.2.2.2.2)))] t.heap ∧ va_D (va_A [(h0, .inr (10, [.ref tp, h0_courtReader, h0_lawReader, h0_draft, .ref aC, h0_laws, .ref g0, .ref k0, .ref ac, .ref sd, .ref mi, .ref dw, .ref rf, .int lc, .int lh, .int br, .int hi])), (aC, .inr (1, [.ref aR, .ref aB, .ref aP, .int nb, .int np])), (aR, .inl (cI, 3, .inl fr)), (aB, .inl (cI, 24, .inl fb)), (aP, .inl (cI, 20, .inl fp)), (g0, .inr (7, [.ref gY, .ref gF, .ref gP, .int gpn, .int glt, .int gsh, .int gwd, .int gpu, .int gmo])), (gY, .inl (cI, 6, .inl gfY)), (gF, .inl (cI, 5, .inl gfF)), (gP, .inl (cI, 80, .inl gfP)), (sd, .inr (8, [.ref w1, .ref w2, .ref aC, .ref g0, .ref aL, .ref aK, .ref lw])), (aL, .inl (cI, 6, .inl fL)), (aK, .inl (cI, 32, .inl fK)), (lw, .inr (4, [.ref lS])), (lS, .inl (cI, lk, .inl fS)), (mi, .inr (6, [.ref aC, .ref g0, .ref sd, .ref mW, .long mt, .int lf, .ref mV, .ref mA, .ref mT])), (mW, .inl (cJ, 10, .inr (.inl fW)))] sz) [(h0, .inr (10, [.ref tp, h0_courtReader, h0_lawReader, h0_draft, .ref aC, h0_laws, .ref g0, .ref k0, .ref ac, .ref sd, .ref mi, .ref dw, .ref rf, .int lc, .int lh, .int br, .int hi])), (aC, .inr (1, [.ref aR, .ref aB, .ref aP, .int nb, .int np])), (aR, .inl (cI, 3, .inl fr)), (aB, .inl (cI, 24, .inl fb)), (aP, .inl (cI, 20, .inl fp)), (g0, .inr (7, [.ref gY, .ref gF, .ref gP, .int gpn, .int glt, .int gsh, .int gwd, .int gpu, .int gmo])), (gY, .inl (cI, 6, .inl gfY)), (gF, .inl (cI, 5, .inl gfF)), (gP, .inl (cI, 80, .inl gfP)), (sd, .inr (8, [.ref w1, .ref w2, .ref aC, .ref g0, .ref aL, .ref aK, .ref lw])), (aL, .inl (cI, 6, .inl u.1)), (aK, .inl (cI, 32, .inl u.2.1)), (lw, .inr (4, [.ref lS])), (lS, .inl (cI, lk, .inl fS)), (mi, .inr (6, [.ref aC, .ref g0, .ref sd, .ref mW, .long u.2.2.1, .int u.2.2.2.1, .ref mV, .ref mA, .ref mT])), (mW, .inl (cJ, 10, .inr (.inl u.2.2.2.2)))]) (va_A [(h0, .inr (10, [.ref tp, h0_courtReader, h0_lawReader, h0_draft, .ref aC, h0_laws, .ref g0, .ref k0, .ref ac, .ref sd, .ref mi, .ref dw, .ref rf, .int lc, .int lh, .int br, .int hi])), (aC, .inr (1, [.ref aR, .ref aB, .ref aP, .int nb, .int np])), (aR, .inl (cI, 3, .inl fr)), (aB, .inl (cI, 24, .inl fb)), (aP, .inl (cI, 20, .inl fp)), (g0, .inr (7, [.ref gY, .ref gF, .ref gP, .int gpn, .int glt, .int gsh, .int gwd, .int gpu, .int gmo])), (gY, .inl (cI, 6, .inl gfY)), (gF, .inl (cI, 5, .inl gfF)), (gP, .inl (cI, 80, .inl gfP)), (sd, .inr (8, [.ref w1, .ref w2, .ref aC, .ref g0, .ref aL, .ref aK, .ref lw])), (aL, .inl (cI, 6, .inl fL)), (aK, .inl (cI, 32, .inl fK)), (lw, .inr (4, [.ref lS])), (lS, .inl (cI, lk, .inl fS)), (mi, .inr (6, [.ref aC, .ref g0, .ref sd, .ref mW, .long mt, .int lf, .ref mV, .ref mA, .ref mT])), (mW, .inl (cJ, 10, .inr (.inl fW)))] sz)) 0 0 (va_A [(h0, .inr (10, [.ref tp, h0_courtReader, h0_lawReader, h0_draft, .ref aC, h0_laws, .ref g0, .ref k0, .ref ac, .ref sd, .ref mi, .ref dw, .ref rf, .int lc, .int lh, .int br, .int hi])), (aC, .inr (1, [.ref aR, .ref aB, .ref aP, .int nb, .int np])), (aR, .inl (cI, 3, .inl fr)), (aB, .inl (cI, 24, .inl fb)), (aP, .inl (cI, 20, .inl fp)), (g0, .inr (7, [.ref gY, .ref gF, .ref gP, .int gpn, .int glt, .int gsh, .int gwd, .int gpu, .int gmo])), (gY, .inl (cI, 6, .inl gfY)), (gF, .inl (cI, 5, .inl gfF)), (gP, .inl (cI, 80, .inl gfP)), (sd, .inr (8, [.ref w1, .ref w2, .ref aC, .ref g0, .ref aL, .ref aK, .ref lw])), (aL, .inl (cI, 6, .inl fL)), (aK, .inl (cI, 32, .inl fK)), (lw, .inr (4, [.ref lS])), (lS, .inl (cI, lk, .inl fS)), (mi, .inr (6, [.ref aC, .ref g0, .ref sd, .ref mW, .long mt, .int lf, .ref mV, .ref mA, .ref mT])), (mW, .inl (cJ, 10, .inr (.inl fW)))] sz) := by
  refine Met.ofW (cc := cX10_choice) (maxL := 7) (ret := (some .int)) (by decide) rfl ?_
  intro p e s m args below meth c s₁ B hml hv
  have y_gpn : zHid (0 ≤ gpn.toInt ∧ gpn.toInt ≤ 20) := n_gpn
  have y_gwd : zHid ((-1) ≤ gwd.toInt ∧ gwd.toInt ≤ 5) := n_gwd
  have y_hi : zHid (0 ≤ hi.toInt ∧ hi.toInt ≤ 1) := n_hi
  have y_lc : zHid (0 ≤ lc.toInt ∧ lc.toInt ≤ 4) := n_lc
  have y_lf : zHid (0 ≤ lf.toInt ∧ lf.toInt ≤ 9) := n_lf
  clear n_gpn n_gwd n_hi n_lc n_lf
  obtain ⟨⟨hargs, hsz, hP, hK, hT⟩, hV⟩ := hv
  have hx := B.exec
  have hb := B.bytes
  have hr := B.returns
  have hts : ∀ w ∈ wA, w.before args s = true := fun w h => atoms_spec (ws := .code yX10_choice cX10_choice 7 (some .int) :: wA) B.pre w (List.mem_cons_of_mem _ h)
  have hown : s.vm.findClass RX10 = some m.cls := findClass_of_methodNamed B.named
  have hlocks := B.notSynchronized
  subst hsz
  have hD := hT.self (sz := s.heap.size)
  generalize hAe : va_A [(h0, .inr (10, [.ref tp, h0_courtReader, h0_lawReader, h0_draft, .ref aC, h0_laws, .ref g0, .ref k0, .ref ac, .ref sd, .ref mi, .ref dw, .ref rf, .int lc, .int lh, .int br, .int hi])), (aC, .inr (1, [.ref aR, .ref aB, .ref aP, .int nb, .int np])), (aR, .inl (cI, 3, .inl fr)), (aB, .inl (cI, 24, .inl fb)), (aP, .inl (cI, 20, .inl fp)), (g0, .inr (7, [.ref gY, .ref gF, .ref gP, .int gpn, .int glt, .int gsh, .int gwd, .int gpu, .int gmo])), (gY, .inl (cI, 6, .inl gfY)), (gF, .inl (cI, 5, .inl gfF)), (gP, .inl (cI, 80, .inl gfP)), (sd, .inr (8, [.ref w1, .ref w2, .ref aC, .ref g0, .ref aL, .ref aK, .ref lw])), (aL, .inl (cI, 6, .inl fL)), (aK, .inl (cI, 32, .inl fK)), (lw, .inr (4, [.ref lS])), (lS, .inl (cI, lk, .inl fS)), (mi, .inr (6, [.ref aC, .ref g0, .ref sd, .ref mW, .long mt, .int lf, .ref mV, .ref mA, .ref mT])), (mW, .inl (cJ, 10, .inr (.inl fW)))] s.heap.size = A at hD hV ⊢
  have hA : ∀ q : Nat, s.heap.size ≤ q → A q := fun q h => by rw [← hAe]; exact Or.inr h
  have hl := lv_entry ([.ref h0, .int p0]) (n := 7) (Nat.le_of_ble_eq_true rfl)
  rw [show entryFrame m args 7 = entryFrame m ([.ref h0, .int p0] : List Value).toArray 7 by rw [hargs], lg_entry_eq]
  generalize (lg_sl ([.ref h0, .int p0]) ++ List.replicate (7 - (lg_sl ([.ref h0, .int p0])).length) Slot.unset).toArray = ls at hl ⊢
  have hl : lv_has ls 7 [(0, .ref h0), (1, .int p0)] := hl
  refine zstart (fun H hH => ?_)
  rw [← hH] at hP
  have hS : va_S A s.heap H [] := by rw [hH]; exact va_S.rf
  generalize ([] : List Loc) = locs at hS ⊢
  refine zgen (fun R Q hR hQ => ?_)
  refine lv_iconst (v := 0) hx hb dX10_choice_0 (by decide) ?_
  refine lv_istore_n (lv' := [(2, .int 0), (0, .ref h0), (1, .int p0)]) hx hb dX10_choice_1 rfl hl (by decide) rfl (fun ls hl => ?_)
  refine lv_iconst (v := (-1)) hx hb dX10_choice_2 (by decide) ?_
  refine lv_istore_n (lv' := [(3, .int (-1)), (2, .int 0), (0, .ref h0), (1, .int p0)]) hx hb dX10_choice_3 rfl hl (by decide) rfl (fun ls hl => ?_)
  refine lv_iconst (v := 0) hx hb dX10_choice_4 (by decide) ?_
  have J7 : ∀ (n : Nat) (m7_A_aK : Nat → Int32) (m7_A_aL : Nat → Int32) (m7_A_mW : Nat → Int64) (m7_F_mi_4 : Int64) (m7_F_mi_5 : Int32) (m7_L_2 : Int32) (m7_L_3 : Int32) (m7_L_4 : Int32), (0 ≤ m7_F_mi_5.toInt ∧ m7_F_mi_5.toInt ≤ 9) → (0 ≤ m7_L_2.toInt ∧ m7_L_2.toInt ≤ 5) → ((-1) ≤ m7_L_3.toInt) → (0 ≤ m7_L_4.toInt ∧ m7_L_4.toInt ≤ 6) → (7 - m7_L_4.toInt).toNat = n → ∀ (H : Heap) (locs : List Loc) (ls : Array Slot), va_P (dC, dI) vwCl [(h0, .inr (10, [.ref tp, h0_courtReader, h0_lawReader, h0_draft, .ref aC, h0_laws, .ref g0, .ref k0, .ref ac, .ref sd, .ref mi, .ref dw, .ref rf, .int lc, .int lh, .int br, .int hi])), (aC, .inr (1, [.ref aR, .ref aB, .ref aP, .int nb, .int np])), (aR, .inl (cI, 3, .inl fr)), (aB, .inl (cI, 24, .inl fb)), (aP, .inl (cI, 20, .inl fp)), (g0, .inr (7, [.ref gY, .ref gF, .ref gP, .int gpn, .int glt, .int gsh, .int gwd, .int gpu, .int gmo])), (gY, .inl (cI, 6, .inl gfY)), (gF, .inl (cI, 5, .inl gfF)), (gP, .inl (cI, 80, .inl gfP)), (sd, .inr (8, [.ref w1, .ref w2, .ref aC, .ref g0, .ref aL, .ref aK, .ref lw])), (aL, .inl (cI, 6, .inl m7_A_aL)), (aK, .inl (cI, 32, .inl m7_A_aK)), (lw, .inr (4, [.ref lS])), (lS, .inl (cI, lk, .inl fS)), (mi, .inr (6, [.ref aC, .ref g0, .ref sd, .ref mW, .long m7_F_mi_4, .int m7_F_mi_5, .ref mV, .ref mA, .ref mT])), (mW, .inl (cJ, 10, .inr (.inl m7_A_mW)))] H → va_D A [(h0, .inr (10, [.ref tp, h0_courtReader, h0_lawReader, h0_draft, .ref aC, h0_laws, .ref g0, .ref k0, .ref ac, .ref sd, .ref mi, .ref dw, .ref rf, .int lc, .int lh, .int br, .int hi])), (aC, .inr (1, [.ref aR, .ref aB, .ref aP, .int nb, .int np])), (aR, .inl (cI, 3, .inl fr)), (aB, .inl (cI, 24, .inl fb)), (aP, .inl (cI, 20, .inl fp)), (g0, .inr (7, [.ref gY, .ref gF, .ref gP, .int gpn, .int glt, .int gsh, .int gwd, .int gpu, .int gmo])), (gY, .inl (cI, 6, .inl gfY)), (gF, .inl (cI, 5, .inl gfF)), (gP, .inl (cI, 80, .inl gfP)), (sd, .inr (8, [.ref w1, .ref w2, .ref aC, .ref g0, .ref aL, .ref aK, .ref lw])), (aL, .inl (cI, 6, .inl m7_A_aL)), (aK, .inl (cI, 32, .inl m7_A_aK)), (lw, .inr (4, [.ref lS])), (lS, .inl (cI, lk, .inl fS)), (mi, .inr (6, [.ref aC, .ref g0, .ref sd, .ref mW, .long m7_F_mi_4, .int m7_F_mi_5, .ref mV, .ref mA, .ref mT])), (mW, .inl (cJ, 10, .inr (.inl m7_A_mW)))] → va_S A s.heap H locs → lv_has ls 7 [(4, .int m7_L_4), (3, .int m7_L_3), (2, .int m7_L_2), (0, .ref h0), (1, .int p0)] → W p l e R s m args below meth c H locs 0 0 Q (F0 m 7 ls []) := by
    intro n7
    induction n7 using Nat.strongRecOn with
    | _ n7 ih7 =>
      intro m7_A_aK m7_A_aL m7_A_mW m7_F_mi_4 m7_F_mi_5 m7_L_2 m7_L_3 m7_L_4 jf7_0 jf7_1 jf7_2 jf7_3 hmu7 H locs ls hP hD hS hl
      refine lv_iload hx hb dX10_choice_7 (lv_at hl 0 rfl) ?_
      refine lv_aload_n hx hb dX10_choice_9 rfl (lv_at hl 3 rfl) ?_
      refine va_get (D := (dC, dI)) (ci := 10) (v := .ref aC) (C := RX10) (T := TX10) (N := 17) hx hb hts iX10 hown hK hP 0 rfl rfl 4 (by decide) (hts _ qw360) (fun _ h9 => h9) rfl dX10_choice_10 ?_
      refine va_get (D := (dC, dI)) (ci := 1) (v := .int nb) (C := RX1) (T := TX1) (N := 5) hx hb hts iX1 hown hK hP 1 rfl rfl 3 (by decide) (hts _ qw195) (fun _ h9 => h9) rfl dX10_choice_13 ?_
      refine lv_icmp_ge (tgt := 92) hx hb dX10_choice_16 (by decide) (fun c16 => ?_) (fun c16 => ?_)
      · have c16 : nb.toInt ≤ m7_L_4.toInt := z3 rfl rfl c16
        refine lv_iload_n hx hb dX10_choice_92 rfl (lv_at hl 2 rfl) ?_
        rw [hQ]
        exact W.iret (v := m7_L_2) hx hb hr (fun t ht hW => ⟨⟨m7_L_2, (m7_A_aL, m7_A_aK, m7_F_mi_4, m7_F_mi_5, m7_A_mW), rfl, ⟨by (try dsimp only); omega, by (try dsimp only); omega, by (try dsimp only); omega, by (try dsimp only); omega⟩, ⟨by rw [ht]; exact hP, hD⟩⟩, hS.F ht⟩) hS.2.2 dX10_choice_93
      · have c16 : m7_L_4.toInt < nb.toInt := z4 rfl rfl c16
        refine lv_iload_n hx hb dX10_choice_19 rfl (lv_at hl 4 rfl) ?_
        refine lv_iconst (v := 1) hx hb dX10_choice_20 (by decide) ?_
        have J37 : ∀ (m37_S_0 : Int32), ∀ (H : Heap) (locs : List Loc) (ls : Array Slot), va_P (dC, dI) vwCl [(h0, .inr (10, [.ref tp, h0_courtReader, h0_lawReader, h0_draft, .ref aC, h0_laws, .ref g0, .ref k0, .ref ac, .ref sd, .ref mi, .ref dw, .ref rf, .int lc, .int lh, .int br, .int hi])), (aC, .inr (1, [.ref aR, .ref aB, .ref aP, .int nb, .int np])), (aR, .inl (cI, 3, .inl fr)), (aB, .inl (cI, 24, .inl fb)), (aP, .inl (cI, 20, .inl fp)), (g0, .inr (7, [.ref gY, .ref gF, .ref gP, .int gpn, .int glt, .int gsh, .int gwd, .int gpu, .int gmo])), (gY, .inl (cI, 6, .inl gfY)), (gF, .inl (cI, 5, .inl gfF)), (gP, .inl (cI, 80, .inl gfP)), (sd, .inr (8, [.ref w1, .ref w2, .ref aC, .ref g0, .ref aL, .ref aK, .ref lw])), (aL, .inl (cI, 6, .inl m7_A_aL)), (aK, .inl (cI, 32, .inl m7_A_aK)), (lw, .inr (4, [.ref lS])), (lS, .inl (cI, lk, .inl fS)), (mi, .inr (6, [.ref aC, .ref g0, .ref sd, .ref mW, .long m7_F_mi_4, .int m7_F_mi_5, .ref mV, .ref mA, .ref mT])), (mW, .inl (cJ, 10, .inr (.inl m7_A_mW)))] H → va_D A [(h0, .inr (10, [.ref tp, h0_courtReader, h0_lawReader, h0_draft, .ref aC, h0_laws, .ref g0, .ref k0, .ref ac, .ref sd, .ref mi, .ref dw, .ref rf, .int lc, .int lh, .int br, .int hi])), (aC, .inr (1, [.ref aR, .ref aB, .ref aP, .int nb, .int np])), (aR, .inl (cI, 3, .inl fr)), (aB, .inl (cI, 24, .inl fb)), (aP, .inl (cI, 20, .inl fp)), (g0, .inr (7, [.ref gY, .ref gF, .ref gP, .int gpn, .int glt, .int gsh, .int gwd, .int gpu, .int gmo])), (gY, .inl (cI, 6, .inl gfY)), (gF, .inl (cI, 5, .inl gfF)), (gP, .inl (cI, 80, .inl gfP)), (sd, .inr (8, [.ref w1, .ref w2, .ref aC, .ref g0, .ref aL, .ref aK, .ref lw])), (aL, .inl (cI, 6, .inl m7_A_aL)), (aK, .inl (cI, 32, .inl m7_A_aK)), (lw, .inr (4, [.ref lS])), (lS, .inl (cI, lk, .inl fS)), (mi, .inr (6, [.ref aC, .ref g0, .ref sd, .ref mW, .long m7_F_mi_4, .int m7_F_mi_5, .ref mV, .ref mA, .ref mT])), (mW, .inl (cJ, 10, .inr (.inl m7_A_mW)))] → va_S A s.heap H locs → lv_has ls 7 [(4, .int m7_L_4), (3, .int m7_L_3), (2, .int m7_L_2), (0, .ref h0), (1, .int p0)] → W p l e R s m args below meth c H locs 0 0 Q (F0 m 37 ls [.int m37_S_0]) := by
          intro m37_S_0  H locs ls hP hD hS hl
          refine lv_istore (lv' := [(5, .int m37_S_0), (4, .int m7_L_4), (3, .int m7_L_3), (2, .int m7_L_2), (0, .ref h0), (1, .int p0)]) hx hb dX10_choice_37 hl (by decide) rfl (fun ls hl => ?_)
          refine lv_iload_n hx hb dX10_choice_39 rfl (lv_at hl 5 rfl) ?_
          have J61 : ∀ (m61_A_aK : Nat → Int32) (m61_A_aL : Nat → Int32) (m61_A_mW : Nat → Int64) (m61_F_mi_4 : Int64) (m61_F_mi_5 : Int32) (m61_L_5 : Int32), (0 ≤ m61_F_mi_5.toInt ∧ m61_F_mi_5.toInt ≤ 9) → ∀ (H : Heap) (locs : List Loc) (ls : Array Slot), va_P (dC, dI) vwCl [(h0, .inr (10, [.ref tp, h0_courtReader, h0_lawReader, h0_draft, .ref aC, h0_laws, .ref g0, .ref k0, .ref ac, .ref sd, .ref mi, .ref dw, .ref rf, .int lc, .int lh, .int br, .int hi])), (aC, .inr (1, [.ref aR, .ref aB, .ref aP, .int nb, .int np])), (aR, .inl (cI, 3, .inl fr)), (aB, .inl (cI, 24, .inl fb)), (aP, .inl (cI, 20, .inl fp)), (g0, .inr (7, [.ref gY, .ref gF, .ref gP, .int gpn, .int glt, .int gsh, .int gwd, .int gpu, .int gmo])), (gY, .inl (cI, 6, .inl gfY)), (gF, .inl (cI, 5, .inl gfF)), (gP, .inl (cI, 80, .inl gfP)), (sd, .inr (8, [.ref w1, .ref w2, .ref aC, .ref g0, .ref aL, .ref aK, .ref lw])), (aL, .inl (cI, 6, .inl m61_A_aL)), (aK, .inl (cI, 32, .inl m61_A_aK)), (lw, .inr (4, [.ref lS])), (lS, .inl (cI, lk, .inl fS)), (mi, .inr (6, [.ref aC, .ref g0, .ref sd, .ref mW, .long m61_F_mi_4, .int m61_F_mi_5, .ref mV, .ref mA, .ref mT])), (mW, .inl (cJ, 10, .inr (.inl m61_A_mW)))] H → va_D A [(h0, .inr (10, [.ref tp, h0_courtReader, h0_lawReader, h0_draft, .ref aC, h0_laws, .ref g0, .ref k0, .ref ac, .ref sd, .ref mi, .ref dw, .ref rf, .int lc, .int lh, .int br, .int hi])), (aC, .inr (1, [.ref aR, .ref aB, .ref aP, .int nb, .int np])), (aR, .inl (cI, 3, .inl fr)), (aB, .inl (cI, 24, .inl fb)), (aP, .inl (cI, 20, .inl fp)), (g0, .inr (7, [.ref gY, .ref gF, .ref gP, .int gpn, .int glt, .int gsh, .int gwd, .int gpu, .int gmo])), (gY, .inl (cI, 6, .inl gfY)), (gF, .inl (cI, 5, .inl gfF)), (gP, .inl (cI, 80, .inl gfP)), (sd, .inr (8, [.ref w1, .ref w2, .ref aC, .ref g0, .ref aL, .ref aK, .ref lw])), (aL, .inl (cI, 6, .inl m61_A_aL)), (aK, .inl (cI, 32, .inl m61_A_aK)), (lw, .inr (4, [.ref lS])), (lS, .inl (cI, lk, .inl fS)), (mi, .inr (6, [.ref aC, .ref g0, .ref sd, .ref mW, .long m61_F_mi_4, .int m61_F_mi_5, .ref mV, .ref mA, .ref mT])), (mW, .inl (cJ, 10, .inr (.inl m61_A_mW)))] → va_S A s.heap H locs → lv_has ls 7 [(5, .int m61_L_5), (4, .int m7_L_4), (3, .int m7_L_3), (2, .int m7_L_2), (0, .ref h0), (1, .int p0)] → W p l e R s m args below meth c H locs 0 0 Q (F0 m 61 ls []) := by
            intro m61_A_aK m61_A_aL m61_A_mW m61_F_mi_4 m61_F_mi_5 m61_L_5 jf61_0 H locs ls hP hD hS hl
            refine lv_aload_n hx hb dX10_choice_61 rfl (lv_at hl 4 rfl) ?_
            refine va_get (D := (dC, dI)) (ci := 10) (v := .ref aC) (C := RX10) (T := TX10) (N := 17) hx hb hts iX10 hown hK hP 0 rfl rfl 4 (by decide) (hts _ qw360) (fun _ h9 => h9) rfl dX10_choice_62 ?_
            refine lv_iload hx hb dX10_choice_65 (lv_at hl 1 rfl) ?_
            refine lv_iload hx hb dX10_choice_67 (lv_at hl 0 rfl) ?_
            obtain ⟨hPc, hDc⟩ := zc2 (wc := [(aC, .inr (1, [.ref aR, .ref aB, .ref aP, .int nb, .int np])), (aR, .inl (cI, 3, .inl fr)), (aB, .inl (cI, 24, .inl fb))]) hP hD [1, 2, 3] (by decide +kernel) rfl
            have hFc := zfr hS hA
            refine va_calli (va_runV (As := [.int m7_L_4, .int m61_L_5]) (rest := []) ⟨hx, hb, hml, hown, hts⟩ (g_X1_worthWith l dC dI cI cJ aC m7_L_4 m61_L_5 aR aB aP nb np fr fb H.size (by omega)) (cwV 2 hts (zgV qw906 qw907 qw908 qw102 qw909) rfl rfl rfl hd_X1_worthWith ⟨by rw [hR]; exact Nat.le_of_ble_eq_true rfl, by rw [hR]; exact Nat.le_of_ble_eq_true rfl⟩) (zPV hPc hK hDc (va_recv (q := (RX1, TX1, 5)) hK hP (ci := 1) (q0 := 1) rfl rfl)) rfl rfl hl.1 rfl (lv_room (Nat.le_of_ble_eq_true rfl)) dX10_choice_69 ⟨Nat.zero_le _, Nat.zero_le _⟩) hS (fun q _ h => hFc q h) hFc (fun v69 u69 t H locs ht hvm hw hB hz1 hk1 hS9 => ?_)
            replace hP := zkeep hP hk1
            replace hS := hS9
            clear hPc hDc hFc hk1 hz1 hvm hS9
            have f69_0 : (v69 = zWo m61_L_5 (fr 1) (fb (4 * m7_L_4.toInt.toNat + 1)) (fr 2)) := hw
            have F69 := f69_0
            refine lv_istore (lv' := [(6, .int v69), (5, .int m61_L_5), (4, .int m7_L_4), (3, .int m7_L_3), (2, .int m7_L_2), (0, .ref h0), (1, .int p0)]) hx hb dX10_choice_72 hl (by decide) rfl (fun ls hl => ?_)
            refine lv_iload hx hb dX10_choice_74 (lv_at hl 0 rfl) ?_
            refine lv_iload_n hx hb dX10_choice_76 rfl (lv_at hl 3 rfl) ?_
            have J86 : ∀ (m86_L_2 : Int32) (m86_L_3 : Int32), (0 ≤ m86_L_2.toInt ∧ m86_L_2.toInt ≤ 5) → ((-1) ≤ m86_L_3.toInt) → ∀ (H : Heap) (locs : List Loc) (ls : Array Slot), va_P (dC, dI) vwCl [(h0, .inr (10, [.ref tp, h0_courtReader, h0_lawReader, h0_draft, .ref aC, h0_laws, .ref g0, .ref k0, .ref ac, .ref sd, .ref mi, .ref dw, .ref rf, .int lc, .int lh, .int br, .int hi])), (aC, .inr (1, [.ref aR, .ref aB, .ref aP, .int nb, .int np])), (aR, .inl (cI, 3, .inl fr)), (aB, .inl (cI, 24, .inl fb)), (aP, .inl (cI, 20, .inl fp)), (g0, .inr (7, [.ref gY, .ref gF, .ref gP, .int gpn, .int glt, .int gsh, .int gwd, .int gpu, .int gmo])), (gY, .inl (cI, 6, .inl gfY)), (gF, .inl (cI, 5, .inl gfF)), (gP, .inl (cI, 80, .inl gfP)), (sd, .inr (8, [.ref w1, .ref w2, .ref aC, .ref g0, .ref aL, .ref aK, .ref lw])), (aL, .inl (cI, 6, .inl m61_A_aL)), (aK, .inl (cI, 32, .inl m61_A_aK)), (lw, .inr (4, [.ref lS])), (lS, .inl (cI, lk, .inl fS)), (mi, .inr (6, [.ref aC, .ref g0, .ref sd, .ref mW, .long m61_F_mi_4, .int m61_F_mi_5, .ref mV, .ref mA, .ref mT])), (mW, .inl (cJ, 10, .inr (.inl m61_A_mW)))] H → va_D A [(h0, .inr (10, [.ref tp, h0_courtReader, h0_lawReader, h0_draft, .ref aC, h0_laws, .ref g0, .ref k0, .ref ac, .ref sd, .ref mi, .ref dw, .ref rf, .int lc, .int lh, .int br, .int hi])), (aC, .inr (1, [.ref aR, .ref aB, .ref aP, .int nb, .int np])), (aR, .inl (cI, 3, .inl fr)), (aB, .inl (cI, 24, .inl fb)), (aP, .inl (cI, 20, .inl fp)), (g0, .inr (7, [.ref gY, .ref gF, .ref gP, .int gpn, .int glt, .int gsh, .int gwd, .int gpu, .int gmo])), (gY, .inl (cI, 6, .inl gfY)), (gF, .inl (cI, 5, .inl gfF)), (gP, .inl (cI, 80, .inl gfP)), (sd, .inr (8, [.ref w1, .ref w2, .ref aC, .ref g0, .ref aL, .ref aK, .ref lw])), (aL, .inl (cI, 6, .inl m61_A_aL)), (aK, .inl (cI, 32, .inl m61_A_aK)), (lw, .inr (4, [.ref lS])), (lS, .inl (cI, lk, .inl fS)), (mi, .inr (6, [.ref aC, .ref g0, .ref sd, .ref mW, .long m61_F_mi_4, .int m61_F_mi_5, .ref mV, .ref mA, .ref mT])), (mW, .inl (cJ, 10, .inr (.inl m61_A_mW)))] → va_S A s.heap H locs → lv_has ls 7 [(6, .int v69), (5, .int m61_L_5), (4, .int m7_L_4), (3, .int m86_L_3), (2, .int m86_L_2), (0, .ref h0), (1, .int p0)] → W p l e R s m args below meth c H locs 0 0 Q (F0 m 86 ls []) := by
              intro m86_L_2 m86_L_3 jf86_0 jf86_1 H locs ls hP hD hS hl
              obtain ⟨v86, e86⟩ : ∃ y : Int32, y = m7_L_4 + Int32.ofInt (1) := ⟨_, rfl⟩
              refine lv_iinc (v := v86) (lv' := [(4, .int v86), (6, .int v69), (5, .int m61_L_5), (3, .int m86_L_3), (2, .int m86_L_2), (0, .ref h0), (1, .int p0)]) hx hb dX10_choice_86 hl (k := 2) rfl e86.symm (by decide) rfl (fun ls hl => ?_)
              have i86 : v86.toInt = m7_L_4.toInt + 1 := zaddI e86 (by decide) (by omega) (by omega)
              refine lv_goto (tgt := 7) hx hb dX10_choice_89 (by decide) ?_
              exact ih7 _ (by omega) m61_A_aK m61_A_aL m61_A_mW m61_F_mi_4 m61_F_mi_5 m86_L_2 m86_L_3 v86 jf61_0 jf86_0 jf86_1 (by omega) rfl H locs ls hP hD hS (lv_sub hl [0, 3, 4, 5, 6] rfl)
            refine lv_icmp_le (tgt := 86) hx hb dX10_choice_77 (by decide) (fun c77 => ?_) (fun c77 => ?_)
            · have c77 : v69.toInt ≤ m7_L_3.toInt := z3 rfl rfl c77
              exact J86 m7_L_2 m7_L_3 jf7_1 jf7_2 H locs ls hP hD hS (lv_sub hl [0, 1, 2, 3, 4, 5, 6] rfl)
            · have c77 : m7_L_3.toInt < v69.toInt := z4 rfl rfl c77
              refine lv_iload hx hb dX10_choice_80 (lv_at hl 2 rfl) ?_
              refine lv_istore_n (lv' := [(2, .int m7_L_4), (6, .int v69), (5, .int m61_L_5), (4, .int m7_L_4), (3, .int m7_L_3), (0, .ref h0), (1, .int p0)]) hx hb dX10_choice_82 rfl hl (by decide) rfl (fun ls hl => ?_)
              refine lv_iload hx hb dX10_choice_83 (lv_at hl 1 rfl) ?_
              refine lv_istore_n (lv' := [(3, .int v69), (2, .int m7_L_4), (6, .int v69), (5, .int m61_L_5), (4, .int m7_L_4), (0, .ref h0), (1, .int p0)]) hx hb dX10_choice_85 rfl hl (by decide) rfl (fun ls hl => ?_)
              exact J86 m7_L_4 v69 (by omega) (by omega) H locs ls hP hD hS (lv_sub hl [2, 3, 4, 0, 1, 5, 6] rfl)
          refine lv_if_ne (tgt := 61) hx hb dX10_choice_40 (by decide) (fun c40 => ?_) (fun c40 => ?_)
          · have c40 : ¬ p0.toInt = 0 := z6 rfl (by decide) c40
            exact J61 m7_A_aK m7_A_aL m7_A_mW m7_F_mi_4 m7_F_mi_5 m37_S_0 jf7_0 H locs ls hP hD hS (lv_sub hl [0, 1, 2, 3, 4, 5] rfl)
          · have c40 : p0.toInt = 0 := z5 rfl (by decide) c40
            refine lv_aload_n hx hb dX10_choice_43 rfl (lv_at hl 4 rfl) ?_
            refine va_get (D := (dC, dI)) (ci := 10) (v := .ref mi) (C := RX10) (T := TX10) (N := 17) hx hb hts iX10 hown hK hP 0 rfl rfl 10 (by decide) (hts _ qw366) (fun _ h9 => h9) rfl dX10_choice_44 ?_
            refine lv_iload hx hb dX10_choice_47 (lv_at hl 1 rfl) ?_
            obtain ⟨hPc, hDc, hFc⟩ := zc3 (wc := [(mi, .inr (6, [.ref aC, .ref g0, .ref sd, .ref mW, .long m7_F_mi_4, .int m7_F_mi_5, .ref mV, .ref mA, .ref mT])), (aC, .inr (1, [.ref aR, .ref aB, .ref aP, .int nb, .int np])), (aB, .inl (cI, 24, .inl fb)), (aP, .inl (cI, 20, .inl fp)), (g0, .inr (7, [.ref gY, .ref gF, .ref gP, .int gpn, .int glt, .int gsh, .int gwd, .int gpu, .int gmo])), (gY, .inl (cI, 6, .inl gfY)), (gF, .inl (cI, 5, .inl gfF)), (gP, .inl (cI, 80, .inl gfP)), (sd, .inr (8, [.ref w1, .ref w2, .ref aC, .ref g0, .ref aL, .ref aK, .ref lw])), (aL, .inl (cI, 6, .inl m7_A_aL)), (aK, .inl (cI, 32, .inl m7_A_aK)), (lw, .inr (4, [.ref lS])), (lS, .inl (cI, lk, .inl fS)), (mW, .inl (cJ, 10, .inr (.inl m7_A_mW)))]) hP hD hS hA [14, 1, 3, 4, 5, 6, 7, 8, 9, 10, 11, 12, 13, 15] (by decide +kernel) rfl
            refine va_callv (va_runV (As := [.int m7_L_4]) (rest := []) ⟨hx, hb, hml, hown, hts⟩ (g_X6_weigh_l l dC dI cI cJ mi m7_L_4 aC g0 sd mW m7_F_mi_4 m7_F_mi_5 mV mA mT aR aB aP nb np fb fp gY gF gP gpn glt gsh gwd gpu gmo gfY gfF gfP w1 w2 aL aK lw m7_A_aL m7_A_aK lS fS lk m7_A_mW H.size y_gpn jf7_0 (by omega) (hlk) ci_fS_zSt ci_gfP_zPo) (cwV 1 hts (zgV qw829 qw830 qw831 qw106 qw832) rfl rfl rfl hd_X6_weigh ⟨by rw [hR]; exact Nat.le_of_ble_eq_true rfl, by rw [hR]; exact Nat.le_of_ble_eq_true rfl⟩) (zPWV hPc hK hDc (va_recv (q := (RX6, TX6, 9)) hK hP (ci := 6) (q0 := 14) rfl rfl) (zV_call hV hS hFc)) rfl rfl hl.1 rfl (lv_room (Nat.le_of_ble_eq_true rfl)) dX10_choice_49 ⟨Nat.zero_le _, Nat.zero_le _⟩) hS (fun q _ h => hFc q h) hFc (fun u49 t H locs ht hvm hw hB hz1 hk1 hS9 => ?_)
            obtain ⟨u49_0, u49_1, u49_2, u49_3, u49_4⟩ := u49
            obtain ⟨hP9, hD9⟩ := zj2 (wX := [(h0, .inr (10, [.ref tp, h0_courtReader, h0_lawReader, h0_draft, .ref aC, h0_laws, .ref g0, .ref k0, .ref ac, .ref sd, .ref mi, .ref dw, .ref rf, .int lc, .int lh, .int br, .int hi])), (aC, .inr (1, [.ref aR, .ref aB, .ref aP, .int nb, .int np])), (aR, .inl (cI, 3, .inl fr)), (aB, .inl (cI, 24, .inl fb)), (aP, .inl (cI, 20, .inl fp)), (g0, .inr (7, [.ref gY, .ref gF, .ref gP, .int gpn, .int glt, .int gsh, .int gwd, .int gpu, .int gmo])), (gY, .inl (cI, 6, .inl gfY)), (gF, .inl (cI, 5, .inl gfF)), (gP, .inl (cI, 80, .inl gfP)), (sd, .inr (8, [.ref w1, .ref w2, .ref aC, .ref g0, .ref aL, .ref aK, .ref lw])), (aL, .inl (cI, 6, .inl u49_2)), (aK, .inl (cI, 32, .inl u49_3)), (lw, .inr (4, [.ref lS])), (lS, .inl (cI, lk, .inl fS)), (mi, .inr (6, [.ref aC, .ref g0, .ref sd, .ref mW, .long u49_0, .int u49_1, .ref mV, .ref mA, .ref mT])), (mW, .inl (cJ, 10, .inr (.inl u49_4)))]) hP hD hk1 hFc ht hB [14, 1, 3, 4, 5, 6, 7, 8, 9, 10, 11, 12, 13, 15] [(false, 0), (true, 1), (false, 2), (true, 2), (true, 3), (true, 4), (true, 5), (true, 6), (true, 7), (true, 8), (true, 9), (true, 10), (true, 11), (true, 12), (true, 0), (true, 13)] rfl (by decide +kernel) (by decide +kernel) rfl
            clear hP hD hS hPc hDc hFc hB hk1 hz1 hvm
            have hP := hP9
            have hD := hD9
            have hS := hS9
            clear hP9 hD9 hS9
            obtain ⟨f49_0, f49_1, f49_2⟩ : (0 ≤ u49_1.toInt) ∧ (u49_1.toInt ≤ 9) ∧ (∀ (kc : zK3) (kT : zT) (q_fr : Nat → Int32) (kt : (Int → Int) × Int), zCn q_fr fb fp nb.toInt np.toInt kc → zKo nb.toInt np.toInt kc kT → zSc nb.toInt np.toInt kT.1 gfY gfF gfP gpn glt gsh gwd gpu gmo → zLwC fS lk kt → (0 ≤ m7_L_4.toInt ∧ m7_L_4.toInt < nb.toInt) → zWe kc kT.1 (some kt) m7_L_4 u49_4 u49_0 u49_1) := hw
            have F49 := f49_2
            refine lv_aload_n hx hb dX10_choice_52 rfl (lv_at hl 4 rfl) ?_
            refine va_get (D := (dC, dI)) (ci := 10) (v := .ref mi) (C := RX10) (T := TX10) (N := 17) hx hb hts iX10 hown hK hP 0 rfl rfl 10 (by decide) (hts _ qw366) (fun _ h9 => h9) rfl dX10_choice_53 ?_
            refine va_get (D := (dC, dI)) (ci := 6) (v := .int u49_1) (C := RX6) (T := TX6) (N := 9) hx hb hts iX6 hown hK hP 14 rfl rfl 5 (by decide) (hts _ qw322) (fun _ h9 => h9) rfl dX10_choice_56 ?_
            refine lv_istore (lv' := [(5, .int u49_1), (4, .int m7_L_4), (3, .int m7_L_3), (2, .int m7_L_2), (0, .ref h0), (1, .int p0)]) hx hb dX10_choice_59 hl (by decide) rfl (fun ls hl => ?_)
            exact J61 u49_3 u49_2 u49_4 u49_0 u49_1 u49_1 ⟨f49_0, f49_1⟩ H locs ls hP hD hS (lv_sub hl [0, 1, 2, 3, 4, 5] rfl)
        refine lv_icmp_ne (tgt := 36) hx hb dX10_choice_21 (by decide) (fun c21 => ?_) (fun c21 => ?_)
        · have c21 : ¬ p0.toInt = 1 := z6 rfl (by decide) c21
          refine lv_iconst (v := 0) hx hb dX10_choice_36 (by decide) ?_
          exact J37 0  H locs ls hP hD hS (lv_sub hl [0, 1, 2, 3, 4] rfl)
        · have c21 : p0.toInt = 1 := z5 rfl (by decide) c21
          refine lv_aload_n hx hb dX10_choice_24 rfl (lv_at hl 3 rfl) ?_
          refine va_get (D := (dC, dI)) (ci := 10) (v := .ref aC) (C := RX10) (T := TX10) (N := 17) hx hb hts iX10 hown hK hP 0 rfl rfl 4 (by decide) (hts _ qw360) (fun _ h9 => h9) rfl dX10_choice_25 ?_
          refine lv_iload hx hb dX10_choice_28 (lv_at hl 0 rfl) ?_
          obtain ⟨hPc, hDc⟩ := zc2 (wc := [(aC, .inr (1, [.ref aR, .ref aB, .ref aP, .int nb, .int np])), (aB, .inl (cI, 24, .inl fb))]) hP hD [1, 3] (by decide +kernel) rfl
          have hFc := zfr hS hA
          refine va_calli (va_runV (As := [.int m7_L_4]) (rest := []) ⟨hx, hb, hml, hown, hts⟩ (g_X1_faceOf l dC dI cI cJ aC m7_L_4 aR aB aP nb np fb H.size (by omega)) (cwV 1 hts (zgV qw702 qw703 qw704 qw102 qw705) rfl rfl rfl hd_X1_faceOf ⟨by rw [hR]; exact Nat.le_of_ble_eq_true rfl, by rw [hR]; exact Nat.le_of_ble_eq_true rfl⟩) (zPV hPc hK hDc (va_recv (q := (RX1, TX1, 5)) hK hP (ci := 1) (q0 := 1) rfl rfl)) rfl rfl hl.1 rfl (lv_room (Nat.le_of_ble_eq_true rfl)) dX10_choice_30 ⟨Nat.zero_le _, Nat.zero_le _⟩) hS (fun q _ h => hFc q h) hFc (fun v30 u30 t H locs ht hvm hw hB hz1 hk1 hS9 => ?_)
          replace hP := zkeep hP hk1
          replace hS := hS9
          clear hPc hDc hFc hk1 hz1 hvm hS9
          have f30_0 : (v30 = fb (4 * m7_L_4.toInt.toNat)) := hw
          have F30 := f30_0
          refine lv_goto (tgt := 37) hx hb dX10_choice_33 (by decide) ?_
          exact J37 v30  H locs ls hP hD hS (lv_sub hl [0, 1, 2, 3, 4] rfl)
  refine lv_istore (lv' := [(4, .int 0), (3, .int (-1)), (2, .int 0), (0, .ref h0), (1, .int p0)]) hx hb dX10_choice_5 hl (by decide) rfl (fun ls hl => ?_)
  exact J7 _ fK fL fW mt lf 0 (-1) 0 y_lf (by decide) (by decide) (by decide) rfl H locs ls hP hD hS (lv_sub hl [0, 1, 2, 3, 4] rfl)
set_option maxHeartbeats 4000000 in
set_option maxRecDepth 100000 in
theorem g_X10_chooses_n (l : Launch) (dC : Nat → ClassId) (dI : Nat → Nat → Nat) (cI cJ : ClassId) (h0 : Nat) (p0 : Int32) (tp : Nat) (h0_courtReader : Value) (h0_lawReader : Value) (h0_draft : Value) (aC : Nat) (h0_laws : Value) (g0 : Nat) (k0 : Nat) (ac : Nat) (sd : Nat) (mi : Nat) (dw : Nat) (rf : Nat) (lc : Int32) (lh : Int32) (br : Int32) (hi : Int32) (aR : Nat) (aB : Nat) (aP : Nat) (nb : Int32) (np : Int32) (fr : Nat → Int32) (fb : Nat → Int32) (fp : Nat → Int32) (gY : Nat) (gF : Nat) (gP : Nat) (gpn : Int32) (glt : Int32) (gsh : Int32) (gwd : Int32) (gpu : Int32) (gmo : Int32) (gfY : Nat → Int32) (gfF : Nat → Int32) (gfP : Nat → Int32) (w1 : Nat) (w2 : Nat) (aL : Nat) (aK : Nat) (mW : Nat) (mt : Int64) (lf : Int32) (mV : Nat) (mA : Nat) (mT : Nat) (fW : Nat → Int64) (sz : Nat) (n_gpn : 0 ≤ gpn.toInt ∧ gpn.toInt ≤ 20) (n_gwd : (-1) ≤ gwd.toInt ∧ gwd.toInt ≤ 5) (n_hi : 0 ≤ hi.toInt ∧ hi.toInt ≤ 1) (n_lc : 0 ≤ lc.toInt ∧ lc.toInt ≤ 4) (n_lf : 0 ≤ lf.toInt ∧ lf.toInt ≤ 9) (n_nb : 0 ≤ nb.toInt ∧ nb.toInt ≤ 6) (n_np : 0 ≤ np.toInt ∧ np.toInt ≤ 5)  (ci_gfP_zPo : zPo gfP)  : Met l yX10_chooses (.code yX10_chooses cX10_chooses 2 (some .int) :: wA) ({ frames := 7, cells := 0, slots := 0, locals := 179 }) (zPW (dC, dI) [(cI, .int), (cJ, .long)] [.ref h0, .int p0] sz [(h0, .inr (10, [.ref tp, h0_courtReader, h0_lawReader, h0_draft, .ref aC, h0_laws, .ref g0, .ref k0, .ref ac, .ref sd, .ref mi, .ref dw, .ref rf, .int lc, .int lh, .int br, .int hi])), (aC, .inr (1, [.ref aR, .ref aB, .ref aP, .int nb, .int np])), (aR, .inl (cI, 3, .inl fr)), (aB, .inl (cI, 24, .inl fb)), (aP, .inl (cI, 20, .inl fp)), (g0, .inr (7, [.ref gY, .ref gF, .ref gP, .int gpn, .int glt, .int gsh, .int gwd, .int gpu, .int gmo])), (gY, .inl (cI, 6, .inl gfY)), (gF, .inl (cI, 5, .inl gfF)), (gP, .inl (cI, 80, .inl gfP)), (sd, .inr (8, [.ref w1, .ref w2, .ref aC, .ref g0, .ref aL, .ref aK, .null])), (mi, .inr (6, [.ref aC, .ref g0, .ref sd, .ref mW, .long mt, .int lf, .ref mV, .ref mA, .ref mT])), (mW, .inl (cJ, 10, .inr (.inl fW)))] (va_A [(h0, .inr (10, [.ref tp, h0_courtReader, h0_lawReader, h0_draft, .ref aC, h0_laws, .ref g0, .ref k0, .ref ac, .ref sd, .ref mi, .ref dw, .ref rf, .int lc, .int lh, .int br, .int hi])), (aC, .inr (1, [.ref aR, .ref aB, .ref aP, .int nb, .int np])), (aR, .inl (cI, 3, .inl fr)), (aB, .inl (cI, 24, .inl fb)), (aP, .inl (cI, 20, .inl fp)), (g0, .inr (7, [.ref gY, .ref gF, .ref gP, .int gpn, .int glt, .int gsh, .int gwd, .int gpu, .int gmo])), (gY, .inl (cI, 6, .inl gfY)), (gF, .inl (cI, 5, .inl gfF)), (gP, .inl (cI, 80, .inl gfP)), (sd, .inr (8, [.ref w1, .ref w2, .ref aC, .ref g0, .ref aL, .ref aK, .null])), (mi, .inr (6, [.ref aC, .ref g0, .ref sd, .ref mW, .long mt, .int lf, .ref mV, .ref mA, .ref mT])), (mW, .inl (cJ, 10, .inr (.inl fW)))] sz)) (va_Qi (fun (r : Int32) (u : Int64 × Int32 × (Nat → Int64)) => (0 ≤ u.2.1.toInt) ∧ (u.2.1.toInt ≤ 9)) (fun (u : Int64 × Int32 × (Nat → Int64)) (t : State) => va_P (dC, dI) vwCl [(h0, .inr (10, [.ref tp, h0_courtReader, h0_lawReader, h0_draft, .ref aC, h0_laws, .ref g0, .ref k0, .ref ac, .ref sd, .ref mi, .ref dw, .ref rf, .int lc, .int lh, .int br, .int hi])), (aC, .inr (1, [.ref aR, .ref aB, .ref aP, .int nb, .int np])), (aR, .inl (cI, 3, .inl fr)), (aB, .inl (cI, 24, .inl fb)), (aP, .inl (cI, 20, .inl fp)), (g0, .inr (7, [.ref gY, .ref gF, .ref gP, .int gpn, .int glt, .int gsh, .int gwd, .int gpu, .int gmo])), (gY, .inl (cI, 6, .inl gfY)), (gF, .inl (cI, 5, .inl gfF)), (gP, .inl (cI, 80, .inl gfP)), (sd, .inr (8, [.ref w1, .ref w2, .ref aC, .ref g0, .ref aL, .ref aK, .null])), (mi, .inr (6, [.ref aC, .ref g0, .ref sd, .ref mW, .long u.1, .int u.2.1, .ref mV, .ref mA, .ref mT])), (mW, .inl (cJ, 10, .inr (.inl u.2.2)))] t.heap ∧ va_D (va_A [(h0, .inr (10, [.ref tp, h0_courtReader, h0_lawReader, h0_draft, .ref aC, h0_laws, .ref g0, .ref k0, .ref ac, .ref sd, .ref mi, .ref dw, .ref rf, .int lc, .int lh, .int br, .int hi])), (aC, .inr (1, [.ref aR, .ref aB, .ref aP, .int nb, .int np])), (aR, .inl (cI, 3, .inl fr)), (aB, .inl (cI, 24, .inl fb)), (aP, .inl (cI, 20, .inl fp)), (g0, .inr (7, [.ref gY, .ref gF, .ref gP, .int gpn, .int glt, .int gsh, .int gwd, .int gpu, .int gmo])), (gY, .inl (cI, 6, .inl gfY)), (gF, .inl (cI, 5, .inl gfF)), (gP, .inl (cI, 80, .inl gfP)), (sd, .inr (8, [.ref w1, .ref w2, .ref aC, .ref g0, .ref aL, .ref aK, .null])), (mi, .inr (6, [.ref aC, .ref g0, .ref sd, .ref mW, .long mt, .int lf, .ref mV, .ref mA, .ref mT])), (mW, .inl (cJ, 10, .inr (.inl fW)))] sz) [(h0, .inr (10, [.ref tp, h0_courtReader, h0_lawReader, h0_draft, .ref aC, h0_laws, .ref g0, .ref k0, .ref ac, .ref sd, .ref mi, .ref dw, .ref rf, .int lc, .int lh, .int br, .int hi])), (aC, .inr (1, [.ref aR, .ref aB, .ref aP, .int nb, .int np])), (aR, .inl (cI, 3, .inl fr)), (aB, .inl (cI, 24, .inl fb)), (aP, .inl (cI, 20, .inl fp)), (g0, .inr (7, [.ref gY, .ref gF, .ref gP, .int gpn, .int glt, .int gsh, .int gwd, .int gpu, .int gmo])), (gY, .inl (cI, 6, .inl gfY)), (gF, .inl (cI, 5, .inl gfF)), (gP, .inl (cI, 80, .inl gfP)), (sd, .inr (8, [.ref w1, .ref w2, .ref aC, .ref g0, .ref aL, .ref aK, .null])), (mi, .inr (6, [.ref aC, .ref g0, .ref sd, .ref mW, .long u.1, .int u.2.1, .ref mV, .ref mA, .ref mT])), (mW, .inl (cJ, 10, .inr (.inl u.2.2)))]) (va_A [(h0, .inr (10, [.ref tp, h0_courtReader, h0_lawReader, h0_draft, .ref aC, h0_laws, .ref g0, .ref k0, .ref ac, .ref sd, .ref mi, .ref dw, .ref rf, .int lc, .int lh, .int br, .int hi])), (aC, .inr (1, [.ref aR, .ref aB, .ref aP, .int nb, .int np])), (aR, .inl (cI, 3, .inl fr)), (aB, .inl (cI, 24, .inl fb)), (aP, .inl (cI, 20, .inl fp)), (g0, .inr (7, [.ref gY, .ref gF, .ref gP, .int gpn, .int glt, .int gsh, .int gwd, .int gpu, .int gmo])), (gY, .inl (cI, 6, .inl gfY)), (gF, .inl (cI, 5, .inl gfF)), (gP, .inl (cI, 80, .inl gfP)), (sd, .inr (8, [.ref w1, .ref w2, .ref aC, .ref g0, .ref aL, .ref aK, .null])), (mi, .inr (6, [.ref aC, .ref g0, .ref sd, .ref mW, .long mt, .int lf, .ref mV, .ref mA, .ref mT])), (mW, .inl (cJ, 10, .inr (.inl fW)))] sz)) 0 0 (va_A [(h0, .inr (10, [.ref tp, h0_courtReader, h0_lawReader, h0_draft, .ref aC, h0_laws, .ref g0, .ref k0, .ref ac, .ref sd, .ref mi, .ref dw, .ref rf, .int lc, .int lh, .int br, .int hi])), (aC, .inr (1, [.ref aR, .ref aB, .ref aP, .int nb, .int np])), (aR, .inl (cI, 3, .inl fr)), (aB, .inl (cI, 24, .inl fb)), (aP, .inl (cI, 20, .inl fp)), (g0, .inr (7, [.ref gY, .ref gF, .ref gP, .int gpn, .int glt, .int gsh, .int gwd, .int gpu, .int gmo])), (gY, .inl (cI, 6, .inl gfY)), (gF, .inl (cI, 5, .inl gfF)), (gP, .inl (cI, 80, .inl gfP)), (sd, .inr (8, [.ref w1, .ref w2, .ref aC, .ref g0, .ref aL, .ref aK, .null])), (mi, .inr (6, [.ref aC, .ref g0, .ref sd, .ref mW, .long mt, .int lf, .ref mV, .ref mA, .ref mT])), (mW, .inl (cJ, 10, .inr (.inl fW)))] sz) := by
  refine Met.ofW (cc := cX10_chooses) (maxL := 2) (ret := (some .int)) (by decide) rfl ?_
  intro p e s m args below meth c s₁ B hml hv
  have y_gpn : zHid (0 ≤ gpn.toInt ∧ gpn.toInt ≤ 20) := n_gpn
  have y_gwd : zHid ((-1) ≤ gwd.toInt ∧ gwd.toInt ≤ 5) := n_gwd
  have y_hi : zHid (0 ≤ hi.toInt ∧ hi.toInt ≤ 1) := n_hi
  have y_lc : zHid (0 ≤ lc.toInt ∧ lc.toInt ≤ 4) := n_lc
  have y_np : zHid (0 ≤ np.toInt ∧ np.toInt ≤ 5) := n_np
  clear n_gpn n_gwd n_hi n_lc n_np
  obtain ⟨⟨hargs, hsz, hP, hK, hT⟩, hV⟩ := hv
  have hx := B.exec
  have hb := B.bytes
  have hr := B.returns
  have hts : ∀ w ∈ wA, w.before args s = true := fun w h => atoms_spec (ws := .code yX10_chooses cX10_chooses 2 (some .int) :: wA) B.pre w (List.mem_cons_of_mem _ h)
  have hown : s.vm.findClass RX10 = some m.cls := findClass_of_methodNamed B.named
  have hlocks := B.notSynchronized
  subst hsz
  have hD := hT.self (sz := s.heap.size)
  generalize hAe : va_A [(h0, .inr (10, [.ref tp, h0_courtReader, h0_lawReader, h0_draft, .ref aC, h0_laws, .ref g0, .ref k0, .ref ac, .ref sd, .ref mi, .ref dw, .ref rf, .int lc, .int lh, .int br, .int hi])), (aC, .inr (1, [.ref aR, .ref aB, .ref aP, .int nb, .int np])), (aR, .inl (cI, 3, .inl fr)), (aB, .inl (cI, 24, .inl fb)), (aP, .inl (cI, 20, .inl fp)), (g0, .inr (7, [.ref gY, .ref gF, .ref gP, .int gpn, .int glt, .int gsh, .int gwd, .int gpu, .int gmo])), (gY, .inl (cI, 6, .inl gfY)), (gF, .inl (cI, 5, .inl gfF)), (gP, .inl (cI, 80, .inl gfP)), (sd, .inr (8, [.ref w1, .ref w2, .ref aC, .ref g0, .ref aL, .ref aK, .null])), (mi, .inr (6, [.ref aC, .ref g0, .ref sd, .ref mW, .long mt, .int lf, .ref mV, .ref mA, .ref mT])), (mW, .inl (cJ, 10, .inr (.inl fW)))] s.heap.size = A at hD hV ⊢
  have hA : ∀ q : Nat, s.heap.size ≤ q → A q := fun q h => by rw [← hAe]; exact Or.inr h
  have hl := lv_entry ([.ref h0, .int p0]) (n := 2) (Nat.le_of_ble_eq_true rfl)
  rw [show entryFrame m args 2 = entryFrame m ([.ref h0, .int p0] : List Value).toArray 2 by rw [hargs], lg_entry_eq]
  generalize (lg_sl ([.ref h0, .int p0]) ++ List.replicate (2 - (lg_sl ([.ref h0, .int p0])).length) Slot.unset).toArray = ls at hl ⊢
  have hl : lv_has ls 2 [(0, .ref h0), (1, .int p0)] := hl
  refine zstart (fun H hH => ?_)
  rw [← hH] at hP
  have hS : va_S A s.heap H [] := by rw [hH]; exact va_S.rf
  generalize ([] : List Loc) = locs at hS ⊢
  refine zgen (fun R Q hR hQ => ?_)
  refine lv_aload_n hx hb dX10_chooses_0 rfl (lv_at hl 0 rfl) ?_
  obtain ⟨hPc, hDc⟩ := zc2 (wc := [(h0, .inr (10, [.ref tp, h0_courtReader, h0_lawReader, h0_draft, .ref aC, h0_laws, .ref g0, .ref k0, .ref ac, .ref sd, .ref mi, .ref dw, .ref rf, .int lc, .int lh, .int br, .int hi])), (aC, .inr (1, [.ref aR, .ref aB, .ref aP, .int nb, .int np]))]) hP hD [0, 1] (by decide +kernel) rfl
  have hFc := zfr hS hA
  refine va_calli (va_runV (As := []) (rest := []) ⟨hx, hb, hml, hown, hts⟩ (g_X10_hasCourt l dC dI cI cJ h0 (.ref tp) h0_courtReader h0_lawReader h0_draft aC h0_laws (.ref g0) (.ref k0) (.ref ac) (.ref sd) (.ref mi) (.ref dw) (.ref rf) (.int lc) (.int lh) (.int br) (.int hi) aR aB aP nb np H.size) (cwV 0 hts (zgV qw584 qw586 qw10 qw98 qw587) rfl rfl rfl hd_X10_hasCourt ⟨by rw [hR]; exact Nat.le_of_ble_eq_true rfl, by rw [hR]; exact Nat.le_of_ble_eq_true rfl⟩) (zPV hPc hK hDc (va_recv (q := (RX10, TX10, 17)) hK hP (ci := 10) (q0 := 0) rfl rfl)) rfl rfl hl.1 rfl (lv_room (Nat.le_of_ble_eq_true rfl)) dX10_chooses_1 ⟨Nat.zero_le _, Nat.zero_le _⟩) hS (fun q _ h => hFc q h) hFc (fun v1 u1 t H locs ht hvm hw hB hz1 hk1 hS9 => ?_)
  replace hP := zkeep hP hk1
  replace hS := hS9
  clear hPc hDc hFc hk1 hz1 hvm hS9
  obtain ⟨f1_0, f1_1, f1_2, f1_3⟩ : (0 ≤ v1.toInt) ∧ (v1.toInt ≤ 1) ∧ (¬ v1.toInt = 0 → 0 < nb.toInt) ∧ (v1.toInt = 0 → nb.toInt ≤ 0) := hw
  have J16 : ∀ (H : Heap) (locs : List Loc) (ls : Array Slot), va_P (dC, dI) vwCl [(h0, .inr (10, [.ref tp, h0_courtReader, h0_lawReader, h0_draft, .ref aC, h0_laws, .ref g0, .ref k0, .ref ac, .ref sd, .ref mi, .ref dw, .ref rf, .int lc, .int lh, .int br, .int hi])), (aC, .inr (1, [.ref aR, .ref aB, .ref aP, .int nb, .int np])), (aR, .inl (cI, 3, .inl fr)), (aB, .inl (cI, 24, .inl fb)), (aP, .inl (cI, 20, .inl fp)), (g0, .inr (7, [.ref gY, .ref gF, .ref gP, .int gpn, .int glt, .int gsh, .int gwd, .int gpu, .int gmo])), (gY, .inl (cI, 6, .inl gfY)), (gF, .inl (cI, 5, .inl gfF)), (gP, .inl (cI, 80, .inl gfP)), (sd, .inr (8, [.ref w1, .ref w2, .ref aC, .ref g0, .ref aL, .ref aK, .null])), (mi, .inr (6, [.ref aC, .ref g0, .ref sd, .ref mW, .long mt, .int lf, .ref mV, .ref mA, .ref mT])), (mW, .inl (cJ, 10, .inr (.inl fW)))] H → va_D A [(h0, .inr (10, [.ref tp, h0_courtReader, h0_lawReader, h0_draft, .ref aC, h0_laws, .ref g0, .ref k0, .ref ac, .ref sd, .ref mi, .ref dw, .ref rf, .int lc, .int lh, .int br, .int hi])), (aC, .inr (1, [.ref aR, .ref aB, .ref aP, .int nb, .int np])), (aR, .inl (cI, 3, .inl fr)), (aB, .inl (cI, 24, .inl fb)), (aP, .inl (cI, 20, .inl fp)), (g0, .inr (7, [.ref gY, .ref gF, .ref gP, .int gpn, .int glt, .int gsh, .int gwd, .int gpu, .int gmo])), (gY, .inl (cI, 6, .inl gfY)), (gF, .inl (cI, 5, .inl gfF)), (gP, .inl (cI, 80, .inl gfP)), (sd, .inr (8, [.ref w1, .ref w2, .ref aC, .ref g0, .ref aL, .ref aK, .null])), (mi, .inr (6, [.ref aC, .ref g0, .ref sd, .ref mW, .long mt, .int lf, .ref mV, .ref mA, .ref mT])), (mW, .inl (cJ, 10, .inr (.inl fW)))] → va_S A s.heap H locs → lv_has ls 2 [(0, .ref h0), (1, .int p0)] → W p l e R s m args below meth c H locs 0 0 Q (F0 m 16 ls []) := by
    intro   H locs ls hP hD hS hl
    refine lv_iconst (v := (-1)) hx hb dX10_chooses_16 (by decide) ?_
    have zr0 : ((-1) : Int32).toInt = (-1) := by decide
    rw [hQ]
    exact W.iret (v := ((-1))) hx hb hr (fun t ht hW => ⟨⟨(-1), (mt, lf, fW), rfl, ⟨by (try dsimp only); omega, by (try dsimp only); omega⟩, ⟨by rw [ht]; exact hP, hD⟩⟩, hS.F ht⟩) hS.2.2 dX10_chooses_17
  refine lv_if_eq (tgt := 16) hx hb dX10_chooses_4 (by decide) (fun c4 => ?_) (fun c4 => ?_)
  · have c4 : v1.toInt = 0 := z5 rfl (by decide) c4
    exact J16   H locs ls hP hD hS (lv_sub hl [0, 1] rfl)
  · have c4 : ¬ v1.toInt = 0 := z6 rfl (by decide) c4
    refine lv_iload_n hx hb dX10_chooses_7 rfl (lv_at hl 1 rfl) ?_
    refine lv_if_lt (tgt := 16) hx hb dX10_chooses_8 (by decide) (fun c8 => ?_) (fun c8 => ?_)
    · have c8 : p0.toInt < 0 := z1 rfl (by decide) c8
      exact J16   H locs ls hP hD hS (lv_sub hl [0, 1] rfl)
    · have c8 : 0 ≤ p0.toInt := z2 rfl (by decide) c8
      refine lv_iload_n hx hb dX10_chooses_11 rfl (lv_at hl 1 rfl) ?_
      refine lv_iconst (v := 3) hx hb dX10_chooses_12 (by decide) ?_
      refine lv_icmp_le (tgt := 18) hx hb dX10_chooses_13 (by decide) (fun c13 => ?_) (fun c13 => ?_)
      · have c13 : p0.toInt ≤ 3 := z3 rfl (by decide) c13
        refine lv_iload_n hx hb dX10_chooses_18 rfl (lv_at hl 1 rfl) ?_
        refine lv_iconst (v := 3) hx hb dX10_chooses_19 (by decide) ?_
        refine lv_icmp_ge (tgt := 29) hx hb dX10_chooses_20 (by decide) (fun c20 => ?_) (fun c20 => ?_)
        · have c20 : 3 ≤ p0.toInt := z3 (by decide) rfl c20
          refine lv_aload_n hx hb dX10_chooses_29 rfl (lv_at hl 0 rfl) ?_
          refine va_get (D := (dC, dI)) (ci := 10) (v := .ref aC) (C := RX10) (T := TX10) (N := 17) hx hb hts iX10 hown hK hP 0 rfl rfl 4 (by decide) (hts _ qw360) (fun _ h9 => h9) rfl dX10_chooses_30 ?_
          refine lv_aload_n hx hb dX10_chooses_33 rfl (lv_at hl 0 rfl) ?_
          refine lv_iconst (v := 1) hx hb dX10_chooses_34 (by decide) ?_
          obtain ⟨hPc, hDc, hFc⟩ := zc3 (wc := [(h0, .inr (10, [.ref tp, h0_courtReader, h0_lawReader, h0_draft, .ref aC, h0_laws, .ref g0, .ref k0, .ref ac, .ref sd, .ref mi, .ref dw, .ref rf, .int lc, .int lh, .int br, .int hi])), (aC, .inr (1, [.ref aR, .ref aB, .ref aP, .int nb, .int np])), (aR, .inl (cI, 3, .inl fr)), (aB, .inl (cI, 24, .inl fb)), (aP, .inl (cI, 20, .inl fp)), (g0, .inr (7, [.ref gY, .ref gF, .ref gP, .int gpn, .int glt, .int gsh, .int gwd, .int gpu, .int gmo])), (gY, .inl (cI, 6, .inl gfY)), (gF, .inl (cI, 5, .inl gfF)), (gP, .inl (cI, 80, .inl gfP)), (sd, .inr (8, [.ref w1, .ref w2, .ref aC, .ref g0, .ref aL, .ref aK, .null])), (mi, .inr (6, [.ref aC, .ref g0, .ref sd, .ref mW, .long mt, .int lf, .ref mV, .ref mA, .ref mT])), (mW, .inl (cJ, 10, .inr (.inl fW)))]) hP hD hS hA [0, 1, 2, 3, 4, 5, 6, 7, 8, 9, 10, 11] (by decide +kernel) rfl
          refine va_calli (va_runV (As := [.int 1]) (rest := [.ref aC]) ⟨hx, hb, hml, hown, hts⟩ (g_X10_choice_n l dC dI cI cJ h0 1 tp h0_courtReader h0_lawReader h0_draft aC h0_laws g0 k0 ac sd mi dw rf lc lh br hi aR aB aP nb np fr fb fp gY gF gP gpn glt gsh gwd gpu gmo gfY gfF gfP w1 w2 aL aK mW mt lf mV mA mT fW H.size y_gpn y_gwd y_hi y_lc n_lf n_nb y_np (by decide) ci_gfP_zPo) (cwV 1 hts (zgV qw917 qw919 qw24 qw98 qw920) rfl rfl rfl hd_X10_choice ⟨by rw [hR]; exact Nat.le_of_ble_eq_true rfl, by rw [hR]; exact Nat.le_of_ble_eq_true rfl⟩) (zPWV hPc hK hDc (va_recv (q := (RX10, TX10, 17)) hK hP (ci := 10) (q0 := 0) rfl rfl) (zV_call hV hS hFc)) rfl rfl hl.1 rfl (lv_room (Nat.le_of_ble_eq_true rfl)) dX10_chooses_35 ⟨Nat.zero_le _, Nat.zero_le _⟩) hS (fun q _ h => hFc q h) hFc (fun v35 u35 t H locs ht hvm hw hB hz1 hk1 hS9 => ?_)
          obtain ⟨u35_0, u35_1, u35_2⟩ := u35
          obtain ⟨hP9, hD9⟩ := zj2 (wX := [(h0, .inr (10, [.ref tp, h0_courtReader, h0_lawReader, h0_draft, .ref aC, h0_laws, .ref g0, .ref k0, .ref ac, .ref sd, .ref mi, .ref dw, .ref rf, .int lc, .int lh, .int br, .int hi])), (aC, .inr (1, [.ref aR, .ref aB, .ref aP, .int nb, .int np])), (aR, .inl (cI, 3, .inl fr)), (aB, .inl (cI, 24, .inl fb)), (aP, .inl (cI, 20, .inl fp)), (g0, .inr (7, [.ref gY, .ref gF, .ref gP, .int gpn, .int glt, .int gsh, .int gwd, .int gpu, .int gmo])), (gY, .inl (cI, 6, .inl gfY)), (gF, .inl (cI, 5, .inl gfF)), (gP, .inl (cI, 80, .inl gfP)), (sd, .inr (8, [.ref w1, .ref w2, .ref aC, .ref g0, .ref aL, .ref aK, .null])), (mi, .inr (6, [.ref aC, .ref g0, .ref sd, .ref mW, .long u35_0, .int u35_1, .ref mV, .ref mA, .ref mT])), (mW, .inl (cJ, 10, .inr (.inl u35_2)))]) hP hD hk1 hFc ht hB [0, 1, 2, 3, 4, 5, 6, 7, 8, 9, 10, 11] [(true, 0), (true, 1), (true, 2), (true, 3), (true, 4), (true, 5), (true, 6), (true, 7), (true, 8), (true, 9), (true, 10), (true, 11)] rfl (by decide +kernel) (by decide +kernel) rfl
          clear hP hD hS hPc hDc hFc hB hk1 hz1 hvm
          have hP := hP9
          have hD := hD9
          have hS := hS9
          clear hP9 hD9 hS9
          obtain ⟨f35_0, f35_1, f35_2, f35_3⟩ : (0 ≤ v35.toInt) ∧ (v35.toInt ≤ 5) ∧ (0 ≤ u35_1.toInt) ∧ (u35_1.toInt ≤ 9) := hw
          obtain ⟨hPc, hDc⟩ := zc2 (wc := [(aC, .inr (1, [.ref aR, .ref aB, .ref aP, .int nb, .int np])), (aR, .inl (cI, 3, .inl fr)), (aB, .inl (cI, 24, .inl fb))]) hP hD [1, 2, 3] (by decide +kernel) rfl
          have hFc := zfr hS hA
          refine va_calli (va_runV (As := [.int v35]) (rest := []) ⟨hx, hb, hml, hown, hts⟩ (g_X1_trueWorth l dC dI cI cJ aC v35 aR aB aP nb np fr fb H.size ⟨f35_0, f35_1⟩) (cwV 1 hts (zgV qw921 qw922 qw923 qw102 qw924) rfl rfl rfl hd_X1_trueWorth ⟨by rw [hR]; exact Nat.le_of_ble_eq_true rfl, by rw [hR]; exact Nat.le_of_ble_eq_true rfl⟩) (zPV hPc hK hDc (va_recv (q := (RX1, TX1, 5)) hK hP (ci := 1) (q0 := 1) rfl rfl)) rfl rfl hl.1 rfl (lv_room (Nat.le_of_ble_eq_true rfl)) dX10_chooses_38 ⟨Nat.zero_le _, Nat.zero_le _⟩) hS (fun q _ h => hFc q h) hFc (fun v38 u38 t H locs ht hvm hw hB hz1 hk1 hS9 => ?_)
          replace hP := zkeep hP hk1
          replace hS := hS9
          clear hPc hDc hFc hk1 hz1 hvm hS9
          have f38_0 : (v38 = zTw fr fb v35.toInt.toNat) := hw
          have F38 := f38_0
          refine lv_aload_n hx hb dX10_chooses_41 rfl (lv_at hl 0 rfl) ?_
          refine va_get (D := (dC, dI)) (ci := 10) (v := .ref aC) (C := RX10) (T := TX10) (N := 17) hx hb hts iX10 hown hK hP 0 rfl rfl 4 (by decide) (hts _ qw360) (fun _ h9 => h9) rfl dX10_chooses_42 ?_
          refine lv_aload_n hx hb dX10_chooses_45 rfl (lv_at hl 0 rfl) ?_
          refine lv_iconst (v := 0) hx hb dX10_chooses_46 (by decide) ?_
          obtain ⟨hPc, hDc, hFc⟩ := zc3 (wc := [(h0, .inr (10, [.ref tp, h0_courtReader, h0_lawReader, h0_draft, .ref aC, h0_laws, .ref g0, .ref k0, .ref ac, .ref sd, .ref mi, .ref dw, .ref rf, .int lc, .int lh, .int br, .int hi])), (aC, .inr (1, [.ref aR, .ref aB, .ref aP, .int nb, .int np])), (aR, .inl (cI, 3, .inl fr)), (aB, .inl (cI, 24, .inl fb)), (aP, .inl (cI, 20, .inl fp)), (g0, .inr (7, [.ref gY, .ref gF, .ref gP, .int gpn, .int glt, .int gsh, .int gwd, .int gpu, .int gmo])), (gY, .inl (cI, 6, .inl gfY)), (gF, .inl (cI, 5, .inl gfF)), (gP, .inl (cI, 80, .inl gfP)), (sd, .inr (8, [.ref w1, .ref w2, .ref aC, .ref g0, .ref aL, .ref aK, .null])), (mi, .inr (6, [.ref aC, .ref g0, .ref sd, .ref mW, .long u35_0, .int u35_1, .ref mV, .ref mA, .ref mT])), (mW, .inl (cJ, 10, .inr (.inl u35_2)))]) hP hD hS hA [0, 1, 2, 3, 4, 5, 6, 7, 8, 9, 10, 11] (by decide +kernel) rfl
          refine va_calli (va_runV (As := [.int 0]) (rest := [.ref aC, .int v38]) ⟨hx, hb, hml, hown, hts⟩ (g_X10_choice_n l dC dI cI cJ h0 0 tp h0_courtReader h0_lawReader h0_draft aC h0_laws g0 k0 ac sd mi dw rf lc lh br hi aR aB aP nb np fr fb fp gY gF gP gpn glt gsh gwd gpu gmo gfY gfF gfP w1 w2 aL aK mW u35_0 u35_1 mV mA mT u35_2 H.size y_gpn y_gwd y_hi y_lc ⟨f35_2, f35_3⟩ n_nb y_np (by decide) ci_gfP_zPo) (cwV 1 hts (zgV qw917 qw919 qw24 qw98 qw920) rfl rfl rfl hd_X10_choice ⟨by rw [hR]; exact Nat.le_of_ble_eq_true rfl, by rw [hR]; exact Nat.le_of_ble_eq_true rfl⟩) (zPWV hPc hK hDc (va_recv (q := (RX10, TX10, 17)) hK hP (ci := 10) (q0 := 0) rfl rfl) (zV_call hV hS hFc)) rfl rfl hl.1 rfl (lv_room (Nat.le_of_ble_eq_true rfl)) dX10_chooses_47 ⟨Nat.zero_le _, Nat.zero_le _⟩) hS (fun q _ h => hFc q h) hFc (fun v47 u47 t H locs ht hvm hw hB hz1 hk1 hS9 => ?_)
          obtain ⟨u47_0, u47_1, u47_2⟩ := u47
          obtain ⟨hP9, hD9⟩ := zj2 (wX := [(h0, .inr (10, [.ref tp, h0_courtReader, h0_lawReader, h0_draft, .ref aC, h0_laws, .ref g0, .ref k0, .ref ac, .ref sd, .ref mi, .ref dw, .ref rf, .int lc, .int lh, .int br, .int hi])), (aC, .inr (1, [.ref aR, .ref aB, .ref aP, .int nb, .int np])), (aR, .inl (cI, 3, .inl fr)), (aB, .inl (cI, 24, .inl fb)), (aP, .inl (cI, 20, .inl fp)), (g0, .inr (7, [.ref gY, .ref gF, .ref gP, .int gpn, .int glt, .int gsh, .int gwd, .int gpu, .int gmo])), (gY, .inl (cI, 6, .inl gfY)), (gF, .inl (cI, 5, .inl gfF)), (gP, .inl (cI, 80, .inl gfP)), (sd, .inr (8, [.ref w1, .ref w2, .ref aC, .ref g0, .ref aL, .ref aK, .null])), (mi, .inr (6, [.ref aC, .ref g0, .ref sd, .ref mW, .long u47_0, .int u47_1, .ref mV, .ref mA, .ref mT])), (mW, .inl (cJ, 10, .inr (.inl u47_2)))]) hP hD hk1 hFc ht hB [0, 1, 2, 3, 4, 5, 6, 7, 8, 9, 10, 11] [(true, 0), (true, 1), (true, 2), (true, 3), (true, 4), (true, 5), (true, 6), (true, 7), (true, 8), (true, 9), (true, 10), (true, 11)] rfl (by decide +kernel) (by decide +kernel) rfl
          clear hP hD hS hPc hDc hFc hB hk1 hz1 hvm
          have hP := hP9
          have hD := hD9
          have hS := hS9
          clear hP9 hD9 hS9
          obtain ⟨f47_0, f47_1, f47_2, f47_3⟩ : (0 ≤ v47.toInt) ∧ (v47.toInt ≤ 5) ∧ (0 ≤ u47_1.toInt) ∧ (u47_1.toInt ≤ 9) := hw
          obtain ⟨hPc, hDc⟩ := zc2 (wc := [(aC, .inr (1, [.ref aR, .ref aB, .ref aP, .int nb, .int np])), (aR, .inl (cI, 3, .inl fr)), (aB, .inl (cI, 24, .inl fb))]) hP hD [1, 2, 3] (by decide +kernel) rfl
          have hFc := zfr hS hA
          refine va_calli (va_runV (As := [.int v47]) (rest := [.int v38]) ⟨hx, hb, hml, hown, hts⟩ (g_X1_trueWorth l dC dI cI cJ aC v47 aR aB aP nb np fr fb H.size ⟨f47_0, f47_1⟩) (cwV 1 hts (zgV qw921 qw922 qw923 qw102 qw924) rfl rfl rfl hd_X1_trueWorth ⟨by rw [hR]; exact Nat.le_of_ble_eq_true rfl, by rw [hR]; exact Nat.le_of_ble_eq_true rfl⟩) (zPV hPc hK hDc (va_recv (q := (RX1, TX1, 5)) hK hP (ci := 1) (q0 := 1) rfl rfl)) rfl rfl hl.1 rfl (lv_room (Nat.le_of_ble_eq_true rfl)) dX10_chooses_50 ⟨Nat.zero_le _, Nat.zero_le _⟩) hS (fun q _ h => hFc q h) hFc (fun v50 u50 t H locs ht hvm hw hB hz1 hk1 hS9 => ?_)
          replace hP := zkeep hP hk1
          replace hS := hS9
          clear hPc hDc hFc hk1 hz1 hvm hS9
          have f50_0 : (v50 = zTw fr fb v47.toInt.toNat) := hw
          have F50 := f50_0
          refine lv_isub hx hb dX10_chooses_53 ?_
          refine lv_topi (fun v53 e53 => ?_)
          rw [hQ]
          exact W.iret (v := v53) hx hb hr (fun t ht hW => ⟨⟨v53, (u47_0, u47_1, u47_2), rfl, ⟨by (try dsimp only); omega, by (try dsimp only); omega⟩, ⟨by rw [ht]; exact hP, hD⟩⟩, hS.F ht⟩) hS.2.2 dX10_chooses_54
        · have c20 : p0.toInt < 3 := z4 (by decide) rfl c20
          refine lv_aload_n hx hb dX10_chooses_23 rfl (lv_at hl 0 rfl) ?_
          refine lv_iload_n hx hb dX10_chooses_24 rfl (lv_at hl 1 rfl) ?_
          obtain ⟨hPc, hDc, hFc⟩ := zc3 (wc := [(h0, .inr (10, [.ref tp, h0_courtReader, h0_lawReader, h0_draft, .ref aC, h0_laws, .ref g0, .ref k0, .ref ac, .ref sd, .ref mi, .ref dw, .ref rf, .int lc, .int lh, .int br, .int hi])), (aC, .inr (1, [.ref aR, .ref aB, .ref aP, .int nb, .int np])), (aR, .inl (cI, 3, .inl fr)), (aB, .inl (cI, 24, .inl fb)), (aP, .inl (cI, 20, .inl fp)), (g0, .inr (7, [.ref gY, .ref gF, .ref gP, .int gpn, .int glt, .int gsh, .int gwd, .int gpu, .int gmo])), (gY, .inl (cI, 6, .inl gfY)), (gF, .inl (cI, 5, .inl gfF)), (gP, .inl (cI, 80, .inl gfP)), (sd, .inr (8, [.ref w1, .ref w2, .ref aC, .ref g0, .ref aL, .ref aK, .null])), (mi, .inr (6, [.ref aC, .ref g0, .ref sd, .ref mW, .long mt, .int lf, .ref mV, .ref mA, .ref mT])), (mW, .inl (cJ, 10, .inr (.inl fW)))]) hP hD hS hA [0, 1, 2, 3, 4, 5, 6, 7, 8, 9, 10, 11] (by decide +kernel) rfl
          refine va_calli (va_runV (As := [.int p0]) (rest := []) ⟨hx, hb, hml, hown, hts⟩ (g_X10_choice_n l dC dI cI cJ h0 p0 tp h0_courtReader h0_lawReader h0_draft aC h0_laws g0 k0 ac sd mi dw rf lc lh br hi aR aB aP nb np fr fb fp gY gF gP gpn glt gsh gwd gpu gmo gfY gfF gfP w1 w2 aL aK mW mt lf mV mA mT fW H.size y_gpn y_gwd y_hi y_lc n_lf n_nb y_np (by omega) ci_gfP_zPo) (cwV 1 hts (zgV qw917 qw919 qw24 qw98 qw920) rfl rfl rfl hd_X10_choice ⟨by rw [hR]; exact Nat.le_of_ble_eq_true rfl, by rw [hR]; exact Nat.le_of_ble_eq_true rfl⟩) (zPWV hPc hK hDc (va_recv (q := (RX10, TX10, 17)) hK hP (ci := 10) (q0 := 0) rfl rfl) (zV_call hV hS hFc)) rfl rfl hl.1 rfl (lv_room (Nat.le_of_ble_eq_true rfl)) dX10_chooses_25 ⟨Nat.zero_le _, Nat.zero_le _⟩) hS (fun q _ h => hFc q h) hFc (fun v25 u25 t H locs ht hvm hw hB hz1 hk1 hS9 => ?_)
          obtain ⟨u25_0, u25_1, u25_2⟩ := u25
          obtain ⟨hP9, hD9⟩ := zj2 (wX := [(h0, .inr (10, [.ref tp, h0_courtReader, h0_lawReader, h0_draft, .ref aC, h0_laws, .ref g0, .ref k0, .ref ac, .ref sd, .ref mi, .ref dw, .ref rf, .int lc, .int lh, .int br, .int hi])), (aC, .inr (1, [.ref aR, .ref aB, .ref aP, .int nb, .int np])), (aR, .inl (cI, 3, .inl fr)), (aB, .inl (cI, 24, .inl fb)), (aP, .inl (cI, 20, .inl fp)), (g0, .inr (7, [.ref gY, .ref gF, .ref gP, .int gpn, .int glt, .int gsh, .int gwd, .int gpu, .int gmo])), (gY, .inl (cI, 6, .inl gfY)), (gF, .inl (cI, 5, .inl gfF)), (gP, .inl (cI, 80, .inl gfP)), (sd, .inr (8, [.ref w1, .ref w2, .ref aC, .ref g0, .ref aL, .ref aK, .null])), (mi, .inr (6, [.ref aC, .ref g0, .ref sd, .ref mW, .long u25_0, .int u25_1, .ref mV, .ref mA, .ref mT])), (mW, .inl (cJ, 10, .inr (.inl u25_2)))]) hP hD hk1 hFc ht hB [0, 1, 2, 3, 4, 5, 6, 7, 8, 9, 10, 11] [(true, 0), (true, 1), (true, 2), (true, 3), (true, 4), (true, 5), (true, 6), (true, 7), (true, 8), (true, 9), (true, 10), (true, 11)] rfl (by decide +kernel) (by decide +kernel) rfl
          clear hP hD hS hPc hDc hFc hB hk1 hz1 hvm
          have hP := hP9
          have hD := hD9
          have hS := hS9
          clear hP9 hD9 hS9
          obtain ⟨f25_0, f25_1, f25_2, f25_3⟩ : (0 ≤ v25.toInt) ∧ (v25.toInt ≤ 5) ∧ (0 ≤ u25_1.toInt) ∧ (u25_1.toInt ≤ 9) := hw
          rw [hQ]
          exact W.iret (v := v25) hx hb hr (fun t ht hW => ⟨⟨v25, (u25_0, u25_1, u25_2), rfl, ⟨by (try dsimp only); omega, by (try dsimp only); omega⟩, ⟨by rw [ht]; exact hP, hD⟩⟩, hS.F ht⟩) hS.2.2 dX10_chooses_28
      · have c13 : 3 < p0.toInt := z4 rfl (by decide) c13
        exact J16   H locs ls hP hD hS (lv_sub hl [0, 1] rfl)
set_option maxHeartbeats 4000000 in
set_option maxRecDepth 100000 in
theorem g_X10_chooses_l (l : Launch) (dC : Nat → ClassId) (dI : Nat → Nat → Nat) (cI cJ : ClassId) (h0 : Nat) (p0 : Int32) (tp : Nat) (h0_courtReader : Value) (h0_lawReader : Value) (h0_draft : Value) (aC : Nat) (h0_laws : Value) (g0 : Nat) (k0 : Nat) (ac : Nat) (sd : Nat) (mi : Nat) (dw : Nat) (rf : Nat) (lc : Int32) (lh : Int32) (br : Int32) (hi : Int32) (aR : Nat) (aB : Nat) (aP : Nat) (nb : Int32) (np : Int32) (fr : Nat → Int32) (fb : Nat → Int32) (fp : Nat → Int32) (gY : Nat) (gF : Nat) (gP : Nat) (gpn : Int32) (glt : Int32) (gsh : Int32) (gwd : Int32) (gpu : Int32) (gmo : Int32) (gfY : Nat → Int32) (gfF : Nat → Int32) (gfP : Nat → Int32) (w1 : Nat) (w2 : Nat) (aL : Nat) (aK : Nat) (lw : Nat) (fL : Nat → Int32) (fK : Nat → Int32) (lS : Nat) (fS : Nat → Int32) (lk : Nat) (mW : Nat) (mt : Int64) (lf : Int32) (mV : Nat) (mA : Nat) (mT : Nat) (fW : Nat → Int64) (sz : Nat) (n_gpn : 0 ≤ gpn.toInt ∧ gpn.toInt ≤ 20) (n_gwd : (-1) ≤ gwd.toInt ∧ gwd.toInt ≤ 5) (n_hi : 0 ≤ hi.toInt ∧ hi.toInt ≤ 1) (n_lc : 0 ≤ lc.toInt ∧ lc.toInt ≤ 4) (n_lf : 0 ≤ lf.toInt ∧ lf.toInt ≤ 9) (n_nb : 0 ≤ nb.toInt ∧ nb.toInt ≤ 6) (n_np : 0 ≤ np.toInt ∧ np.toInt ≤ 5) (hlk : lk ≤ 241) (ci_fS_zSt : zSt fS) (ci_gfP_zPo : zPo gfP)  : Met l yX10_chooses (.code yX10_chooses cX10_chooses 2 (some .int) :: wA) ({ frames := 7, cells := 0, slots := 0, locals := 179 }) (zPW (dC, dI) [(cI, .int), (cJ, .long)] [.ref h0, .int p0] sz [(h0, .inr (10, [.ref tp, h0_courtReader, h0_lawReader, h0_draft, .ref aC, h0_laws, .ref g0, .ref k0, .ref ac, .ref sd, .ref mi, .ref dw, .ref rf, .int lc, .int lh, .int br, .int hi])), (aC, .inr (1, [.ref aR, .ref aB, .ref aP, .int nb, .int np])), (aR, .inl (cI, 3, .inl fr)), (aB, .inl (cI, 24, .inl fb)), (aP, .inl (cI, 20, .inl fp)), (g0, .inr (7, [.ref gY, .ref gF, .ref gP, .int gpn, .int glt, .int gsh, .int gwd, .int gpu, .int gmo])), (gY, .inl (cI, 6, .inl gfY)), (gF, .inl (cI, 5, .inl gfF)), (gP, .inl (cI, 80, .inl gfP)), (sd, .inr (8, [.ref w1, .ref w2, .ref aC, .ref g0, .ref aL, .ref aK, .ref lw])), (aL, .inl (cI, 6, .inl fL)), (aK, .inl (cI, 32, .inl fK)), (lw, .inr (4, [.ref lS])), (lS, .inl (cI, lk, .inl fS)), (mi, .inr (6, [.ref aC, .ref g0, .ref sd, .ref mW, .long mt, .int lf, .ref mV, .ref mA, .ref mT])), (mW, .inl (cJ, 10, .inr (.inl fW)))] (va_A [(h0, .inr (10, [.ref tp, h0_courtReader, h0_lawReader, h0_draft, .ref aC, h0_laws, .ref g0, .ref k0, .ref ac, .ref sd, .ref mi, .ref dw, .ref rf, .int lc, .int lh, .int br, .int hi])), (aC, .inr (1, [.ref aR, .ref aB, .ref aP, .int nb, .int np])), (aR, .inl (cI, 3, .inl fr)), (aB, .inl (cI, 24, .inl fb)), (aP, .inl (cI, 20, .inl fp)), (g0, .inr (7, [.ref gY, .ref gF, .ref gP, .int gpn, .int glt, .int gsh, .int gwd, .int gpu, .int gmo])), (gY, .inl (cI, 6, .inl gfY)), (gF, .inl (cI, 5, .inl gfF)), (gP, .inl (cI, 80, .inl gfP)), (sd, .inr (8, [.ref w1, .ref w2, .ref aC, .ref g0, .ref aL, .ref aK, .ref lw])), (aL, .inl (cI, 6, .inl fL)), (aK, .inl (cI, 32, .inl fK)), (lw, .inr (4, [.ref lS])), (lS, .inl (cI, lk, .inl fS)), (mi, .inr (6, [.ref aC, .ref g0, .ref sd, .ref mW, .long mt, .int lf, .ref mV, .ref mA, .ref mT])), (mW, .inl (cJ, 10, .inr (.inl fW)))] sz)) (va_Qi (fun (r : Int32) (u : (Nat → Int32) × (Nat → Int32) × Int64 × Int32 × (Nat → Int64)) => (0 ≤ u.2.2.2.1.toInt) ∧ (u.2.2.2.1.toInt ≤ 9)) (fun (u : (Nat → Int32) × (Nat → Int32) × Int64 × Int32 × (Nat → Int64)) (t : State) => va_P (dC, dI) vwCl [(h0, .inr (10, [.ref tp, h0_courtReader, h0_lawReader, h0_draft, .ref aC, h0_laws, .ref g0, .ref k0, .ref ac, .ref sd, .ref mi, .ref dw, .ref rf, .int lc, .int lh, .int br, .int hi])), (aC, .inr (1, [.ref aR, .ref aB, .ref aP, .int nb, .int np])), (aR, .inl (cI, 3, .inl fr)), (aB, .inl (cI, 24, .inl fb)), (aP, .inl (cI, 20, .inl fp)), (g0, .inr (7, [.ref gY, .ref gF, .ref gP, .int gpn, .int glt, .int gsh, .int gwd, .int gpu, .int gmo])), (gY, .inl (cI, 6, .inl gfY)), (gF, .inl (cI, 5, .inl gfF)), (gP, .inl (cI, 80, .inl gfP)), (sd, .inr (8, [.ref w1, .ref w2, .ref aC, .ref g0, .ref aL, .ref aK, .ref lw])), (aL, .inl (cI, 6, .inl u.1)), (aK, .inl (cI, 32, .inl u.2.1)), (lw, .inr (4, [.ref lS])), (lS, .inl (cI, lk, .inl fS)), (mi, .inr (6, [.ref aC, .ref g0, .ref sd, .ref mW, .long u.2.2.1, .int u.2.2.2.1, .ref mV, .ref mA, .ref mT])), (mW, .inl (cJ, 10, .inr (.inl u.2.2.2.2)))] t.heap ∧ va_D (va_A [(h0, .inr (10, [.ref tp, h0_courtReader, h0_lawReader, h0_draft, .ref aC, h0_laws, .ref g0, .ref k0, .ref ac, .ref sd, .ref mi, .ref dw, .ref rf, .int lc, .int lh, .int br, .int hi])), (aC, .inr (1, [.ref aR, .ref aB, .ref aP, .int nb, .int np])), (aR, .inl (cI, 3, .inl fr)), (aB, .inl (cI, 24, .inl fb)), (aP, .inl (cI, 20, .inl fp)), (g0, .inr (7, [.ref gY, .ref gF, .ref gP, .int gpn, .int glt, .int gsh, .int gwd, .int gpu, .int gmo])), (gY, .inl (cI, 6, .inl gfY)), (gF, .inl (cI, 5, .inl gfF)), (gP, .inl (cI, 80, .inl gfP)), (sd, .inr (8, [.ref w1, .ref w2, .ref aC, .ref g0, .ref aL, .ref aK, .ref lw])), (aL, .inl (cI, 6, .inl fL)), (aK, .inl (cI, 32, .inl fK)), (lw, .inr (4, [.ref lS])), (lS, .inl (cI, lk, .inl fS)), (mi, .inr (6, [.ref aC, .ref g0, .ref sd, .ref mW, .long mt, .int lf, .ref mV, .ref mA, .ref mT])), (mW, .inl (cJ, 10, .inr (.inl fW)))] sz) [(h0, .inr (10, [.ref tp, h0_courtReader, h0_lawReader, h0_draft, .ref aC, h0_laws, .ref g0, .ref k0, .ref ac, .ref sd, .ref mi, .ref dw, .ref rf, .int lc, .int lh, .int br, .int hi])), (aC, .inr (1, [.ref aR, .ref aB, .ref aP, .int nb, .int np])), (aR, .inl (cI, 3, .inl fr)), (aB, .inl (cI, 24, .inl fb)), (aP, .inl (cI, 20, .inl fp)), (g0, .inr (7, [.ref gY, .ref gF, .ref gP, .int gpn, .int glt, .int gsh, .int gwd, .int gpu, .int gmo])), (gY, .inl (cI, 6, .inl gfY)), (gF, .inl (cI, 5, .inl gfF)), (gP, .inl (cI, 80, .inl gfP)), (sd, .inr (8, [.ref w1, .ref w2, .ref aC, .ref g0, .ref aL, .ref aK, .ref lw])), (aL, .inl (cI, 6, .inl u.1)), (aK, .inl (cI, 32, .inl u.2.1)), (lw, .inr (4, [.ref lS])), (lS, .inl (cI, lk, .inl fS)), (mi, .inr (6, [.ref aC, .ref g0, .ref sd, .ref mW, .long u.2.2.1, .int u.2.2.2.1, .ref mV, .ref mA, .ref mT])), (mW, .inl (cJ, 10, .inr (.inl u.2.2.2.2)))]) (va_A [(h0, .inr (10, [.ref tp, h0_courtReader, h0_lawReader, h0_draft, .ref aC, h0_laws, .ref g0, .ref k0, .ref ac, .ref sd, .ref mi, .ref dw, .ref rf, .int lc, .int lh, .int br, .int hi])), (aC, .inr (1, [.ref aR, .ref aB, .ref aP, .int nb, .int np])), (aR, .inl (cI, 3, .inl fr)), (aB, .inl (cI, 24, .inl fb)), (aP, .inl (cI, 20, .inl fp)), (g0, .inr (7, [.ref gY, .ref gF, .ref gP, .int gpn, .int glt, .int gsh, .int gwd, .int gpu, .int gmo])), (gY, .inl (cI, 6, .inl gfY)), (gF, .inl (cI, 5, .inl gfF)), (gP, .inl (cI, 80, .inl gfP)), (sd, .inr (8, [.ref w1, .ref w2, .ref aC, .ref g0, .ref aL, .ref aK, .ref lw])), (aL, .inl (cI, 6, .inl fL)), (aK, .inl (cI, 32, .inl fK)), (lw, .inr (4, [.ref lS])), (lS, .inl (cI, lk, .inl fS)), (mi, .inr (6, [.ref aC, .ref g0, .ref sd, .ref mW, .long mt, .int lf, .ref mV, .ref mA, .ref mT])), (mW, .inl (cJ, 10, .inr (.inl fW)))] sz)) 0 0 (va_A [(h0, .inr (10, [.ref tp, h0_courtReader, h0_lawReader, h0_draft, .ref aC, h0_laws, .ref g0, .ref k0, .ref ac, .ref sd, .ref mi, .ref dw, .ref rf, .int lc, .int lh, .int br, .int hi])), (aC, .inr (1, [.ref aR, .ref aB, .ref aP, .int nb, .int np])), (aR, .inl (cI, 3, .inl fr)), (aB, .inl (cI, 24, .inl fb)), (aP, .inl (cI, 20, .inl fp)), (g0, .inr (7, [.ref gY, .ref gF, .ref gP, .int gpn, .int glt, .int gsh, .int gwd, .int gpu, .int gmo])), (gY, .inl (cI, 6, .inl gfY)), (gF, .inl (cI, 5, .inl gfF)), (gP, .inl (cI, 80, .inl gfP)), (sd, .inr (8, [.ref w1, .ref w2, .ref aC, .ref g0, .ref aL, .ref aK, .ref lw])), (aL, .inl (cI, 6, .inl fL)), (aK, .inl (cI, 32, .inl fK)), (lw, .inr (4, [.ref lS])), (lS, .inl (cI, lk, .inl fS)), (mi, .inr (6, [.ref aC, .ref g0, .ref sd, .ref mW, .long mt, .int lf, .ref mV, .ref mA, .ref mT])), (mW, .inl (cJ, 10, .inr (.inl fW)))] sz) := by
  refine Met.ofW (cc := cX10_chooses) (maxL := 2) (ret := (some .int)) (by decide) rfl ?_
  intro p e s m args below meth c s₁ B hml hv
  have y_gpn : zHid (0 ≤ gpn.toInt ∧ gpn.toInt ≤ 20) := n_gpn
  have y_gwd : zHid ((-1) ≤ gwd.toInt ∧ gwd.toInt ≤ 5) := n_gwd
  have y_hi : zHid (0 ≤ hi.toInt ∧ hi.toInt ≤ 1) := n_hi
  have y_lc : zHid (0 ≤ lc.toInt ∧ lc.toInt ≤ 4) := n_lc
  have y_np : zHid (0 ≤ np.toInt ∧ np.toInt ≤ 5) := n_np
  clear n_gpn n_gwd n_hi n_lc n_np
  obtain ⟨⟨hargs, hsz, hP, hK, hT⟩, hV⟩ := hv
  have hx := B.exec
  have hb := B.bytes
  have hr := B.returns
  have hts : ∀ w ∈ wA, w.before args s = true := fun w h => atoms_spec (ws := .code yX10_chooses cX10_chooses 2 (some .int) :: wA) B.pre w (List.mem_cons_of_mem _ h)
  have hown : s.vm.findClass RX10 = some m.cls := findClass_of_methodNamed B.named
  have hlocks := B.notSynchronized
  subst hsz
  have hD := hT.self (sz := s.heap.size)
  generalize hAe : va_A [(h0, .inr (10, [.ref tp, h0_courtReader, h0_lawReader, h0_draft, .ref aC, h0_laws, .ref g0, .ref k0, .ref ac, .ref sd, .ref mi, .ref dw, .ref rf, .int lc, .int lh, .int br, .int hi])), (aC, .inr (1, [.ref aR, .ref aB, .ref aP, .int nb, .int np])), (aR, .inl (cI, 3, .inl fr)), (aB, .inl (cI, 24, .inl fb)), (aP, .inl (cI, 20, .inl fp)), (g0, .inr (7, [.ref gY, .ref gF, .ref gP, .int gpn, .int glt, .int gsh, .int gwd, .int gpu, .int gmo])), (gY, .inl (cI, 6, .inl gfY)), (gF, .inl (cI, 5, .inl gfF)), (gP, .inl (cI, 80, .inl gfP)), (sd, .inr (8, [.ref w1, .ref w2, .ref aC, .ref g0, .ref aL, .ref aK, .ref lw])), (aL, .inl (cI, 6, .inl fL)), (aK, .inl (cI, 32, .inl fK)), (lw, .inr (4, [.ref lS])), (lS, .inl (cI, lk, .inl fS)), (mi, .inr (6, [.ref aC, .ref g0, .ref sd, .ref mW, .long mt, .int lf, .ref mV, .ref mA, .ref mT])), (mW, .inl (cJ, 10, .inr (.inl fW)))] s.heap.size = A at hD hV ⊢
  have hA : ∀ q : Nat, s.heap.size ≤ q → A q := fun q h => by rw [← hAe]; exact Or.inr h
  have hl := lv_entry ([.ref h0, .int p0]) (n := 2) (Nat.le_of_ble_eq_true rfl)
  rw [show entryFrame m args 2 = entryFrame m ([.ref h0, .int p0] : List Value).toArray 2 by rw [hargs], lg_entry_eq]
  generalize (lg_sl ([.ref h0, .int p0]) ++ List.replicate (2 - (lg_sl ([.ref h0, .int p0])).length) Slot.unset).toArray = ls at hl ⊢
  have hl : lv_has ls 2 [(0, .ref h0), (1, .int p0)] := hl
  refine zstart (fun H hH => ?_)
  rw [← hH] at hP
  have hS : va_S A s.heap H [] := by rw [hH]; exact va_S.rf
  generalize ([] : List Loc) = locs at hS ⊢
  refine zgen (fun R Q hR hQ => ?_)
  refine lv_aload_n hx hb dX10_chooses_0 rfl (lv_at hl 0 rfl) ?_
  obtain ⟨hPc, hDc⟩ := zc2 (wc := [(h0, .inr (10, [.ref tp, h0_courtReader, h0_lawReader, h0_draft, .ref aC, h0_laws, .ref g0, .ref k0, .ref ac, .ref sd, .ref mi, .ref dw, .ref rf, .int lc, .int lh, .int br, .int hi])), (aC, .inr (1, [.ref aR, .ref aB, .ref aP, .int nb, .int np]))]) hP hD [0, 1] (by decide +kernel) rfl
  have hFc := zfr hS hA
  refine va_calli (va_runV (As := []) (rest := []) ⟨hx, hb, hml, hown, hts⟩ (g_X10_hasCourt l dC dI cI cJ h0 (.ref tp) h0_courtReader h0_lawReader h0_draft aC h0_laws (.ref g0) (.ref k0) (.ref ac) (.ref sd) (.ref mi) (.ref dw) (.ref rf) (.int lc) (.int lh) (.int br) (.int hi) aR aB aP nb np H.size) (cwV 0 hts (zgV qw584 qw586 qw10 qw98 qw587) rfl rfl rfl hd_X10_hasCourt ⟨by rw [hR]; exact Nat.le_of_ble_eq_true rfl, by rw [hR]; exact Nat.le_of_ble_eq_true rfl⟩) (zPV hPc hK hDc (va_recv (q := (RX10, TX10, 17)) hK hP (ci := 10) (q0 := 0) rfl rfl)) rfl rfl hl.1 rfl (lv_room (Nat.le_of_ble_eq_true rfl)) dX10_chooses_1 ⟨Nat.zero_le _, Nat.zero_le _⟩) hS (fun q _ h => hFc q h) hFc (fun v1 u1 t H locs ht hvm hw hB hz1 hk1 hS9 => ?_)
  replace hP := zkeep hP hk1
  replace hS := hS9
  clear hPc hDc hFc hk1 hz1 hvm hS9
  obtain ⟨f1_0, f1_1, f1_2, f1_3⟩ : (0 ≤ v1.toInt) ∧ (v1.toInt ≤ 1) ∧ (¬ v1.toInt = 0 → 0 < nb.toInt) ∧ (v1.toInt = 0 → nb.toInt ≤ 0) := hw
  have J16 : ∀ (H : Heap) (locs : List Loc) (ls : Array Slot), va_P (dC, dI) vwCl [(h0, .inr (10, [.ref tp, h0_courtReader, h0_lawReader, h0_draft, .ref aC, h0_laws, .ref g0, .ref k0, .ref ac, .ref sd, .ref mi, .ref dw, .ref rf, .int lc, .int lh, .int br, .int hi])), (aC, .inr (1, [.ref aR, .ref aB, .ref aP, .int nb, .int np])), (aR, .inl (cI, 3, .inl fr)), (aB, .inl (cI, 24, .inl fb)), (aP, .inl (cI, 20, .inl fp)), (g0, .inr (7, [.ref gY, .ref gF, .ref gP, .int gpn, .int glt, .int gsh, .int gwd, .int gpu, .int gmo])), (gY, .inl (cI, 6, .inl gfY)), (gF, .inl (cI, 5, .inl gfF)), (gP, .inl (cI, 80, .inl gfP)), (sd, .inr (8, [.ref w1, .ref w2, .ref aC, .ref g0, .ref aL, .ref aK, .ref lw])), (aL, .inl (cI, 6, .inl fL)), (aK, .inl (cI, 32, .inl fK)), (lw, .inr (4, [.ref lS])), (lS, .inl (cI, lk, .inl fS)), (mi, .inr (6, [.ref aC, .ref g0, .ref sd, .ref mW, .long mt, .int lf, .ref mV, .ref mA, .ref mT])), (mW, .inl (cJ, 10, .inr (.inl fW)))] H → va_D A [(h0, .inr (10, [.ref tp, h0_courtReader, h0_lawReader, h0_draft, .ref aC, h0_laws, .ref g0, .ref k0, .ref ac, .ref sd, .ref mi, .ref dw, .ref rf, .int lc, .int lh, .int br, .int hi])), (aC, .inr (1, [.ref aR, .ref aB, .ref aP, .int nb, .int np])), (aR, .inl (cI, 3, .inl fr)), (aB, .inl (cI, 24, .inl fb)), (aP, .inl (cI, 20, .inl fp)), (g0, .inr (7, [.ref gY, .ref gF, .ref gP, .int gpn, .int glt, .int gsh, .int gwd, .int gpu, .int gmo])), (gY, .inl (cI, 6, .inl gfY)), (gF, .inl (cI, 5, .inl gfF)), (gP, .inl (cI, 80, .inl gfP)), (sd, .inr (8, [.ref w1, .ref w2, .ref aC, .ref g0, .ref aL, .ref aK, .ref lw])), (aL, .inl (cI, 6, .inl fL)), (aK, .inl (cI, 32, .inl fK)), (lw, .inr (4, [.ref lS])), (lS, .inl (cI, lk, .inl fS)), (mi, .inr (6, [.ref aC, .ref g0, .ref sd, .ref mW, .long mt, .int lf, .ref mV, .ref mA, .ref mT])), (mW, .inl (cJ, 10, .inr (.inl fW)))] → va_S A s.heap H locs → lv_has ls 2 [(0, .ref h0), (1, .int p0)] → W p l e R s m args below meth c H locs 0 0 Q (F0 m 16 ls []) := by
    intro   H locs ls hP hD hS hl
    refine lv_iconst (v := (-1)) hx hb dX10_chooses_16 (by decide) ?_
    have zr0 : ((-1) : Int32).toInt = (-1) := by decide
    rw [hQ]
    exact W.iret (v := ((-1))) hx hb hr (fun t ht hW => ⟨⟨(-1), (fL, fK, mt, lf, fW), rfl, ⟨by (try dsimp only); omega, by (try dsimp only); omega⟩, ⟨by rw [ht]; exact hP, hD⟩⟩, hS.F ht⟩) hS.2.2 dX10_chooses_17
  refine lv_if_eq (tgt := 16) hx hb dX10_chooses_4 (by decide) (fun c4 => ?_) (fun c4 => ?_)
  · have c4 : v1.toInt = 0 := z5 rfl (by decide) c4
    exact J16   H locs ls hP hD hS (lv_sub hl [0, 1] rfl)
  · have c4 : ¬ v1.toInt = 0 := z6 rfl (by decide) c4
    refine lv_iload_n hx hb dX10_chooses_7 rfl (lv_at hl 1 rfl) ?_
    refine lv_if_lt (tgt := 16) hx hb dX10_chooses_8 (by decide) (fun c8 => ?_) (fun c8 => ?_)
    · have c8 : p0.toInt < 0 := z1 rfl (by decide) c8
      exact J16   H locs ls hP hD hS (lv_sub hl [0, 1] rfl)
    · have c8 : 0 ≤ p0.toInt := z2 rfl (by decide) c8
      refine lv_iload_n hx hb dX10_chooses_11 rfl (lv_at hl 1 rfl) ?_
      refine lv_iconst (v := 3) hx hb dX10_chooses_12 (by decide) ?_
      refine lv_icmp_le (tgt := 18) hx hb dX10_chooses_13 (by decide) (fun c13 => ?_) (fun c13 => ?_)
      · have c13 : p0.toInt ≤ 3 := z3 rfl (by decide) c13
        refine lv_iload_n hx hb dX10_chooses_18 rfl (lv_at hl 1 rfl) ?_
        refine lv_iconst (v := 3) hx hb dX10_chooses_19 (by decide) ?_
        refine lv_icmp_ge (tgt := 29) hx hb dX10_chooses_20 (by decide) (fun c20 => ?_) (fun c20 => ?_)
        · have c20 : 3 ≤ p0.toInt := z3 (by decide) rfl c20
          refine lv_aload_n hx hb dX10_chooses_29 rfl (lv_at hl 0 rfl) ?_
          refine va_get (D := (dC, dI)) (ci := 10) (v := .ref aC) (C := RX10) (T := TX10) (N := 17) hx hb hts iX10 hown hK hP 0 rfl rfl 4 (by decide) (hts _ qw360) (fun _ h9 => h9) rfl dX10_chooses_30 ?_
          refine lv_aload_n hx hb dX10_chooses_33 rfl (lv_at hl 0 rfl) ?_
          refine lv_iconst (v := 1) hx hb dX10_chooses_34 (by decide) ?_
          obtain ⟨hPc, hDc, hFc⟩ := zc3 (wc := [(h0, .inr (10, [.ref tp, h0_courtReader, h0_lawReader, h0_draft, .ref aC, h0_laws, .ref g0, .ref k0, .ref ac, .ref sd, .ref mi, .ref dw, .ref rf, .int lc, .int lh, .int br, .int hi])), (aC, .inr (1, [.ref aR, .ref aB, .ref aP, .int nb, .int np])), (aR, .inl (cI, 3, .inl fr)), (aB, .inl (cI, 24, .inl fb)), (aP, .inl (cI, 20, .inl fp)), (g0, .inr (7, [.ref gY, .ref gF, .ref gP, .int gpn, .int glt, .int gsh, .int gwd, .int gpu, .int gmo])), (gY, .inl (cI, 6, .inl gfY)), (gF, .inl (cI, 5, .inl gfF)), (gP, .inl (cI, 80, .inl gfP)), (sd, .inr (8, [.ref w1, .ref w2, .ref aC, .ref g0, .ref aL, .ref aK, .ref lw])), (aL, .inl (cI, 6, .inl fL)), (aK, .inl (cI, 32, .inl fK)), (lw, .inr (4, [.ref lS])), (lS, .inl (cI, lk, .inl fS)), (mi, .inr (6, [.ref aC, .ref g0, .ref sd, .ref mW, .long mt, .int lf, .ref mV, .ref mA, .ref mT])), (mW, .inl (cJ, 10, .inr (.inl fW)))]) hP hD hS hA [0, 1, 2, 3, 4, 5, 6, 7, 8, 9, 10, 11, 12, 13, 14, 15] (by decide +kernel) rfl
          refine va_calli (va_runV (As := [.int 1]) (rest := [.ref aC]) ⟨hx, hb, hml, hown, hts⟩ (g_X10_choice_l l dC dI cI cJ h0 1 tp h0_courtReader h0_lawReader h0_draft aC h0_laws g0 k0 ac sd mi dw rf lc lh br hi aR aB aP nb np fr fb fp gY gF gP gpn glt gsh gwd gpu gmo gfY gfF gfP w1 w2 aL aK lw fL fK lS fS lk mW mt lf mV mA mT fW H.size y_gpn y_gwd y_hi y_lc n_lf n_nb y_np (by decide) (hlk) ci_fS_zSt ci_gfP_zPo) (cwV 1 hts (zgV qw917 qw919 qw24 qw98 qw920) rfl rfl rfl hd_X10_choice ⟨by rw [hR]; exact Nat.le_of_ble_eq_true rfl, by rw [hR]; exact Nat.le_of_ble_eq_true rfl⟩) (zPWV hPc hK hDc (va_recv (q := (RX10, TX10, 17)) hK hP (ci := 10) (q0 := 0) rfl rfl) (zV_call hV hS hFc)) rfl rfl hl.1 rfl (lv_room (Nat.le_of_ble_eq_true rfl)) dX10_chooses_35 ⟨Nat.zero_le _, Nat.zero_le _⟩) hS (fun q _ h => hFc q h) hFc (fun v35 u35 t H locs ht hvm hw hB hz1 hk1 hS9 => ?_)
          obtain ⟨u35_0, u35_1, u35_2, u35_3, u35_4⟩ := u35
          obtain ⟨hP9, hD9⟩ := zj2 (wX := [(h0, .inr (10, [.ref tp, h0_courtReader, h0_lawReader, h0_draft, .ref aC, h0_laws, .ref g0, .ref k0, .ref ac, .ref sd, .ref mi, .ref dw, .ref rf, .int lc, .int lh, .int br, .int hi])), (aC, .inr (1, [.ref aR, .ref aB, .ref aP, .int nb, .int np])), (aR, .inl (cI, 3, .inl fr)), (aB, .inl (cI, 24, .inl fb)), (aP, .inl (cI, 20, .inl fp)), (g0, .inr (7, [.ref gY, .ref gF, .ref gP, .int gpn, .int glt, .int gsh, .int gwd, .int gpu, .int gmo])), (gY, .inl (cI, 6, .inl gfY)), (gF, .inl (cI, 5, .inl gfF)), (gP, .inl (cI, 80, .inl gfP)), (sd, .inr (8, [.ref w1, .ref w2, .ref aC, .ref g0, .ref aL, .ref aK, .ref lw])), (aL, .inl (cI, 6, .inl u35_0)), (aK, .inl (cI, 32, .inl u35_1)), (lw, .inr (4, [.ref lS])), (lS, .inl (cI, lk, .inl fS)), (mi, .inr (6, [.ref aC, .ref g0, .ref sd, .ref mW, .long u35_2, .int u35_3, .ref mV, .ref mA, .ref mT])), (mW, .inl (cJ, 10, .inr (.inl u35_4)))]) hP hD hk1 hFc ht hB [0, 1, 2, 3, 4, 5, 6, 7, 8, 9, 10, 11, 12, 13, 14, 15] [(true, 0), (true, 1), (true, 2), (true, 3), (true, 4), (true, 5), (true, 6), (true, 7), (true, 8), (true, 9), (true, 10), (true, 11), (true, 12), (true, 13), (true, 14), (true, 15)] rfl (by decide +kernel) (by decide +kernel) rfl
          clear hP hD hS hPc hDc hFc hB hk1 hz1 hvm
          have hP := hP9
          have hD := hD9
          have hS := hS9
          clear hP9 hD9 hS9
          obtain ⟨f35_0, f35_1, f35_2, f35_3⟩ : (0 ≤ v35.toInt) ∧ (v35.toInt ≤ 5) ∧ (0 ≤ u35_3.toInt) ∧ (u35_3.toInt ≤ 9) := hw
          obtain ⟨hPc, hDc⟩ := zc2 (wc := [(aC, .inr (1, [.ref aR, .ref aB, .ref aP, .int nb, .int np])), (aR, .inl (cI, 3, .inl fr)), (aB, .inl (cI, 24, .inl fb))]) hP hD [1, 2, 3] (by decide +kernel) rfl
          have hFc := zfr hS hA
          refine va_calli (va_runV (As := [.int v35]) (rest := []) ⟨hx, hb, hml, hown, hts⟩ (g_X1_trueWorth l dC dI cI cJ aC v35 aR aB aP nb np fr fb H.size ⟨f35_0, f35_1⟩) (cwV 1 hts (zgV qw921 qw922 qw923 qw102 qw924) rfl rfl rfl hd_X1_trueWorth ⟨by rw [hR]; exact Nat.le_of_ble_eq_true rfl, by rw [hR]; exact Nat.le_of_ble_eq_true rfl⟩) (zPV hPc hK hDc (va_recv (q := (RX1, TX1, 5)) hK hP (ci := 1) (q0 := 1) rfl rfl)) rfl rfl hl.1 rfl (lv_room (Nat.le_of_ble_eq_true rfl)) dX10_chooses_38 ⟨Nat.zero_le _, Nat.zero_le _⟩) hS (fun q _ h => hFc q h) hFc (fun v38 u38 t H locs ht hvm hw hB hz1 hk1 hS9 => ?_)
          replace hP := zkeep hP hk1
          replace hS := hS9
          clear hPc hDc hFc hk1 hz1 hvm hS9
          have f38_0 : (v38 = zTw fr fb v35.toInt.toNat) := hw
          have F38 := f38_0
          refine lv_aload_n hx hb dX10_chooses_41 rfl (lv_at hl 0 rfl) ?_
          refine va_get (D := (dC, dI)) (ci := 10) (v := .ref aC) (C := RX10) (T := TX10) (N := 17) hx hb hts iX10 hown hK hP 0 rfl rfl 4 (by decide) (hts _ qw360) (fun _ h9 => h9) rfl dX10_chooses_42 ?_
          refine lv_aload_n hx hb dX10_chooses_45 rfl (lv_at hl 0 rfl) ?_
          refine lv_iconst (v := 0) hx hb dX10_chooses_46 (by decide) ?_
          obtain ⟨hPc, hDc, hFc⟩ := zc3 (wc := [(h0, .inr (10, [.ref tp, h0_courtReader, h0_lawReader, h0_draft, .ref aC, h0_laws, .ref g0, .ref k0, .ref ac, .ref sd, .ref mi, .ref dw, .ref rf, .int lc, .int lh, .int br, .int hi])), (aC, .inr (1, [.ref aR, .ref aB, .ref aP, .int nb, .int np])), (aR, .inl (cI, 3, .inl fr)), (aB, .inl (cI, 24, .inl fb)), (aP, .inl (cI, 20, .inl fp)), (g0, .inr (7, [.ref gY, .ref gF, .ref gP, .int gpn, .int glt, .int gsh, .int gwd, .int gpu, .int gmo])), (gY, .inl (cI, 6, .inl gfY)), (gF, .inl (cI, 5, .inl gfF)), (gP, .inl (cI, 80, .inl gfP)), (sd, .inr (8, [.ref w1, .ref w2, .ref aC, .ref g0, .ref aL, .ref aK, .ref lw])), (aL, .inl (cI, 6, .inl u35_0)), (aK, .inl (cI, 32, .inl u35_1)), (lw, .inr (4, [.ref lS])), (lS, .inl (cI, lk, .inl fS)), (mi, .inr (6, [.ref aC, .ref g0, .ref sd, .ref mW, .long u35_2, .int u35_3, .ref mV, .ref mA, .ref mT])), (mW, .inl (cJ, 10, .inr (.inl u35_4)))]) hP hD hS hA [0, 1, 2, 3, 4, 5, 6, 7, 8, 9, 10, 11, 12, 13, 14, 15] (by decide +kernel) rfl
          refine va_calli (va_runV (As := [.int 0]) (rest := [.ref aC, .int v38]) ⟨hx, hb, hml, hown, hts⟩ (g_X10_choice_l l dC dI cI cJ h0 0 tp h0_courtReader h0_lawReader h0_draft aC h0_laws g0 k0 ac sd mi dw rf lc lh br hi aR aB aP nb np fr fb fp gY gF gP gpn glt gsh gwd gpu gmo gfY gfF gfP w1 w2 aL aK lw u35_0 u35_1 lS fS lk mW u35_2 u35_3 mV mA mT u35_4 H.size y_gpn y_gwd y_hi y_lc ⟨f35_2, f35_3⟩ n_nb y_np (by decide) (hlk) ci_fS_zSt ci_gfP_zPo) (cwV 1 hts (zgV qw917 qw919 qw24 qw98 qw920) rfl rfl rfl hd_X10_choice ⟨by rw [hR]; exact Nat.le_of_ble_eq_true rfl, by rw [hR]; exact Nat.le_of_ble_eq_true rfl⟩) (zPWV hPc hK hDc (va_recv (q := (RX10, TX10, 17)) hK hP (ci := 10) (q0 := 0) rfl rfl) (zV_call hV hS hFc)) rfl rfl hl.1 rfl (lv_room (Nat.le_of_ble_eq_true rfl)) dX10_chooses_47 ⟨Nat.zero_le _, Nat.zero_le _⟩) hS (fun q _ h => hFc q h) hFc (fun v47 u47 t H locs ht hvm hw hB hz1 hk1 hS9 => ?_)
          obtain ⟨u47_0, u47_1, u47_2, u47_3, u47_4⟩ := u47
          obtain ⟨hP9, hD9⟩ := zj2 (wX := [(h0, .inr (10, [.ref tp, h0_courtReader, h0_lawReader, h0_draft, .ref aC, h0_laws, .ref g0, .ref k0, .ref ac, .ref sd, .ref mi, .ref dw, .ref rf, .int lc, .int lh, .int br, .int hi])), (aC, .inr (1, [.ref aR, .ref aB, .ref aP, .int nb, .int np])), (aR, .inl (cI, 3, .inl fr)), (aB, .inl (cI, 24, .inl fb)), (aP, .inl (cI, 20, .inl fp)), (g0, .inr (7, [.ref gY, .ref gF, .ref gP, .int gpn, .int glt, .int gsh, .int gwd, .int gpu, .int gmo])), (gY, .inl (cI, 6, .inl gfY)), (gF, .inl (cI, 5, .inl gfF)), (gP, .inl (cI, 80, .inl gfP)), (sd, .inr (8, [.ref w1, .ref w2, .ref aC, .ref g0, .ref aL, .ref aK, .ref lw])), (aL, .inl (cI, 6, .inl u47_0)), (aK, .inl (cI, 32, .inl u47_1)), (lw, .inr (4, [.ref lS])), (lS, .inl (cI, lk, .inl fS)), (mi, .inr (6, [.ref aC, .ref g0, .ref sd, .ref mW, .long u47_2, .int u47_3, .ref mV, .ref mA, .ref mT])), (mW, .inl (cJ, 10, .inr (.inl u47_4)))]) hP hD hk1 hFc ht hB [0, 1, 2, 3, 4, 5, 6, 7, 8, 9, 10, 11, 12, 13, 14, 15] [(true, 0), (true, 1), (true, 2), (true, 3), (true, 4), (true, 5), (true, 6), (true, 7), (true, 8), (true, 9), (true, 10), (true, 11), (true, 12), (true, 13), (true, 14), (true, 15)] rfl (by decide +kernel) (by decide +kernel) rfl
          clear hP hD hS hPc hDc hFc hB hk1 hz1 hvm
          have hP := hP9
          have hD := hD9
          have hS := hS9
          clear hP9 hD9 hS9
          obtain ⟨f47_0, f47_1, f47_2, f47_3⟩ : (0 ≤ v47.toInt) ∧ (v47.toInt ≤ 5) ∧ (0 ≤ u47_3.toInt) ∧ (u47_3.toInt ≤ 9) := hw
          obtain ⟨hPc, hDc⟩ := zc2 (wc := [(aC, .inr (1, [.ref aR, .ref aB, .ref aP, .int nb, .int np])), (aR, .inl (cI, 3, .inl fr)), (aB, .inl (cI, 24, .inl fb))]) hP hD [1, 2, 3] (by decide +kernel) rfl
          have hFc := zfr hS hA
          refine va_calli (va_runV (As := [.int v47]) (rest := [.int v38]) ⟨hx, hb, hml, hown, hts⟩ (g_X1_trueWorth l dC dI cI cJ aC v47 aR aB aP nb np fr fb H.size ⟨f47_0, f47_1⟩) (cwV 1 hts (zgV qw921 qw922 qw923 qw102 qw924) rfl rfl rfl hd_X1_trueWorth ⟨by rw [hR]; exact Nat.le_of_ble_eq_true rfl, by rw [hR]; exact Nat.le_of_ble_eq_true rfl⟩) (zPV hPc hK hDc (va_recv (q := (RX1, TX1, 5)) hK hP (ci := 1) (q0 := 1) rfl rfl)) rfl rfl hl.1 rfl (lv_room (Nat.le_of_ble_eq_true rfl)) dX10_chooses_50 ⟨Nat.zero_le _, Nat.zero_le _⟩) hS (fun q _ h => hFc q h) hFc (fun v50 u50 t H locs ht hvm hw hB hz1 hk1 hS9 => ?_)
          replace hP := zkeep hP hk1
          replace hS := hS9
          clear hPc hDc hFc hk1 hz1 hvm hS9
          have f50_0 : (v50 = zTw fr fb v47.toInt.toNat) := hw
          have F50 := f50_0
          refine lv_isub hx hb dX10_chooses_53 ?_
          refine lv_topi (fun v53 e53 => ?_)
          rw [hQ]
          exact W.iret (v := v53) hx hb hr (fun t ht hW => ⟨⟨v53, (u47_0, u47_1, u47_2, u47_3, u47_4), rfl, ⟨by (try dsimp only); omega, by (try dsimp only); omega⟩, ⟨by rw [ht]; exact hP, hD⟩⟩, hS.F ht⟩) hS.2.2 dX10_chooses_54
        · have c20 : p0.toInt < 3 := z4 (by decide) rfl c20
          refine lv_aload_n hx hb dX10_chooses_23 rfl (lv_at hl 0 rfl) ?_
          refine lv_iload_n hx hb dX10_chooses_24 rfl (lv_at hl 1 rfl) ?_
          obtain ⟨hPc, hDc, hFc⟩ := zc3 (wc := [(h0, .inr (10, [.ref tp, h0_courtReader, h0_lawReader, h0_draft, .ref aC, h0_laws, .ref g0, .ref k0, .ref ac, .ref sd, .ref mi, .ref dw, .ref rf, .int lc, .int lh, .int br, .int hi])), (aC, .inr (1, [.ref aR, .ref aB, .ref aP, .int nb, .int np])), (aR, .inl (cI, 3, .inl fr)), (aB, .inl (cI, 24, .inl fb)), (aP, .inl (cI, 20, .inl fp)), (g0, .inr (7, [.ref gY, .ref gF, .ref gP, .int gpn, .int glt, .int gsh, .int gwd, .int gpu, .int gmo])), (gY, .inl (cI, 6, .inl gfY)), (gF, .inl (cI, 5, .inl gfF)), (gP, .inl (cI, 80, .inl gfP)), (sd, .inr (8, [.ref w1, .ref w2, .ref aC, .ref g0, .ref aL, .ref aK, .ref lw])), (aL, .inl (cI, 6, .inl fL)), (aK, .inl (cI, 32, .inl fK)), (lw, .inr (4, [.ref lS])), (lS, .inl (cI, lk, .inl fS)), (mi, .inr (6, [.ref aC, .ref g0, .ref sd, .ref mW, .long mt, .int lf, .ref mV, .ref mA, .ref mT])), (mW, .inl (cJ, 10, .inr (.inl fW)))]) hP hD hS hA [0, 1, 2, 3, 4, 5, 6, 7, 8, 9, 10, 11, 12, 13, 14, 15] (by decide +kernel) rfl
          refine va_calli (va_runV (As := [.int p0]) (rest := []) ⟨hx, hb, hml, hown, hts⟩ (g_X10_choice_l l dC dI cI cJ h0 p0 tp h0_courtReader h0_lawReader h0_draft aC h0_laws g0 k0 ac sd mi dw rf lc lh br hi aR aB aP nb np fr fb fp gY gF gP gpn glt gsh gwd gpu gmo gfY gfF gfP w1 w2 aL aK lw fL fK lS fS lk mW mt lf mV mA mT fW H.size y_gpn y_gwd y_hi y_lc n_lf n_nb y_np (by omega) (hlk) ci_fS_zSt ci_gfP_zPo) (cwV 1 hts (zgV qw917 qw919 qw24 qw98 qw920) rfl rfl rfl hd_X10_choice ⟨by rw [hR]; exact Nat.le_of_ble_eq_true rfl, by rw [hR]; exact Nat.le_of_ble_eq_true rfl⟩) (zPWV hPc hK hDc (va_recv (q := (RX10, TX10, 17)) hK hP (ci := 10) (q0 := 0) rfl rfl) (zV_call hV hS hFc)) rfl rfl hl.1 rfl (lv_room (Nat.le_of_ble_eq_true rfl)) dX10_chooses_25 ⟨Nat.zero_le _, Nat.zero_le _⟩) hS (fun q _ h => hFc q h) hFc (fun v25 u25 t H locs ht hvm hw hB hz1 hk1 hS9 => ?_)
          obtain ⟨u25_0, u25_1, u25_2, u25_3, u25_4⟩ := u25
          obtain ⟨hP9, hD9⟩ := zj2 (wX := [(h0, .inr (10, [.ref tp, h0_courtReader, h0_lawReader, h0_draft, .ref aC, h0_laws, .ref g0, .ref k0, .ref ac, .ref sd, .ref mi, .ref dw, .ref rf, .int lc, .int lh, .int br, .int hi])), (aC, .inr (1, [.ref aR, .ref aB, .ref aP, .int nb, .int np])), (aR, .inl (cI, 3, .inl fr)), (aB, .inl (cI, 24, .inl fb)), (aP, .inl (cI, 20, .inl fp)), (g0, .inr (7, [.ref gY, .ref gF, .ref gP, .int gpn, .int glt, .int gsh, .int gwd, .int gpu, .int gmo])), (gY, .inl (cI, 6, .inl gfY)), (gF, .inl (cI, 5, .inl gfF)), (gP, .inl (cI, 80, .inl gfP)), (sd, .inr (8, [.ref w1, .ref w2, .ref aC, .ref g0, .ref aL, .ref aK, .ref lw])), (aL, .inl (cI, 6, .inl u25_0)), (aK, .inl (cI, 32, .inl u25_1)), (lw, .inr (4, [.ref lS])), (lS, .inl (cI, lk, .inl fS)), (mi, .inr (6, [.ref aC, .ref g0, .ref sd, .ref mW, .long u25_2, .int u25_3, .ref mV, .ref mA, .ref mT])), (mW, .inl (cJ, 10, .inr (.inl u25_4)))]) hP hD hk1 hFc ht hB [0, 1, 2, 3, 4, 5, 6, 7, 8, 9, 10, 11, 12, 13, 14, 15] [(true, 0), (true, 1), (true, 2), (true, 3), (true, 4), (true, 5), (true, 6), (true, 7), (true, 8), (true, 9), (true, 10), (true, 11), (true, 12), (true, 13), (true, 14), (true, 15)] rfl (by decide +kernel) (by decide +kernel) rfl
          clear hP hD hS hPc hDc hFc hB hk1 hz1 hvm
          have hP := hP9
          have hD := hD9
          have hS := hS9
          clear hP9 hD9 hS9
          obtain ⟨f25_0, f25_1, f25_2, f25_3⟩ : (0 ≤ v25.toInt) ∧ (v25.toInt ≤ 5) ∧ (0 ≤ u25_3.toInt) ∧ (u25_3.toInt ≤ 9) := hw
          rw [hQ]
          exact W.iret (v := v25) hx hb hr (fun t ht hW => ⟨⟨v25, (u25_0, u25_1, u25_2, u25_3, u25_4), rfl, ⟨by (try dsimp only); omega, by (try dsimp only); omega⟩, ⟨by rw [ht]; exact hP, hD⟩⟩, hS.F ht⟩) hS.2.2 dX10_chooses_28
      · have c13 : 3 < p0.toInt := z4 rfl (by decide) c13
        exact J16   H locs ls hP hD hS (lv_sub hl [0, 1] rfl)
set_option maxHeartbeats 4000000 in
set_option maxRecDepth 100000 in
theorem g_X10_game_n (l : Launch) (dC : Nat → ClassId) (dI : Nat → Nat → Nat) (cI cJ : ClassId) (h0 : Nat) (p0 : Int32) (p1 : Int32) (p2 : Int32) (p3 : Int32) (p4 : Int32) (p5 : Int32) (tp : Nat) (h0_courtReader : Value) (h0_lawReader : Value) (h0_draft : Value) (aC : Nat) (h0_laws : Value) (g0 : Nat) (k0 : Nat) (ac : Nat) (sd : Nat) (mi : Nat) (dw : Nat) (rf : Nat) (lc : Int32) (lh : Int32) (br : Int32) (hi : Int32) (aR : Nat) (aB : Nat) (aP : Nat) (nb : Int32) (np : Int32) (fb : Nat → Int32) (gY : Nat) (gF : Nat) (gP : Nat) (gpn : Int32) (glt : Int32) (gsh : Int32) (gwd : Int32) (gpu : Int32) (gmo : Int32) (gfF : Nat → Int32) (w1 : Nat) (w2 : Nat) (aL : Nat) (aK : Nat) (sz : Nat) (n_gpn : 0 ≤ gpn.toInt ∧ gpn.toInt ≤ 20) (n_gwd : (-1) ≤ gwd.toInt ∧ gwd.toInt ≤ 5) (n_hi : 0 ≤ hi.toInt ∧ hi.toInt ≤ 1) (n_lc : 0 ≤ lc.toInt ∧ lc.toInt ≤ 4) (n_nb : 0 ≤ nb.toInt ∧ nb.toInt ≤ 6) (n_np : 0 ≤ np.toInt ∧ np.toInt ≤ 5)    : Met l yX10_game (.code yX10_game cX10_game 9 (some .int) :: wA) ({ frames := 3, cells := 0, slots := 0, locals := 77 }) (zP (dC, dI) [(cI, .int), (cJ, .long)] [.ref h0, .int p0, .int p1, .int p2, .int p3, .int p4, .int p5] sz [(h0, .inr (10, [.ref tp, h0_courtReader, h0_lawReader, h0_draft, .ref aC, h0_laws, .ref g0, .ref k0, .ref ac, .ref sd, .ref mi, .ref dw, .ref rf, .int lc, .int lh, .int br, .int hi])), (aC, .inr (1, [.ref aR, .ref aB, .ref aP, .int nb, .int np])), (aB, .inl (cI, 24, .inl fb)), (g0, .inr (7, [.ref gY, .ref gF, .ref gP, .int gpn, .int glt, .int gsh, .int gwd, .int gpu, .int gmo])), (gF, .inl (cI, 5, .inl gfF)), (sd, .inr (8, [.ref w1, .ref w2, .ref aC, .ref g0, .ref aL, .ref aK, .null]))]) (va_Qi (fun (r : Int32) (u : Unit) => (∀ (kc : zK3) (kT : zT) (q_fr : Nat → Int32) (q_fp : Nat → Int32) (q_gfY : Nat → Int32) (q_gfP : Nat → Int32) (q_fR : Nat → Int32) (q_pl : Int32) (q_cn : Int32) (q_frf : Nat → Int32), zCn q_fr fb q_fp nb.toInt np.toInt kc → zKo nb.toInt np.toInt kc kT → zTc nb.toInt np.toInt kT q_gfY gfF q_gfP gpn glt gsh gwd gpu gmo q_fR q_pl q_cn q_frf → r = sV_gam nb.toInt np.toInt kc kT.1 none p0 p1 p2 p3 p4 p5)) (fun (_ : Unit) (_ : State) => True) (va_A [] sz)) 0 0 (va_A [] sz) := by
  refine Met.ofW (cc := cX10_game) (maxL := 9) (ret := (some .int)) (by decide) rfl ?_
  intro p e s m args below meth c s₁ B hml hv
  have y_gpn : zHid (0 ≤ gpn.toInt ∧ gpn.toInt ≤ 20) := n_gpn
  have y_gwd : zHid ((-1) ≤ gwd.toInt ∧ gwd.toInt ≤ 5) := n_gwd
  have y_hi : zHid (0 ≤ hi.toInt ∧ hi.toInt ≤ 1) := n_hi
  have y_lc : zHid (0 ≤ lc.toInt ∧ lc.toInt ≤ 4) := n_lc
  clear n_gpn n_gwd n_hi n_lc
  obtain ⟨hargs, hsz, hP, hK, hT⟩ := hv
  have hx := B.exec
  have hb := B.bytes
  have hr := B.returns
  have hts : ∀ w ∈ wA, w.before args s = true := fun w h => atoms_spec (ws := .code yX10_game cX10_game 9 (some .int) :: wA) B.pre w (List.mem_cons_of_mem _ h)
  have hown : s.vm.findClass RX10 = some m.cls := findClass_of_methodNamed B.named
  have hlocks := B.notSynchronized
  subst hsz
  have hD : va_D (va_A [] s.heap.size) [] := zD0
  generalize hAe : va_A [] s.heap.size = A at hD ⊢
  have hA : ∀ q : Nat, s.heap.size ≤ q → A q := fun q h => by rw [← hAe]; exact Or.inr h
  have hl := lv_entry ([.ref h0, .int p0, .int p1, .int p2, .int p3, .int p4, .int p5]) (n := 9) (Nat.le_of_ble_eq_true rfl)
  rw [show entryFrame m args 9 = entryFrame m ([.ref h0, .int p0, .int p1, .int p2, .int p3, .int p4, .int p5] : List Value).toArray 9 by rw [hargs], lg_entry_eq]
  generalize (lg_sl ([.ref h0, .int p0, .int p1, .int p2, .int p3, .int p4, .int p5]) ++ List.replicate (9 - (lg_sl ([.ref h0, .int p0, .int p1, .int p2, .int p3, .int p4, .int p5])).length) Slot.unset).toArray = ls at hl ⊢
  have hl : lv_has ls 9 [(0, .ref h0), (1, .int p0), (2, .int p1), (3, .int p2), (4, .int p3), (5, .int p4), (6, .int p5)] := hl
  refine zstart (fun H hH => ?_)
  rw [← hH] at hP
  have hS : va_S A s.heap H [] := by rw [hH]; exact va_S.rf
  generalize ([] : List Loc) = locs at hS ⊢
  refine zgen (fun R Q hR hQ => ?_)
  refine lv_aload_n hx hb dX10_game_0 rfl (lv_at hl 0 rfl) ?_
  refine lv_iload_n hx hb dX10_game_1 rfl (lv_at hl 1 rfl) ?_
  refine lv_iload_n hx hb dX10_game_2 rfl (lv_at hl 2 rfl) ?_
  refine lv_iload_n hx hb dX10_game_3 rfl (lv_at hl 3 rfl) ?_
  obtain ⟨hPc, hDc⟩ := zc2 (wc := [(h0, .inr (10, [.ref tp, h0_courtReader, h0_lawReader, h0_draft, .ref aC, h0_laws, .ref g0, .ref k0, .ref ac, .ref sd, .ref mi, .ref dw, .ref rf, .int lc, .int lh, .int br, .int hi])), (aC, .inr (1, [.ref aR, .ref aB, .ref aP, .int nb, .int np]))]) hP hT [0, 1] (by decide +kernel) rfl
  have hFc := zfr hS hA
  refine va_calli (va_runV (As := [.int p0, .int p1, .int p2]) (rest := []) ⟨hx, hb, hml, hown, hts⟩ (g_X10_canPlay l dC dI cI cJ h0 p0 p1 p2 tp h0_courtReader h0_lawReader h0_draft aC h0_laws g0 k0 ac sd mi dw rf lc lh br hi aR aB aP nb np H.size y_hi y_lc n_nb n_np) (cwV 3 hts (zgV qw931 qw933 qw25 qw98 qw934) rfl rfl rfl hd_X10_canPlay ⟨by rw [hR]; exact Nat.le_of_ble_eq_true rfl, by rw [hR]; exact Nat.le_of_ble_eq_true rfl⟩) (zPV hPc hK hDc (va_recv (q := (RX10, TX10, 17)) hK hP (ci := 10) (q0 := 0) rfl rfl)) rfl rfl hl.1 rfl (lv_room (Nat.le_of_ble_eq_true rfl)) dX10_game_4 ⟨Nat.zero_le _, Nat.zero_le _⟩) hS (fun q _ h => hFc q h) hFc (fun v4 u4 t H locs ht hvm hw hB hz1 hk1 hS9 => ?_)
  replace hP := zkeep hP hk1
  replace hS := hS9
  clear hPc hDc hFc hk1 hz1 hvm hS9
  obtain ⟨f4_0, f4_1, f4_2, f4_3, f4_4⟩ : (0 ≤ v4.toInt) ∧ (v4.toInt ≤ 1) ∧ (¬ v4.toInt = 0 → (0 ≤ p0.toInt ∧ p0.toInt < nb.toInt ∧ 0 ≤ p1.toInt ∧ p1.toInt < nb.toInt ∧ 0 ≤ p2.toInt ∧ p2.toInt < np.toInt)) ∧ (¬ v4.toInt = 0 → ¬ p0.toInt = p1.toInt) ∧ (v4.toInt = 0 → ¬ ((0 ≤ p0.toInt ∧ p0.toInt < nb.toInt) ∧ (0 ≤ p1.toInt ∧ p1.toInt < nb.toInt) ∧ ¬ p0.toInt = p1.toInt ∧ 0 ≤ p2.toInt ∧ p2.toInt < np.toInt)) := hw
  refine lv_if_eq (tgt := 37) hx hb dX10_game_7 (by decide) (fun c7 => ?_) (fun c7 => ?_)
  · have c7 : v4.toInt = 0 := z5 rfl (by decide) c7
    refine lv_ldcw (v := (-1000000)) hx hb hown (hts _ qw935) dX10_game_37 ?_
    have zr0 : ((-1000000) : Int32).toInt = (-1000000) := by decide
    rw [hQ]
    exact W.iret (v := ((-1000000))) hx hb hr (fun t ht hW => ⟨⟨(-1000000), (), rfl, (fun kc kT q_fr q_fp q_gfY q_gfP q_fR q_pl q_cn q_frf hc hb h => by unfold sV_gam; exact (if_neg (fun y => by obtain ⟨⟨a1, a2, a3, a4⟩, a5, a6, a7⟩ := y; omega)).symm), trivial⟩, hS.F ht⟩) hS.2.2 dX10_game_40
  · have c7 : ¬ v4.toInt = 0 := z6 rfl (by decide) c7
    refine lv_iload hx hb dX10_game_10 (lv_at hl 4 rfl) ?_
    have hPc : va_P (dC, dI) vwCl [] H := zP0
    have hDc : va_D (fun _ => True) [] := zD0
    have hFc := zfr hS hA
    refine va_calli (va_runS (As := [.int p3]) (rest := []) ⟨hx, hb, hml, hown, hts⟩ (g_X10_isDigit l dC dI cI cJ p3 H.size) (cwS 1 hts (zgS qw714 qw715 qw98 qw716) rfl rfl rfl hd_X10_isDigit ⟨by rw [hR]; exact Nat.le_of_ble_eq_true rfl, by rw [hR]; exact Nat.le_of_ble_eq_true rfl⟩) (zPS hPc hK hDc) rfl rfl hl.1 rfl (lv_room (Nat.le_of_ble_eq_true rfl)) dX10_game_12 ⟨Nat.zero_le _, Nat.zero_le _⟩) hS (fun q _ h => hFc q h) hFc (fun v12 u12 t H locs ht hvm hw hB hz1 hk1 hS9 => ?_)
    replace hP := zkeep hP hk1
    replace hS := hS9
    clear hPc hDc hFc hk1 hz1 hvm hS9
    obtain ⟨f12_0, f12_1, f12_2, f12_3⟩ : (0 ≤ v12.toInt) ∧ (v12.toInt ≤ 1) ∧ (¬ v12.toInt = 0 → (0 ≤ p3.toInt ∧ p3.toInt ≤ 9)) ∧ (v12.toInt = 0 → ¬ (0 ≤ p3.toInt ∧ p3.toInt ≤ 9)) := hw
    refine lv_if_eq (tgt := 37) hx hb dX10_game_15 (by decide) (fun c15 => ?_) (fun c15 => ?_)
    · have c15 : v12.toInt = 0 := z5 rfl (by decide) c15
      refine lv_ldcw (v := (-1000000)) hx hb hown (hts _ qw935) dX10_game_37 ?_
      have zr0 : ((-1000000) : Int32).toInt = (-1000000) := by decide
      rw [hQ]
      exact W.iret (v := ((-1000000))) hx hb hr (fun t ht hW => ⟨⟨(-1000000), (), rfl, (fun kc kT q_fr q_fp q_gfY q_gfP q_fR q_pl q_cn q_frf hc hb h => by unfold sV_gam; exact (if_neg (fun y => by obtain ⟨⟨a1, a2, a3, a4⟩, a5, a6, a7⟩ := y; omega)).symm), trivial⟩, hS.F ht⟩) hS.2.2 dX10_game_40
    · have c15 : ¬ v12.toInt = 0 := z6 rfl (by decide) c15
      refine lv_iload hx hb dX10_game_18 (lv_at hl 5 rfl) ?_
      have hPc : va_P (dC, dI) vwCl [] H := zP0
      have hDc : va_D (fun _ => True) [] := zD0
      have hFc := zfr hS hA
      refine va_calli (va_runS (As := [.int p4]) (rest := []) ⟨hx, hb, hml, hown, hts⟩ (g_X10_isDigit l dC dI cI cJ p4 H.size) (cwS 1 hts (zgS qw714 qw715 qw98 qw716) rfl rfl rfl hd_X10_isDigit ⟨by rw [hR]; exact Nat.le_of_ble_eq_true rfl, by rw [hR]; exact Nat.le_of_ble_eq_true rfl⟩) (zPS hPc hK hDc) rfl rfl hl.1 rfl (lv_room (Nat.le_of_ble_eq_true rfl)) dX10_game_20 ⟨Nat.zero_le _, Nat.zero_le _⟩) hS (fun q _ h => hFc q h) hFc (fun v20 u20 t H locs ht hvm hw hB hz1 hk1 hS9 => ?_)
      replace hP := zkeep hP hk1
      replace hS := hS9
      clear hPc hDc hFc hk1 hz1 hvm hS9
      obtain ⟨f20_0, f20_1, f20_2, f20_3⟩ : (0 ≤ v20.toInt) ∧ (v20.toInt ≤ 1) ∧ (¬ v20.toInt = 0 → (0 ≤ p4.toInt ∧ p4.toInt ≤ 9)) ∧ (v20.toInt = 0 → ¬ (0 ≤ p4.toInt ∧ p4.toInt ≤ 9)) := hw
      refine lv_if_eq (tgt := 37) hx hb dX10_game_23 (by decide) (fun c23 => ?_) (fun c23 => ?_)
      · have c23 : v20.toInt = 0 := z5 rfl (by decide) c23
        refine lv_ldcw (v := (-1000000)) hx hb hown (hts _ qw935) dX10_game_37 ?_
        have zr0 : ((-1000000) : Int32).toInt = (-1000000) := by decide
        rw [hQ]
        exact W.iret (v := ((-1000000))) hx hb hr (fun t ht hW => ⟨⟨(-1000000), (), rfl, (fun kc kT q_fr q_fp q_gfY q_gfP q_fR q_pl q_cn q_frf hc hb h => by unfold sV_gam; exact (if_neg (fun y => by obtain ⟨⟨a1, a2, a3, a4⟩, a5, a6, a7⟩ := y; omega)).symm), trivial⟩, hS.F ht⟩) hS.2.2 dX10_game_40
      · have c23 : ¬ v20.toInt = 0 := z6 rfl (by decide) c23
        refine lv_iload hx hb dX10_game_26 (lv_at hl 6 rfl) ?_
        refine lv_if_lt (tgt := 37) hx hb dX10_game_28 (by decide) (fun c28 => ?_) (fun c28 => ?_)
        · have c28 : p5.toInt < 0 := z1 rfl (by decide) c28
          refine lv_ldcw (v := (-1000000)) hx hb hown (hts _ qw935) dX10_game_37 ?_
          have zr0 : ((-1000000) : Int32).toInt = (-1000000) := by decide
          rw [hQ]
          exact W.iret (v := ((-1000000))) hx hb hr (fun t ht hW => ⟨⟨(-1000000), (), rfl, (fun kc kT q_fr q_fp q_gfY q_gfP q_fR q_pl q_cn q_frf hc hb h => by unfold sV_gam; exact (if_neg (fun y => by obtain ⟨⟨a1, a2, a3, a4⟩, a5, a6, a7⟩ := y; omega)).symm), trivial⟩, hS.F ht⟩) hS.2.2 dX10_game_40
        · have c28 : 0 ≤ p5.toInt := z2 rfl (by decide) c28
          refine lv_iload hx hb dX10_game_31 (lv_at hl 6 rfl) ?_
          refine lv_iconst (v := 1) hx hb dX10_game_33 (by decide) ?_
          refine lv_icmp_le (tgt := 41) hx hb dX10_game_34 (by decide) (fun c34 => ?_) (fun c34 => ?_)
          · have c34 : p5.toInt ≤ 1 := z3 rfl (by decide) c34
            refine lv_aload_n hx hb dX10_game_41 rfl (lv_at hl 0 rfl) ?_
            refine va_get (D := (dC, dI)) (ci := 10) (v := .ref sd) (C := RX10) (T := TX10) (N := 17) hx hb hts iX10 hown hK hP 0 rfl rfl 9 (by decide) (hts _ qw365) (fun _ h9 => h9) rfl dX10_game_42 ?_
            refine lv_iload_n hx hb dX10_game_45 rfl (lv_at hl 3 rfl) ?_
            refine lv_iload_n hx hb dX10_game_46 rfl (lv_at hl 1 rfl) ?_
            refine lv_aload_n hx hb dX10_game_47 rfl (lv_at hl 0 rfl) ?_
            refine va_get (D := (dC, dI)) (ci := 10) (v := .ref aC) (C := RX10) (T := TX10) (N := 17) hx hb hts iX10 hown hK hP 0 rfl rfl 4 (by decide) (hts _ qw360) (fun _ h9 => h9) rfl dX10_game_48 ?_
            refine lv_iload_n hx hb dX10_game_51 rfl (lv_at hl 1 rfl) ?_
            obtain ⟨hPc, hDc⟩ := zc2 (wc := [(aC, .inr (1, [.ref aR, .ref aB, .ref aP, .int nb, .int np])), (aB, .inl (cI, 24, .inl fb))]) hP hT [1, 2] (by decide +kernel) rfl
            have hFc := zfr hS hA
            refine va_calli (va_runV (As := [.int p0]) (rest := [.int p0, .int p2, .ref sd]) ⟨hx, hb, hml, hown, hts⟩ (g_X1_faceOf l dC dI cI cJ aC p0 aR aB aP nb np fb H.size (by omega)) (cwV 1 hts (zgV qw702 qw703 qw704 qw102 qw705) rfl rfl rfl hd_X1_faceOf ⟨by rw [hR]; exact Nat.le_of_ble_eq_true rfl, by rw [hR]; exact Nat.le_of_ble_eq_true rfl⟩) (zPV hPc hK hDc (va_recv (q := (RX1, TX1, 5)) hK hP (ci := 1) (q0 := 1) rfl rfl)) rfl rfl hl.1 rfl (lv_room (Nat.le_of_ble_eq_true rfl)) dX10_game_52 ⟨Nat.zero_le _, Nat.zero_le _⟩) hS (fun q _ h => hFc q h) hFc (fun v52 u52 t H locs ht hvm hw hB hz1 hk1 hS9 => ?_)
            replace hP := zkeep hP hk1
            replace hS := hS9
            clear hPc hDc hFc hk1 hz1 hvm hS9
            have f52_0 : (v52 = fb (4 * p0.toInt.toNat)) := hw
            have F52 := f52_0
            refine lv_iload hx hb dX10_game_55 (lv_at hl 4 rfl) ?_
            obtain ⟨hPc, hDc⟩ := zc2 (wc := [(sd, .inr (8, [.ref w1, .ref w2, .ref aC, .ref g0, .ref aL, .ref aK, .null])), (aC, .inr (1, [.ref aR, .ref aB, .ref aP, .int nb, .int np])), (aB, .inl (cI, 24, .inl fb)), (g0, .inr (7, [.ref gY, .ref gF, .ref gP, .int gpn, .int glt, .int gsh, .int gwd, .int gpu, .int gmo])), (gF, .inl (cI, 5, .inl gfF))]) hP hT [5, 1, 2, 3, 4] (by decide +kernel) rfl
            have hFc := zfr hS hA
            refine va_calli (va_runV (As := [.int p2, .int p0, .int v52, .int p3]) (rest := []) ⟨hx, hb, hml, hown, hts⟩ (g_X8_lookOf_n l dC dI cI cJ sd p2 p0 v52 p3 w1 w2 aC g0 aL aK aR aB aP nb np fb gY gF gP gpn glt gsh gwd gpu gmo gfF H.size (by omega) (by omega)) (cwV 4 hts (zgV qw936 qw658 qw659 qw105 qw660) rfl rfl rfl hd_X8_lookOf ⟨by rw [hR]; exact Nat.le_of_ble_eq_true rfl, by rw [hR]; exact Nat.le_of_ble_eq_true rfl⟩) (zPV hPc hK hDc (va_recv (q := (RX8, TX8, 7)) hK hP (ci := 8) (q0 := 5) rfl rfl)) rfl rfl hl.1 rfl (lv_room (Nat.le_of_ble_eq_true rfl)) dX10_game_57 ⟨Nat.zero_le _, Nat.zero_le _⟩) hS (fun q _ h => hFc q h) hFc (fun v57 u57 t H locs ht hvm hw hB hz1 hk1 hS9 => ?_)
            replace hP := zkeep hP hk1
            replace hS := hS9
            clear hPc hDc hFc hk1 hz1 hvm hS9
            obtain ⟨f57_0, f57_1, f57_2⟩ : (0 ≤ v57.toInt) ∧ (v57.toInt ≤ 9) ∧ (∀ sk mo : Int32, v57 = zLkv none v52 (fb (4 * p0.toInt.toNat + 2)) p3 sk (gfF p2.toInt.toNat) mo) := hw
            have F57 := f57_2
            refine lv_istore (lv' := [(7, .int v57), (0, .ref h0), (1, .int p0), (2, .int p1), (3, .int p2), (4, .int p3), (5, .int p4), (6, .int p5)]) hx hb dX10_game_60 hl (by decide) rfl (fun ls hl => ?_)
            refine lv_aload_n hx hb dX10_game_62 rfl (lv_at hl 1 rfl) ?_
            refine va_get (D := (dC, dI)) (ci := 10) (v := .ref sd) (C := RX10) (T := TX10) (N := 17) hx hb hts iX10 hown hK hP 0 rfl rfl 9 (by decide) (hts _ qw365) (fun _ h9 => h9) rfl dX10_game_63 ?_
            refine lv_iload_n hx hb dX10_game_66 rfl (lv_at hl 4 rfl) ?_
            refine lv_iload_n hx hb dX10_game_67 rfl (lv_at hl 3 rfl) ?_
            refine lv_aload_n hx hb dX10_game_68 rfl (lv_at hl 1 rfl) ?_
            refine va_get (D := (dC, dI)) (ci := 10) (v := .ref aC) (C := RX10) (T := TX10) (N := 17) hx hb hts iX10 hown hK hP 0 rfl rfl 4 (by decide) (hts _ qw360) (fun _ h9 => h9) rfl dX10_game_69 ?_
            refine lv_iload_n hx hb dX10_game_72 rfl (lv_at hl 3 rfl) ?_
            obtain ⟨hPc, hDc⟩ := zc2 (wc := [(aC, .inr (1, [.ref aR, .ref aB, .ref aP, .int nb, .int np])), (aB, .inl (cI, 24, .inl fb))]) hP hT [1, 2] (by decide +kernel) rfl
            have hFc := zfr hS hA
            refine va_calli (va_runV (As := [.int p1]) (rest := [.int p1, .int p2, .ref sd]) ⟨hx, hb, hml, hown, hts⟩ (g_X1_faceOf l dC dI cI cJ aC p1 aR aB aP nb np fb H.size (by omega)) (cwV 1 hts (zgV qw702 qw703 qw704 qw102 qw705) rfl rfl rfl hd_X1_faceOf ⟨by rw [hR]; exact Nat.le_of_ble_eq_true rfl, by rw [hR]; exact Nat.le_of_ble_eq_true rfl⟩) (zPV hPc hK hDc (va_recv (q := (RX1, TX1, 5)) hK hP (ci := 1) (q0 := 1) rfl rfl)) rfl rfl hl.1 rfl (lv_room (Nat.le_of_ble_eq_true rfl)) dX10_game_73 ⟨Nat.zero_le _, Nat.zero_le _⟩) hS (fun q _ h => hFc q h) hFc (fun v73 u73 t H locs ht hvm hw hB hz1 hk1 hS9 => ?_)
            replace hP := zkeep hP hk1
            replace hS := hS9
            clear hPc hDc hFc hk1 hz1 hvm hS9
            have f73_0 : (v73 = fb (4 * p1.toInt.toNat)) := hw
            have F73 := f73_0
            refine lv_iload hx hb dX10_game_76 (lv_at hl 6 rfl) ?_
            obtain ⟨hPc, hDc⟩ := zc2 (wc := [(sd, .inr (8, [.ref w1, .ref w2, .ref aC, .ref g0, .ref aL, .ref aK, .null])), (aC, .inr (1, [.ref aR, .ref aB, .ref aP, .int nb, .int np])), (aB, .inl (cI, 24, .inl fb)), (g0, .inr (7, [.ref gY, .ref gF, .ref gP, .int gpn, .int glt, .int gsh, .int gwd, .int gpu, .int gmo])), (gF, .inl (cI, 5, .inl gfF))]) hP hT [5, 1, 2, 3, 4] (by decide +kernel) rfl
            have hFc := zfr hS hA
            refine va_calli (va_runV (As := [.int p2, .int p1, .int v73, .int p4]) (rest := []) ⟨hx, hb, hml, hown, hts⟩ (g_X8_lookOf_n l dC dI cI cJ sd p2 p1 v73 p4 w1 w2 aC g0 aL aK aR aB aP nb np fb gY gF gP gpn glt gsh gwd gpu gmo gfF H.size (by omega) (by omega)) (cwV 4 hts (zgV qw936 qw658 qw659 qw105 qw660) rfl rfl rfl hd_X8_lookOf ⟨by rw [hR]; exact Nat.le_of_ble_eq_true rfl, by rw [hR]; exact Nat.le_of_ble_eq_true rfl⟩) (zPV hPc hK hDc (va_recv (q := (RX8, TX8, 7)) hK hP (ci := 8) (q0 := 5) rfl rfl)) rfl rfl hl.1 rfl (lv_room (Nat.le_of_ble_eq_true rfl)) dX10_game_78 ⟨Nat.zero_le _, Nat.zero_le _⟩) hS (fun q _ h => hFc q h) hFc (fun v78 u78 t H locs ht hvm hw hB hz1 hk1 hS9 => ?_)
            replace hP := zkeep hP hk1
            replace hS := hS9
            clear hPc hDc hFc hk1 hz1 hvm hS9
            obtain ⟨f78_0, f78_1, f78_2⟩ : (0 ≤ v78.toInt) ∧ (v78.toInt ≤ 9) ∧ (∀ sk mo : Int32, v78 = zLkv none v73 (fb (4 * p1.toInt.toNat + 2)) p4 sk (gfF p2.toInt.toNat) mo) := hw
            have F78 := f78_2
            refine lv_istore (lv' := [(8, .int v78), (7, .int v57), (0, .ref h0), (1, .int p0), (2, .int p1), (3, .int p2), (4, .int p3), (5, .int p4), (6, .int p5)]) hx hb dX10_game_81 hl (by decide) rfl (fun ls hl => ?_)
            refine lv_iload hx hb dX10_game_83 (lv_at hl 8 rfl) ?_
            refine lv_if_ne (tgt := 100) hx hb dX10_game_85 (by decide) (fun c85 => ?_) (fun c85 => ?_)
            · have c85 : ¬ p5.toInt = 0 := z6 rfl (by decide) c85
              refine lv_iload hx hb dX10_game_100 (lv_at hl 0 rfl) ?_
              refine lv_iload hx hb dX10_game_102 (lv_at hl 1 rfl) ?_
              refine lv_iload hx hb dX10_game_104 (lv_at hl 7 rfl) ?_
              have hPc : va_P (dC, dI) vwCl [] H := zP0
              have hDc : va_D (fun _ => True) [] := zD0
              have hFc := zfr hS hA
              refine va_calli (va_runS (As := [.int v78, .int v57, .int p4]) (rest := []) ⟨hx, hb, hml, hown, hts⟩ (g_X10_gain l dC dI cI cJ v78 v57 p4 H.size) (cwS 3 hts (zgS qw937 qw938 qw98 qw939) rfl rfl rfl hd_X10_gain ⟨by rw [hR]; exact Nat.le_of_ble_eq_true rfl, by rw [hR]; exact Nat.le_of_ble_eq_true rfl⟩) (zPS hPc hK hDc) rfl rfl hl.1 rfl (lv_room (Nat.le_of_ble_eq_true rfl)) dX10_game_106 ⟨Nat.zero_le _, Nat.zero_le _⟩) hS (fun q _ h => hFc q h) hFc (fun v106 u106 t H locs ht hvm hw hB hz1 hk1 hS9 => ?_)
              replace hP := zkeep hP hk1
              replace hS := hS9
              clear hPc hDc hFc hk1 hz1 hvm hS9
              have f106_0 : (v106 = sGn v78 v57 p4) := hw
              have F106 := f106_0
              rw [hQ]
              exact W.iret (v := v106) hx hb hr (fun t ht hW => ⟨⟨v106, (), rfl, (fun kc kT q_fr q_fp q_gfY q_gfP q_fR q_pl q_cn q_frf hc hb h => by have y52 : v52 = kc.2.1 (4 * p0.toInt.toNat) := F52.trans (hc.2.1 _ (by omega)); have y73 : v73 = kc.2.1 (4 * p1.toInt.toNat) := F73.trans (hc.2.1 _ (by omega)); have o1 : v57 = sLk kc kT.1 none p2 p0 v52 p3 := sLk_n hc h.1 (by omega) (by omega) F57; have o2 : v78 = sLk kc kT.1 none p2 p1 v73 p4 := sLk_n hc h.1 (by omega) (by omega) F78; unfold sV_gam; rw [if_pos ⟨⟨by omega, by omega, by omega, by omega⟩, by omega, by omega, by omega⟩, if_neg (by omega)]; unfold sGm; rw [← y52, ← y73, ← o1, ← o2]; exact F106), trivial⟩, hS.F ht⟩) hS.2.2 dX10_game_109
            · have c85 : p5.toInt = 0 := z5 rfl (by decide) c85
              refine lv_iload hx hb dX10_game_88 (lv_at hl 1 rfl) ?_
              refine lv_iload hx hb dX10_game_90 (lv_at hl 0 rfl) ?_
              refine lv_iload hx hb dX10_game_92 (lv_at hl 6 rfl) ?_
              have hPc : va_P (dC, dI) vwCl [] H := zP0
              have hDc : va_D (fun _ => True) [] := zD0
              have hFc := zfr hS hA
              refine va_calli (va_runS (As := [.int v57, .int v78, .int p3]) (rest := []) ⟨hx, hb, hml, hown, hts⟩ (g_X10_gain l dC dI cI cJ v57 v78 p3 H.size) (cwS 3 hts (zgS qw937 qw938 qw98 qw939) rfl rfl rfl hd_X10_gain ⟨by rw [hR]; exact Nat.le_of_ble_eq_true rfl, by rw [hR]; exact Nat.le_of_ble_eq_true rfl⟩) (zPS hPc hK hDc) rfl rfl hl.1 rfl (lv_room (Nat.le_of_ble_eq_true rfl)) dX10_game_94 ⟨Nat.zero_le _, Nat.zero_le _⟩) hS (fun q _ h => hFc q h) hFc (fun v94 u94 t H locs ht hvm hw hB hz1 hk1 hS9 => ?_)
              replace hP := zkeep hP hk1
              replace hS := hS9
              clear hPc hDc hFc hk1 hz1 hvm hS9
              have f94_0 : (v94 = sGn v57 v78 p3) := hw
              have F94 := f94_0
              refine lv_goto (tgt := 109) hx hb dX10_game_97 (by decide) ?_
              rw [hQ]
              exact W.iret (v := v94) hx hb hr (fun t ht hW => ⟨⟨v94, (), rfl, (fun kc kT q_fr q_fp q_gfY q_gfP q_fR q_pl q_cn q_frf hc hb h => by have y52 : v52 = kc.2.1 (4 * p0.toInt.toNat) := F52.trans (hc.2.1 _ (by omega)); have y73 : v73 = kc.2.1 (4 * p1.toInt.toNat) := F73.trans (hc.2.1 _ (by omega)); have o1 : v57 = sLk kc kT.1 none p2 p0 v52 p3 := sLk_n hc h.1 (by omega) (by omega) F57; have o2 : v78 = sLk kc kT.1 none p2 p1 v73 p4 := sLk_n hc h.1 (by omega) (by omega) F78; unfold sV_gam; rw [if_pos ⟨⟨by omega, by omega, by omega, by omega⟩, by omega, by omega, by omega⟩, if_pos (by omega)]; unfold sGm; rw [← y52, ← y73, ← o1, ← o2]; exact F94), trivial⟩, hS.F ht⟩) hS.2.2 dX10_game_109
          · have c34 : 1 < p5.toInt := z4 rfl (by decide) c34
            refine lv_ldcw (v := (-1000000)) hx hb hown (hts _ qw935) dX10_game_37 ?_
            have zr0 : ((-1000000) : Int32).toInt = (-1000000) := by decide
            rw [hQ]
            exact W.iret (v := ((-1000000))) hx hb hr (fun t ht hW => ⟨⟨(-1000000), (), rfl, (fun kc kT q_fr q_fp q_gfY q_gfP q_fR q_pl q_cn q_frf hc hb h => by unfold sV_gam; exact (if_neg (fun y => by obtain ⟨⟨a1, a2, a3, a4⟩, a5, a6, a7⟩ := y; omega)).symm), trivial⟩, hS.F ht⟩) hS.2.2 dX10_game_40
set_option maxHeartbeats 4000000 in
set_option maxRecDepth 100000 in
theorem g_X10_game_l (l : Launch) (dC : Nat → ClassId) (dI : Nat → Nat → Nat) (cI cJ : ClassId) (h0 : Nat) (p0 : Int32) (p1 : Int32) (p2 : Int32) (p3 : Int32) (p4 : Int32) (p5 : Int32) (tp : Nat) (h0_courtReader : Value) (h0_lawReader : Value) (h0_draft : Value) (aC : Nat) (h0_laws : Value) (g0 : Nat) (k0 : Nat) (ac : Nat) (sd : Nat) (mi : Nat) (dw : Nat) (rf : Nat) (lc : Int32) (lh : Int32) (br : Int32) (hi : Int32) (aR : Nat) (aB : Nat) (aP : Nat) (nb : Int32) (np : Int32) (fb : Nat → Int32) (fp : Nat → Int32) (gY : Nat) (gF : Nat) (gP : Nat) (gpn : Int32) (glt : Int32) (gsh : Int32) (gwd : Int32) (gpu : Int32) (gmo : Int32) (gfF : Nat → Int32) (w1 : Nat) (w2 : Nat) (aL : Nat) (aK : Nat) (lw : Nat) (fL : Nat → Int32) (fK : Nat → Int32) (lS : Nat) (fS : Nat → Int32) (lk : Nat) (sz : Nat) (n_gpn : 0 ≤ gpn.toInt ∧ gpn.toInt ≤ 20) (n_gwd : (-1) ≤ gwd.toInt ∧ gwd.toInt ≤ 5) (n_hi : 0 ≤ hi.toInt ∧ hi.toInt ≤ 1) (n_lc : 0 ≤ lc.toInt ∧ lc.toInt ≤ 4) (n_nb : 0 ≤ nb.toInt ∧ nb.toInt ≤ 6) (n_np : 0 ≤ np.toInt ∧ np.toInt ≤ 5) (hlk : lk ≤ 241) (ci_fS_zSt : zSt fS)  : Met l yX10_game (.code yX10_game cX10_game 9 (some .int) :: wA) ({ frames := 3, cells := 0, slots := 0, locals := 77 }) (zP (dC, dI) [(cI, .int), (cJ, .long)] [.ref h0, .int p0, .int p1, .int p2, .int p3, .int p4, .int p5] sz [(h0, .inr (10, [.ref tp, h0_courtReader, h0_lawReader, h0_draft, .ref aC, h0_laws, .ref g0, .ref k0, .ref ac, .ref sd, .ref mi, .ref dw, .ref rf, .int lc, .int lh, .int br, .int hi])), (aC, .inr (1, [.ref aR, .ref aB, .ref aP, .int nb, .int np])), (aB, .inl (cI, 24, .inl fb)), (aP, .inl (cI, 20, .inl fp)), (g0, .inr (7, [.ref gY, .ref gF, .ref gP, .int gpn, .int glt, .int gsh, .int gwd, .int gpu, .int gmo])), (gF, .inl (cI, 5, .inl gfF)), (sd, .inr (8, [.ref w1, .ref w2, .ref aC, .ref g0, .ref aL, .ref aK, .ref lw])), (aL, .inl (cI, 6, .inl fL)), (aK, .inl (cI, 32, .inl fK)), (lw, .inr (4, [.ref lS])), (lS, .inl (cI, lk, .inl fS))]) (va_Qi (fun (r : Int32) (u : (Nat → Int32) × (Nat → Int32)) => (∀ (kc : zK3) (kT : zT) (q_fr : Nat → Int32) (q_gfY : Nat → Int32) (q_gfP : Nat → Int32) (q_fR : Nat → Int32) (q_pl : Int32) (q_cn : Int32) (q_frf : Nat → Int32) (kt : (Int → Int) × Int), zCn q_fr fb fp nb.toInt np.toInt kc → zKo nb.toInt np.toInt kc kT → zTc nb.toInt np.toInt kT q_gfY gfF q_gfP gpn glt gsh gwd gpu gmo q_fR q_pl q_cn q_frf → zLwC fS lk kt → r = sV_gam nb.toInt np.toInt kc kT.1 (some kt) p0 p1 p2 p3 p4 p5)) (fun (u : (Nat → Int32) × (Nat → Int32)) (t : State) => va_P (dC, dI) vwCl [(h0, .inr (10, [.ref tp, h0_courtReader, h0_lawReader, h0_draft, .ref aC, h0_laws, .ref g0, .ref k0, .ref ac, .ref sd, .ref mi, .ref dw, .ref rf, .int lc, .int lh, .int br, .int hi])), (aC, .inr (1, [.ref aR, .ref aB, .ref aP, .int nb, .int np])), (aB, .inl (cI, 24, .inl fb)), (aP, .inl (cI, 20, .inl fp)), (g0, .inr (7, [.ref gY, .ref gF, .ref gP, .int gpn, .int glt, .int gsh, .int gwd, .int gpu, .int gmo])), (gF, .inl (cI, 5, .inl gfF)), (sd, .inr (8, [.ref w1, .ref w2, .ref aC, .ref g0, .ref aL, .ref aK, .ref lw])), (aL, .inl (cI, 6, .inl u.1)), (aK, .inl (cI, 32, .inl u.2)), (lw, .inr (4, [.ref lS])), (lS, .inl (cI, lk, .inl fS))] t.heap ∧ va_D (va_A [(h0, .inr (10, [.ref tp, h0_courtReader, h0_lawReader, h0_draft, .ref aC, h0_laws, .ref g0, .ref k0, .ref ac, .ref sd, .ref mi, .ref dw, .ref rf, .int lc, .int lh, .int br, .int hi])), (aC, .inr (1, [.ref aR, .ref aB, .ref aP, .int nb, .int np])), (aB, .inl (cI, 24, .inl fb)), (aP, .inl (cI, 20, .inl fp)), (g0, .inr (7, [.ref gY, .ref gF, .ref gP, .int gpn, .int glt, .int gsh, .int gwd, .int gpu, .int gmo])), (gF, .inl (cI, 5, .inl gfF)), (sd, .inr (8, [.ref w1, .ref w2, .ref aC, .ref g0, .ref aL, .ref aK, .ref lw])), (aL, .inl (cI, 6, .inl fL)), (aK, .inl (cI, 32, .inl fK)), (lw, .inr (4, [.ref lS])), (lS, .inl (cI, lk, .inl fS))] sz) [(h0, .inr (10, [.ref tp, h0_courtReader, h0_lawReader, h0_draft, .ref aC, h0_laws, .ref g0, .ref k0, .ref ac, .ref sd, .ref mi, .ref dw, .ref rf, .int lc, .int lh, .int br, .int hi])), (aC, .inr (1, [.ref aR, .ref aB, .ref aP, .int nb, .int np])), (aB, .inl (cI, 24, .inl fb)), (aP, .inl (cI, 20, .inl fp)), (g0, .inr (7, [.ref gY, .ref gF, .ref gP, .int gpn, .int glt, .int gsh, .int gwd, .int gpu, .int gmo])), (gF, .inl (cI, 5, .inl gfF)), (sd, .inr (8, [.ref w1, .ref w2, .ref aC, .ref g0, .ref aL, .ref aK, .ref lw])), (aL, .inl (cI, 6, .inl u.1)), (aK, .inl (cI, 32, .inl u.2)), (lw, .inr (4, [.ref lS])), (lS, .inl (cI, lk, .inl fS))]) (va_A [(h0, .inr (10, [.ref tp, h0_courtReader, h0_lawReader, h0_draft, .ref aC, h0_laws, .ref g0, .ref k0, .ref ac, .ref sd, .ref mi, .ref dw, .ref rf, .int lc, .int lh, .int br, .int hi])), (aC, .inr (1, [.ref aR, .ref aB, .ref aP, .int nb, .int np])), (aB, .inl (cI, 24, .inl fb)), (aP, .inl (cI, 20, .inl fp)), (g0, .inr (7, [.ref gY, .ref gF, .ref gP, .int gpn, .int glt, .int gsh, .int gwd, .int gpu, .int gmo])), (gF, .inl (cI, 5, .inl gfF)), (sd, .inr (8, [.ref w1, .ref w2, .ref aC, .ref g0, .ref aL, .ref aK, .ref lw])), (aL, .inl (cI, 6, .inl fL)), (aK, .inl (cI, 32, .inl fK)), (lw, .inr (4, [.ref lS])), (lS, .inl (cI, lk, .inl fS))] sz)) 0 0 (va_A [(h0, .inr (10, [.ref tp, h0_courtReader, h0_lawReader, h0_draft, .ref aC, h0_laws, .ref g0, .ref k0, .ref ac, .ref sd, .ref mi, .ref dw, .ref rf, .int lc, .int lh, .int br, .int hi])), (aC, .inr (1, [.ref aR, .ref aB, .ref aP, .int nb, .int np])), (aB, .inl (cI, 24, .inl fb)), (aP, .inl (cI, 20, .inl fp)), (g0, .inr (7, [.ref gY, .ref gF, .ref gP, .int gpn, .int glt, .int gsh, .int gwd, .int gpu, .int gmo])), (gF, .inl (cI, 5, .inl gfF)), (sd, .inr (8, [.ref w1, .ref w2, .ref aC, .ref g0, .ref aL, .ref aK, .ref lw])), (aL, .inl (cI, 6, .inl fL)), (aK, .inl (cI, 32, .inl fK)), (lw, .inr (4, [.ref lS])), (lS, .inl (cI, lk, .inl fS))] sz) := by
  refine Met.ofW (cc := cX10_game) (maxL := 9) (ret := (some .int)) (by decide) rfl ?_
  intro p e s m args below meth c s₁ B hml hv
  have y_gpn : zHid (0 ≤ gpn.toInt ∧ gpn.toInt ≤ 20) := n_gpn
  have y_gwd : zHid ((-1) ≤ gwd.toInt ∧ gwd.toInt ≤ 5) := n_gwd
  have y_hi : zHid (0 ≤ hi.toInt ∧ hi.toInt ≤ 1) := n_hi
  have y_lc : zHid (0 ≤ lc.toInt ∧ lc.toInt ≤ 4) := n_lc
  clear n_gpn n_gwd n_hi n_lc
  obtain ⟨hargs, hsz, hP, hK, hT⟩ := hv
  have hx := B.exec
  have hb := B.bytes
  have hr := B.returns
  have hts : ∀ w ∈ wA, w.before args s = true := fun w h => atoms_spec (ws := .code yX10_game cX10_game 9 (some .int) :: wA) B.pre w (List.mem_cons_of_mem _ h)
  have hown : s.vm.findClass RX10 = some m.cls := findClass_of_methodNamed B.named
  have hlocks := B.notSynchronized
  subst hsz
  have hD := hT.self (sz := s.heap.size)
  generalize hAe : va_A [(h0, .inr (10, [.ref tp, h0_courtReader, h0_lawReader, h0_draft, .ref aC, h0_laws, .ref g0, .ref k0, .ref ac, .ref sd, .ref mi, .ref dw, .ref rf, .int lc, .int lh, .int br, .int hi])), (aC, .inr (1, [.ref aR, .ref aB, .ref aP, .int nb, .int np])), (aB, .inl (cI, 24, .inl fb)), (aP, .inl (cI, 20, .inl fp)), (g0, .inr (7, [.ref gY, .ref gF, .ref gP, .int gpn, .int glt, .int gsh, .int gwd, .int gpu, .int gmo])), (gF, .inl (cI, 5, .inl gfF)), (sd, .inr (8, [.ref w1, .ref w2, .ref aC, .ref g0, .ref aL, .ref aK, .ref lw])), (aL, .inl (cI, 6, .inl fL)), (aK, .inl (cI, 32, .inl fK)), (lw, .inr (4, [.ref lS])), (lS, .inl (cI, lk, .inl fS))] s.heap.size = A at hD ⊢
  have hA : ∀ q : Nat, s.heap.size ≤ q → A q := fun q h => by rw [← hAe]; exact Or.inr h
  have hl := lv_entry ([.ref h0, .int p0, .int p1, .int p2, .int p3, .int p4, .int p5]) (n := 9) (Nat.le_of_ble_eq_true rfl)
  rw [show entryFrame m args 9 = entryFrame m ([.ref h0, .int p0, .int p1, .int p2, .int p3, .int p4, .int p5] : List Value).toArray 9 by rw [hargs], lg_entry_eq]
  generalize (lg_sl ([.ref h0, .int p0, .int p1, .int p2, .int p3, .int p4, .int p5]) ++ List.replicate (9 - (lg_sl ([.ref h0, .int p0, .int p1, .int p2, .int p3, .int p4, .int p5])).length) Slot.unset).toArray = ls at hl ⊢
  have hl : lv_has ls 9 [(0, .ref h0), (1, .int p0), (2, .int p1), (3, .int p2), (4, .int p3), (5, .int p4), (6, .int p5)] := hl
  refine zstart (fun H hH => ?_)
  rw [← hH] at hP
  have hS : va_S A s.heap H [] := by rw [hH]; exact va_S.rf
  generalize ([] : List Loc) = locs at hS ⊢
  refine zgen (fun R Q hR hQ => ?_)
  refine lv_aload_n hx hb dX10_game_0 rfl (lv_at hl 0 rfl) ?_
  refine lv_iload_n hx hb dX10_game_1 rfl (lv_at hl 1 rfl) ?_
  refine lv_iload_n hx hb dX10_game_2 rfl (lv_at hl 2 rfl) ?_
  refine lv_iload_n hx hb dX10_game_3 rfl (lv_at hl 3 rfl) ?_
  obtain ⟨hPc, hDc⟩ := zc2 (wc := [(h0, .inr (10, [.ref tp, h0_courtReader, h0_lawReader, h0_draft, .ref aC, h0_laws, .ref g0, .ref k0, .ref ac, .ref sd, .ref mi, .ref dw, .ref rf, .int lc, .int lh, .int br, .int hi])), (aC, .inr (1, [.ref aR, .ref aB, .ref aP, .int nb, .int np]))]) hP hD [0, 1] (by decide +kernel) rfl
  have hFc := zfr hS hA
  refine va_calli (va_runV (As := [.int p0, .int p1, .int p2]) (rest := []) ⟨hx, hb, hml, hown, hts⟩ (g_X10_canPlay l dC dI cI cJ h0 p0 p1 p2 tp h0_courtReader h0_lawReader h0_draft aC h0_laws g0 k0 ac sd mi dw rf lc lh br hi aR aB aP nb np H.size y_hi y_lc n_nb n_np) (cwV 3 hts (zgV qw931 qw933 qw25 qw98 qw934) rfl rfl rfl hd_X10_canPlay ⟨by rw [hR]; exact Nat.le_of_ble_eq_true rfl, by rw [hR]; exact Nat.le_of_ble_eq_true rfl⟩) (zPV hPc hK hDc (va_recv (q := (RX10, TX10, 17)) hK hP (ci := 10) (q0 := 0) rfl rfl)) rfl rfl hl.1 rfl (lv_room (Nat.le_of_ble_eq_true rfl)) dX10_game_4 ⟨Nat.zero_le _, Nat.zero_le _⟩) hS (fun q _ h => hFc q h) hFc (fun v4 u4 t H locs ht hvm hw hB hz1 hk1 hS9 => ?_)
  replace hP := zkeep hP hk1
  replace hS := hS9
  clear hPc hDc hFc hk1 hz1 hvm hS9
  obtain ⟨f4_0, f4_1, f4_2, f4_3, f4_4⟩ : (0 ≤ v4.toInt) ∧ (v4.toInt ≤ 1) ∧ (¬ v4.toInt = 0 → (0 ≤ p0.toInt ∧ p0.toInt < nb.toInt ∧ 0 ≤ p1.toInt ∧ p1.toInt < nb.toInt ∧ 0 ≤ p2.toInt ∧ p2.toInt < np.toInt)) ∧ (¬ v4.toInt = 0 → ¬ p0.toInt = p1.toInt) ∧ (v4.toInt = 0 → ¬ ((0 ≤ p0.toInt ∧ p0.toInt < nb.toInt) ∧ (0 ≤ p1.toInt ∧ p1.toInt < nb.toInt) ∧ ¬ p0.toInt = p1.toInt ∧ 0 ≤ p2.toInt ∧ p2.toInt < np.toInt)) := hw
  refine lv_if_eq (tgt := 37) hx hb dX10_game_7 (by decide) (fun c7 => ?_) (fun c7 => ?_)
  · have c7 : v4.toInt = 0 := z5 rfl (by decide) c7
    refine lv_ldcw (v := (-1000000)) hx hb hown (hts _ qw935) dX10_game_37 ?_
    have zr0 : ((-1000000) : Int32).toInt = (-1000000) := by decide
    rw [hQ]
    exact W.iret (v := ((-1000000))) hx hb hr (fun t ht hW => ⟨⟨(-1000000), (fL, fK), rfl, (by (try dsimp only); exact fun kc kT q_fr q_gfY q_gfP q_fR q_pl q_cn q_frf kt hc hb h ht => by unfold sV_gam; exact (if_neg (fun y => by obtain ⟨⟨a1, a2, a3, a4⟩, a5, a6, a7⟩ := y; omega)).symm), ⟨by rw [ht]; exact hP, hD⟩⟩, hS.F ht⟩) hS.2.2 dX10_game_40
  · have c7 : ¬ v4.toInt = 0 := z6 rfl (by decide) c7
    refine lv_iload hx hb dX10_game_10 (lv_at hl 4 rfl) ?_
    have hPc : va_P (dC, dI) vwCl [] H := zP0
    have hDc : va_D (fun _ => True) [] := zD0
    have hFc := zfr hS hA
    refine va_calli (va_runS (As := [.int p3]) (rest := []) ⟨hx, hb, hml, hown, hts⟩ (g_X10_isDigit l dC dI cI cJ p3 H.size) (cwS 1 hts (zgS qw714 qw715 qw98 qw716) rfl rfl rfl hd_X10_isDigit ⟨by rw [hR]; exact Nat.le_of_ble_eq_true rfl, by rw [hR]; exact Nat.le_of_ble_eq_true rfl⟩) (zPS hPc hK hDc) rfl rfl hl.1 rfl (lv_room (Nat.le_of_ble_eq_true rfl)) dX10_game_12 ⟨Nat.zero_le _, Nat.zero_le _⟩) hS (fun q _ h => hFc q h) hFc (fun v12 u12 t H locs ht hvm hw hB hz1 hk1 hS9 => ?_)
    replace hP := zkeep hP hk1
    replace hS := hS9
    clear hPc hDc hFc hk1 hz1 hvm hS9
    obtain ⟨f12_0, f12_1, f12_2, f12_3⟩ : (0 ≤ v12.toInt) ∧ (v12.toInt ≤ 1) ∧ (¬ v12.toInt = 0 → (0 ≤ p3.toInt ∧ p3.toInt ≤ 9)) ∧ (v12.toInt = 0 → ¬ (0 ≤ p3.toInt ∧ p3.toInt ≤ 9)) := hw
    refine lv_if_eq (tgt := 37) hx hb dX10_game_15 (by decide) (fun c15 => ?_) (fun c15 => ?_)
    · have c15 : v12.toInt = 0 := z5 rfl (by decide) c15
      refine lv_ldcw (v := (-1000000)) hx hb hown (hts _ qw935) dX10_game_37 ?_
      have zr0 : ((-1000000) : Int32).toInt = (-1000000) := by decide
      rw [hQ]
      exact W.iret (v := ((-1000000))) hx hb hr (fun t ht hW => ⟨⟨(-1000000), (fL, fK), rfl, (by (try dsimp only); exact fun kc kT q_fr q_gfY q_gfP q_fR q_pl q_cn q_frf kt hc hb h ht => by unfold sV_gam; exact (if_neg (fun y => by obtain ⟨⟨a1, a2, a3, a4⟩, a5, a6, a7⟩ := y; omega)).symm), ⟨by rw [ht]; exact hP, hD⟩⟩, hS.F ht⟩) hS.2.2 dX10_game_40
    · have c15 : ¬ v12.toInt = 0 := z6 rfl (by decide) c15
      refine lv_iload hx hb dX10_game_18 (lv_at hl 5 rfl) ?_
      have hPc : va_P (dC, dI) vwCl [] H := zP0
      have hDc : va_D (fun _ => True) [] := zD0
      have hFc := zfr hS hA
      refine va_calli (va_runS (As := [.int p4]) (rest := []) ⟨hx, hb, hml, hown, hts⟩ (g_X10_isDigit l dC dI cI cJ p4 H.size) (cwS 1 hts (zgS qw714 qw715 qw98 qw716) rfl rfl rfl hd_X10_isDigit ⟨by rw [hR]; exact Nat.le_of_ble_eq_true rfl, by rw [hR]; exact Nat.le_of_ble_eq_true rfl⟩) (zPS hPc hK hDc) rfl rfl hl.1 rfl (lv_room (Nat.le_of_ble_eq_true rfl)) dX10_game_20 ⟨Nat.zero_le _, Nat.zero_le _⟩) hS (fun q _ h => hFc q h) hFc (fun v20 u20 t H locs ht hvm hw hB hz1 hk1 hS9 => ?_)
      replace hP := zkeep hP hk1
      replace hS := hS9
      clear hPc hDc hFc hk1 hz1 hvm hS9
      obtain ⟨f20_0, f20_1, f20_2, f20_3⟩ : (0 ≤ v20.toInt) ∧ (v20.toInt ≤ 1) ∧ (¬ v20.toInt = 0 → (0 ≤ p4.toInt ∧ p4.toInt ≤ 9)) ∧ (v20.toInt = 0 → ¬ (0 ≤ p4.toInt ∧ p4.toInt ≤ 9)) := hw
      refine lv_if_eq (tgt := 37) hx hb dX10_game_23 (by decide) (fun c23 => ?_) (fun c23 => ?_)
      · have c23 : v20.toInt = 0 := z5 rfl (by decide) c23
        refine lv_ldcw (v := (-1000000)) hx hb hown (hts _ qw935) dX10_game_37 ?_
        have zr0 : ((-1000000) : Int32).toInt = (-1000000) := by decide
        rw [hQ]
        exact W.iret (v := ((-1000000))) hx hb hr (fun t ht hW => ⟨⟨(-1000000), (fL, fK), rfl, (by (try dsimp only); exact fun kc kT q_fr q_gfY q_gfP q_fR q_pl q_cn q_frf kt hc hb h ht => by unfold sV_gam; exact (if_neg (fun y => by obtain ⟨⟨a1, a2, a3, a4⟩, a5, a6, a7⟩ := y; omega)).symm), ⟨by rw [ht]; exact hP, hD⟩⟩, hS.F ht⟩) hS.2.2 dX10_game_40
      · have c23 : ¬ v20.toInt = 0 := z6 rfl (by decide) c23
        refine lv_iload hx hb dX10_game_26 (lv_at hl 6 rfl) ?_
        refine lv_if_lt (tgt := 37) hx hb dX10_game_28 (by decide) (fun c28 => ?_) (fun c28 => ?_)
        · have c28 : p5.toInt < 0 := z1 rfl (by decide) c28
          refine lv_ldcw (v := (-1000000)) hx hb hown (hts _ qw935) dX10_game_37 ?_
          have zr0 : ((-1000000) : Int32).toInt = (-1000000) := by decide
          rw [hQ]
          exact W.iret (v := ((-1000000))) hx hb hr (fun t ht hW => ⟨⟨(-1000000), (fL, fK), rfl, (by (try dsimp only); exact fun kc kT q_fr q_gfY q_gfP q_fR q_pl q_cn q_frf kt hc hb h ht => by unfold sV_gam; exact (if_neg (fun y => by obtain ⟨⟨a1, a2, a3, a4⟩, a5, a6, a7⟩ := y; omega)).symm), ⟨by rw [ht]; exact hP, hD⟩⟩, hS.F ht⟩) hS.2.2 dX10_game_40
        · have c28 : 0 ≤ p5.toInt := z2 rfl (by decide) c28
          refine lv_iload hx hb dX10_game_31 (lv_at hl 6 rfl) ?_
          refine lv_iconst (v := 1) hx hb dX10_game_33 (by decide) ?_
          refine lv_icmp_le (tgt := 41) hx hb dX10_game_34 (by decide) (fun c34 => ?_) (fun c34 => ?_)
          · have c34 : p5.toInt ≤ 1 := z3 rfl (by decide) c34
            refine lv_aload_n hx hb dX10_game_41 rfl (lv_at hl 0 rfl) ?_
            refine va_get (D := (dC, dI)) (ci := 10) (v := .ref sd) (C := RX10) (T := TX10) (N := 17) hx hb hts iX10 hown hK hP 0 rfl rfl 9 (by decide) (hts _ qw365) (fun _ h9 => h9) rfl dX10_game_42 ?_
            refine lv_iload_n hx hb dX10_game_45 rfl (lv_at hl 3 rfl) ?_
            refine lv_iload_n hx hb dX10_game_46 rfl (lv_at hl 1 rfl) ?_
            refine lv_aload_n hx hb dX10_game_47 rfl (lv_at hl 0 rfl) ?_
            refine va_get (D := (dC, dI)) (ci := 10) (v := .ref aC) (C := RX10) (T := TX10) (N := 17) hx hb hts iX10 hown hK hP 0 rfl rfl 4 (by decide) (hts _ qw360) (fun _ h9 => h9) rfl dX10_game_48 ?_
            refine lv_iload_n hx hb dX10_game_51 rfl (lv_at hl 1 rfl) ?_
            obtain ⟨hPc, hDc⟩ := zc2 (wc := [(aC, .inr (1, [.ref aR, .ref aB, .ref aP, .int nb, .int np])), (aB, .inl (cI, 24, .inl fb))]) hP hD [1, 2] (by decide +kernel) rfl
            have hFc := zfr hS hA
            refine va_calli (va_runV (As := [.int p0]) (rest := [.int p0, .int p2, .ref sd]) ⟨hx, hb, hml, hown, hts⟩ (g_X1_faceOf l dC dI cI cJ aC p0 aR aB aP nb np fb H.size (by omega)) (cwV 1 hts (zgV qw702 qw703 qw704 qw102 qw705) rfl rfl rfl hd_X1_faceOf ⟨by rw [hR]; exact Nat.le_of_ble_eq_true rfl, by rw [hR]; exact Nat.le_of_ble_eq_true rfl⟩) (zPV hPc hK hDc (va_recv (q := (RX1, TX1, 5)) hK hP (ci := 1) (q0 := 1) rfl rfl)) rfl rfl hl.1 rfl (lv_room (Nat.le_of_ble_eq_true rfl)) dX10_game_52 ⟨Nat.zero_le _, Nat.zero_le _⟩) hS (fun q _ h => hFc q h) hFc (fun v52 u52 t H locs ht hvm hw hB hz1 hk1 hS9 => ?_)
            replace hP := zkeep hP hk1
            replace hS := hS9
            clear hPc hDc hFc hk1 hz1 hvm hS9
            have f52_0 : (v52 = fb (4 * p0.toInt.toNat)) := hw
            have F52 := f52_0
            refine lv_iload hx hb dX10_game_55 (lv_at hl 4 rfl) ?_
            obtain ⟨hPc, hDc, hFc⟩ := zc3 (wc := [(sd, .inr (8, [.ref w1, .ref w2, .ref aC, .ref g0, .ref aL, .ref aK, .ref lw])), (aC, .inr (1, [.ref aR, .ref aB, .ref aP, .int nb, .int np])), (aB, .inl (cI, 24, .inl fb)), (aP, .inl (cI, 20, .inl fp)), (g0, .inr (7, [.ref gY, .ref gF, .ref gP, .int gpn, .int glt, .int gsh, .int gwd, .int gpu, .int gmo])), (gF, .inl (cI, 5, .inl gfF)), (aL, .inl (cI, 6, .inl fL)), (aK, .inl (cI, 32, .inl fK)), (lw, .inr (4, [.ref lS])), (lS, .inl (cI, lk, .inl fS))]) hP hD hS hA [6, 1, 2, 3, 4, 5, 7, 8, 9, 10] (by decide +kernel) rfl
            refine va_calli (va_runV (As := [.int p2, .int p0, .int v52, .int p3]) (rest := []) ⟨hx, hb, hml, hown, hts⟩ (g_X8_lookOf_l l dC dI cI cJ sd p2 p0 v52 p3 w1 w2 aC g0 aL aK lw aR aB aP nb np fb fp gY gF gP gpn glt gsh gwd gpu gmo gfF fL fK lS fS lk H.size (by omega) (by omega) (hlk) ci_fS_zSt) (cwV 4 hts (zgV qw936 qw658 qw659 qw105 qw660) rfl rfl rfl hd_X8_lookOf ⟨by rw [hR]; exact Nat.le_of_ble_eq_true rfl, by rw [hR]; exact Nat.le_of_ble_eq_true rfl⟩) (zPV hPc hK hDc (va_recv (q := (RX8, TX8, 7)) hK hP (ci := 8) (q0 := 6) rfl rfl)) rfl rfl hl.1 rfl (lv_room (Nat.le_of_ble_eq_true rfl)) dX10_game_57 ⟨Nat.zero_le _, Nat.zero_le _⟩) hS (fun q _ h => hFc q h) hFc (fun v57 u57 t H locs ht hvm hw hB hz1 hk1 hS9 => ?_)
            obtain ⟨u57_0, u57_1⟩ := u57
            obtain ⟨hP9, hD9⟩ := zj2 (wX := [(h0, .inr (10, [.ref tp, h0_courtReader, h0_lawReader, h0_draft, .ref aC, h0_laws, .ref g0, .ref k0, .ref ac, .ref sd, .ref mi, .ref dw, .ref rf, .int lc, .int lh, .int br, .int hi])), (aC, .inr (1, [.ref aR, .ref aB, .ref aP, .int nb, .int np])), (aB, .inl (cI, 24, .inl fb)), (aP, .inl (cI, 20, .inl fp)), (g0, .inr (7, [.ref gY, .ref gF, .ref gP, .int gpn, .int glt, .int gsh, .int gwd, .int gpu, .int gmo])), (gF, .inl (cI, 5, .inl gfF)), (sd, .inr (8, [.ref w1, .ref w2, .ref aC, .ref g0, .ref aL, .ref aK, .ref lw])), (aL, .inl (cI, 6, .inl u57_0)), (aK, .inl (cI, 32, .inl u57_1)), (lw, .inr (4, [.ref lS])), (lS, .inl (cI, lk, .inl fS))]) hP hD hk1 hFc ht hB [6, 1, 2, 3, 4, 5, 7, 8, 9, 10] [(false, 0), (true, 1), (true, 2), (true, 3), (true, 4), (true, 5), (true, 0), (true, 6), (true, 7), (true, 8), (true, 9)] rfl (by decide +kernel) (by decide +kernel) rfl
            clear hP hD hS hPc hDc hFc hB hk1 hz1 hvm
            have hP := hP9
            have hD := hD9
            have hS := hS9
            clear hP9 hD9 hS9
            obtain ⟨f57_0, f57_1, f57_2⟩ : (0 ≤ v57.toInt) ∧ (v57.toInt ≤ 9) ∧ (∀ t : (Int → Int) × Int, zLwC fS lk t → zB5 v52 (fb (4 * p0.toInt.toNat + 2)) p3 (fp (4 * p2.toInt.toNat)) (gfF p2.toInt.toNat) gmo → v57 = zLkv (some t) v52 (fb (4 * p0.toInt.toNat + 2)) p3 (fp (4 * p2.toInt.toNat)) (gfF p2.toInt.toNat) gmo) := hw
            have F57 := f57_2
            refine lv_istore (lv' := [(7, .int v57), (0, .ref h0), (1, .int p0), (2, .int p1), (3, .int p2), (4, .int p3), (5, .int p4), (6, .int p5)]) hx hb dX10_game_60 hl (by decide) rfl (fun ls hl => ?_)
            refine lv_aload_n hx hb dX10_game_62 rfl (lv_at hl 1 rfl) ?_
            refine va_get (D := (dC, dI)) (ci := 10) (v := .ref sd) (C := RX10) (T := TX10) (N := 17) hx hb hts iX10 hown hK hP 0 rfl rfl 9 (by decide) (hts _ qw365) (fun _ h9 => h9) rfl dX10_game_63 ?_
            refine lv_iload_n hx hb dX10_game_66 rfl (lv_at hl 4 rfl) ?_
            refine lv_iload_n hx hb dX10_game_67 rfl (lv_at hl 3 rfl) ?_
            refine lv_aload_n hx hb dX10_game_68 rfl (lv_at hl 1 rfl) ?_
            refine va_get (D := (dC, dI)) (ci := 10) (v := .ref aC) (C := RX10) (T := TX10) (N := 17) hx hb hts iX10 hown hK hP 0 rfl rfl 4 (by decide) (hts _ qw360) (fun _ h9 => h9) rfl dX10_game_69 ?_
            refine lv_iload_n hx hb dX10_game_72 rfl (lv_at hl 3 rfl) ?_
            obtain ⟨hPc, hDc⟩ := zc2 (wc := [(aC, .inr (1, [.ref aR, .ref aB, .ref aP, .int nb, .int np])), (aB, .inl (cI, 24, .inl fb))]) hP hD [1, 2] (by decide +kernel) rfl
            have hFc := zfr hS hA
            refine va_calli (va_runV (As := [.int p1]) (rest := [.int p1, .int p2, .ref sd]) ⟨hx, hb, hml, hown, hts⟩ (g_X1_faceOf l dC dI cI cJ aC p1 aR aB aP nb np fb H.size (by omega)) (cwV 1 hts (zgV qw702 qw703 qw704 qw102 qw705) rfl rfl rfl hd_X1_faceOf ⟨by rw [hR]; exact Nat.le_of_ble_eq_true rfl, by rw [hR]; exact Nat.le_of_ble_eq_true rfl⟩) (zPV hPc hK hDc (va_recv (q := (RX1, TX1, 5)) hK hP (ci := 1) (q0 := 1) rfl rfl)) rfl rfl hl.1 rfl (lv_room (Nat.le_of_ble_eq_true rfl)) dX10_game_73 ⟨Nat.zero_le _, Nat.zero_le _⟩) hS (fun q _ h => hFc q h) hFc (fun v73 u73 t H locs ht hvm hw hB hz1 hk1 hS9 => ?_)
            replace hP := zkeep hP hk1
            replace hS := hS9
            clear hPc hDc hFc hk1 hz1 hvm hS9
            have f73_0 : (v73 = fb (4 * p1.toInt.toNat)) := hw
            have F73 := f73_0
            refine lv_iload hx hb dX10_game_76 (lv_at hl 6 rfl) ?_
            obtain ⟨hPc, hDc, hFc⟩ := zc3 (wc := [(sd, .inr (8, [.ref w1, .ref w2, .ref aC, .ref g0, .ref aL, .ref aK, .ref lw])), (aC, .inr (1, [.ref aR, .ref aB, .ref aP, .int nb, .int np])), (aB, .inl (cI, 24, .inl fb)), (aP, .inl (cI, 20, .inl fp)), (g0, .inr (7, [.ref gY, .ref gF, .ref gP, .int gpn, .int glt, .int gsh, .int gwd, .int gpu, .int gmo])), (gF, .inl (cI, 5, .inl gfF)), (aL, .inl (cI, 6, .inl u57_0)), (aK, .inl (cI, 32, .inl u57_1)), (lw, .inr (4, [.ref lS])), (lS, .inl (cI, lk, .inl fS))]) hP hD hS hA [6, 1, 2, 3, 4, 5, 7, 8, 9, 10] (by decide +kernel) rfl
            refine va_calli (va_runV (As := [.int p2, .int p1, .int v73, .int p4]) (rest := []) ⟨hx, hb, hml, hown, hts⟩ (g_X8_lookOf_l l dC dI cI cJ sd p2 p1 v73 p4 w1 w2 aC g0 aL aK lw aR aB aP nb np fb fp gY gF gP gpn glt gsh gwd gpu gmo gfF u57_0 u57_1 lS fS lk H.size (by omega) (by omega) (hlk) ci_fS_zSt) (cwV 4 hts (zgV qw936 qw658 qw659 qw105 qw660) rfl rfl rfl hd_X8_lookOf ⟨by rw [hR]; exact Nat.le_of_ble_eq_true rfl, by rw [hR]; exact Nat.le_of_ble_eq_true rfl⟩) (zPV hPc hK hDc (va_recv (q := (RX8, TX8, 7)) hK hP (ci := 8) (q0 := 6) rfl rfl)) rfl rfl hl.1 rfl (lv_room (Nat.le_of_ble_eq_true rfl)) dX10_game_78 ⟨Nat.zero_le _, Nat.zero_le _⟩) hS (fun q _ h => hFc q h) hFc (fun v78 u78 t H locs ht hvm hw hB hz1 hk1 hS9 => ?_)
            obtain ⟨u78_0, u78_1⟩ := u78
            obtain ⟨hP9, hD9⟩ := zj2 (wX := [(h0, .inr (10, [.ref tp, h0_courtReader, h0_lawReader, h0_draft, .ref aC, h0_laws, .ref g0, .ref k0, .ref ac, .ref sd, .ref mi, .ref dw, .ref rf, .int lc, .int lh, .int br, .int hi])), (aC, .inr (1, [.ref aR, .ref aB, .ref aP, .int nb, .int np])), (aB, .inl (cI, 24, .inl fb)), (aP, .inl (cI, 20, .inl fp)), (g0, .inr (7, [.ref gY, .ref gF, .ref gP, .int gpn, .int glt, .int gsh, .int gwd, .int gpu, .int gmo])), (gF, .inl (cI, 5, .inl gfF)), (sd, .inr (8, [.ref w1, .ref w2, .ref aC, .ref g0, .ref aL, .ref aK, .ref lw])), (aL, .inl (cI, 6, .inl u78_0)), (aK, .inl (cI, 32, .inl u78_1)), (lw, .inr (4, [.ref lS])), (lS, .inl (cI, lk, .inl fS))]) hP hD hk1 hFc ht hB [6, 1, 2, 3, 4, 5, 7, 8, 9, 10] [(false, 0), (true, 1), (true, 2), (true, 3), (true, 4), (true, 5), (true, 0), (true, 6), (true, 7), (true, 8), (true, 9)] rfl (by decide +kernel) (by decide +kernel) rfl
            clear hP hD hS hPc hDc hFc hB hk1 hz1 hvm
            have hP := hP9
            have hD := hD9
            have hS := hS9
            clear hP9 hD9 hS9
            obtain ⟨f78_0, f78_1, f78_2⟩ : (0 ≤ v78.toInt) ∧ (v78.toInt ≤ 9) ∧ (∀ t : (Int → Int) × Int, zLwC fS lk t → zB5 v73 (fb (4 * p1.toInt.toNat + 2)) p4 (fp (4 * p2.toInt.toNat)) (gfF p2.toInt.toNat) gmo → v78 = zLkv (some t) v73 (fb (4 * p1.toInt.toNat + 2)) p4 (fp (4 * p2.toInt.toNat)) (gfF p2.toInt.toNat) gmo) := hw
            have F78 := f78_2
            refine lv_istore (lv' := [(8, .int v78), (7, .int v57), (0, .ref h0), (1, .int p0), (2, .int p1), (3, .int p2), (4, .int p3), (5, .int p4), (6, .int p5)]) hx hb dX10_game_81 hl (by decide) rfl (fun ls hl => ?_)
            refine lv_iload hx hb dX10_game_83 (lv_at hl 8 rfl) ?_
            refine lv_if_ne (tgt := 100) hx hb dX10_game_85 (by decide) (fun c85 => ?_) (fun c85 => ?_)
            · have c85 : ¬ p5.toInt = 0 := z6 rfl (by decide) c85
              refine lv_iload hx hb dX10_game_100 (lv_at hl 0 rfl) ?_
              refine lv_iload hx hb dX10_game_102 (lv_at hl 1 rfl) ?_
              refine lv_iload hx hb dX10_game_104 (lv_at hl 7 rfl) ?_
              have hPc : va_P (dC, dI) vwCl [] H := zP0
              have hDc : va_D (fun _ => True) [] := zD0
              have hFc := zfr hS hA
              refine va_calli (va_runS (As := [.int v78, .int v57, .int p4]) (rest := []) ⟨hx, hb, hml, hown, hts⟩ (g_X10_gain l dC dI cI cJ v78 v57 p4 H.size) (cwS 3 hts (zgS qw937 qw938 qw98 qw939) rfl rfl rfl hd_X10_gain ⟨by rw [hR]; exact Nat.le_of_ble_eq_true rfl, by rw [hR]; exact Nat.le_of_ble_eq_true rfl⟩) (zPS hPc hK hDc) rfl rfl hl.1 rfl (lv_room (Nat.le_of_ble_eq_true rfl)) dX10_game_106 ⟨Nat.zero_le _, Nat.zero_le _⟩) hS (fun q _ h => hFc q h) hFc (fun v106 u106 t H locs ht hvm hw hB hz1 hk1 hS9 => ?_)
              replace hP := zkeep hP hk1
              replace hS := hS9
              clear hPc hDc hFc hk1 hz1 hvm hS9
              have f106_0 : (v106 = sGn v78 v57 p4) := hw
              have F106 := f106_0
              rw [hQ]
              exact W.iret (v := v106) hx hb hr (fun t ht hW => ⟨⟨v106, (u78_0, u78_1), rfl, (by (try dsimp only); exact fun kc kT q_fr q_gfY q_gfP q_fR q_pl q_cn q_frf kt hc hb h ht => by have y52 : v52 = kc.2.1 (4 * p0.toInt.toNat) := F52.trans (hc.2.1 _ (by omega)); have y73 : v73 = kc.2.1 (4 * p1.toInt.toNat) := F73.trans (hc.2.1 _ (by omega)); have o1 : v57 = sLk kc kT.1 (some kt) p2 p0 v52 p3 := sLk_l hc hb h.1 (by omega) (by omega) (by rw [y52]; exact zFace_b hb (by omega)) (by omega) ht F57; have o2 : v78 = sLk kc kT.1 (some kt) p2 p1 v73 p4 := sLk_l hc hb h.1 (by omega) (by omega) (by rw [y73]; exact zFace_b hb (by omega)) (by omega) ht F78; unfold sV_gam; rw [if_pos ⟨⟨by omega, by omega, by omega, by omega⟩, by omega, by omega, by omega⟩, if_neg (by omega)]; unfold sGm; rw [← y52, ← y73, ← o1, ← o2]; exact F106), ⟨by rw [ht]; exact hP, hD⟩⟩, hS.F ht⟩) hS.2.2 dX10_game_109
            · have c85 : p5.toInt = 0 := z5 rfl (by decide) c85
              refine lv_iload hx hb dX10_game_88 (lv_at hl 1 rfl) ?_
              refine lv_iload hx hb dX10_game_90 (lv_at hl 0 rfl) ?_
              refine lv_iload hx hb dX10_game_92 (lv_at hl 6 rfl) ?_
              have hPc : va_P (dC, dI) vwCl [] H := zP0
              have hDc : va_D (fun _ => True) [] := zD0
              have hFc := zfr hS hA
              refine va_calli (va_runS (As := [.int v57, .int v78, .int p3]) (rest := []) ⟨hx, hb, hml, hown, hts⟩ (g_X10_gain l dC dI cI cJ v57 v78 p3 H.size) (cwS 3 hts (zgS qw937 qw938 qw98 qw939) rfl rfl rfl hd_X10_gain ⟨by rw [hR]; exact Nat.le_of_ble_eq_true rfl, by rw [hR]; exact Nat.le_of_ble_eq_true rfl⟩) (zPS hPc hK hDc) rfl rfl hl.1 rfl (lv_room (Nat.le_of_ble_eq_true rfl)) dX10_game_94 ⟨Nat.zero_le _, Nat.zero_le _⟩) hS (fun q _ h => hFc q h) hFc (fun v94 u94 t H locs ht hvm hw hB hz1 hk1 hS9 => ?_)
              replace hP := zkeep hP hk1
              replace hS := hS9
              clear hPc hDc hFc hk1 hz1 hvm hS9
              have f94_0 : (v94 = sGn v57 v78 p3) := hw
              have F94 := f94_0
              refine lv_goto (tgt := 109) hx hb dX10_game_97 (by decide) ?_
              rw [hQ]
              exact W.iret (v := v94) hx hb hr (fun t ht hW => ⟨⟨v94, (u78_0, u78_1), rfl, (by (try dsimp only); exact fun kc kT q_fr q_gfY q_gfP q_fR q_pl q_cn q_frf kt hc hb h ht => by have y52 : v52 = kc.2.1 (4 * p0.toInt.toNat) := F52.trans (hc.2.1 _ (by omega)); have y73 : v73 = kc.2.1 (4 * p1.toInt.toNat) := F73.trans (hc.2.1 _ (by omega)); have o1 : v57 = sLk kc kT.1 (some kt) p2 p0 v52 p3 := sLk_l hc hb h.1 (by omega) (by omega) (by rw [y52]; exact zFace_b hb (by omega)) (by omega) ht F57; have o2 : v78 = sLk kc kT.1 (some kt) p2 p1 v73 p4 := sLk_l hc hb h.1 (by omega) (by omega) (by rw [y73]; exact zFace_b hb (by omega)) (by omega) ht F78; unfold sV_gam; rw [if_pos ⟨⟨by omega, by omega, by omega, by omega⟩, by omega, by omega, by omega⟩, if_pos (by omega)]; unfold sGm; rw [← y52, ← y73, ← o1, ← o2]; exact F94), ⟨by rw [ht]; exact hP, hD⟩⟩, hS.F ht⟩) hS.2.2 dX10_game_109
          · have c34 : 1 < p5.toInt := z4 rfl (by decide) c34
            refine lv_ldcw (v := (-1000000)) hx hb hown (hts _ qw935) dX10_game_37 ?_
            have zr0 : ((-1000000) : Int32).toInt = (-1000000) := by decide
            rw [hQ]
            exact W.iret (v := ((-1000000))) hx hb hr (fun t ht hW => ⟨⟨(-1000000), (fL, fK), rfl, (by (try dsimp only); exact fun kc kT q_fr q_gfY q_gfP q_fR q_pl q_cn q_frf kt hc hb h ht => by unfold sV_gam; exact (if_neg (fun y => by obtain ⟨⟨a1, a2, a3, a4⟩, a5, a6, a7⟩ := y; omega)).symm), ⟨by rw [ht]; exact hP, hD⟩⟩, hS.F ht⟩) hS.2.2 dX10_game_40
set_option maxHeartbeats 4000000 in
set_option maxRecDepth 100000 in
theorem g_X10_bestAgainst (l : Launch) (dC : Nat → ClassId) (dI : Nat → Nat → Nat) (cI cJ : ClassId) (h0 : Nat) (p0 : Int32) (p1 : Int32) (f0 : Nat → Int32) (sz : Nat) (n_p0 : 0 ≤ p0.toInt ∧ p0.toInt ≤ 9)    : Met l yX10_bestAgainst (.code yX10_bestAgainst cX10_bestAgainst 5 (some .boolean) :: wA) ({ frames := 1, cells := 0, slots := 0, locals := 23 }) (zP (dC, dI) [(cI, .int), (cJ, .long)] [.ref h0, .int p0, .int p1] sz [(h0, .inl (cI, 10, .inl f0))]) (va_Qi (fun (r : Int32) (u : Unit) => (0 ≤ r.toInt) ∧ (r.toInt ≤ 1) ∧ ((r.toInt = 1 ∧ sBa f0 p0.toInt.toNat p1) ∨ (r.toInt = 0 ∧ ¬ sBa f0 p0.toInt.toNat p1))) (fun (_ : Unit) (_ : State) => True) (va_A [] sz)) 0 0 (va_A [] sz) := by
  refine Met.ofW (cc := cX10_bestAgainst) (maxL := 5) (ret := (some .boolean)) (by decide) rfl ?_
  intro p e s m args below meth c s₁ B hml hv
  obtain ⟨hargs, hsz, hP, hK, hT⟩ := hv
  have hx := B.exec
  have hb := B.bytes
  have hr := B.returns
  have hts : ∀ w ∈ wA, w.before args s = true := fun w h => atoms_spec (ws := .code yX10_bestAgainst cX10_bestAgainst 5 (some .boolean) :: wA) B.pre w (List.mem_cons_of_mem _ h)
  have hown : s.vm.findClass RX10 = some m.cls := findClass_of_methodNamed B.named
  have hlocks := B.notSynchronized
  subst hsz
  have hD : va_D (va_A [] s.heap.size) [] := zD0
  generalize hAe : va_A [] s.heap.size = A at hD ⊢
  have hA : ∀ q : Nat, s.heap.size ≤ q → A q := fun q h => by rw [← hAe]; exact Or.inr h
  have hl := lv_entry ([.ref h0, .int p0, .int p1]) (n := 5) (Nat.le_of_ble_eq_true rfl)
  rw [show entryFrame m args 5 = entryFrame m ([.ref h0, .int p0, .int p1] : List Value).toArray 5 by rw [hargs], lg_entry_eq]
  generalize (lg_sl ([.ref h0, .int p0, .int p1]) ++ List.replicate (5 - (lg_sl ([.ref h0, .int p0, .int p1])).length) Slot.unset).toArray = ls at hl ⊢
  have hl : lv_has ls 5 [(0, .ref h0), (1, .int p0), (2, .int p1)] := hl
  refine zstart (fun H hH => ?_)
  rw [← hH] at hP
  have hS : va_S A s.heap H [] := by rw [hH]; exact va_S.rf
  generalize ([] : List Loc) = locs at hS ⊢
  refine zgen (fun R Q hR hQ => ?_)
  refine lv_aload_n hx hb dX10_bestAgainst_0 rfl (lv_at hl 0 rfl) ?_
  refine lv_iload_n hx hb dX10_bestAgainst_1 rfl (lv_at hl 1 rfl) ?_
  refine va_iald hx hb hK hP 0 0 rfl rfl (vp_in_iff.mpr ⟨by omega, by omega⟩) dX10_bestAgainst_2 ?_
  refine lv_topi (fun v2 e2 => ?_)
  refine lv_iload_n hx hb dX10_bestAgainst_3 rfl (lv_at hl 2 rfl) ?_
  refine lv_iload_n hx hb dX10_bestAgainst_4 rfl (lv_at hl 1 rfl) ?_
  have hPc : va_P (dC, dI) vwCl [] H := zP0
  have hDc : va_D (fun _ => True) [] := zD0
  have hFc := zfr hS hA
  refine va_calli (va_runS (As := [.int v2, .int p1, .int p0]) (rest := []) ⟨hx, hb, hml, hown, hts⟩ (g_X10_gain l dC dI cI cJ v2 p1 p0 H.size) (cwS 3 hts (zgS qw937 qw938 qw98 qw939) rfl rfl rfl hd_X10_gain ⟨by rw [hR]; exact Nat.le_of_ble_eq_true rfl, by rw [hR]; exact Nat.le_of_ble_eq_true rfl⟩) (zPS hPc hK hDc) rfl rfl hl.1 rfl (lv_room (Nat.le_of_ble_eq_true rfl)) dX10_bestAgainst_5 ⟨Nat.zero_le _, Nat.zero_le _⟩) hS (fun q _ h => hFc q h) hFc (fun v5 u5 t H locs ht hvm hw hB hz1 hk1 hS9 => ?_)
  replace hP := zkeep hP hk1
  replace hS := hS9
  clear hPc hDc hFc hk1 hz1 hvm hS9
  have f5_0 : (v5 = sGn v2 p1 p0) := hw
  have F5 := f5_0
  refine lv_istore_n (lv' := [(3, .int v5), (0, .ref h0), (1, .int p0), (2, .int p1)]) hx hb dX10_bestAgainst_8 rfl hl (by decide) rfl (fun ls hl => ?_)
  refine lv_iconst (v := 0) hx hb dX10_bestAgainst_9 (by decide) ?_
  have J12 : ∀ (n : Nat) (m12_L_4 : Int32), (0 ≤ m12_L_4.toInt ∧ m12_L_4.toInt ≤ 10) → (zBa f0 p0 p1 m12_L_4) → (11 - m12_L_4.toInt).toNat = n → ∀ (H : Heap) (locs : List Loc) (ls : Array Slot), va_P (dC, dI) vwCl [(h0, .inl (cI, 10, .inl f0))] H → va_S A s.heap H locs → lv_has ls 5 [(4, .int m12_L_4), (3, .int v5), (0, .ref h0), (1, .int p0), (2, .int p1)] → W p l e R s m args below meth c H locs 0 0 Q (F0 m 12 ls []) := by
    intro n12
    induction n12 using Nat.strongRecOn with
    | _ n12 ih12 =>
      intro m12_L_4 jf12_0 jv12_0 hmu12 H locs ls hP hS hl
      refine lv_iload hx hb dX10_bestAgainst_12 (lv_at hl 0 rfl) ?_
      refine lv_bipush (v := 9) hx hb dX10_bestAgainst_14 (by decide) ?_
      refine lv_icmp_gt (tgt := 41) hx hb dX10_bestAgainst_16 (by decide) (fun c16 => ?_) (fun c16 => ?_)
      · have c16 : 9 < m12_L_4.toInt := z1 (by decide) rfl c16
        refine lv_iconst (v := 1) hx hb dX10_bestAgainst_41 (by decide) ?_
        have zr0 : (1 : Int32).toInt = 1 := by decide
        rw [hQ]
        exact W.zret (v := 1) (ty := .boolean) hx hb hr rfl (fun t ht hW => ⟨⟨1, (), rfl, ⟨by (try dsimp only); omega, by (try dsimp only); omega, Or.inl ⟨by decide, zBa_y jv12_0 (by omega) (by omega)⟩⟩, trivial⟩, hS.F ht⟩) hS.2.2 dX10_bestAgainst_42
      · have c16 : m12_L_4.toInt ≤ 9 := z2 (by decide) rfl c16
        refine lv_aload_n hx hb dX10_bestAgainst_19 rfl (lv_at hl 2 rfl) ?_
        refine lv_iload hx hb dX10_bestAgainst_20 (lv_at hl 0 rfl) ?_
        refine va_iald hx hb hK hP 0 0 rfl rfl (vp_in_iff.mpr ⟨by omega, by omega⟩) dX10_bestAgainst_22 ?_
        refine lv_topi (fun v22 e22 => ?_)
        refine lv_iload_n hx hb dX10_bestAgainst_23 rfl (lv_at hl 4 rfl) ?_
        refine lv_iload hx hb dX10_bestAgainst_24 (lv_at hl 0 rfl) ?_
        have hPc : va_P (dC, dI) vwCl [] H := zP0
        have hDc : va_D (fun _ => True) [] := zD0
        have hFc := zfr hS hA
        refine va_calli (va_runS (As := [.int v22, .int p1, .int m12_L_4]) (rest := []) ⟨hx, hb, hml, hown, hts⟩ (g_X10_gain l dC dI cI cJ v22 p1 m12_L_4 H.size) (cwS 3 hts (zgS qw937 qw938 qw98 qw939) rfl rfl rfl hd_X10_gain ⟨by rw [hR]; exact Nat.le_of_ble_eq_true rfl, by rw [hR]; exact Nat.le_of_ble_eq_true rfl⟩) (zPS hPc hK hDc) rfl rfl hl.1 rfl (lv_room (Nat.le_of_ble_eq_true rfl)) dX10_bestAgainst_26 ⟨Nat.zero_le _, Nat.zero_le _⟩) hS (fun q _ h => hFc q h) hFc (fun v26 u26 t H locs ht hvm hw hB hz1 hk1 hS9 => ?_)
        replace hP := zkeep hP hk1
        replace hS := hS9
        clear hPc hDc hFc hk1 hz1 hvm hS9
        have f26_0 : (v26 = sGn v22 p1 m12_L_4) := hw
        have F26 := f26_0
        refine lv_iload_n hx hb dX10_bestAgainst_29 rfl (lv_at hl 1 rfl) ?_
        refine lv_icmp_le (tgt := 35) hx hb dX10_bestAgainst_30 (by decide) (fun c30 => ?_) (fun c30 => ?_)
        · have c30 : v26.toInt ≤ v5.toInt := z3 rfl rfl c30
          obtain ⟨v35, e35⟩ : ∃ y : Int32, y = m12_L_4 + Int32.ofInt (1) := ⟨_, rfl⟩
          refine lv_iinc (v := v35) (lv' := [(4, .int v35), (3, .int v5), (0, .ref h0), (1, .int p0), (2, .int p1)]) hx hb dX10_bestAgainst_35 hl (k := 0) rfl e35.symm (by decide) rfl (fun ls hl => ?_)
          have i35 : v35.toInt = m12_L_4.toInt + 1 := zaddI e35 (by decide) (by omega) (by omega)
          refine lv_goto (tgt := 12) hx hb dX10_bestAgainst_38 (by decide) ?_
          exact ih12 _ (by omega) v35 (by omega) (zBa_s jv12_0 (by omega) i35 (show v26 = sGn (f0 m12_L_4.toInt.toNat) p1 m12_L_4 by rw [← zIxN (n := m12_L_4.toInt.toNat) e22 (by omega)]; exact F26) (show v5 = sGn (f0 p0.toInt.toNat) p1 p0 by rw [← zIxN (n := p0.toInt.toNat) e2 (by omega)]; exact F5) (by omega)) rfl H locs ls hP hS (lv_sub hl [0, 1, 2, 3, 4] rfl)
        · have c30 : v5.toInt < v26.toInt := z4 rfl rfl c30
          refine lv_iconst (v := 0) hx hb dX10_bestAgainst_33 (by decide) ?_
          have zr0 : (0 : Int32).toInt = 0 := by decide
          rw [hQ]
          exact W.zret (v := 0) (ty := .boolean) hx hb hr rfl (fun t ht hW => ⟨⟨0, (), rfl, ⟨by (try dsimp only); omega, by (try dsimp only); omega, Or.inr ⟨by decide, zBa_n (by omega) (by omega) (by omega) (show v26 = sGn (f0 m12_L_4.toInt.toNat) p1 m12_L_4 by rw [← zIxN (n := m12_L_4.toInt.toNat) e22 (by omega)]; exact F26) (show v5 = sGn (f0 p0.toInt.toNat) p1 p0 by rw [← zIxN (n := p0.toInt.toNat) e2 (by omega)]; exact F5) (by omega)⟩⟩, trivial⟩, hS.F ht⟩) hS.2.2 dX10_bestAgainst_34
  refine lv_istore (lv' := [(4, .int 0), (3, .int v5), (0, .ref h0), (1, .int p0), (2, .int p1)]) hx hb dX10_bestAgainst_10 hl (by decide) rfl (fun ls hl => ?_)
  have zj12_m12_L_4 : (0 : Int32).toInt = 0 := by decide
  exact J12 _ 0 (by decide) (zBa_0) rfl H locs ls hP hS (lv_sub hl [0, 1, 2, 3, 4] rfl)
set_option maxHeartbeats 4000000 in
set_option maxRecDepth 100000 in
theorem g_X10_rests_n (l : Launch) (dC : Nat → ClassId) (dI : Nat → Nat → Nat) (cI cJ : ClassId) (h0 : Nat) (p0 : Int32) (p1 : Int32) (p2 : Int32) (p3 : Int32) (tp : Nat) (h0_courtReader : Value) (h0_lawReader : Value) (h0_draft : Value) (aC : Nat) (h0_laws : Value) (g0 : Nat) (k0 : Nat) (ac : Nat) (sd : Nat) (mi : Nat) (dw : Nat) (rf : Nat) (lc : Int32) (lh : Int32) (br : Int32) (hi : Int32) (aR : Nat) (aB : Nat) (aP : Nat) (nb : Int32) (np : Int32) (fb : Nat → Int32) (gY : Nat) (gF : Nat) (gP : Nat) (gpn : Int32) (glt : Int32) (gsh : Int32) (gwd : Int32) (gpu : Int32) (gmo : Int32) (gfF : Nat → Int32) (w1 : Nat) (w2 : Nat) (aL : Nat) (aK : Nat) (fw1 : Nat → Int32) (fw2 : Nat → Int32) (sz : Nat) (n_gpn : 0 ≤ gpn.toInt ∧ gpn.toInt ≤ 20) (n_gwd : (-1) ≤ gwd.toInt ∧ gwd.toInt ≤ 5) (n_hi : 0 ≤ hi.toInt ∧ hi.toInt ≤ 1) (n_lc : 0 ≤ lc.toInt ∧ lc.toInt ≤ 4) (n_nb : 0 ≤ nb.toInt ∧ nb.toInt ≤ 6) (n_np : 0 ≤ np.toInt ∧ np.toInt ≤ 5)    : Met l yX10_rests (.code yX10_rests cX10_rests 8 (some .int) :: wA) ({ frames := 4, cells := 0, slots := 0, locals := 101 }) (zP (dC, dI) [(cI, .int), (cJ, .long)] [.ref h0, .int p0, .int p1, .int p2, .int p3] sz [(h0, .inr (10, [.ref tp, h0_courtReader, h0_lawReader, h0_draft, .ref aC, h0_laws, .ref g0, .ref k0, .ref ac, .ref sd, .ref mi, .ref dw, .ref rf, .int lc, .int lh, .int br, .int hi])), (aC, .inr (1, [.ref aR, .ref aB, .ref aP, .int nb, .int np])), (aB, .inl (cI, 24, .inl fb)), (g0, .inr (7, [.ref gY, .ref gF, .ref gP, .int gpn, .int glt, .int gsh, .int gwd, .int gpu, .int gmo])), (gF, .inl (cI, 5, .inl gfF)), (sd, .inr (8, [.ref w1, .ref w2, .ref aC, .ref g0, .ref aL, .ref aK, .null])), (w1, .inl (cI, 10, .inl fw1)), (w2, .inl (cI, 10, .inl fw2))]) (va_Qi (fun (r : Int32) (u : (Nat → Int32) × (Nat → Int32)) => ((-1) ≤ r.toInt) ∧ (r.toInt ≤ 100) ∧ (∀ (kc : zK3) (kT : zT) (q_fr : Nat → Int32) (q_fp : Nat → Int32) (q_gfY : Nat → Int32) (q_gfP : Nat → Int32) (q_fR : Nat → Int32) (q_pl : Int32) (q_cn : Int32) (q_frf : Nat → Int32), zCn q_fr fb q_fp nb.toInt np.toInt kc → zKo nb.toInt np.toInt kc kT → zTc nb.toInt np.toInt kT q_gfY gfF q_gfP gpn glt gsh gwd gpu gmo q_fR q_pl q_cn q_frf → r.toInt = sV_res nb.toInt np.toInt kc kT.1 none p0 p1 p2 p3)) (fun (u : (Nat → Int32) × (Nat → Int32)) (t : State) => va_P (dC, dI) vwCl [(h0, .inr (10, [.ref tp, h0_courtReader, h0_lawReader, h0_draft, .ref aC, h0_laws, .ref g0, .ref k0, .ref ac, .ref sd, .ref mi, .ref dw, .ref rf, .int lc, .int lh, .int br, .int hi])), (aC, .inr (1, [.ref aR, .ref aB, .ref aP, .int nb, .int np])), (aB, .inl (cI, 24, .inl fb)), (g0, .inr (7, [.ref gY, .ref gF, .ref gP, .int gpn, .int glt, .int gsh, .int gwd, .int gpu, .int gmo])), (gF, .inl (cI, 5, .inl gfF)), (sd, .inr (8, [.ref w1, .ref w2, .ref aC, .ref g0, .ref aL, .ref aK, .null])), (w1, .inl (cI, 10, .inl u.1)), (w2, .inl (cI, 10, .inl u.2))] t.heap ∧ va_D (va_A [(h0, .inr (10, [.ref tp, h0_courtReader, h0_lawReader, h0_draft, .ref aC, h0_laws, .ref g0, .ref k0, .ref ac, .ref sd, .ref mi, .ref dw, .ref rf, .int lc, .int lh, .int br, .int hi])), (aC, .inr (1, [.ref aR, .ref aB, .ref aP, .int nb, .int np])), (aB, .inl (cI, 24, .inl fb)), (g0, .inr (7, [.ref gY, .ref gF, .ref gP, .int gpn, .int glt, .int gsh, .int gwd, .int gpu, .int gmo])), (gF, .inl (cI, 5, .inl gfF)), (sd, .inr (8, [.ref w1, .ref w2, .ref aC, .ref g0, .ref aL, .ref aK, .null])), (w1, .inl (cI, 10, .inl fw1)), (w2, .inl (cI, 10, .inl fw2))] sz) [(h0, .inr (10, [.ref tp, h0_courtReader, h0_lawReader, h0_draft, .ref aC, h0_laws, .ref g0, .ref k0, .ref ac, .ref sd, .ref mi, .ref dw, .ref rf, .int lc, .int lh, .int br, .int hi])), (aC, .inr (1, [.ref aR, .ref aB, .ref aP, .int nb, .int np])), (aB, .inl (cI, 24, .inl fb)), (g0, .inr (7, [.ref gY, .ref gF, .ref gP, .int gpn, .int glt, .int gsh, .int gwd, .int gpu, .int gmo])), (gF, .inl (cI, 5, .inl gfF)), (sd, .inr (8, [.ref w1, .ref w2, .ref aC, .ref g0, .ref aL, .ref aK, .null])), (w1, .inl (cI, 10, .inl u.1)), (w2, .inl (cI, 10, .inl u.2))]) (va_A [(h0, .inr (10, [.ref tp, h0_courtReader, h0_lawReader, h0_draft, .ref aC, h0_laws, .ref g0, .ref k0, .ref ac, .ref sd, .ref mi, .ref dw, .ref rf, .int lc, .int lh, .int br, .int hi])), (aC, .inr (1, [.ref aR, .ref aB, .ref aP, .int nb, .int np])), (aB, .inl (cI, 24, .inl fb)), (g0, .inr (7, [.ref gY, .ref gF, .ref gP, .int gpn, .int glt, .int gsh, .int gwd, .int gpu, .int gmo])), (gF, .inl (cI, 5, .inl gfF)), (sd, .inr (8, [.ref w1, .ref w2, .ref aC, .ref g0, .ref aL, .ref aK, .null])), (w1, .inl (cI, 10, .inl fw1)), (w2, .inl (cI, 10, .inl fw2))] sz)) 0 0 (va_A [(h0, .inr (10, [.ref tp, h0_courtReader, h0_lawReader, h0_draft, .ref aC, h0_laws, .ref g0, .ref k0, .ref ac, .ref sd, .ref mi, .ref dw, .ref rf, .int lc, .int lh, .int br, .int hi])), (aC, .inr (1, [.ref aR, .ref aB, .ref aP, .int nb, .int np])), (aB, .inl (cI, 24, .inl fb)), (g0, .inr (7, [.ref gY, .ref gF, .ref gP, .int gpn, .int glt, .int gsh, .int gwd, .int gpu, .int gmo])), (gF, .inl (cI, 5, .inl gfF)), (sd, .inr (8, [.ref w1, .ref w2, .ref aC, .ref g0, .ref aL, .ref aK, .null])), (w1, .inl (cI, 10, .inl fw1)), (w2, .inl (cI, 10, .inl fw2))] sz) := by
  refine Met.ofW (cc := cX10_rests) (maxL := 8) (ret := (some .int)) (by decide) rfl ?_
  intro p e s m args below meth c s₁ B hml hv
  have y_gpn : zHid (0 ≤ gpn.toInt ∧ gpn.toInt ≤ 20) := n_gpn
  have y_gwd : zHid ((-1) ≤ gwd.toInt ∧ gwd.toInt ≤ 5) := n_gwd
  have y_hi : zHid (0 ≤ hi.toInt ∧ hi.toInt ≤ 1) := n_hi
  have y_lc : zHid (0 ≤ lc.toInt ∧ lc.toInt ≤ 4) := n_lc
  clear n_gpn n_gwd n_hi n_lc
  obtain ⟨hargs, hsz, hP, hK, hT⟩ := hv
  have hx := B.exec
  have hb := B.bytes
  have hr := B.returns
  have hts : ∀ w ∈ wA, w.before args s = true := fun w h => atoms_spec (ws := .code yX10_rests cX10_rests 8 (some .int) :: wA) B.pre w (List.mem_cons_of_mem _ h)
  have hown : s.vm.findClass RX10 = some m.cls := findClass_of_methodNamed B.named
  have hlocks := B.notSynchronized
  subst hsz
  have hD := hT.self (sz := s.heap.size)
  generalize hAe : va_A [(h0, .inr (10, [.ref tp, h0_courtReader, h0_lawReader, h0_draft, .ref aC, h0_laws, .ref g0, .ref k0, .ref ac, .ref sd, .ref mi, .ref dw, .ref rf, .int lc, .int lh, .int br, .int hi])), (aC, .inr (1, [.ref aR, .ref aB, .ref aP, .int nb, .int np])), (aB, .inl (cI, 24, .inl fb)), (g0, .inr (7, [.ref gY, .ref gF, .ref gP, .int gpn, .int glt, .int gsh, .int gwd, .int gpu, .int gmo])), (gF, .inl (cI, 5, .inl gfF)), (sd, .inr (8, [.ref w1, .ref w2, .ref aC, .ref g0, .ref aL, .ref aK, .null])), (w1, .inl (cI, 10, .inl fw1)), (w2, .inl (cI, 10, .inl fw2))] s.heap.size = A at hD ⊢
  have hA : ∀ q : Nat, s.heap.size ≤ q → A q := fun q h => by rw [← hAe]; exact Or.inr h
  have hl := lv_entry ([.ref h0, .int p0, .int p1, .int p2, .int p3]) (n := 8) (Nat.le_of_ble_eq_true rfl)
  rw [show entryFrame m args 8 = entryFrame m ([.ref h0, .int p0, .int p1, .int p2, .int p3] : List Value).toArray 8 by rw [hargs], lg_entry_eq]
  generalize (lg_sl ([.ref h0, .int p0, .int p1, .int p2, .int p3]) ++ List.replicate (8 - (lg_sl ([.ref h0, .int p0, .int p1, .int p2, .int p3])).length) Slot.unset).toArray = ls at hl ⊢
  have hl : lv_has ls 8 [(0, .ref h0), (1, .int p0), (2, .int p1), (3, .int p2), (4, .int p3)] := hl
  refine zstart (fun H hH => ?_)
  rw [← hH] at hP
  have hS : va_S A s.heap H [] := by rw [hH]; exact va_S.rf
  generalize ([] : List Loc) = locs at hS ⊢
  refine zgen (fun R Q hR hQ => ?_)
  refine lv_aload_n hx hb dX10_rests_0 rfl (lv_at hl 0 rfl) ?_
  refine lv_iload_n hx hb dX10_rests_1 rfl (lv_at hl 1 rfl) ?_
  refine lv_iload_n hx hb dX10_rests_2 rfl (lv_at hl 2 rfl) ?_
  refine lv_iload_n hx hb dX10_rests_3 rfl (lv_at hl 3 rfl) ?_
  obtain ⟨hPc, hDc⟩ := zc2 (wc := [(h0, .inr (10, [.ref tp, h0_courtReader, h0_lawReader, h0_draft, .ref aC, h0_laws, .ref g0, .ref k0, .ref ac, .ref sd, .ref mi, .ref dw, .ref rf, .int lc, .int lh, .int br, .int hi])), (aC, .inr (1, [.ref aR, .ref aB, .ref aP, .int nb, .int np]))]) hP hD [0, 1] (by decide +kernel) rfl
  have hFc := zfr hS hA
  refine va_calli (va_runV (As := [.int p0, .int p1, .int p2]) (rest := []) ⟨hx, hb, hml, hown, hts⟩ (g_X10_canPlay l dC dI cI cJ h0 p0 p1 p2 tp h0_courtReader h0_lawReader h0_draft aC h0_laws g0 k0 ac sd mi dw rf lc lh br hi aR aB aP nb np H.size y_hi y_lc n_nb n_np) (cwV 3 hts (zgV qw931 qw933 qw25 qw98 qw934) rfl rfl rfl hd_X10_canPlay ⟨by rw [hR]; exact Nat.le_of_ble_eq_true rfl, by rw [hR]; exact Nat.le_of_ble_eq_true rfl⟩) (zPV hPc hK hDc (va_recv (q := (RX10, TX10, 17)) hK hP (ci := 10) (q0 := 0) rfl rfl)) rfl rfl hl.1 rfl (lv_room (Nat.le_of_ble_eq_true rfl)) dX10_rests_4 ⟨Nat.zero_le _, Nat.zero_le _⟩) hS (fun q _ h => hFc q h) hFc (fun v4 u4 t H locs ht hvm hw hB hz1 hk1 hS9 => ?_)
  replace hP := zkeep hP hk1
  replace hS := hS9
  clear hPc hDc hFc hk1 hz1 hvm hS9
  obtain ⟨f4_0, f4_1, f4_2, f4_3, f4_4⟩ : (0 ≤ v4.toInt) ∧ (v4.toInt ≤ 1) ∧ (¬ v4.toInt = 0 → (0 ≤ p0.toInt ∧ p0.toInt < nb.toInt ∧ 0 ≤ p1.toInt ∧ p1.toInt < nb.toInt ∧ 0 ≤ p2.toInt ∧ p2.toInt < np.toInt)) ∧ (¬ v4.toInt = 0 → ¬ p0.toInt = p1.toInt) ∧ (v4.toInt = 0 → ¬ ((0 ≤ p0.toInt ∧ p0.toInt < nb.toInt) ∧ (0 ≤ p1.toInt ∧ p1.toInt < nb.toInt) ∧ ¬ p0.toInt = p1.toInt ∧ 0 ≤ p2.toInt ∧ p2.toInt < np.toInt)) := hw
  refine lv_if_eq (tgt := 16) hx hb dX10_rests_7 (by decide) (fun c7 => ?_) (fun c7 => ?_)
  · have c7 : v4.toInt = 0 := z5 rfl (by decide) c7
    refine lv_iconst (v := (-1)) hx hb dX10_rests_16 (by decide) ?_
    have zr0 : ((-1) : Int32).toInt = (-1) := by decide
    rw [hQ]
    exact W.iret (v := ((-1))) hx hb hr (fun t ht hW => ⟨⟨(-1), (fw1, fw2), rfl, ⟨by (try dsimp only); omega, by (try dsimp only); omega, by (try dsimp only); exact fun kc kT q_fr q_fp q_gfY q_gfP q_fR q_pl q_cn q_frf hc hb h => by unfold sV_res; exact (if_neg (fun y => by obtain ⟨⟨a1, a2, a3, a4⟩, a5⟩ := y; omega)).symm⟩, ⟨by rw [ht]; exact hP, hD⟩⟩, hS.F ht⟩) hS.2.2 dX10_rests_17
  · have c7 : ¬ v4.toInt = 0 := z6 rfl (by decide) c7
    refine lv_iload hx hb dX10_rests_10 (lv_at hl 4 rfl) ?_
    refine lv_iconst (v := (-1)) hx hb dX10_rests_12 (by decide) ?_
    refine lv_icmp_ge (tgt := 18) hx hb dX10_rests_13 (by decide) (fun c13 => ?_) (fun c13 => ?_)
    · have c13 : (-1) ≤ p3.toInt := z3 (by decide) rfl c13
      refine lv_aload_n hx hb dX10_rests_18 rfl (lv_at hl 0 rfl) ?_
      refine va_get (D := (dC, dI)) (ci := 10) (v := .ref sd) (C := RX10) (T := TX10) (N := 17) hx hb hts iX10 hown hK hP 0 rfl rfl 9 (by decide) (hts _ qw365) (fun _ h9 => h9) rfl dX10_rests_19 ?_
      refine lv_iload_n hx hb dX10_rests_22 rfl (lv_at hl 3 rfl) ?_
      refine lv_iload_n hx hb dX10_rests_23 rfl (lv_at hl 1 rfl) ?_
      refine lv_aload_n hx hb dX10_rests_24 rfl (lv_at hl 0 rfl) ?_
      refine va_get (D := (dC, dI)) (ci := 10) (v := .ref sd) (C := RX10) (T := TX10) (N := 17) hx hb hts iX10 hown hK hP 0 rfl rfl 9 (by decide) (hts _ qw365) (fun _ h9 => h9) rfl dX10_rests_25 ?_
      refine va_get (D := (dC, dI)) (ci := 8) (v := .ref w1) (C := RX8) (T := TX8) (N := 7) hx hb hts iX8 hown hK hP 5 rfl rfl 0 (by decide) (hts _ qw286) (fun _ h9 => h9) rfl dX10_rests_28 ?_
      obtain ⟨hPc, hDc, hFc⟩ := zc3 (wc := [(sd, .inr (8, [.ref w1, .ref w2, .ref aC, .ref g0, .ref aL, .ref aK, .null])), (aC, .inr (1, [.ref aR, .ref aB, .ref aP, .int nb, .int np])), (aB, .inl (cI, 24, .inl fb)), (g0, .inr (7, [.ref gY, .ref gF, .ref gP, .int gpn, .int glt, .int gsh, .int gwd, .int gpu, .int gmo])), (gF, .inl (cI, 5, .inl gfF)), (w1, .inl (cI, 10, .inl fw1))]) hP hD hS hA [5, 1, 2, 3, 4, 6] (by decide +kernel) rfl
      refine va_callv (va_runV (As := [.int p2, .int p0, .ref w1]) (rest := []) ⟨hx, hb, hml, hown, hts⟩ (g_X8_fillLooks_n l dC dI cI cJ sd p2 p0 w1 w1 w2 aC g0 aL aK aR aB aP nb np fb gY gF gP gpn glt gsh gwd gpu gmo gfF fw1 H.size (by omega) (by omega)) (cwV 3 hts (zgV qw944 qw945 qw946 qw105 qw947) rfl rfl rfl hd_X8_fillLooks ⟨by rw [hR]; exact Nat.le_of_ble_eq_true rfl, by rw [hR]; exact Nat.le_of_ble_eq_true rfl⟩) (zPV hPc hK hDc (va_recv (q := (RX8, TX8, 7)) hK hP (ci := 8) (q0 := 5) rfl rfl)) rfl rfl hl.1 rfl (lv_room (Nat.le_of_ble_eq_true rfl)) dX10_rests_31 ⟨Nat.zero_le _, Nat.zero_le _⟩) hS (fun q _ h => hFc q h) hFc (fun u31 t H locs ht hvm hw hB hz1 hk1 hS9 => ?_)
      obtain ⟨u31_0, rfl⟩ : ∃ z, z = u31 := ⟨_, rfl⟩
      obtain ⟨hP9, hD9⟩ := zj2 (wX := [(h0, .inr (10, [.ref tp, h0_courtReader, h0_lawReader, h0_draft, .ref aC, h0_laws, .ref g0, .ref k0, .ref ac, .ref sd, .ref mi, .ref dw, .ref rf, .int lc, .int lh, .int br, .int hi])), (aC, .inr (1, [.ref aR, .ref aB, .ref aP, .int nb, .int np])), (aB, .inl (cI, 24, .inl fb)), (g0, .inr (7, [.ref gY, .ref gF, .ref gP, .int gpn, .int glt, .int gsh, .int gwd, .int gpu, .int gmo])), (gF, .inl (cI, 5, .inl gfF)), (sd, .inr (8, [.ref w1, .ref w2, .ref aC, .ref g0, .ref aL, .ref aK, .null])), (w1, .inl (cI, 10, .inl u31_0)), (w2, .inl (cI, 10, .inl fw2))]) hP hD hk1 hFc ht hB [5, 1, 2, 3, 4, 6] [(false, 0), (true, 1), (true, 2), (true, 3), (true, 4), (true, 0), (true, 5), (false, 7)] rfl (by decide +kernel) (by decide +kernel) rfl
      clear hP hD hS hPc hDc hFc hB hk1 hz1 hvm
      have hP := hP9
      have hD := hD9
      have hS := hS9
      clear hP9 hD9 hS9
      have f31_0 : (∀ (kc : zK3) (kT : zT) (q_fr : Nat → Int32) (q_fp : Nat → Int32) (q_gfY : Nat → Int32) (q_gfP : Nat → Int32), zCn q_fr fb q_fp nb.toInt np.toInt kc → zKo nb.toInt np.toInt kc kT → zSc nb.toInt np.toInt kT.1 q_gfY gfF q_gfP gpn glt gsh gwd gpu gmo → (0 ≤ p2.toInt ∧ p2.toInt < np.toInt) → (0 ≤ p0.toInt ∧ p0.toInt < nb.toInt) → ∀ j : Nat, j < 10 → u31_0 j = sRow kc kT.1 none p2 p0 j) := hw
      have F31 := f31_0
      refine lv_aload_n hx hb dX10_rests_34 rfl (lv_at hl 0 rfl) ?_
      refine va_get (D := (dC, dI)) (ci := 10) (v := .ref sd) (C := RX10) (T := TX10) (N := 17) hx hb hts iX10 hown hK hP 0 rfl rfl 9 (by decide) (hts _ qw365) (fun _ h9 => h9) rfl dX10_rests_35 ?_
      refine lv_iload_n hx hb dX10_rests_38 rfl (lv_at hl 3 rfl) ?_
      refine lv_iload_n hx hb dX10_rests_39 rfl (lv_at hl 2 rfl) ?_
      refine lv_aload_n hx hb dX10_rests_40 rfl (lv_at hl 0 rfl) ?_
      refine va_get (D := (dC, dI)) (ci := 10) (v := .ref sd) (C := RX10) (T := TX10) (N := 17) hx hb hts iX10 hown hK hP 0 rfl rfl 9 (by decide) (hts _ qw365) (fun _ h9 => h9) rfl dX10_rests_41 ?_
      refine va_get (D := (dC, dI)) (ci := 8) (v := .ref w2) (C := RX8) (T := TX8) (N := 7) hx hb hts iX8 hown hK hP 5 rfl rfl 1 (by decide) (hts _ qw288) (fun _ h9 => h9) rfl dX10_rests_44 ?_
      obtain ⟨hPc, hDc, hFc⟩ := zc3 (wc := [(sd, .inr (8, [.ref w1, .ref w2, .ref aC, .ref g0, .ref aL, .ref aK, .null])), (aC, .inr (1, [.ref aR, .ref aB, .ref aP, .int nb, .int np])), (aB, .inl (cI, 24, .inl fb)), (g0, .inr (7, [.ref gY, .ref gF, .ref gP, .int gpn, .int glt, .int gsh, .int gwd, .int gpu, .int gmo])), (gF, .inl (cI, 5, .inl gfF)), (w2, .inl (cI, 10, .inl fw2))]) hP hD hS hA [5, 1, 2, 3, 4, 7] (by decide +kernel) rfl
      refine va_callv (va_runV (As := [.int p2, .int p1, .ref w2]) (rest := []) ⟨hx, hb, hml, hown, hts⟩ (g_X8_fillLooks_n l dC dI cI cJ sd p2 p1 w2 w1 w2 aC g0 aL aK aR aB aP nb np fb gY gF gP gpn glt gsh gwd gpu gmo gfF fw2 H.size (by omega) (by omega)) (cwV 3 hts (zgV qw944 qw945 qw946 qw105 qw947) rfl rfl rfl hd_X8_fillLooks ⟨by rw [hR]; exact Nat.le_of_ble_eq_true rfl, by rw [hR]; exact Nat.le_of_ble_eq_true rfl⟩) (zPV hPc hK hDc (va_recv (q := (RX8, TX8, 7)) hK hP (ci := 8) (q0 := 5) rfl rfl)) rfl rfl hl.1 rfl (lv_room (Nat.le_of_ble_eq_true rfl)) dX10_rests_47 ⟨Nat.zero_le _, Nat.zero_le _⟩) hS (fun q _ h => hFc q h) hFc (fun u47 t H locs ht hvm hw hB hz1 hk1 hS9 => ?_)
      obtain ⟨u47_0, rfl⟩ : ∃ z, z = u47 := ⟨_, rfl⟩
      obtain ⟨hP9, hD9⟩ := zj2 (wX := [(h0, .inr (10, [.ref tp, h0_courtReader, h0_lawReader, h0_draft, .ref aC, h0_laws, .ref g0, .ref k0, .ref ac, .ref sd, .ref mi, .ref dw, .ref rf, .int lc, .int lh, .int br, .int hi])), (aC, .inr (1, [.ref aR, .ref aB, .ref aP, .int nb, .int np])), (aB, .inl (cI, 24, .inl fb)), (g0, .inr (7, [.ref gY, .ref gF, .ref gP, .int gpn, .int glt, .int gsh, .int gwd, .int gpu, .int gmo])), (gF, .inl (cI, 5, .inl gfF)), (sd, .inr (8, [.ref w1, .ref w2, .ref aC, .ref g0, .ref aL, .ref aK, .null])), (w1, .inl (cI, 10, .inl u31_0)), (w2, .inl (cI, 10, .inl u47_0))]) hP hD hk1 hFc ht hB [5, 1, 2, 3, 4, 7] [(false, 0), (true, 1), (true, 2), (true, 3), (true, 4), (true, 0), (false, 6), (true, 5)] rfl (by decide +kernel) (by decide +kernel) rfl
      clear hP hD hS hPc hDc hFc hB hk1 hz1 hvm
      have hP := hP9
      have hD := hD9
      have hS := hS9
      clear hP9 hD9 hS9
      have f47_0 : (∀ (kc : zK3) (kT : zT) (q_fr : Nat → Int32) (q_fp : Nat → Int32) (q_gfY : Nat → Int32) (q_gfP : Nat → Int32), zCn q_fr fb q_fp nb.toInt np.toInt kc → zKo nb.toInt np.toInt kc kT → zSc nb.toInt np.toInt kT.1 q_gfY gfF q_gfP gpn glt gsh gwd gpu gmo → (0 ≤ p2.toInt ∧ p2.toInt < np.toInt) → (0 ≤ p1.toInt ∧ p1.toInt < nb.toInt) → ∀ j : Nat, j < 10 → u47_0 j = sRow kc kT.1 none p2 p1 j) := hw
      have F47 := f47_0
      refine lv_iconst (v := 0) hx hb dX10_rests_50 (by decide) ?_
      refine lv_istore (lv' := [(5, .int 0), (0, .ref h0), (1, .int p0), (2, .int p1), (3, .int p2), (4, .int p3)]) hx hb dX10_rests_51 hl (by decide) rfl (fun ls hl => ?_)
      refine lv_iconst (v := 0) hx hb dX10_rests_53 (by decide) ?_
      have J56 : ∀ (n : Nat) (m56_L_5 : Int32) (m56_L_6 : Int32), (0 ≤ m56_L_5.toInt ∧ m56_L_5.toInt ≤ 100) → (0 ≤ m56_L_6.toInt ∧ m56_L_6.toInt ≤ 10) → (zRt u31_0 u47_0 p3.toInt m56_L_5 (10 * m56_L_6.toInt.toNat)) → (11 - m56_L_6.toInt).toNat = n → ∀ (H : Heap) (locs : List Loc) (ls : Array Slot), va_P (dC, dI) vwCl [(h0, .inr (10, [.ref tp, h0_courtReader, h0_lawReader, h0_draft, .ref aC, h0_laws, .ref g0, .ref k0, .ref ac, .ref sd, .ref mi, .ref dw, .ref rf, .int lc, .int lh, .int br, .int hi])), (aC, .inr (1, [.ref aR, .ref aB, .ref aP, .int nb, .int np])), (aB, .inl (cI, 24, .inl fb)), (g0, .inr (7, [.ref gY, .ref gF, .ref gP, .int gpn, .int glt, .int gsh, .int gwd, .int gpu, .int gmo])), (gF, .inl (cI, 5, .inl gfF)), (sd, .inr (8, [.ref w1, .ref w2, .ref aC, .ref g0, .ref aL, .ref aK, .null])), (w1, .inl (cI, 10, .inl u31_0)), (w2, .inl (cI, 10, .inl u47_0))] H → va_D A [(h0, .inr (10, [.ref tp, h0_courtReader, h0_lawReader, h0_draft, .ref aC, h0_laws, .ref g0, .ref k0, .ref ac, .ref sd, .ref mi, .ref dw, .ref rf, .int lc, .int lh, .int br, .int hi])), (aC, .inr (1, [.ref aR, .ref aB, .ref aP, .int nb, .int np])), (aB, .inl (cI, 24, .inl fb)), (g0, .inr (7, [.ref gY, .ref gF, .ref gP, .int gpn, .int glt, .int gsh, .int gwd, .int gpu, .int gmo])), (gF, .inl (cI, 5, .inl gfF)), (sd, .inr (8, [.ref w1, .ref w2, .ref aC, .ref g0, .ref aL, .ref aK, .null])), (w1, .inl (cI, 10, .inl u31_0)), (w2, .inl (cI, 10, .inl u47_0))] → va_S A s.heap H locs → lv_has ls 8 [(6, .int m56_L_6), (5, .int m56_L_5), (0, .ref h0), (1, .int p0), (2, .int p1), (3, .int p2), (4, .int p3)] → W p l e R s m args below meth c H locs 0 0 Q (F0 m 56 ls []) := by
        intro n56
        induction n56 using Nat.strongRecOn with
        | _ n56 ih56 =>
          intro m56_L_5 m56_L_6 jf56_0 jf56_1 jv56_0 hmu56 H locs ls hP hD hS hl
          refine lv_iload hx hb dX10_rests_56 (lv_at hl 0 rfl) ?_
          refine lv_bipush (v := 9) hx hb dX10_rests_58 (by decide) ?_
          refine lv_icmp_gt (tgt := 157) hx hb dX10_rests_60 (by decide) (fun c60 => ?_) (fun c60 => ?_)
          · have c60 : 9 < m56_L_6.toInt := z1 (by decide) rfl c60
            refine lv_iload hx hb dX10_rests_157 (lv_at hl 6 rfl) ?_
            refine lv_iconst (v := (-1)) hx hb dX10_rests_159 (by decide) ?_
            refine lv_icmp_ne (tgt := 168) hx hb dX10_rests_160 (by decide) (fun c160 => ?_) (fun c160 => ?_)
            · have c160 : ¬ p3.toInt = (-1) := z6 rfl (by decide) c160
              refine lv_iconst (v := (-1)) hx hb dX10_rests_168 (by decide) ?_
              have zr0 : ((-1) : Int32).toInt = (-1) := by decide
              rw [hQ]
              exact W.iret (v := ((-1))) hx hb hr (fun t ht hW => ⟨⟨(-1), (u31_0, u47_0), rfl, ⟨by (try dsimp only); omega, by (try dsimp only); omega, by (try dsimp only); exact fun kc kT q_fr q_fp q_gfY q_gfP q_fR q_pl q_cn q_frf hc hb h => by have f1 := F31 kc kT _ _ _ _ hc hb h.1 (by omega) (by omega); have f2 := F47 kc kT _ _ _ _ hc hb h.1 (by omega) (by omega); unfold sV_res; rw [if_pos ⟨⟨by omega, by omega, by omega, by omega⟩, by omega⟩]; rw [if_neg (by omega), ← sRi_c f1 f2 100 (Nat.le_refl _), show (100 : Nat) = 10 * m56_L_6.toInt.toNat by omega, jv56_0.2 (by omega)]; decide⟩, ⟨by rw [ht]; exact hP, hD⟩⟩, hS.F ht⟩) hS.2.2 dX10_rests_169
            · have c160 : p3.toInt = (-1) := z5 rfl (by decide) c160
              refine lv_iload hx hb dX10_rests_163 (lv_at hl 1 rfl) ?_
              refine lv_goto (tgt := 169) hx hb dX10_rests_165 (by decide) ?_
              rw [hQ]
              exact W.iret (v := m56_L_5) hx hb hr (fun t ht hW => ⟨⟨m56_L_5, (u31_0, u47_0), rfl, ⟨by (try dsimp only); omega, by (try dsimp only); omega, by (try dsimp only); exact fun kc kT q_fr q_fp q_gfY q_gfP q_fR q_pl q_cn q_frf hc hb h => by have f1 := F31 kc kT _ _ _ _ hc hb h.1 (by omega) (by omega); have f2 := F47 kc kT _ _ _ _ hc hb h.1 (by omega) (by omega); unfold sV_res; rw [if_pos ⟨⟨by omega, by omega, by omega, by omega⟩, by omega⟩]; rw [if_pos (by omega), ← sRc_c f1 f2 100 (Nat.le_refl _), show (100 : Nat) = 10 * m56_L_6.toInt.toNat by omega]; exact jv56_0.1⟩, ⟨by rw [ht]; exact hP, hD⟩⟩, hS.F ht⟩) hS.2.2 dX10_rests_169
          · have c60 : m56_L_6.toInt ≤ 9 := z2 (by decide) rfl c60
            refine lv_iconst (v := 0) hx hb dX10_rests_63 (by decide) ?_
            have J66 : ∀ (n : Nat) (m66_L_5 : Int32) (m66_L_7 : Int32), (0 ≤ m66_L_5.toInt ∧ m66_L_5.toInt ≤ 100) → (0 ≤ m66_L_7.toInt ∧ m66_L_7.toInt ≤ 10) → (zRt u31_0 u47_0 p3.toInt m66_L_5 (10 * m56_L_6.toInt.toNat + m66_L_7.toInt.toNat)) → (11 - m66_L_7.toInt).toNat = n → ∀ (H : Heap) (locs : List Loc) (ls : Array Slot), va_P (dC, dI) vwCl [(h0, .inr (10, [.ref tp, h0_courtReader, h0_lawReader, h0_draft, .ref aC, h0_laws, .ref g0, .ref k0, .ref ac, .ref sd, .ref mi, .ref dw, .ref rf, .int lc, .int lh, .int br, .int hi])), (aC, .inr (1, [.ref aR, .ref aB, .ref aP, .int nb, .int np])), (aB, .inl (cI, 24, .inl fb)), (g0, .inr (7, [.ref gY, .ref gF, .ref gP, .int gpn, .int glt, .int gsh, .int gwd, .int gpu, .int gmo])), (gF, .inl (cI, 5, .inl gfF)), (sd, .inr (8, [.ref w1, .ref w2, .ref aC, .ref g0, .ref aL, .ref aK, .null])), (w1, .inl (cI, 10, .inl u31_0)), (w2, .inl (cI, 10, .inl u47_0))] H → va_D A [(h0, .inr (10, [.ref tp, h0_courtReader, h0_lawReader, h0_draft, .ref aC, h0_laws, .ref g0, .ref k0, .ref ac, .ref sd, .ref mi, .ref dw, .ref rf, .int lc, .int lh, .int br, .int hi])), (aC, .inr (1, [.ref aR, .ref aB, .ref aP, .int nb, .int np])), (aB, .inl (cI, 24, .inl fb)), (g0, .inr (7, [.ref gY, .ref gF, .ref gP, .int gpn, .int glt, .int gsh, .int gwd, .int gpu, .int gmo])), (gF, .inl (cI, 5, .inl gfF)), (sd, .inr (8, [.ref w1, .ref w2, .ref aC, .ref g0, .ref aL, .ref aK, .null])), (w1, .inl (cI, 10, .inl u31_0)), (w2, .inl (cI, 10, .inl u47_0))] → va_S A s.heap H locs → lv_has ls 8 [(7, .int m66_L_7), (6, .int m56_L_6), (5, .int m66_L_5), (0, .ref h0), (1, .int p0), (2, .int p1), (3, .int p2), (4, .int p3)] → W p l e R s m args below meth c H locs 0 0 Q (F0 m 66 ls []) := by
              intro n66
              induction n66 using Nat.strongRecOn with
              | _ n66 ih66 =>
                intro m66_L_5 m66_L_7 jf66_0 jf66_1 jv66_0 hmu66 H locs ls hP hD hS hl
                refine lv_iload hx hb dX10_rests_66 (lv_at hl 0 rfl) ?_
                refine lv_bipush (v := 9) hx hb dX10_rests_68 (by decide) ?_
                refine lv_icmp_gt (tgt := 151) hx hb dX10_rests_70 (by decide) (fun c70 => ?_) (fun c70 => ?_)
                · have c70 : 9 < m66_L_7.toInt := z1 (by decide) rfl c70
                  obtain ⟨v151, e151⟩ : ∃ y : Int32, y = m56_L_6 + Int32.ofInt (1) := ⟨_, rfl⟩
                  refine lv_iinc (v := v151) (lv' := [(6, .int v151), (7, .int m66_L_7), (5, .int m66_L_5), (0, .ref h0), (1, .int p0), (2, .int p1), (3, .int p2), (4, .int p3)]) hx hb dX10_rests_151 hl (k := 1) rfl e151.symm (by decide) rfl (fun ls hl => ?_)
                  have i151 : v151.toInt = m56_L_6.toInt + 1 := zaddI e151 (by decide) (by omega) (by omega)
                  refine lv_goto (tgt := 56) hx hb dX10_rests_154 (by decide) ?_
                  exact ih56 _ (by omega) m66_L_5 v151 jf66_0 (by omega) (by have z := jv66_0; rw [show 10 * v151.toInt.toNat = 10 * m56_L_6.toInt.toNat + m66_L_7.toInt.toNat by omega]; exact z) rfl H locs ls hP hD hS (lv_sub hl [0, 2, 3, 4, 5, 6, 7] rfl)
                · have c70 : m66_L_7.toInt ≤ 9 := z2 (by decide) rfl c70
                  refine lv_aload_n hx hb dX10_rests_73 rfl (lv_at hl 3 rfl) ?_
                  refine va_get (D := (dC, dI)) (ci := 10) (v := .ref sd) (C := RX10) (T := TX10) (N := 17) hx hb hts iX10 hown hK hP 0 rfl rfl 9 (by decide) (hts _ qw365) (fun _ h9 => h9) rfl dX10_rests_74 ?_
                  refine va_get (D := (dC, dI)) (ci := 8) (v := .ref w1) (C := RX8) (T := TX8) (N := 7) hx hb hts iX8 hown hK hP 5 rfl rfl 0 (by decide) (hts _ qw286) (fun _ h9 => h9) rfl dX10_rests_77 ?_
                  refine lv_iload hx hb dX10_rests_80 (lv_at hl 1 rfl) ?_
                  refine lv_aload_n hx hb dX10_rests_82 rfl (lv_at hl 3 rfl) ?_
                  refine va_get (D := (dC, dI)) (ci := 10) (v := .ref sd) (C := RX10) (T := TX10) (N := 17) hx hb hts iX10 hown hK hP 0 rfl rfl 9 (by decide) (hts _ qw365) (fun _ h9 => h9) rfl dX10_rests_83 ?_
                  refine va_get (D := (dC, dI)) (ci := 8) (v := .ref w2) (C := RX8) (T := TX8) (N := 7) hx hb hts iX8 hown hK hP 5 rfl rfl 1 (by decide) (hts _ qw288) (fun _ h9 => h9) rfl dX10_rests_86 ?_
                  refine lv_iload hx hb dX10_rests_89 (lv_at hl 0 rfl) ?_
                  refine va_iald hx hb hK hP 7 0 rfl rfl (vp_in_iff.mpr ⟨by omega, by omega⟩) dX10_rests_91 ?_
                  refine lv_topi (fun v91 e91 => ?_)
                  obtain ⟨hPc, hDc⟩ := zc2 (wc := [(w1, .inl (cI, 10, .inl u31_0))]) hP hD [6] (by decide +kernel) rfl
                  have hFc := zfr hS hA
                  refine va_calli (va_runS (As := [.ref w1, .int m56_L_6, .int v91]) (rest := []) ⟨hx, hb, hml, hown, hts⟩ (g_X10_bestAgainst l dC dI cI cJ w1 m56_L_6 v91 u31_0 H.size (by omega)) (cwS 3 hts (zgS qw949 qw950 qw98 qw951) rfl rfl rfl hd_X10_bestAgainst ⟨by rw [hR]; exact Nat.le_of_ble_eq_true rfl, by rw [hR]; exact Nat.le_of_ble_eq_true rfl⟩) (zPS hPc hK hDc) rfl rfl hl.1 rfl (lv_room (Nat.le_of_ble_eq_true rfl)) dX10_rests_92 ⟨Nat.zero_le _, Nat.zero_le _⟩) hS (fun q _ h => hFc q h) hFc (fun v92 u92 t H locs ht hvm hw hB hz1 hk1 hS9 => ?_)
                  replace hP := zkeep hP hk1
                  replace hS := hS9
                  clear hPc hDc hFc hk1 hz1 hvm hS9
                  obtain ⟨f92_0, f92_1, f92_2⟩ : (0 ≤ v92.toInt) ∧ (v92.toInt ≤ 1) ∧ ((v92.toInt = 1 ∧ sBa u31_0 m56_L_6.toInt.toNat v91) ∨ (v92.toInt = 0 ∧ ¬ sBa u31_0 m56_L_6.toInt.toNat v91)) := hw
                  have F92 := f92_2
                  refine lv_if_eq (tgt := 145) hx hb dX10_rests_95 (by decide) (fun c95 => ?_) (fun c95 => ?_)
                  · have c95 : v92.toInt = 0 := z5 rfl (by decide) c95
                    obtain ⟨v145, e145⟩ : ∃ y : Int32, y = m66_L_7 + Int32.ofInt (1) := ⟨_, rfl⟩
                    refine lv_iinc (v := v145) (lv' := [(7, .int v145), (6, .int m56_L_6), (5, .int m66_L_5), (0, .ref h0), (1, .int p0), (2, .int p1), (3, .int p2), (4, .int p3)]) hx hb dX10_rests_145 hl (k := 0) rfl e145.symm (by decide) rfl (fun ls hl => ?_)
                    have i145 : v145.toInt = m66_L_7.toInt + 1 := zaddI e145 (by decide) (by omega) (by omega)
                    refine lv_goto (tgt := 66) hx hb dX10_rests_148 (by decide) ?_
                    exact ih66 _ (by omega) m66_L_5 v145 jf66_0 (by omega) (by first | (rcases F92 with b1 | b1; rotate_left; (exfalso; omega); rcases F117 with b2 | b2; rotate_left; (exfalso; omega); exact zRtY jv66_0 (by omega) ((zRk_i (k := 10 * m56_L_6.toInt.toNat + m66_L_7.toInt.toNat) (x := m56_L_6) (y := m66_L_7) (by omega) (by omega) rfl e91 e116).mpr ⟨b1.2, b2.2⟩) (by omega) i142) | (rcases F117 with b2 | b2; (exfalso; omega); exact zRtN jv66_0 (by omega) (fun z => b2.2 ((zRk_i (k := 10 * m56_L_6.toInt.toNat + m66_L_7.toInt.toNat) (x := m56_L_6) (y := m66_L_7) (by omega) (by omega) rfl e91 e116).mp z).2)) | (rcases F92 with b1 | b1; (exfalso; omega); exact zRtN jv66_0 (by omega) (fun z => b1.2 ((zRk_i (k := 10 * m56_L_6.toInt.toNat + m66_L_7.toInt.toNat) (x := m56_L_6) (y := m66_L_7) (by omega) (by omega) rfl e91 rfl).mp z).1))) rfl H locs ls hP hD hS (lv_sub hl [0, 1, 2, 3, 4, 5, 6, 7] rfl)
                  · have c95 : ¬ v92.toInt = 0 := z6 rfl (by decide) c95
                    refine lv_aload_n hx hb dX10_rests_98 rfl (lv_at hl 3 rfl) ?_
                    refine va_get (D := (dC, dI)) (ci := 10) (v := .ref sd) (C := RX10) (T := TX10) (N := 17) hx hb hts iX10 hown hK hP 0 rfl rfl 9 (by decide) (hts _ qw365) (fun _ h9 => h9) rfl dX10_rests_99 ?_
                    refine va_get (D := (dC, dI)) (ci := 8) (v := .ref w2) (C := RX8) (T := TX8) (N := 7) hx hb hts iX8 hown hK hP 5 rfl rfl 1 (by decide) (hts _ qw288) (fun _ h9 => h9) rfl dX10_rests_102 ?_
                    refine lv_iload hx hb dX10_rests_105 (lv_at hl 0 rfl) ?_
                    refine lv_aload_n hx hb dX10_rests_107 rfl (lv_at hl 3 rfl) ?_
                    refine va_get (D := (dC, dI)) (ci := 10) (v := .ref sd) (C := RX10) (T := TX10) (N := 17) hx hb hts iX10 hown hK hP 0 rfl rfl 9 (by decide) (hts _ qw365) (fun _ h9 => h9) rfl dX10_rests_108 ?_
                    refine va_get (D := (dC, dI)) (ci := 8) (v := .ref w1) (C := RX8) (T := TX8) (N := 7) hx hb hts iX8 hown hK hP 5 rfl rfl 0 (by decide) (hts _ qw286) (fun _ h9 => h9) rfl dX10_rests_111 ?_
                    refine lv_iload hx hb dX10_rests_114 (lv_at hl 1 rfl) ?_
                    refine va_iald hx hb hK hP 6 0 rfl rfl (vp_in_iff.mpr ⟨by omega, by omega⟩) dX10_rests_116 ?_
                    refine lv_topi (fun v116 e116 => ?_)
                    obtain ⟨hPc, hDc⟩ := zc2 (wc := [(w2, .inl (cI, 10, .inl u47_0))]) hP hD [7] (by decide +kernel) rfl
                    have hFc := zfr hS hA
                    refine va_calli (va_runS (As := [.ref w2, .int m66_L_7, .int v116]) (rest := []) ⟨hx, hb, hml, hown, hts⟩ (g_X10_bestAgainst l dC dI cI cJ w2 m66_L_7 v116 u47_0 H.size (by omega)) (cwS 3 hts (zgS qw949 qw950 qw98 qw951) rfl rfl rfl hd_X10_bestAgainst ⟨by rw [hR]; exact Nat.le_of_ble_eq_true rfl, by rw [hR]; exact Nat.le_of_ble_eq_true rfl⟩) (zPS hPc hK hDc) rfl rfl hl.1 rfl (lv_room (Nat.le_of_ble_eq_true rfl)) dX10_rests_117 ⟨Nat.zero_le _, Nat.zero_le _⟩) hS (fun q _ h => hFc q h) hFc (fun v117 u117 t H locs ht hvm hw hB hz1 hk1 hS9 => ?_)
                    replace hP := zkeep hP hk1
                    replace hS := hS9
                    clear hPc hDc hFc hk1 hz1 hvm hS9
                    obtain ⟨f117_0, f117_1, f117_2⟩ : (0 ≤ v117.toInt) ∧ (v117.toInt ≤ 1) ∧ ((v117.toInt = 1 ∧ sBa u47_0 m66_L_7.toInt.toNat v116) ∨ (v117.toInt = 0 ∧ ¬ sBa u47_0 m66_L_7.toInt.toNat v116)) := hw
                    have F117 := f117_2
                    refine lv_if_ne (tgt := 126) hx hb dX10_rests_120 (by decide) (fun c120 => ?_) (fun c120 => ?_)
                    · have c120 : ¬ v117.toInt = 0 := z6 rfl (by decide) c120
                      refine lv_iload hx hb dX10_rests_126 (lv_at hl 2 rfl) ?_
                      refine lv_iload hx hb dX10_rests_128 (lv_at hl 7 rfl) ?_
                      refine lv_icmp_ne (tgt := 142) hx hb dX10_rests_130 (by decide) (fun c130 => ?_) (fun c130 => ?_)
                      · have c130 : ¬ m66_L_5.toInt = p3.toInt := z6 rfl rfl c130
                        have q142 : 0 ≤ m66_L_5.toInt ∧ m66_L_5.toInt ≤ 99 := by have z1 := jv66_0.1; have z2 := sRc_b (O1 := u31_0) (O2 := u47_0) (10 * m56_L_6.toInt.toNat + m66_L_7.toInt.toNat); omega
                        obtain ⟨v142, e142⟩ : ∃ y : Int32, y = m66_L_5 + Int32.ofInt (1) := ⟨_, rfl⟩
                        refine lv_iinc (v := v142) (lv' := [(5, .int v142), (7, .int m66_L_7), (6, .int m56_L_6), (0, .ref h0), (1, .int p0), (2, .int p1), (3, .int p2), (4, .int p3)]) hx hb dX10_rests_142 hl (k := 2) rfl e142.symm (by decide) rfl (fun ls hl => ?_)
                        have i142 : v142.toInt = m66_L_5.toInt + 1 := zaddI e142 (by decide) (by omega) (by omega)
                        obtain ⟨v145, e145⟩ : ∃ y : Int32, y = m66_L_7 + Int32.ofInt (1) := ⟨_, rfl⟩
                        refine lv_iinc (v := v145) (lv' := [(7, .int v145), (5, .int v142), (6, .int m56_L_6), (0, .ref h0), (1, .int p0), (2, .int p1), (3, .int p2), (4, .int p3)]) hx hb dX10_rests_145 hl (k := 1) rfl e145.symm (by decide) rfl (fun ls hl => ?_)
                        have i145 : v145.toInt = m66_L_7.toInt + 1 := zaddI e145 (by decide) (by omega) (by omega)
                        refine lv_goto (tgt := 66) hx hb dX10_rests_148 (by decide) ?_
                        exact ih66 _ (by omega) v142 v145 (by omega) (by omega) (by first | (rcases F92 with b1 | b1; rotate_left; (exfalso; omega); rcases F117 with b2 | b2; rotate_left; (exfalso; omega); exact zRtY jv66_0 (by omega) ((zRk_i (k := 10 * m56_L_6.toInt.toNat + m66_L_7.toInt.toNat) (x := m56_L_6) (y := m66_L_7) (by omega) (by omega) rfl e91 e116).mpr ⟨b1.2, b2.2⟩) (by omega) i142) | (rcases F117 with b2 | b2; (exfalso; omega); exact zRtN jv66_0 (by omega) (fun z => b2.2 ((zRk_i (k := 10 * m56_L_6.toInt.toNat + m66_L_7.toInt.toNat) (x := m56_L_6) (y := m66_L_7) (by omega) (by omega) rfl e91 e116).mp z).2)) | (rcases F92 with b1 | b1; (exfalso; omega); exact zRtN jv66_0 (by omega) (fun z => b1.2 ((zRk_i (k := 10 * m56_L_6.toInt.toNat + m66_L_7.toInt.toNat) (x := m56_L_6) (y := m66_L_7) (by omega) (by omega) rfl e91 rfl).mp z).1))) rfl H locs ls hP hD hS (lv_sub hl [0, 2, 1, 3, 4, 5, 6, 7] rfl)
                      · have c130 : m66_L_5.toInt = p3.toInt := z5 rfl rfl c130
                        refine lv_bipush (v := 10) hx hb dX10_rests_133 (by decide) ?_
                        refine lv_iload hx hb dX10_rests_135 (lv_at hl 1 rfl) ?_
                        refine lv_imul hx hb dX10_rests_137 ?_
                        refine lv_topi (fun v137 e137 => ?_)
                        have i137 : v137.toInt = 10 * m56_L_6.toInt := zmul e137 (by decide) rfl (by omega) (by omega)
                        refine lv_iload hx hb dX10_rests_138 (lv_at hl 0 rfl) ?_
                        refine lv_iadd hx hb dX10_rests_140 ?_
                        refine lv_topi (fun v140 e140 => ?_)
                        have i140 : v140.toInt = v137.toInt + m66_L_7.toInt := zadd e140 rfl rfl (by omega) (by omega)
                        rw [hQ]
                        exact W.iret (v := v140) hx hb hr (fun t ht hW => ⟨⟨v140, (u31_0, u47_0), rfl, ⟨by (try dsimp only); omega, by (try dsimp only); omega, by (try dsimp only); exact fun kc kT q_fr q_fp q_gfY q_gfP q_fR q_pl q_cn q_frf hc hb h => by have f1 := F31 kc kT _ _ _ _ hc hb h.1 (by omega) (by omega); have f2 := F47 kc kT _ _ _ _ hc hb h.1 (by omega) (by omega); unfold sV_res; rw [if_pos ⟨⟨by omega, by omega, by omega, by omega⟩, by omega⟩]; rw [if_neg (by omega), ← sRi_c f1 f2 100 (Nat.le_refl _), zRtR jv66_0 ((zRk_i (k := 10 * m56_L_6.toInt.toNat + m66_L_7.toInt.toNat) (x := m56_L_6) (y := m66_L_7) (by omega) (by omega) rfl e91 e116).mpr ⟨by rcases F92 with b1 | b1; exact b1.2; (exfalso; omega), by rcases F117 with b2 | b2; exact b2.2; (exfalso; omega)⟩) (by omega) (by omega) (by omega)]; omega⟩, ⟨by rw [ht]; exact hP, hD⟩⟩, hS.F ht⟩) hS.2.2 dX10_rests_141
                    · have c120 : v117.toInt = 0 := z5 rfl (by decide) c120
                      refine lv_goto (tgt := 145) hx hb dX10_rests_123 (by decide) ?_
                      obtain ⟨v145, e145⟩ : ∃ y : Int32, y = m66_L_7 + Int32.ofInt (1) := ⟨_, rfl⟩
                      refine lv_iinc (v := v145) (lv' := [(7, .int v145), (6, .int m56_L_6), (5, .int m66_L_5), (0, .ref h0), (1, .int p0), (2, .int p1), (3, .int p2), (4, .int p3)]) hx hb dX10_rests_145 hl (k := 0) rfl e145.symm (by decide) rfl (fun ls hl => ?_)
                      have i145 : v145.toInt = m66_L_7.toInt + 1 := zaddI e145 (by decide) (by omega) (by omega)
                      refine lv_goto (tgt := 66) hx hb dX10_rests_148 (by decide) ?_
                      exact ih66 _ (by omega) m66_L_5 v145 jf66_0 (by omega) (by first | (rcases F92 with b1 | b1; rotate_left; (exfalso; omega); rcases F117 with b2 | b2; rotate_left; (exfalso; omega); exact zRtY jv66_0 (by omega) ((zRk_i (k := 10 * m56_L_6.toInt.toNat + m66_L_7.toInt.toNat) (x := m56_L_6) (y := m66_L_7) (by omega) (by omega) rfl e91 e116).mpr ⟨b1.2, b2.2⟩) (by omega) i142) | (rcases F117 with b2 | b2; (exfalso; omega); exact zRtN jv66_0 (by omega) (fun z => b2.2 ((zRk_i (k := 10 * m56_L_6.toInt.toNat + m66_L_7.toInt.toNat) (x := m56_L_6) (y := m66_L_7) (by omega) (by omega) rfl e91 e116).mp z).2)) | (rcases F92 with b1 | b1; (exfalso; omega); exact zRtN jv66_0 (by omega) (fun z => b1.2 ((zRk_i (k := 10 * m56_L_6.toInt.toNat + m66_L_7.toInt.toNat) (x := m56_L_6) (y := m66_L_7) (by omega) (by omega) rfl e91 rfl).mp z).1))) rfl H locs ls hP hD hS (lv_sub hl [0, 1, 2, 3, 4, 5, 6, 7] rfl)
            refine lv_istore (lv' := [(7, .int 0), (6, .int m56_L_6), (5, .int m56_L_5), (0, .ref h0), (1, .int p0), (2, .int p1), (3, .int p2), (4, .int p3)]) hx hb dX10_rests_64 hl (by decide) rfl (fun ls hl => ?_)
            have zj66_m66_L_7 : (0 : Int32).toInt = 0 := by decide
            exact J66 _ m56_L_5 0 jf56_0 (by decide) (by have z1 : (0 : Int32).toInt.toNat = 0 := (by decide); rw [z1]; exact jv56_0) rfl H locs ls hP hD hS (lv_sub hl [0, 1, 2, 3, 4, 5, 6, 7] rfl)
      refine lv_istore (lv' := [(6, .int 0), (5, .int 0), (0, .ref h0), (1, .int p0), (2, .int p1), (3, .int p2), (4, .int p3)]) hx hb dX10_rests_54 hl (by decide) rfl (fun ls hl => ?_)
      have zj56_m56_L_5 : (0 : Int32).toInt = 0 := by decide
      have zj56_m56_L_6 : (0 : Int32).toInt = 0 := by decide
      exact J56 _ 0 0 (by decide) (by decide) (zRt_0) rfl H locs ls hP hD hS (lv_sub hl [0, 1, 2, 3, 4, 5, 6] rfl)
    · have c13 : p3.toInt < (-1) := z4 (by decide) rfl c13
      refine lv_iconst (v := (-1)) hx hb dX10_rests_16 (by decide) ?_
      have zr0 : ((-1) : Int32).toInt = (-1) := by decide
      rw [hQ]
      exact W.iret (v := ((-1))) hx hb hr (fun t ht hW => ⟨⟨(-1), (fw1, fw2), rfl, ⟨by (try dsimp only); omega, by (try dsimp only); omega, by (try dsimp only); exact fun kc kT q_fr q_fp q_gfY q_gfP q_fR q_pl q_cn q_frf hc hb h => by unfold sV_res; exact (if_neg (fun y => by obtain ⟨⟨a1, a2, a3, a4⟩, a5⟩ := y; omega)).symm⟩, ⟨by rw [ht]; exact hP, hD⟩⟩, hS.F ht⟩) hS.2.2 dX10_rests_17
set_option maxHeartbeats 4000000 in
set_option maxRecDepth 100000 in
theorem g_X10_rests_l (l : Launch) (dC : Nat → ClassId) (dI : Nat → Nat → Nat) (cI cJ : ClassId) (h0 : Nat) (p0 : Int32) (p1 : Int32) (p2 : Int32) (p3 : Int32) (tp : Nat) (h0_courtReader : Value) (h0_lawReader : Value) (h0_draft : Value) (aC : Nat) (h0_laws : Value) (g0 : Nat) (k0 : Nat) (ac : Nat) (sd : Nat) (mi : Nat) (dw : Nat) (rf : Nat) (lc : Int32) (lh : Int32) (br : Int32) (hi : Int32) (aR : Nat) (aB : Nat) (aP : Nat) (nb : Int32) (np : Int32) (fb : Nat → Int32) (fp : Nat → Int32) (gY : Nat) (gF : Nat) (gP : Nat) (gpn : Int32) (glt : Int32) (gsh : Int32) (gwd : Int32) (gpu : Int32) (gmo : Int32) (gfF : Nat → Int32) (w1 : Nat) (w2 : Nat) (aL : Nat) (aK : Nat) (lw : Nat) (fw1 : Nat → Int32) (fw2 : Nat → Int32) (fL : Nat → Int32) (fK : Nat → Int32) (lS : Nat) (fS : Nat → Int32) (lk : Nat) (sz : Nat) (n_gpn : 0 ≤ gpn.toInt ∧ gpn.toInt ≤ 20) (n_gwd : (-1) ≤ gwd.toInt ∧ gwd.toInt ≤ 5) (n_hi : 0 ≤ hi.toInt ∧ hi.toInt ≤ 1) (n_lc : 0 ≤ lc.toInt ∧ lc.toInt ≤ 4) (n_nb : 0 ≤ nb.toInt ∧ nb.toInt ≤ 6) (n_np : 0 ≤ np.toInt ∧ np.toInt ≤ 5) (hlk : lk ≤ 241) (ci_fS_zSt : zSt fS)  : Met l yX10_rests (.code yX10_rests cX10_rests 8 (some .int) :: wA) ({ frames := 4, cells := 0, slots := 0, locals := 101 }) (zP (dC, dI) [(cI, .int), (cJ, .long)] [.ref h0, .int p0, .int p1, .int p2, .int p3] sz [(h0, .inr (10, [.ref tp, h0_courtReader, h0_lawReader, h0_draft, .ref aC, h0_laws, .ref g0, .ref k0, .ref ac, .ref sd, .ref mi, .ref dw, .ref rf, .int lc, .int lh, .int br, .int hi])), (aC, .inr (1, [.ref aR, .ref aB, .ref aP, .int nb, .int np])), (aB, .inl (cI, 24, .inl fb)), (aP, .inl (cI, 20, .inl fp)), (g0, .inr (7, [.ref gY, .ref gF, .ref gP, .int gpn, .int glt, .int gsh, .int gwd, .int gpu, .int gmo])), (gF, .inl (cI, 5, .inl gfF)), (sd, .inr (8, [.ref w1, .ref w2, .ref aC, .ref g0, .ref aL, .ref aK, .ref lw])), (w1, .inl (cI, 10, .inl fw1)), (w2, .inl (cI, 10, .inl fw2)), (aL, .inl (cI, 6, .inl fL)), (aK, .inl (cI, 32, .inl fK)), (lw, .inr (4, [.ref lS])), (lS, .inl (cI, lk, .inl fS))]) (va_Qi (fun (r : Int32) (u : (Nat → Int32) × (Nat → Int32) × (Nat → Int32) × (Nat → Int32)) => ((-1) ≤ r.toInt) ∧ (r.toInt ≤ 100) ∧ (∀ (kc : zK3) (kT : zT) (q_fr : Nat → Int32) (q_gfY : Nat → Int32) (q_gfP : Nat → Int32) (q_fR : Nat → Int32) (q_pl : Int32) (q_cn : Int32) (q_frf : Nat → Int32) (kt : (Int → Int) × Int), zCn q_fr fb fp nb.toInt np.toInt kc → zKo nb.toInt np.toInt kc kT → zTc nb.toInt np.toInt kT q_gfY gfF q_gfP gpn glt gsh gwd gpu gmo q_fR q_pl q_cn q_frf → zLwC fS lk kt → r.toInt = sV_res nb.toInt np.toInt kc kT.1 (some kt) p0 p1 p2 p3)) (fun (u : (Nat → Int32) × (Nat → Int32) × (Nat → Int32) × (Nat → Int32)) (t : State) => va_P (dC, dI) vwCl [(h0, .inr (10, [.ref tp, h0_courtReader, h0_lawReader, h0_draft, .ref aC, h0_laws, .ref g0, .ref k0, .ref ac, .ref sd, .ref mi, .ref dw, .ref rf, .int lc, .int lh, .int br, .int hi])), (aC, .inr (1, [.ref aR, .ref aB, .ref aP, .int nb, .int np])), (aB, .inl (cI, 24, .inl fb)), (aP, .inl (cI, 20, .inl fp)), (g0, .inr (7, [.ref gY, .ref gF, .ref gP, .int gpn, .int glt, .int gsh, .int gwd, .int gpu, .int gmo])), (gF, .inl (cI, 5, .inl gfF)), (sd, .inr (8, [.ref w1, .ref w2, .ref aC, .ref g0, .ref aL, .ref aK, .ref lw])), (w1, .inl (cI, 10, .inl u.1)), (w2, .inl (cI, 10, .inl u.2.1)), (aL, .inl (cI, 6, .inl u.2.2.1)), (aK, .inl (cI, 32, .inl u.2.2.2)), (lw, .inr (4, [.ref lS])), (lS, .inl (cI, lk, .inl fS))] t.heap ∧ va_D (va_A [(h0, .inr (10, [.ref tp, h0_courtReader, h0_lawReader, h0_draft, .ref aC, h0_laws, .ref g0, .ref k0, .ref ac, .ref sd, .ref mi, .ref dw, .ref rf, .int lc, .int lh, .int br, .int hi])), (aC, .inr (1, [.ref aR, .ref aB, .ref aP, .int nb, .int np])), (aB, .inl (cI, 24, .inl fb)), (aP, .inl (cI, 20, .inl fp)), (g0, .inr (7, [.ref gY, .ref gF, .ref gP, .int gpn, .int glt, .int gsh, .int gwd, .int gpu, .int gmo])), (gF, .inl (cI, 5, .inl gfF)), (sd, .inr (8, [.ref w1, .ref w2, .ref aC, .ref g0, .ref aL, .ref aK, .ref lw])), (w1, .inl (cI, 10, .inl fw1)), (w2, .inl (cI, 10, .inl fw2)), (aL, .inl (cI, 6, .inl fL)), (aK, .inl (cI, 32, .inl fK)), (lw, .inr (4, [.ref lS])), (lS, .inl (cI, lk, .inl fS))] sz) [(h0, .inr (10, [.ref tp, h0_courtReader, h0_lawReader, h0_draft, .ref aC, h0_laws, .ref g0, .ref k0, .ref ac, .ref sd, .ref mi, .ref dw, .ref rf, .int lc, .int lh, .int br, .int hi])), (aC, .inr (1, [.ref aR, .ref aB, .ref aP, .int nb, .int np])), (aB, .inl (cI, 24, .inl fb)), (aP, .inl (cI, 20, .inl fp)), (g0, .inr (7, [.ref gY, .ref gF, .ref gP, .int gpn, .int glt, .int gsh, .int gwd, .int gpu, .int gmo])), (gF, .inl (cI, 5, .inl gfF)), (sd, .inr (8, [.ref w1, .ref w2, .ref aC, .ref g0, .ref aL, .ref aK, .ref lw])), (w1, .inl (cI, 10, .inl u.1)), (w2, .inl (cI, 10, .inl u.2.1)), (aL, .inl (cI, 6, .inl u.2.2.1)), (aK, .inl (cI, 32, .inl u.2.2.2)), (lw, .inr (4, [.ref lS])), (lS, .inl (cI, lk, .inl fS))]) (va_A [(h0, .inr (10, [.ref tp, h0_courtReader, h0_lawReader, h0_draft, .ref aC, h0_laws, .ref g0, .ref k0, .ref ac, .ref sd, .ref mi, .ref dw, .ref rf, .int lc, .int lh, .int br, .int hi])), (aC, .inr (1, [.ref aR, .ref aB, .ref aP, .int nb, .int np])), (aB, .inl (cI, 24, .inl fb)), (aP, .inl (cI, 20, .inl fp)), (g0, .inr (7, [.ref gY, .ref gF, .ref gP, .int gpn, .int glt, .int gsh, .int gwd, .int gpu, .int gmo])), (gF, .inl (cI, 5, .inl gfF)), (sd, .inr (8, [.ref w1, .ref w2, .ref aC, .ref g0, .ref aL, .ref aK, .ref lw])), (w1, .inl (cI, 10, .inl fw1)), (w2, .inl (cI, 10, .inl fw2)), (aL, .inl (cI, 6, .inl fL)), (aK, .inl (cI, 32, .inl fK)), (lw, .inr (4, [.ref lS])), (lS, .inl (cI, lk, .inl fS))] sz)) 0 0 (va_A [(h0, .inr (10, [.ref tp, h0_courtReader, h0_lawReader, h0_draft, .ref aC, h0_laws, .ref g0, .ref k0, .ref ac, .ref sd, .ref mi, .ref dw, .ref rf, .int lc, .int lh, .int br, .int hi])), (aC, .inr (1, [.ref aR, .ref aB, .ref aP, .int nb, .int np])), (aB, .inl (cI, 24, .inl fb)), (aP, .inl (cI, 20, .inl fp)), (g0, .inr (7, [.ref gY, .ref gF, .ref gP, .int gpn, .int glt, .int gsh, .int gwd, .int gpu, .int gmo])), (gF, .inl (cI, 5, .inl gfF)), (sd, .inr (8, [.ref w1, .ref w2, .ref aC, .ref g0, .ref aL, .ref aK, .ref lw])), (w1, .inl (cI, 10, .inl fw1)), (w2, .inl (cI, 10, .inl fw2)), (aL, .inl (cI, 6, .inl fL)), (aK, .inl (cI, 32, .inl fK)), (lw, .inr (4, [.ref lS])), (lS, .inl (cI, lk, .inl fS))] sz) := by
  refine Met.ofW (cc := cX10_rests) (maxL := 8) (ret := (some .int)) (by decide) rfl ?_
  intro p e s m args below meth c s₁ B hml hv
  have y_gpn : zHid (0 ≤ gpn.toInt ∧ gpn.toInt ≤ 20) := n_gpn
  have y_gwd : zHid ((-1) ≤ gwd.toInt ∧ gwd.toInt ≤ 5) := n_gwd
  have y_hi : zHid (0 ≤ hi.toInt ∧ hi.toInt ≤ 1) := n_hi
  have y_lc : zHid (0 ≤ lc.toInt ∧ lc.toInt ≤ 4) := n_lc
  clear n_gpn n_gwd n_hi n_lc
  obtain ⟨hargs, hsz, hP, hK, hT⟩ := hv
  have hx := B.exec
  have hb := B.bytes
  have hr := B.returns
  have hts : ∀ w ∈ wA, w.before args s = true := fun w h => atoms_spec (ws := .code yX10_rests cX10_rests 8 (some .int) :: wA) B.pre w (List.mem_cons_of_mem _ h)
  have hown : s.vm.findClass RX10 = some m.cls := findClass_of_methodNamed B.named
  have hlocks := B.notSynchronized
  subst hsz
  have hD := hT.self (sz := s.heap.size)
  generalize hAe : va_A [(h0, .inr (10, [.ref tp, h0_courtReader, h0_lawReader, h0_draft, .ref aC, h0_laws, .ref g0, .ref k0, .ref ac, .ref sd, .ref mi, .ref dw, .ref rf, .int lc, .int lh, .int br, .int hi])), (aC, .inr (1, [.ref aR, .ref aB, .ref aP, .int nb, .int np])), (aB, .inl (cI, 24, .inl fb)), (aP, .inl (cI, 20, .inl fp)), (g0, .inr (7, [.ref gY, .ref gF, .ref gP, .int gpn, .int glt, .int gsh, .int gwd, .int gpu, .int gmo])), (gF, .inl (cI, 5, .inl gfF)), (sd, .inr (8, [.ref w1, .ref w2, .ref aC, .ref g0, .ref aL, .ref aK, .ref lw])), (w1, .inl (cI, 10, .inl fw1)), (w2, .inl (cI, 10, .inl fw2)), (aL, .inl (cI, 6, .inl fL)), (aK, .inl (cI, 32, .inl fK)), (lw, .inr (4, [.ref lS])), (lS, .inl (cI, lk, .inl fS))] s.heap.size = A at hD ⊢
  have hA : ∀ q : Nat, s.heap.size ≤ q → A q := fun q h => by rw [← hAe]; exact Or.inr h
  have hl := lv_entry ([.ref h0, .int p0, .int p1, .int p2, .int p3]) (n := 8) (Nat.le_of_ble_eq_true rfl)
  rw [show entryFrame m args 8 = entryFrame m ([.ref h0, .int p0, .int p1, .int p2, .int p3] : List Value).toArray 8 by rw [hargs], lg_entry_eq]
  generalize (lg_sl ([.ref h0, .int p0, .int p1, .int p2, .int p3]) ++ List.replicate (8 - (lg_sl ([.ref h0, .int p0, .int p1, .int p2, .int p3])).length) Slot.unset).toArray = ls at hl ⊢
  have hl : lv_has ls 8 [(0, .ref h0), (1, .int p0), (2, .int p1), (3, .int p2), (4, .int p3)] := hl
  refine zstart (fun H hH => ?_)
  rw [← hH] at hP
  have hS : va_S A s.heap H [] := by rw [hH]; exact va_S.rf
  generalize ([] : List Loc) = locs at hS ⊢
  refine zgen (fun R Q hR hQ => ?_)
  refine lv_aload_n hx hb dX10_rests_0 rfl (lv_at hl 0 rfl) ?_
  refine lv_iload_n hx hb dX10_rests_1 rfl (lv_at hl 1 rfl) ?_
  refine lv_iload_n hx hb dX10_rests_2 rfl (lv_at hl 2 rfl) ?_
  refine lv_iload_n hx hb dX10_rests_3 rfl (lv_at hl 3 rfl) ?_
  obtain ⟨hPc, hDc⟩ := zc2 (wc := [(h0, .inr (10, [.ref tp, h0_courtReader, h0_lawReader, h0_draft, .ref aC, h0_laws, .ref g0, .ref k0, .ref ac, .ref sd, .ref mi, .ref dw, .ref rf, .int lc, .int lh, .int br, .int hi])), (aC, .inr (1, [.ref aR, .ref aB, .ref aP, .int nb, .int np]))]) hP hD [0, 1] (by decide +kernel) rfl
  have hFc := zfr hS hA
  refine va_calli (va_runV (As := [.int p0, .int p1, .int p2]) (rest := []) ⟨hx, hb, hml, hown, hts⟩ (g_X10_canPlay l dC dI cI cJ h0 p0 p1 p2 tp h0_courtReader h0_lawReader h0_draft aC h0_laws g0 k0 ac sd mi dw rf lc lh br hi aR aB aP nb np H.size y_hi y_lc n_nb n_np) (cwV 3 hts (zgV qw931 qw933 qw25 qw98 qw934) rfl rfl rfl hd_X10_canPlay ⟨by rw [hR]; exact Nat.le_of_ble_eq_true rfl, by rw [hR]; exact Nat.le_of_ble_eq_true rfl⟩) (zPV hPc hK hDc (va_recv (q := (RX10, TX10, 17)) hK hP (ci := 10) (q0 := 0) rfl rfl)) rfl rfl hl.1 rfl (lv_room (Nat.le_of_ble_eq_true rfl)) dX10_rests_4 ⟨Nat.zero_le _, Nat.zero_le _⟩) hS (fun q _ h => hFc q h) hFc (fun v4 u4 t H locs ht hvm hw hB hz1 hk1 hS9 => ?_)
  replace hP := zkeep hP hk1
  replace hS := hS9
  clear hPc hDc hFc hk1 hz1 hvm hS9
  obtain ⟨f4_0, f4_1, f4_2, f4_3, f4_4⟩ : (0 ≤ v4.toInt) ∧ (v4.toInt ≤ 1) ∧ (¬ v4.toInt = 0 → (0 ≤ p0.toInt ∧ p0.toInt < nb.toInt ∧ 0 ≤ p1.toInt ∧ p1.toInt < nb.toInt ∧ 0 ≤ p2.toInt ∧ p2.toInt < np.toInt)) ∧ (¬ v4.toInt = 0 → ¬ p0.toInt = p1.toInt) ∧ (v4.toInt = 0 → ¬ ((0 ≤ p0.toInt ∧ p0.toInt < nb.toInt) ∧ (0 ≤ p1.toInt ∧ p1.toInt < nb.toInt) ∧ ¬ p0.toInt = p1.toInt ∧ 0 ≤ p2.toInt ∧ p2.toInt < np.toInt)) := hw
  refine lv_if_eq (tgt := 16) hx hb dX10_rests_7 (by decide) (fun c7 => ?_) (fun c7 => ?_)
  · have c7 : v4.toInt = 0 := z5 rfl (by decide) c7
    refine lv_iconst (v := (-1)) hx hb dX10_rests_16 (by decide) ?_
    have zr0 : ((-1) : Int32).toInt = (-1) := by decide
    rw [hQ]
    exact W.iret (v := ((-1))) hx hb hr (fun t ht hW => ⟨⟨(-1), (fw1, fw2, fL, fK), rfl, ⟨by (try dsimp only); omega, by (try dsimp only); omega, by (try dsimp only); exact fun kc kT q_fr q_gfY q_gfP q_fR q_pl q_cn q_frf kt hc hb h ht => by unfold sV_res; exact (if_neg (fun y => by obtain ⟨⟨a1, a2, a3, a4⟩, a5⟩ := y; omega)).symm⟩, ⟨by rw [ht]; exact hP, hD⟩⟩, hS.F ht⟩) hS.2.2 dX10_rests_17
  · have c7 : ¬ v4.toInt = 0 := z6 rfl (by decide) c7
    refine lv_iload hx hb dX10_rests_10 (lv_at hl 4 rfl) ?_
    refine lv_iconst (v := (-1)) hx hb dX10_rests_12 (by decide) ?_
    refine lv_icmp_ge (tgt := 18) hx hb dX10_rests_13 (by decide) (fun c13 => ?_) (fun c13 => ?_)
    · have c13 : (-1) ≤ p3.toInt := z3 (by decide) rfl c13
      refine lv_aload_n hx hb dX10_rests_18 rfl (lv_at hl 0 rfl) ?_
      refine va_get (D := (dC, dI)) (ci := 10) (v := .ref sd) (C := RX10) (T := TX10) (N := 17) hx hb hts iX10 hown hK hP 0 rfl rfl 9 (by decide) (hts _ qw365) (fun _ h9 => h9) rfl dX10_rests_19 ?_
      refine lv_iload_n hx hb dX10_rests_22 rfl (lv_at hl 3 rfl) ?_
      refine lv_iload_n hx hb dX10_rests_23 rfl (lv_at hl 1 rfl) ?_
      refine lv_aload_n hx hb dX10_rests_24 rfl (lv_at hl 0 rfl) ?_
      refine va_get (D := (dC, dI)) (ci := 10) (v := .ref sd) (C := RX10) (T := TX10) (N := 17) hx hb hts iX10 hown hK hP 0 rfl rfl 9 (by decide) (hts _ qw365) (fun _ h9 => h9) rfl dX10_rests_25 ?_
      refine va_get (D := (dC, dI)) (ci := 8) (v := .ref w1) (C := RX8) (T := TX8) (N := 7) hx hb hts iX8 hown hK hP 6 rfl rfl 0 (by decide) (hts _ qw286) (fun _ h9 => h9) rfl dX10_rests_28 ?_
      obtain ⟨hPc, hDc, hFc⟩ := zc3 (wc := [(sd, .inr (8, [.ref w1, .ref w2, .ref aC, .ref g0, .ref aL, .ref aK, .ref lw])), (aC, .inr (1, [.ref aR, .ref aB, .ref aP, .int nb, .int np])), (aB, .inl (cI, 24, .inl fb)), (aP, .inl (cI, 20, .inl fp)), (g0, .inr (7, [.ref gY, .ref gF, .ref gP, .int gpn, .int glt, .int gsh, .int gwd, .int gpu, .int gmo])), (gF, .inl (cI, 5, .inl gfF)), (aL, .inl (cI, 6, .inl fL)), (aK, .inl (cI, 32, .inl fK)), (lw, .inr (4, [.ref lS])), (lS, .inl (cI, lk, .inl fS)), (w1, .inl (cI, 10, .inl fw1))]) hP hD hS hA [6, 1, 2, 3, 4, 5, 9, 10, 11, 12, 7] (by decide +kernel) rfl
      refine va_callv (va_runV (As := [.int p2, .int p0, .ref w1]) (rest := []) ⟨hx, hb, hml, hown, hts⟩ (g_X8_fillLooks_l l dC dI cI cJ sd p2 p0 w1 w1 w2 aC g0 aL aK lw aR aB aP nb np fb fp gY gF gP gpn glt gsh gwd gpu gmo gfF fL fK lS fS lk fw1 H.size (by omega) (by omega) (hlk) ci_fS_zSt) (cwV 3 hts (zgV qw944 qw945 qw946 qw105 qw947) rfl rfl rfl hd_X8_fillLooks ⟨by rw [hR]; exact Nat.le_of_ble_eq_true rfl, by rw [hR]; exact Nat.le_of_ble_eq_true rfl⟩) (zPV hPc hK hDc (va_recv (q := (RX8, TX8, 7)) hK hP (ci := 8) (q0 := 6) rfl rfl)) rfl rfl hl.1 rfl (lv_room (Nat.le_of_ble_eq_true rfl)) dX10_rests_31 ⟨Nat.zero_le _, Nat.zero_le _⟩) hS (fun q _ h => hFc q h) hFc (fun u31 t H locs ht hvm hw hB hz1 hk1 hS9 => ?_)
      obtain ⟨u31_0, u31_1, u31_2⟩ := u31
      obtain ⟨hP9, hD9⟩ := zj2 (wX := [(h0, .inr (10, [.ref tp, h0_courtReader, h0_lawReader, h0_draft, .ref aC, h0_laws, .ref g0, .ref k0, .ref ac, .ref sd, .ref mi, .ref dw, .ref rf, .int lc, .int lh, .int br, .int hi])), (aC, .inr (1, [.ref aR, .ref aB, .ref aP, .int nb, .int np])), (aB, .inl (cI, 24, .inl fb)), (aP, .inl (cI, 20, .inl fp)), (g0, .inr (7, [.ref gY, .ref gF, .ref gP, .int gpn, .int glt, .int gsh, .int gwd, .int gpu, .int gmo])), (gF, .inl (cI, 5, .inl gfF)), (sd, .inr (8, [.ref w1, .ref w2, .ref aC, .ref g0, .ref aL, .ref aK, .ref lw])), (w1, .inl (cI, 10, .inl u31_2)), (w2, .inl (cI, 10, .inl fw2)), (aL, .inl (cI, 6, .inl u31_0)), (aK, .inl (cI, 32, .inl u31_1)), (lw, .inr (4, [.ref lS])), (lS, .inl (cI, lk, .inl fS))]) hP hD hk1 hFc ht hB [6, 1, 2, 3, 4, 5, 9, 10, 11, 12, 7] [(false, 0), (true, 1), (true, 2), (true, 3), (true, 4), (true, 5), (true, 0), (true, 10), (false, 8), (true, 6), (true, 7), (true, 8), (true, 9)] rfl (by decide +kernel) (by decide +kernel) rfl
      clear hP hD hS hPc hDc hFc hB hk1 hz1 hvm
      have hP := hP9
      have hD := hD9
      have hS := hS9
      clear hP9 hD9 hS9
      have f31_0 : (∀ (kc : zK3) (kT : zT) (q_fr : Nat → Int32) (q_gfY : Nat → Int32) (q_gfP : Nat → Int32) (kt : (Int → Int) × Int), zCn q_fr fb fp nb.toInt np.toInt kc → zKo nb.toInt np.toInt kc kT → zSc nb.toInt np.toInt kT.1 q_gfY gfF q_gfP gpn glt gsh gwd gpu gmo → zLwC fS lk kt → (0 ≤ p2.toInt ∧ p2.toInt < np.toInt) → (0 ≤ p0.toInt ∧ p0.toInt < nb.toInt) → ∀ j : Nat, j < 10 → u31_2 j = sRow kc kT.1 (some kt) p2 p0 j) := hw
      have F31 := f31_0
      refine lv_aload_n hx hb dX10_rests_34 rfl (lv_at hl 0 rfl) ?_
      refine va_get (D := (dC, dI)) (ci := 10) (v := .ref sd) (C := RX10) (T := TX10) (N := 17) hx hb hts iX10 hown hK hP 0 rfl rfl 9 (by decide) (hts _ qw365) (fun _ h9 => h9) rfl dX10_rests_35 ?_
      refine lv_iload_n hx hb dX10_rests_38 rfl (lv_at hl 3 rfl) ?_
      refine lv_iload_n hx hb dX10_rests_39 rfl (lv_at hl 2 rfl) ?_
      refine lv_aload_n hx hb dX10_rests_40 rfl (lv_at hl 0 rfl) ?_
      refine va_get (D := (dC, dI)) (ci := 10) (v := .ref sd) (C := RX10) (T := TX10) (N := 17) hx hb hts iX10 hown hK hP 0 rfl rfl 9 (by decide) (hts _ qw365) (fun _ h9 => h9) rfl dX10_rests_41 ?_
      refine va_get (D := (dC, dI)) (ci := 8) (v := .ref w2) (C := RX8) (T := TX8) (N := 7) hx hb hts iX8 hown hK hP 6 rfl rfl 1 (by decide) (hts _ qw288) (fun _ h9 => h9) rfl dX10_rests_44 ?_
      obtain ⟨hPc, hDc, hFc⟩ := zc3 (wc := [(sd, .inr (8, [.ref w1, .ref w2, .ref aC, .ref g0, .ref aL, .ref aK, .ref lw])), (aC, .inr (1, [.ref aR, .ref aB, .ref aP, .int nb, .int np])), (aB, .inl (cI, 24, .inl fb)), (aP, .inl (cI, 20, .inl fp)), (g0, .inr (7, [.ref gY, .ref gF, .ref gP, .int gpn, .int glt, .int gsh, .int gwd, .int gpu, .int gmo])), (gF, .inl (cI, 5, .inl gfF)), (aL, .inl (cI, 6, .inl u31_0)), (aK, .inl (cI, 32, .inl u31_1)), (lw, .inr (4, [.ref lS])), (lS, .inl (cI, lk, .inl fS)), (w2, .inl (cI, 10, .inl fw2))]) hP hD hS hA [6, 1, 2, 3, 4, 5, 9, 10, 11, 12, 8] (by decide +kernel) rfl
      refine va_callv (va_runV (As := [.int p2, .int p1, .ref w2]) (rest := []) ⟨hx, hb, hml, hown, hts⟩ (g_X8_fillLooks_l l dC dI cI cJ sd p2 p1 w2 w1 w2 aC g0 aL aK lw aR aB aP nb np fb fp gY gF gP gpn glt gsh gwd gpu gmo gfF u31_0 u31_1 lS fS lk fw2 H.size (by omega) (by omega) (hlk) ci_fS_zSt) (cwV 3 hts (zgV qw944 qw945 qw946 qw105 qw947) rfl rfl rfl hd_X8_fillLooks ⟨by rw [hR]; exact Nat.le_of_ble_eq_true rfl, by rw [hR]; exact Nat.le_of_ble_eq_true rfl⟩) (zPV hPc hK hDc (va_recv (q := (RX8, TX8, 7)) hK hP (ci := 8) (q0 := 6) rfl rfl)) rfl rfl hl.1 rfl (lv_room (Nat.le_of_ble_eq_true rfl)) dX10_rests_47 ⟨Nat.zero_le _, Nat.zero_le _⟩) hS (fun q _ h => hFc q h) hFc (fun u47 t H locs ht hvm hw hB hz1 hk1 hS9 => ?_)
      obtain ⟨u47_0, u47_1, u47_2⟩ := u47
      obtain ⟨hP9, hD9⟩ := zj2 (wX := [(h0, .inr (10, [.ref tp, h0_courtReader, h0_lawReader, h0_draft, .ref aC, h0_laws, .ref g0, .ref k0, .ref ac, .ref sd, .ref mi, .ref dw, .ref rf, .int lc, .int lh, .int br, .int hi])), (aC, .inr (1, [.ref aR, .ref aB, .ref aP, .int nb, .int np])), (aB, .inl (cI, 24, .inl fb)), (aP, .inl (cI, 20, .inl fp)), (g0, .inr (7, [.ref gY, .ref gF, .ref gP, .int gpn, .int glt, .int gsh, .int gwd, .int gpu, .int gmo])), (gF, .inl (cI, 5, .inl gfF)), (sd, .inr (8, [.ref w1, .ref w2, .ref aC, .ref g0, .ref aL, .ref aK, .ref lw])), (w1, .inl (cI, 10, .inl u31_2)), (w2, .inl (cI, 10, .inl u47_2)), (aL, .inl (cI, 6, .inl u47_0)), (aK, .inl (cI, 32, .inl u47_1)), (lw, .inr (4, [.ref lS])), (lS, .inl (cI, lk, .inl fS))]) hP hD hk1 hFc ht hB [6, 1, 2, 3, 4, 5, 9, 10, 11, 12, 8] [(false, 0), (true, 1), (true, 2), (true, 3), (true, 4), (true, 5), (true, 0), (false, 7), (true, 10), (true, 6), (true, 7), (true, 8), (true, 9)] rfl (by decide +kernel) (by decide +kernel) rfl
      clear hP hD hS hPc hDc hFc hB hk1 hz1 hvm
      have hP := hP9
      have hD := hD9
      have hS := hS9
      clear hP9 hD9 hS9
      have f47_0 : (∀ (kc : zK3) (kT : zT) (q_fr : Nat → Int32) (q_gfY : Nat → Int32) (q_gfP : Nat → Int32) (kt : (Int → Int) × Int), zCn q_fr fb fp nb.toInt np.toInt kc → zKo nb.toInt np.toInt kc kT → zSc nb.toInt np.toInt kT.1 q_gfY gfF q_gfP gpn glt gsh gwd gpu gmo → zLwC fS lk kt → (0 ≤ p2.toInt ∧ p2.toInt < np.toInt) → (0 ≤ p1.toInt ∧ p1.toInt < nb.toInt) → ∀ j : Nat, j < 10 → u47_2 j = sRow kc kT.1 (some kt) p2 p1 j) := hw
      have F47 := f47_0
      refine lv_iconst (v := 0) hx hb dX10_rests_50 (by decide) ?_
      refine lv_istore (lv' := [(5, .int 0), (0, .ref h0), (1, .int p0), (2, .int p1), (3, .int p2), (4, .int p3)]) hx hb dX10_rests_51 hl (by decide) rfl (fun ls hl => ?_)
      refine lv_iconst (v := 0) hx hb dX10_rests_53 (by decide) ?_
      have J56 : ∀ (n : Nat) (m56_L_5 : Int32) (m56_L_6 : Int32), (0 ≤ m56_L_5.toInt ∧ m56_L_5.toInt ≤ 100) → (0 ≤ m56_L_6.toInt ∧ m56_L_6.toInt ≤ 10) → (zRt u31_2 u47_2 p3.toInt m56_L_5 (10 * m56_L_6.toInt.toNat)) → (11 - m56_L_6.toInt).toNat = n → ∀ (H : Heap) (locs : List Loc) (ls : Array Slot), va_P (dC, dI) vwCl [(h0, .inr (10, [.ref tp, h0_courtReader, h0_lawReader, h0_draft, .ref aC, h0_laws, .ref g0, .ref k0, .ref ac, .ref sd, .ref mi, .ref dw, .ref rf, .int lc, .int lh, .int br, .int hi])), (aC, .inr (1, [.ref aR, .ref aB, .ref aP, .int nb, .int np])), (aB, .inl (cI, 24, .inl fb)), (aP, .inl (cI, 20, .inl fp)), (g0, .inr (7, [.ref gY, .ref gF, .ref gP, .int gpn, .int glt, .int gsh, .int gwd, .int gpu, .int gmo])), (gF, .inl (cI, 5, .inl gfF)), (sd, .inr (8, [.ref w1, .ref w2, .ref aC, .ref g0, .ref aL, .ref aK, .ref lw])), (w1, .inl (cI, 10, .inl u31_2)), (w2, .inl (cI, 10, .inl u47_2)), (aL, .inl (cI, 6, .inl u47_0)), (aK, .inl (cI, 32, .inl u47_1)), (lw, .inr (4, [.ref lS])), (lS, .inl (cI, lk, .inl fS))] H → va_D A [(h0, .inr (10, [.ref tp, h0_courtReader, h0_lawReader, h0_draft, .ref aC, h0_laws, .ref g0, .ref k0, .ref ac, .ref sd, .ref mi, .ref dw, .ref rf, .int lc, .int lh, .int br, .int hi])), (aC, .inr (1, [.ref aR, .ref aB, .ref aP, .int nb, .int np])), (aB, .inl (cI, 24, .inl fb)), (aP, .inl (cI, 20, .inl fp)), (g0, .inr (7, [.ref gY, .ref gF, .ref gP, .int gpn, .int glt, .int gsh, .int gwd, .int gpu, .int gmo])), (gF, .inl (cI, 5, .inl gfF)), (sd, .inr (8, [.ref w1, .ref w2, .ref aC, .ref g0, .ref aL, .ref aK, .ref lw])), (w1, .inl (cI, 10, .inl u31_2)), (w2, .inl (cI, 10, .inl u47_2)), (aL, .inl (cI, 6, .inl u47_0)), (aK, .inl (cI, 32, .inl u47_1)), (lw, .inr (4, [.ref lS])), (lS, .inl (cI, lk, .inl fS))] → va_S A s.heap H locs → lv_has ls 8 [(6, .int m56_L_6), (5, .int m56_L_5), (0, .ref h0), (1, .int p0), (2, .int p1), (3, .int p2), (4, .int p3)] → W p l e R s m args below meth c H locs 0 0 Q (F0 m 56 ls []) := by
        intro n56
        induction n56 using Nat.strongRecOn with
        | _ n56 ih56 =>
          intro m56_L_5 m56_L_6 jf56_0 jf56_1 jv56_0 hmu56 H locs ls hP hD hS hl
          refine lv_iload hx hb dX10_rests_56 (lv_at hl 0 rfl) ?_
          refine lv_bipush (v := 9) hx hb dX10_rests_58 (by decide) ?_
          refine lv_icmp_gt (tgt := 157) hx hb dX10_rests_60 (by decide) (fun c60 => ?_) (fun c60 => ?_)
          · have c60 : 9 < m56_L_6.toInt := z1 (by decide) rfl c60
            refine lv_iload hx hb dX10_rests_157 (lv_at hl 6 rfl) ?_
            refine lv_iconst (v := (-1)) hx hb dX10_rests_159 (by decide) ?_
            refine lv_icmp_ne (tgt := 168) hx hb dX10_rests_160 (by decide) (fun c160 => ?_) (fun c160 => ?_)
            · have c160 : ¬ p3.toInt = (-1) := z6 rfl (by decide) c160
              refine lv_iconst (v := (-1)) hx hb dX10_rests_168 (by decide) ?_
              have zr0 : ((-1) : Int32).toInt = (-1) := by decide
              rw [hQ]
              exact W.iret (v := ((-1))) hx hb hr (fun t ht hW => ⟨⟨(-1), (u31_2, u47_2, u47_0, u47_1), rfl, ⟨by (try dsimp only); omega, by (try dsimp only); omega, by (try dsimp only); exact fun kc kT q_fr q_gfY q_gfP q_fR q_pl q_cn q_frf kt hc hb h ht => by have f1 := F31 kc kT _ _ _ kt hc hb h.1 ht (by omega) (by omega); have f2 := F47 kc kT _ _ _ kt hc hb h.1 ht (by omega) (by omega); unfold sV_res; rw [if_pos ⟨⟨by omega, by omega, by omega, by omega⟩, by omega⟩]; rw [if_neg (by omega), ← sRi_c f1 f2 100 (Nat.le_refl _), show (100 : Nat) = 10 * m56_L_6.toInt.toNat by omega, jv56_0.2 (by omega)]; decide⟩, ⟨by rw [ht]; exact hP, hD⟩⟩, hS.F ht⟩) hS.2.2 dX10_rests_169
            · have c160 : p3.toInt = (-1) := z5 rfl (by decide) c160
              refine lv_iload hx hb dX10_rests_163 (lv_at hl 1 rfl) ?_
              refine lv_goto (tgt := 169) hx hb dX10_rests_165 (by decide) ?_
              rw [hQ]
              exact W.iret (v := m56_L_5) hx hb hr (fun t ht hW => ⟨⟨m56_L_5, (u31_2, u47_2, u47_0, u47_1), rfl, ⟨by (try dsimp only); omega, by (try dsimp only); omega, by (try dsimp only); exact fun kc kT q_fr q_gfY q_gfP q_fR q_pl q_cn q_frf kt hc hb h ht => by have f1 := F31 kc kT _ _ _ kt hc hb h.1 ht (by omega) (by omega); have f2 := F47 kc kT _ _ _ kt hc hb h.1 ht (by omega) (by omega); unfold sV_res; rw [if_pos ⟨⟨by omega, by omega, by omega, by omega⟩, by omega⟩]; rw [if_pos (by omega), ← sRc_c f1 f2 100 (Nat.le_refl _), show (100 : Nat) = 10 * m56_L_6.toInt.toNat by omega]; exact jv56_0.1⟩, ⟨by rw [ht]; exact hP, hD⟩⟩, hS.F ht⟩) hS.2.2 dX10_rests_169
          · have c60 : m56_L_6.toInt ≤ 9 := z2 (by decide) rfl c60
            refine lv_iconst (v := 0) hx hb dX10_rests_63 (by decide) ?_
            have J66 : ∀ (n : Nat) (m66_L_5 : Int32) (m66_L_7 : Int32), (0 ≤ m66_L_5.toInt ∧ m66_L_5.toInt ≤ 100) → (0 ≤ m66_L_7.toInt ∧ m66_L_7.toInt ≤ 10) → (zRt u31_2 u47_2 p3.toInt m66_L_5 (10 * m56_L_6.toInt.toNat + m66_L_7.toInt.toNat)) → (11 - m66_L_7.toInt).toNat = n → ∀ (H : Heap) (locs : List Loc) (ls : Array Slot), va_P (dC, dI) vwCl [(h0, .inr (10, [.ref tp, h0_courtReader, h0_lawReader, h0_draft, .ref aC, h0_laws, .ref g0, .ref k0, .ref ac, .ref sd, .ref mi, .ref dw, .ref rf, .int lc, .int lh, .int br, .int hi])), (aC, .inr (1, [.ref aR, .ref aB, .ref aP, .int nb, .int np])), (aB, .inl (cI, 24, .inl fb)), (aP, .inl (cI, 20, .inl fp)), (g0, .inr (7, [.ref gY, .ref gF, .ref gP, .int gpn, .int glt, .int gsh, .int gwd, .int gpu, .int gmo])), (gF, .inl (cI, 5, .inl gfF)), (sd, .inr (8, [.ref w1, .ref w2, .ref aC, .ref g0, .ref aL, .ref aK, .ref lw])), (w1, .inl (cI, 10, .inl u31_2)), (w2, .inl (cI, 10, .inl u47_2)), (aL, .inl (cI, 6, .inl u47_0)), (aK, .inl (cI, 32, .inl u47_1)), (lw, .inr (4, [.ref lS])), (lS, .inl (cI, lk, .inl fS))] H → va_D A [(h0, .inr (10, [.ref tp, h0_courtReader, h0_lawReader, h0_draft, .ref aC, h0_laws, .ref g0, .ref k0, .ref ac, .ref sd, .ref mi, .ref dw, .ref rf, .int lc, .int lh, .int br, .int hi])), (aC, .inr (1, [.ref aR, .ref aB, .ref aP, .int nb, .int np])), (aB, .inl (cI, 24, .inl fb)), (aP, .inl (cI, 20, .inl fp)), (g0, .inr (7, [.ref gY, .ref gF, .ref gP, .int gpn, .int glt, .int gsh, .int gwd, .int gpu, .int gmo])), (gF, .inl (cI, 5, .inl gfF)), (sd, .inr (8, [.ref w1, .ref w2, .ref aC, .ref g0, .ref aL, .ref aK, .ref lw])), (w1, .inl (cI, 10, .inl u31_2)), (w2, .inl (cI, 10, .inl u47_2)), (aL, .inl (cI, 6, .inl u47_0)), (aK, .inl (cI, 32, .inl u47_1)), (lw, .inr (4, [.ref lS])), (lS, .inl (cI, lk, .inl fS))] → va_S A s.heap H locs → lv_has ls 8 [(7, .int m66_L_7), (6, .int m56_L_6), (5, .int m66_L_5), (0, .ref h0), (1, .int p0), (2, .int p1), (3, .int p2), (4, .int p3)] → W p l e R s m args below meth c H locs 0 0 Q (F0 m 66 ls []) := by
              intro n66
              induction n66 using Nat.strongRecOn with
              | _ n66 ih66 =>
                intro m66_L_5 m66_L_7 jf66_0 jf66_1 jv66_0 hmu66 H locs ls hP hD hS hl
                refine lv_iload hx hb dX10_rests_66 (lv_at hl 0 rfl) ?_
                refine lv_bipush (v := 9) hx hb dX10_rests_68 (by decide) ?_
                refine lv_icmp_gt (tgt := 151) hx hb dX10_rests_70 (by decide) (fun c70 => ?_) (fun c70 => ?_)
                · have c70 : 9 < m66_L_7.toInt := z1 (by decide) rfl c70
                  obtain ⟨v151, e151⟩ : ∃ y : Int32, y = m56_L_6 + Int32.ofInt (1) := ⟨_, rfl⟩
                  refine lv_iinc (v := v151) (lv' := [(6, .int v151), (7, .int m66_L_7), (5, .int m66_L_5), (0, .ref h0), (1, .int p0), (2, .int p1), (3, .int p2), (4, .int p3)]) hx hb dX10_rests_151 hl (k := 1) rfl e151.symm (by decide) rfl (fun ls hl => ?_)
                  have i151 : v151.toInt = m56_L_6.toInt + 1 := zaddI e151 (by decide) (by omega) (by omega)
                  refine lv_goto (tgt := 56) hx hb dX10_rests_154 (by decide) ?_
                  exact ih56 _ (by omega) m66_L_5 v151 jf66_0 (by omega) (by have z := jv66_0; rw [show 10 * v151.toInt.toNat = 10 * m56_L_6.toInt.toNat + m66_L_7.toInt.toNat by omega]; exact z) rfl H locs ls hP hD hS (lv_sub hl [0, 2, 3, 4, 5, 6, 7] rfl)
                · have c70 : m66_L_7.toInt ≤ 9 := z2 (by decide) rfl c70
                  refine lv_aload_n hx hb dX10_rests_73 rfl (lv_at hl 3 rfl) ?_
                  refine va_get (D := (dC, dI)) (ci := 10) (v := .ref sd) (C := RX10) (T := TX10) (N := 17) hx hb hts iX10 hown hK hP 0 rfl rfl 9 (by decide) (hts _ qw365) (fun _ h9 => h9) rfl dX10_rests_74 ?_
                  refine va_get (D := (dC, dI)) (ci := 8) (v := .ref w1) (C := RX8) (T := TX8) (N := 7) hx hb hts iX8 hown hK hP 6 rfl rfl 0 (by decide) (hts _ qw286) (fun _ h9 => h9) rfl dX10_rests_77 ?_
                  refine lv_iload hx hb dX10_rests_80 (lv_at hl 1 rfl) ?_
                  refine lv_aload_n hx hb dX10_rests_82 rfl (lv_at hl 3 rfl) ?_
                  refine va_get (D := (dC, dI)) (ci := 10) (v := .ref sd) (C := RX10) (T := TX10) (N := 17) hx hb hts iX10 hown hK hP 0 rfl rfl 9 (by decide) (hts _ qw365) (fun _ h9 => h9) rfl dX10_rests_83 ?_
                  refine va_get (D := (dC, dI)) (ci := 8) (v := .ref w2) (C := RX8) (T := TX8) (N := 7) hx hb hts iX8 hown hK hP 6 rfl rfl 1 (by decide) (hts _ qw288) (fun _ h9 => h9) rfl dX10_rests_86 ?_
                  refine lv_iload hx hb dX10_rests_89 (lv_at hl 0 rfl) ?_
                  refine va_iald hx hb hK hP 8 0 rfl rfl (vp_in_iff.mpr ⟨by omega, by omega⟩) dX10_rests_91 ?_
                  refine lv_topi (fun v91 e91 => ?_)
                  obtain ⟨hPc, hDc⟩ := zc2 (wc := [(w1, .inl (cI, 10, .inl u31_2))]) hP hD [7] (by decide +kernel) rfl
                  have hFc := zfr hS hA
                  refine va_calli (va_runS (As := [.ref w1, .int m56_L_6, .int v91]) (rest := []) ⟨hx, hb, hml, hown, hts⟩ (g_X10_bestAgainst l dC dI cI cJ w1 m56_L_6 v91 u31_2 H.size (by omega)) (cwS 3 hts (zgS qw949 qw950 qw98 qw951) rfl rfl rfl hd_X10_bestAgainst ⟨by rw [hR]; exact Nat.le_of_ble_eq_true rfl, by rw [hR]; exact Nat.le_of_ble_eq_true rfl⟩) (zPS hPc hK hDc) rfl rfl hl.1 rfl (lv_room (Nat.le_of_ble_eq_true rfl)) dX10_rests_92 ⟨Nat.zero_le _, Nat.zero_le _⟩) hS (fun q _ h => hFc q h) hFc (fun v92 u92 t H locs ht hvm hw hB hz1 hk1 hS9 => ?_)
                  replace hP := zkeep hP hk1
                  replace hS := hS9
                  clear hPc hDc hFc hk1 hz1 hvm hS9
                  obtain ⟨f92_0, f92_1, f92_2⟩ : (0 ≤ v92.toInt) ∧ (v92.toInt ≤ 1) ∧ ((v92.toInt = 1 ∧ sBa u31_2 m56_L_6.toInt.toNat v91) ∨ (v92.toInt = 0 ∧ ¬ sBa u31_2 m56_L_6.toInt.toNat v91)) := hw
                  have F92 := f92_2
                  refine lv_if_eq (tgt := 145) hx hb dX10_rests_95 (by decide) (fun c95 => ?_) (fun c95 => ?_)
                  · have c95 : v92.toInt = 0 := z5 rfl (by decide) c95
                    obtain ⟨v145, e145⟩ : ∃ y : Int32, y = m66_L_7 + Int32.ofInt (1) := ⟨_, rfl⟩
                    refine lv_iinc (v := v145) (lv' := [(7, .int v145), (6, .int m56_L_6), (5, .int m66_L_5), (0, .ref h0), (1, .int p0), (2, .int p1), (3, .int p2), (4, .int p3)]) hx hb dX10_rests_145 hl (k := 0) rfl e145.symm (by decide) rfl (fun ls hl => ?_)
                    have i145 : v145.toInt = m66_L_7.toInt + 1 := zaddI e145 (by decide) (by omega) (by omega)
                    refine lv_goto (tgt := 66) hx hb dX10_rests_148 (by decide) ?_
                    exact ih66 _ (by omega) m66_L_5 v145 jf66_0 (by omega) (by first | (rcases F92 with b1 | b1; rotate_left; (exfalso; omega); rcases F117 with b2 | b2; rotate_left; (exfalso; omega); exact zRtY jv66_0 (by omega) ((zRk_i (k := 10 * m56_L_6.toInt.toNat + m66_L_7.toInt.toNat) (x := m56_L_6) (y := m66_L_7) (by omega) (by omega) rfl e91 e116).mpr ⟨b1.2, b2.2⟩) (by omega) i142) | (rcases F117 with b2 | b2; (exfalso; omega); exact zRtN jv66_0 (by omega) (fun z => b2.2 ((zRk_i (k := 10 * m56_L_6.toInt.toNat + m66_L_7.toInt.toNat) (x := m56_L_6) (y := m66_L_7) (by omega) (by omega) rfl e91 e116).mp z).2)) | (rcases F92 with b1 | b1; (exfalso; omega); exact zRtN jv66_0 (by omega) (fun z => b1.2 ((zRk_i (k := 10 * m56_L_6.toInt.toNat + m66_L_7.toInt.toNat) (x := m56_L_6) (y := m66_L_7) (by omega) (by omega) rfl e91 rfl).mp z).1))) rfl H locs ls hP hD hS (lv_sub hl [0, 1, 2, 3, 4, 5, 6, 7] rfl)
                  · have c95 : ¬ v92.toInt = 0 := z6 rfl (by decide) c95
                    refine lv_aload_n hx hb dX10_rests_98 rfl (lv_at hl 3 rfl) ?_
                    refine va_get (D := (dC, dI)) (ci := 10) (v := .ref sd) (C := RX10) (T := TX10) (N := 17) hx hb hts iX10 hown hK hP 0 rfl rfl 9 (by decide) (hts _ qw365) (fun _ h9 => h9) rfl dX10_rests_99 ?_
                    refine va_get (D := (dC, dI)) (ci := 8) (v := .ref w2) (C := RX8) (T := TX8) (N := 7) hx hb hts iX8 hown hK hP 6 rfl rfl 1 (by decide) (hts _ qw288) (fun _ h9 => h9) rfl dX10_rests_102 ?_
                    refine lv_iload hx hb dX10_rests_105 (lv_at hl 0 rfl) ?_
                    refine lv_aload_n hx hb dX10_rests_107 rfl (lv_at hl 3 rfl) ?_
                    refine va_get (D := (dC, dI)) (ci := 10) (v := .ref sd) (C := RX10) (T := TX10) (N := 17) hx hb hts iX10 hown hK hP 0 rfl rfl 9 (by decide) (hts _ qw365) (fun _ h9 => h9) rfl dX10_rests_108 ?_
                    refine va_get (D := (dC, dI)) (ci := 8) (v := .ref w1) (C := RX8) (T := TX8) (N := 7) hx hb hts iX8 hown hK hP 6 rfl rfl 0 (by decide) (hts _ qw286) (fun _ h9 => h9) rfl dX10_rests_111 ?_
                    refine lv_iload hx hb dX10_rests_114 (lv_at hl 1 rfl) ?_
                    refine va_iald hx hb hK hP 7 0 rfl rfl (vp_in_iff.mpr ⟨by omega, by omega⟩) dX10_rests_116 ?_
                    refine lv_topi (fun v116 e116 => ?_)
                    obtain ⟨hPc, hDc⟩ := zc2 (wc := [(w2, .inl (cI, 10, .inl u47_2))]) hP hD [8] (by decide +kernel) rfl
                    have hFc := zfr hS hA
                    refine va_calli (va_runS (As := [.ref w2, .int m66_L_7, .int v116]) (rest := []) ⟨hx, hb, hml, hown, hts⟩ (g_X10_bestAgainst l dC dI cI cJ w2 m66_L_7 v116 u47_2 H.size (by omega)) (cwS 3 hts (zgS qw949 qw950 qw98 qw951) rfl rfl rfl hd_X10_bestAgainst ⟨by rw [hR]; exact Nat.le_of_ble_eq_true rfl, by rw [hR]; exact Nat.le_of_ble_eq_true rfl⟩) (zPS hPc hK hDc) rfl rfl hl.1 rfl (lv_room (Nat.le_of_ble_eq_true rfl)) dX10_rests_117 ⟨Nat.zero_le _, Nat.zero_le _⟩) hS (fun q _ h => hFc q h) hFc (fun v117 u117 t H locs ht hvm hw hB hz1 hk1 hS9 => ?_)
                    replace hP := zkeep hP hk1
                    replace hS := hS9
                    clear hPc hDc hFc hk1 hz1 hvm hS9
                    obtain ⟨f117_0, f117_1, f117_2⟩ : (0 ≤ v117.toInt) ∧ (v117.toInt ≤ 1) ∧ ((v117.toInt = 1 ∧ sBa u47_2 m66_L_7.toInt.toNat v116) ∨ (v117.toInt = 0 ∧ ¬ sBa u47_2 m66_L_7.toInt.toNat v116)) := hw
                    have F117 := f117_2
                    refine lv_if_ne (tgt := 126) hx hb dX10_rests_120 (by decide) (fun c120 => ?_) (fun c120 => ?_)
                    · have c120 : ¬ v117.toInt = 0 := z6 rfl (by decide) c120
                      refine lv_iload hx hb dX10_rests_126 (lv_at hl 2 rfl) ?_
                      refine lv_iload hx hb dX10_rests_128 (lv_at hl 7 rfl) ?_
                      refine lv_icmp_ne (tgt := 142) hx hb dX10_rests_130 (by decide) (fun c130 => ?_) (fun c130 => ?_)
                      · have c130 : ¬ m66_L_5.toInt = p3.toInt := z6 rfl rfl c130
                        have q142 : 0 ≤ m66_L_5.toInt ∧ m66_L_5.toInt ≤ 99 := by have z1 := jv66_0.1; have z2 := sRc_b (O1 := u31_2) (O2 := u47_2) (10 * m56_L_6.toInt.toNat + m66_L_7.toInt.toNat); omega
                        obtain ⟨v142, e142⟩ : ∃ y : Int32, y = m66_L_5 + Int32.ofInt (1) := ⟨_, rfl⟩
                        refine lv_iinc (v := v142) (lv' := [(5, .int v142), (7, .int m66_L_7), (6, .int m56_L_6), (0, .ref h0), (1, .int p0), (2, .int p1), (3, .int p2), (4, .int p3)]) hx hb dX10_rests_142 hl (k := 2) rfl e142.symm (by decide) rfl (fun ls hl => ?_)
                        have i142 : v142.toInt = m66_L_5.toInt + 1 := zaddI e142 (by decide) (by omega) (by omega)
                        obtain ⟨v145, e145⟩ : ∃ y : Int32, y = m66_L_7 + Int32.ofInt (1) := ⟨_, rfl⟩
                        refine lv_iinc (v := v145) (lv' := [(7, .int v145), (5, .int v142), (6, .int m56_L_6), (0, .ref h0), (1, .int p0), (2, .int p1), (3, .int p2), (4, .int p3)]) hx hb dX10_rests_145 hl (k := 1) rfl e145.symm (by decide) rfl (fun ls hl => ?_)
                        have i145 : v145.toInt = m66_L_7.toInt + 1 := zaddI e145 (by decide) (by omega) (by omega)
                        refine lv_goto (tgt := 66) hx hb dX10_rests_148 (by decide) ?_
                        exact ih66 _ (by omega) v142 v145 (by omega) (by omega) (by first | (rcases F92 with b1 | b1; rotate_left; (exfalso; omega); rcases F117 with b2 | b2; rotate_left; (exfalso; omega); exact zRtY jv66_0 (by omega) ((zRk_i (k := 10 * m56_L_6.toInt.toNat + m66_L_7.toInt.toNat) (x := m56_L_6) (y := m66_L_7) (by omega) (by omega) rfl e91 e116).mpr ⟨b1.2, b2.2⟩) (by omega) i142) | (rcases F117 with b2 | b2; (exfalso; omega); exact zRtN jv66_0 (by omega) (fun z => b2.2 ((zRk_i (k := 10 * m56_L_6.toInt.toNat + m66_L_7.toInt.toNat) (x := m56_L_6) (y := m66_L_7) (by omega) (by omega) rfl e91 e116).mp z).2)) | (rcases F92 with b1 | b1; (exfalso; omega); exact zRtN jv66_0 (by omega) (fun z => b1.2 ((zRk_i (k := 10 * m56_L_6.toInt.toNat + m66_L_7.toInt.toNat) (x := m56_L_6) (y := m66_L_7) (by omega) (by omega) rfl e91 rfl).mp z).1))) rfl H locs ls hP hD hS (lv_sub hl [0, 2, 1, 3, 4, 5, 6, 7] rfl)
                      · have c130 : m66_L_5.toInt = p3.toInt := z5 rfl rfl c130
                        refine lv_bipush (v := 10) hx hb dX10_rests_133 (by decide) ?_
                        refine lv_iload hx hb dX10_rests_135 (lv_at hl 1 rfl) ?_
                        refine lv_imul hx hb dX10_rests_137 ?_
                        refine lv_topi (fun v137 e137 => ?_)
                        have i137 : v137.toInt = 10 * m56_L_6.toInt := zmul e137 (by decide) rfl (by omega) (by omega)
                        refine lv_iload hx hb dX10_rests_138 (lv_at hl 0 rfl) ?_
                        refine lv_iadd hx hb dX10_rests_140 ?_
                        refine lv_topi (fun v140 e140 => ?_)
                        have i140 : v140.toInt = v137.toInt + m66_L_7.toInt := zadd e140 rfl rfl (by omega) (by omega)
                        rw [hQ]
                        exact W.iret (v := v140) hx hb hr (fun t ht hW => ⟨⟨v140, (u31_2, u47_2, u47_0, u47_1), rfl, ⟨by (try dsimp only); omega, by (try dsimp only); omega, by (try dsimp only); exact fun kc kT q_fr q_gfY q_gfP q_fR q_pl q_cn q_frf kt hc hb h ht => by have f1 := F31 kc kT _ _ _ kt hc hb h.1 ht (by omega) (by omega); have f2 := F47 kc kT _ _ _ kt hc hb h.1 ht (by omega) (by omega); unfold sV_res; rw [if_pos ⟨⟨by omega, by omega, by omega, by omega⟩, by omega⟩]; rw [if_neg (by omega), ← sRi_c f1 f2 100 (Nat.le_refl _), zRtR jv66_0 ((zRk_i (k := 10 * m56_L_6.toInt.toNat + m66_L_7.toInt.toNat) (x := m56_L_6) (y := m66_L_7) (by omega) (by omega) rfl e91 e116).mpr ⟨by rcases F92 with b1 | b1; exact b1.2; (exfalso; omega), by rcases F117 with b2 | b2; exact b2.2; (exfalso; omega)⟩) (by omega) (by omega) (by omega)]; omega⟩, ⟨by rw [ht]; exact hP, hD⟩⟩, hS.F ht⟩) hS.2.2 dX10_rests_141
                    · have c120 : v117.toInt = 0 := z5 rfl (by decide) c120
                      refine lv_goto (tgt := 145) hx hb dX10_rests_123 (by decide) ?_
                      obtain ⟨v145, e145⟩ : ∃ y : Int32, y = m66_L_7 + Int32.ofInt (1) := ⟨_, rfl⟩
                      refine lv_iinc (v := v145) (lv' := [(7, .int v145), (6, .int m56_L_6), (5, .int m66_L_5), (0, .ref h0), (1, .int p0), (2, .int p1), (3, .int p2), (4, .int p3)]) hx hb dX10_rests_145 hl (k := 0) rfl e145.symm (by decide) rfl (fun ls hl => ?_)
                      have i145 : v145.toInt = m66_L_7.toInt + 1 := zaddI e145 (by decide) (by omega) (by omega)
                      refine lv_goto (tgt := 66) hx hb dX10_rests_148 (by decide) ?_
                      exact ih66 _ (by omega) m66_L_5 v145 jf66_0 (by omega) (by first | (rcases F92 with b1 | b1; rotate_left; (exfalso; omega); rcases F117 with b2 | b2; rotate_left; (exfalso; omega); exact zRtY jv66_0 (by omega) ((zRk_i (k := 10 * m56_L_6.toInt.toNat + m66_L_7.toInt.toNat) (x := m56_L_6) (y := m66_L_7) (by omega) (by omega) rfl e91 e116).mpr ⟨b1.2, b2.2⟩) (by omega) i142) | (rcases F117 with b2 | b2; (exfalso; omega); exact zRtN jv66_0 (by omega) (fun z => b2.2 ((zRk_i (k := 10 * m56_L_6.toInt.toNat + m66_L_7.toInt.toNat) (x := m56_L_6) (y := m66_L_7) (by omega) (by omega) rfl e91 e116).mp z).2)) | (rcases F92 with b1 | b1; (exfalso; omega); exact zRtN jv66_0 (by omega) (fun z => b1.2 ((zRk_i (k := 10 * m56_L_6.toInt.toNat + m66_L_7.toInt.toNat) (x := m56_L_6) (y := m66_L_7) (by omega) (by omega) rfl e91 rfl).mp z).1))) rfl H locs ls hP hD hS (lv_sub hl [0, 1, 2, 3, 4, 5, 6, 7] rfl)
            refine lv_istore (lv' := [(7, .int 0), (6, .int m56_L_6), (5, .int m56_L_5), (0, .ref h0), (1, .int p0), (2, .int p1), (3, .int p2), (4, .int p3)]) hx hb dX10_rests_64 hl (by decide) rfl (fun ls hl => ?_)
            have zj66_m66_L_7 : (0 : Int32).toInt = 0 := by decide
            exact J66 _ m56_L_5 0 jf56_0 (by decide) (by have z1 : (0 : Int32).toInt.toNat = 0 := (by decide); rw [z1]; exact jv56_0) rfl H locs ls hP hD hS (lv_sub hl [0, 1, 2, 3, 4, 5, 6, 7] rfl)
      refine lv_istore (lv' := [(6, .int 0), (5, .int 0), (0, .ref h0), (1, .int p0), (2, .int p1), (3, .int p2), (4, .int p3)]) hx hb dX10_rests_54 hl (by decide) rfl (fun ls hl => ?_)
      have zj56_m56_L_5 : (0 : Int32).toInt = 0 := by decide
      have zj56_m56_L_6 : (0 : Int32).toInt = 0 := by decide
      exact J56 _ 0 0 (by decide) (by decide) (zRt_0) rfl H locs ls hP hD hS (lv_sub hl [0, 1, 2, 3, 4, 5, 6] rfl)
    · have c13 : p3.toInt < (-1) := z4 (by decide) rfl c13
      refine lv_iconst (v := (-1)) hx hb dX10_rests_16 (by decide) ?_
      have zr0 : ((-1) : Int32).toInt = (-1) := by decide
      rw [hQ]
      exact W.iret (v := ((-1))) hx hb hr (fun t ht hW => ⟨⟨(-1), (fw1, fw2, fL, fK), rfl, ⟨by (try dsimp only); omega, by (try dsimp only); omega, by (try dsimp only); exact fun kc kT q_fr q_gfY q_gfP q_fR q_pl q_cn q_frf kt hc hb h ht => by unfold sV_res; exact (if_neg (fun y => by obtain ⟨⟨a1, a2, a3, a4⟩, a5⟩ := y; omega)).symm⟩, ⟨by rw [ht]; exact hP, hD⟩⟩, hS.F ht⟩) hS.2.2 dX10_rests_17
set_option maxHeartbeats 4000000 in
set_option maxRecDepth 100000 in
theorem g_X10_whose_n (l : Launch) (dC : Nat → ClassId) (dI : Nat → Nat → Nat) (cI cJ : ClassId) (h0 : Nat) (p0 : Int32) (p1 : Int32) (tp : Nat) (h0_courtReader : Value) (h0_lawReader : Value) (h0_draft : Value) (aC : Nat) (h0_laws : Value) (g0 : Nat) (k0 : Nat) (ac : Nat) (sd : Nat) (mi : Nat) (dw : Nat) (rf : Nat) (lc : Int32) (lh : Int32) (br : Int32) (hi : Int32) (aR : Nat) (aB : Nat) (aP : Nat) (nb : Int32) (np : Int32) (fb : Nat → Int32) (fp : Nat → Int32) (gY : Nat) (gF : Nat) (gP : Nat) (gpn : Int32) (glt : Int32) (gsh : Int32) (gwd : Int32) (gpu : Int32) (gmo : Int32) (gfY : Nat → Int32) (gfF : Nat → Int32) (gfP : Nat → Int32) (w1 : Nat) (w2 : Nat) (aL : Nat) (aK : Nat) (sz : Nat) (n_gpn : 0 ≤ gpn.toInt ∧ gpn.toInt ≤ 20) (n_gwd : (-1) ≤ gwd.toInt ∧ gwd.toInt ≤ 5) (n_hi : 0 ≤ hi.toInt ∧ hi.toInt ≤ 1) (n_lc : 0 ≤ lc.toInt ∧ lc.toInt ≤ 4) (n_nb : 0 ≤ nb.toInt ∧ nb.toInt ≤ 6) (n_np : 0 ≤ np.toInt ∧ np.toInt ≤ 5)  (ci_gfP_zPo : zPo gfP)  : Met l yX10_whose (.code yX10_whose cX10_whose 5 (some .int) :: wA) ({ frames := 4, cells := 0, slots := 0, locals := 103 }) (zP (dC, dI) [(cI, .int), (cJ, .long)] [.ref h0, .int p0, .int p1] sz [(h0, .inr (10, [.ref tp, h0_courtReader, h0_lawReader, h0_draft, .ref aC, h0_laws, .ref g0, .ref k0, .ref ac, .ref sd, .ref mi, .ref dw, .ref rf, .int lc, .int lh, .int br, .int hi])), (aC, .inr (1, [.ref aR, .ref aB, .ref aP, .int nb, .int np])), (aB, .inl (cI, 24, .inl fb)), (aP, .inl (cI, 20, .inl fp)), (g0, .inr (7, [.ref gY, .ref gF, .ref gP, .int gpn, .int glt, .int gsh, .int gwd, .int gpu, .int gmo])), (gY, .inl (cI, 6, .inl gfY)), (gF, .inl (cI, 5, .inl gfF)), (gP, .inl (cI, 80, .inl gfP)), (sd, .inr (8, [.ref w1, .ref w2, .ref aC, .ref g0, .ref aL, .ref aK, .null]))]) (va_Qi (fun (r : Int32) (u : Unit) => (∀ (kc : zK3) (kT : zT) (q_fr : Nat → Int32) (q_fR : Nat → Int32) (q_pl : Int32) (q_cn : Int32) (q_frf : Nat → Int32), zCn q_fr fb fp nb.toInt np.toInt kc → zKo nb.toInt np.toInt kc kT → zTc nb.toInt np.toInt kT gfY gfF gfP gpn glt gsh gwd gpu gmo q_fR q_pl q_cn q_frf → r = sV_who nb.toInt np.toInt kc kT.1 none p0 p1)) (fun (_ : Unit) (_ : State) => True) (va_A [] sz)) 0 0 (va_A [] sz) := by
  refine Met.ofW (cc := cX10_whose) (maxL := 5) (ret := (some .int)) (by decide) rfl ?_
  intro p e s m args below meth c s₁ B hml hv
  have y_gwd : zHid ((-1) ≤ gwd.toInt ∧ gwd.toInt ≤ 5) := n_gwd
  have y_hi : zHid (0 ≤ hi.toInt ∧ hi.toInt ≤ 1) := n_hi
  have y_lc : zHid (0 ≤ lc.toInt ∧ lc.toInt ≤ 4) := n_lc
  clear n_gwd n_hi n_lc
  obtain ⟨hargs, hsz, hP, hK, hT⟩ := hv
  have hx := B.exec
  have hb := B.bytes
  have hr := B.returns
  have hts : ∀ w ∈ wA, w.before args s = true := fun w h => atoms_spec (ws := .code yX10_whose cX10_whose 5 (some .int) :: wA) B.pre w (List.mem_cons_of_mem _ h)
  have hown : s.vm.findClass RX10 = some m.cls := findClass_of_methodNamed B.named
  have hlocks := B.notSynchronized
  subst hsz
  have hD : va_D (va_A [] s.heap.size) [] := zD0
  generalize hAe : va_A [] s.heap.size = A at hD ⊢
  have hA : ∀ q : Nat, s.heap.size ≤ q → A q := fun q h => by rw [← hAe]; exact Or.inr h
  have hl := lv_entry ([.ref h0, .int p0, .int p1]) (n := 5) (Nat.le_of_ble_eq_true rfl)
  rw [show entryFrame m args 5 = entryFrame m ([.ref h0, .int p0, .int p1] : List Value).toArray 5 by rw [hargs], lg_entry_eq]
  generalize (lg_sl ([.ref h0, .int p0, .int p1]) ++ List.replicate (5 - (lg_sl ([.ref h0, .int p0, .int p1])).length) Slot.unset).toArray = ls at hl ⊢
  have hl : lv_has ls 5 [(0, .ref h0), (1, .int p0), (2, .int p1)] := hl
  refine zstart (fun H hH => ?_)
  rw [← hH] at hP
  have hS : va_S A s.heap H [] := by rw [hH]; exact va_S.rf
  generalize ([] : List Loc) = locs at hS ⊢
  refine zgen (fun R Q hR hQ => ?_)
  refine lv_aload_n hx hb dX10_whose_0 rfl (lv_at hl 0 rfl) ?_
  refine lv_iload_n hx hb dX10_whose_1 rfl (lv_at hl 1 rfl) ?_
  obtain ⟨hPc, hDc⟩ := zc2 (wc := [(h0, .inr (10, [.ref tp, h0_courtReader, h0_lawReader, h0_draft, .ref aC, h0_laws, .ref g0, .ref k0, .ref ac, .ref sd, .ref mi, .ref dw, .ref rf, .int lc, .int lh, .int br, .int hi])), (aC, .inr (1, [.ref aR, .ref aB, .ref aP, .int nb, .int np]))]) hP hT [0, 1] (by decide +kernel) rfl
  have hFc := zfr hS hA
  refine va_calli (va_runV (As := [.int p0]) (rest := []) ⟨hx, hb, hml, hown, hts⟩ (g_X10_isPainter l dC dI cI cJ h0 p0 (.ref tp) h0_courtReader h0_lawReader h0_draft aC h0_laws (.ref g0) (.ref k0) (.ref ac) (.ref sd) (.ref mi) (.ref dw) (.ref rf) (.int lc) (.int lh) (.int br) (.int hi) aR aB aP nb np H.size n_np) (cwV 1 hts (zgV qw600 qw602 qw11 qw98 qw603) rfl rfl rfl hd_X10_isPainter ⟨by rw [hR]; exact Nat.le_of_ble_eq_true rfl, by rw [hR]; exact Nat.le_of_ble_eq_true rfl⟩) (zPV hPc hK hDc (va_recv (q := (RX10, TX10, 17)) hK hP (ci := 10) (q0 := 0) rfl rfl)) rfl rfl hl.1 rfl (lv_room (Nat.le_of_ble_eq_true rfl)) dX10_whose_2 ⟨Nat.zero_le _, Nat.zero_le _⟩) hS (fun q _ h => hFc q h) hFc (fun v2 u2 t H locs ht hvm hw hB hz1 hk1 hS9 => ?_)
  replace hP := zkeep hP hk1
  replace hS := hS9
  clear hPc hDc hFc hk1 hz1 hvm hS9
  obtain ⟨f2_0, f2_1, f2_2, f2_3⟩ : (0 ≤ v2.toInt) ∧ (v2.toInt ≤ 1) ∧ (¬ v2.toInt = 0 → (0 ≤ p0.toInt ∧ p0.toInt < np.toInt)) ∧ (v2.toInt = 0 → ¬ (0 ≤ p0.toInt ∧ p0.toInt < np.toInt)) := hw
  refine lv_if_eq (tgt := 15) hx hb dX10_whose_5 (by decide) (fun c5 => ?_) (fun c5 => ?_)
  · have c5 : v2.toInt = 0 := z5 rfl (by decide) c5
    refine lv_iconst (v := (-1)) hx hb dX10_whose_15 (by decide) ?_
    have zr0 : ((-1) : Int32).toInt = (-1) := by decide
    rw [hQ]
    exact W.iret (v := ((-1))) hx hb hr (fun t ht hW => ⟨⟨(-1), (), rfl, (fun kc kT q_fr q_fR q_pl q_cn q_frf hc hb h => by unfold sV_who; rw [if_neg (by omega)]; ), trivial⟩, hS.F ht⟩) hS.2.2 dX10_whose_16
  · have c5 : ¬ v2.toInt = 0 := z6 rfl (by decide) c5
    refine lv_iload_n hx hb dX10_whose_8 rfl (lv_at hl 2 rfl) ?_
    have hPc : va_P (dC, dI) vwCl [] H := zP0
    have hDc : va_D (fun _ => True) [] := zD0
    have hFc := zfr hS hA
    refine va_calli (va_runS (As := [.int p1]) (rest := []) ⟨hx, hb, hml, hown, hts⟩ (g_X10_isDigit l dC dI cI cJ p1 H.size) (cwS 1 hts (zgS qw714 qw715 qw98 qw716) rfl rfl rfl hd_X10_isDigit ⟨by rw [hR]; exact Nat.le_of_ble_eq_true rfl, by rw [hR]; exact Nat.le_of_ble_eq_true rfl⟩) (zPS hPc hK hDc) rfl rfl hl.1 rfl (lv_room (Nat.le_of_ble_eq_true rfl)) dX10_whose_9 ⟨Nat.zero_le _, Nat.zero_le _⟩) hS (fun q _ h => hFc q h) hFc (fun v9 u9 t H locs ht hvm hw hB hz1 hk1 hS9 => ?_)
    replace hP := zkeep hP hk1
    replace hS := hS9
    clear hPc hDc hFc hk1 hz1 hvm hS9
    obtain ⟨f9_0, f9_1, f9_2, f9_3⟩ : (0 ≤ v9.toInt) ∧ (v9.toInt ≤ 1) ∧ (¬ v9.toInt = 0 → (0 ≤ p1.toInt ∧ p1.toInt ≤ 9)) ∧ (v9.toInt = 0 → ¬ (0 ≤ p1.toInt ∧ p1.toInt ≤ 9)) := hw
    refine lv_if_ne (tgt := 17) hx hb dX10_whose_12 (by decide) (fun c12 => ?_) (fun c12 => ?_)
    · have c12 : ¬ v9.toInt = 0 := z6 rfl (by decide) c12
      refine lv_iconst (v := 0) hx hb dX10_whose_17 (by decide) ?_
      refine lv_istore_n (lv' := [(3, .int 0), (0, .ref h0), (1, .int p0), (2, .int p1)]) hx hb dX10_whose_18 rfl hl (by decide) rfl (fun ls hl => ?_)
      refine lv_iconst (v := 0) hx hb dX10_whose_19 (by decide) ?_
      have J22 : ∀ (n : Nat) (m22_L_3 : Int32) (m22_L_4 : Int32), (0 ≤ m22_L_4.toInt ∧ m22_L_4.toInt ≤ 6) → (∀ (kc : zK3) (kT : zT) (q_fr : Nat → Int32) (q_fR : Nat → Int32) (q_pl : Int32) (q_cn : Int32) (q_frf : Nat → Int32), zCn q_fr fb fp nb.toInt np.toInt kc → zKo nb.toInt np.toInt kc kT → zTc nb.toInt np.toInt kT gfY gfF gfP gpn glt gsh gwd gpu gmo q_fR q_pl q_cn q_frf → m22_L_3 = sWho kc kT.1 none p0 p1 m22_L_4.toInt.toNat) → (m22_L_4.toInt ≤ nb.toInt) → (7 - m22_L_4.toInt).toNat = n → ∀ (H : Heap) (locs : List Loc) (ls : Array Slot), va_P (dC, dI) vwCl [(h0, .inr (10, [.ref tp, h0_courtReader, h0_lawReader, h0_draft, .ref aC, h0_laws, .ref g0, .ref k0, .ref ac, .ref sd, .ref mi, .ref dw, .ref rf, .int lc, .int lh, .int br, .int hi])), (aC, .inr (1, [.ref aR, .ref aB, .ref aP, .int nb, .int np])), (aB, .inl (cI, 24, .inl fb)), (aP, .inl (cI, 20, .inl fp)), (g0, .inr (7, [.ref gY, .ref gF, .ref gP, .int gpn, .int glt, .int gsh, .int gwd, .int gpu, .int gmo])), (gY, .inl (cI, 6, .inl gfY)), (gF, .inl (cI, 5, .inl gfF)), (gP, .inl (cI, 80, .inl gfP)), (sd, .inr (8, [.ref w1, .ref w2, .ref aC, .ref g0, .ref aL, .ref aK, .null]))] H → va_S A s.heap H locs → lv_has ls 5 [(4, .int m22_L_4), (3, .int m22_L_3), (0, .ref h0), (1, .int p0), (2, .int p1)] → W p l e R s m args below meth c H locs 0 0 Q (F0 m 22 ls []) := by
        intro n22
        induction n22 using Nat.strongRecOn with
        | _ n22 ih22 =>
          intro m22_L_3 m22_L_4 jf22_0 jv22_0 jf22_2 hmu22 H locs ls hP hS hl
          refine lv_iload hx hb dX10_whose_22 (lv_at hl 0 rfl) ?_
          refine lv_aload_n hx hb dX10_whose_24 rfl (lv_at hl 2 rfl) ?_
          refine va_get (D := (dC, dI)) (ci := 10) (v := .ref aC) (C := RX10) (T := TX10) (N := 17) hx hb hts iX10 hown hK hP 0 rfl rfl 4 (by decide) (hts _ qw360) (fun _ h9 => h9) rfl dX10_whose_25 ?_
          refine va_get (D := (dC, dI)) (ci := 1) (v := .int nb) (C := RX1) (T := TX1) (N := 5) hx hb hts iX1 hown hK hP 1 rfl rfl 3 (by decide) (hts _ qw195) (fun _ h9 => h9) rfl dX10_whose_28 ?_
          refine lv_icmp_ge (tgt := 70) hx hb dX10_whose_31 (by decide) (fun c31 => ?_) (fun c31 => ?_)
          · have c31 : nb.toInt ≤ m22_L_4.toInt := z3 rfl rfl c31
            refine lv_iload_n hx hb dX10_whose_70 rfl (lv_at hl 1 rfl) ?_
            rw [hQ]
            exact W.iret (v := m22_L_3) hx hb hr (fun t ht hW => ⟨⟨m22_L_3, (), rfl, (fun kc kT q_fr q_fR q_pl q_cn q_frf hc hb h => by unfold sV_who; rw [if_pos (by omega)]; rw [jv22_0 kc kT _ _ _ _ _ hc hb h, show m22_L_4.toInt.toNat = nb.toInt.toNat by omega]), trivial⟩, hS.F ht⟩) hS.2.2 dX10_whose_71
          · have c31 : m22_L_4.toInt < nb.toInt := z4 rfl rfl c31
            refine lv_aload_n hx hb dX10_whose_34 rfl (lv_at hl 2 rfl) ?_
            refine va_get (D := (dC, dI)) (ci := 10) (v := .ref sd) (C := RX10) (T := TX10) (N := 17) hx hb hts iX10 hown hK hP 0 rfl rfl 9 (by decide) (hts _ qw365) (fun _ h9 => h9) rfl dX10_whose_35 ?_
            refine lv_iload_n hx hb dX10_whose_38 rfl (lv_at hl 3 rfl) ?_
            refine lv_iload hx hb dX10_whose_39 (lv_at hl 0 rfl) ?_
            refine lv_aload_n hx hb dX10_whose_41 rfl (lv_at hl 2 rfl) ?_
            refine va_get (D := (dC, dI)) (ci := 10) (v := .ref aC) (C := RX10) (T := TX10) (N := 17) hx hb hts iX10 hown hK hP 0 rfl rfl 4 (by decide) (hts _ qw360) (fun _ h9 => h9) rfl dX10_whose_42 ?_
            refine lv_iload hx hb dX10_whose_45 (lv_at hl 0 rfl) ?_
            obtain ⟨hPc, hDc⟩ := zc2 (wc := [(aC, .inr (1, [.ref aR, .ref aB, .ref aP, .int nb, .int np])), (aB, .inl (cI, 24, .inl fb))]) hP hT [1, 2] (by decide +kernel) rfl
            have hFc := zfr hS hA
            refine va_calli (va_runV (As := [.int m22_L_4]) (rest := [.int m22_L_4, .int p0, .ref sd]) ⟨hx, hb, hml, hown, hts⟩ (g_X1_faceOf l dC dI cI cJ aC m22_L_4 aR aB aP nb np fb H.size (by omega)) (cwV 1 hts (zgV qw702 qw703 qw704 qw102 qw705) rfl rfl rfl hd_X1_faceOf ⟨by rw [hR]; exact Nat.le_of_ble_eq_true rfl, by rw [hR]; exact Nat.le_of_ble_eq_true rfl⟩) (zPV hPc hK hDc (va_recv (q := (RX1, TX1, 5)) hK hP (ci := 1) (q0 := 1) rfl rfl)) rfl rfl hl.1 rfl (lv_room (Nat.le_of_ble_eq_true rfl)) dX10_whose_47 ⟨Nat.zero_le _, Nat.zero_le _⟩) hS (fun q _ h => hFc q h) hFc (fun v47 u47 t H locs ht hvm hw hB hz1 hk1 hS9 => ?_)
            replace hP := zkeep hP hk1
            replace hS := hS9
            clear hPc hDc hFc hk1 hz1 hvm hS9
            have f47_0 : (v47 = fb (4 * m22_L_4.toInt.toNat)) := hw
            have F47 := f47_0
            obtain ⟨hPc, hDc⟩ := zc2 (wc := [(sd, .inr (8, [.ref w1, .ref w2, .ref aC, .ref g0, .ref aL, .ref aK, .null])), (aC, .inr (1, [.ref aR, .ref aB, .ref aP, .int nb, .int np])), (aB, .inl (cI, 24, .inl fb)), (aP, .inl (cI, 20, .inl fp)), (g0, .inr (7, [.ref gY, .ref gF, .ref gP, .int gpn, .int glt, .int gsh, .int gwd, .int gpu, .int gmo])), (gY, .inl (cI, 6, .inl gfY)), (gF, .inl (cI, 5, .inl gfF)), (gP, .inl (cI, 80, .inl gfP))]) hP hT [8, 1, 2, 3, 4, 5, 6, 7] (by decide +kernel) rfl
            have hFc := zfr hS hA
            refine va_calli (va_runV (As := [.int p0, .int m22_L_4, .int v47]) (rest := []) ⟨hx, hb, hml, hown, hts⟩ (g_X8_showOf_n l dC dI cI cJ sd p0 m22_L_4 v47 w1 w2 aC g0 aL aK aR aB aP nb np fb fp gY gF gP gpn glt gsh gwd gpu gmo gfY gfF gfP H.size n_gpn (by omega) (by omega) ci_gfP_zPo) (cwV 3 hts (zgV qw643 qw644 qw645 qw105 qw646) rfl rfl rfl hd_X8_showOf ⟨by rw [hR]; exact Nat.le_of_ble_eq_true rfl, by rw [hR]; exact Nat.le_of_ble_eq_true rfl⟩) (zPV hPc hK hDc (va_recv (q := (RX8, TX8, 7)) hK hP (ci := 8) (q0 := 8) rfl rfl)) rfl rfl hl.1 rfl (lv_room (Nat.le_of_ble_eq_true rfl)) dX10_whose_50 ⟨Nat.zero_le _, Nat.zero_le _⟩) hS (fun q _ h => hFc q h) hFc (fun v50 u50 t H locs ht hvm hw hB hz1 hk1 hS9 => ?_)
            replace hP := zkeep hP hk1
            replace hS := hS9
            clear hPc hDc hFc hk1 hz1 hvm hS9
            obtain ⟨f50_0, f50_1, f50_2⟩ : (0 ≤ v50.toInt) ∧ (v50.toInt ≤ 9) ∧ (∀ sk mo : Int32, v50 = zSh (fp (4 * p0.toInt.toNat + 3)) (zLat gfP p0 gpn.toInt.toNat) (zLkv none v47 (fb (4 * m22_L_4.toInt.toNat + 2)) (gfY m22_L_4.toInt.toNat) sk (gfF p0.toInt.toNat) mo)) := hw
            have F50 := f50_2
            refine lv_iload_n hx hb dX10_whose_53 rfl (lv_at hl 4 rfl) ?_
            refine lv_icmp_ne (tgt := 64) hx hb dX10_whose_54 (by decide) (fun c54 => ?_) (fun c54 => ?_)
            · have c54 : ¬ v50.toInt = p1.toInt := z6 rfl rfl c54
              obtain ⟨v64, e64⟩ : ∃ y : Int32, y = m22_L_4 + Int32.ofInt (1) := ⟨_, rfl⟩
              refine lv_iinc (v := v64) (lv' := [(4, .int v64), (3, .int m22_L_3), (0, .ref h0), (1, .int p0), (2, .int p1)]) hx hb dX10_whose_64 hl (k := 0) rfl e64.symm (by decide) rfl (fun ls hl => ?_)
              have i64 : v64.toInt = m22_L_4.toInt + 1 := zaddI e64 (by decide) (by omega) (by omega)
              refine lv_goto (tgt := 22) hx hb dX10_whose_67 (by decide) ?_
              exact ih22 _ (by omega) m22_L_3 v64 (by omega) (fun kc kT q_fr q_fR q_pl q_cn q_frf hc hb h => by have a := jv22_0 kc kT _ _ _ _ _ hc hb h; have y47 : v47 = kc.2.1 (4 * m22_L_4.toInt.toNat) := F47.trans (hc.2.1 _ (by omega)); have s0 : v50 = sShow kc kT.1 none p0 m22_L_4 (kc.2.1 (4 * m22_L_4.toInt.toNat)) := (by rw [← y47]; exact sShow_n hc h.1 (by omega) (by omega) F50); first | exact zWhoY a (by omega) i64 s0 (by omega) e61 e62 | exact zWhoN a (by omega) i64 s0 (by omega)) (by omega) rfl H locs ls hP hS (lv_sub hl [0, 1, 2, 3, 4] rfl)
            · have c54 : v50.toInt = p1.toInt := z5 rfl rfl c54
              refine lv_iload_n hx hb dX10_whose_57 rfl (lv_at hl 1 rfl) ?_
              refine lv_iconst (v := 1) hx hb dX10_whose_58 (by decide) ?_
              refine lv_iload hx hb dX10_whose_59 (lv_at hl 0 rfl) ?_
              refine lv_ishl hx hb dX10_whose_61 ?_
              refine lv_topi (fun v61 e61 => ?_)
              have i61 : 1 ≤ v61.toInt ∧ v61.toInt ≤ 32 := zshl1 e61 (by omega) (by omega)
              refine lv_ior hx hb dX10_whose_62 ?_
              refine lv_topi (fun v62 e62 => ?_)
              refine lv_istore_n (lv' := [(3, .int v62), (4, .int m22_L_4), (0, .ref h0), (1, .int p0), (2, .int p1)]) hx hb dX10_whose_63 rfl hl (by decide) rfl (fun ls hl => ?_)
              obtain ⟨v64, e64⟩ : ∃ y : Int32, y = m22_L_4 + Int32.ofInt (1) := ⟨_, rfl⟩
              refine lv_iinc (v := v64) (lv' := [(4, .int v64), (3, .int v62), (0, .ref h0), (1, .int p0), (2, .int p1)]) hx hb dX10_whose_64 hl (k := 1) rfl e64.symm (by decide) rfl (fun ls hl => ?_)
              have i64 : v64.toInt = m22_L_4.toInt + 1 := zaddI e64 (by decide) (by omega) (by omega)
              refine lv_goto (tgt := 22) hx hb dX10_whose_67 (by decide) ?_
              exact ih22 _ (by omega) v62 v64 (by omega) (fun kc kT q_fr q_fR q_pl q_cn q_frf hc hb h => by have a := jv22_0 kc kT _ _ _ _ _ hc hb h; have y47 : v47 = kc.2.1 (4 * m22_L_4.toInt.toNat) := F47.trans (hc.2.1 _ (by omega)); have s0 : v50 = sShow kc kT.1 none p0 m22_L_4 (kc.2.1 (4 * m22_L_4.toInt.toNat)) := (by rw [← y47]; exact sShow_n hc h.1 (by omega) (by omega) F50); first | exact zWhoY a (by omega) i64 s0 (by omega) e61 e62 | exact zWhoN a (by omega) i64 s0 (by omega)) (by omega) rfl H locs ls hP hS (lv_sub hl [0, 1, 2, 3, 4] rfl)
      refine lv_istore (lv' := [(4, .int 0), (3, .int 0), (0, .ref h0), (1, .int p0), (2, .int p1)]) hx hb dX10_whose_20 hl (by decide) rfl (fun ls hl => ?_)
      have zj22_m22_L_3 : (0 : Int32).toInt = 0 := by decide
      have zj22_m22_L_4 : (0 : Int32).toInt = 0 := by decide
      exact J22 _ 0 0 (by decide) (fun kc kT q_fr q_fR q_pl q_cn q_frf hc hb h => rfl) (by omega) rfl H locs ls hP hS (lv_sub hl [0, 1, 2, 3, 4] rfl)
    · have c12 : v9.toInt = 0 := z5 rfl (by decide) c12
      refine lv_iconst (v := (-1)) hx hb dX10_whose_15 (by decide) ?_
      have zr0 : ((-1) : Int32).toInt = (-1) := by decide
      rw [hQ]
      exact W.iret (v := ((-1))) hx hb hr (fun t ht hW => ⟨⟨(-1), (), rfl, (fun kc kT q_fr q_fR q_pl q_cn q_frf hc hb h => by unfold sV_who; rw [if_neg (by omega)]; ), trivial⟩, hS.F ht⟩) hS.2.2 dX10_whose_16
set_option maxHeartbeats 4000000 in
set_option maxRecDepth 100000 in
theorem g_X10_whose_l (l : Launch) (dC : Nat → ClassId) (dI : Nat → Nat → Nat) (cI cJ : ClassId) (h0 : Nat) (p0 : Int32) (p1 : Int32) (tp : Nat) (h0_courtReader : Value) (h0_lawReader : Value) (h0_draft : Value) (aC : Nat) (h0_laws : Value) (g0 : Nat) (k0 : Nat) (ac : Nat) (sd : Nat) (mi : Nat) (dw : Nat) (rf : Nat) (lc : Int32) (lh : Int32) (br : Int32) (hi : Int32) (aR : Nat) (aB : Nat) (aP : Nat) (nb : Int32) (np : Int32) (fb : Nat → Int32) (fp : Nat → Int32) (gY : Nat) (gF : Nat) (gP : Nat) (gpn : Int32) (glt : Int32) (gsh : Int32) (gwd : Int32) (gpu : Int32) (gmo : Int32) (gfY : Nat → Int32) (gfF : Nat → Int32) (gfP : Nat → Int32) (w1 : Nat) (w2 : Nat) (aL : Nat) (aK : Nat) (lw : Nat) (fL : Nat → Int32) (fK : Nat → Int32) (lS : Nat) (fS : Nat → Int32) (lk : Nat) (sz : Nat) (n_gpn : 0 ≤ gpn.toInt ∧ gpn.toInt ≤ 20) (n_gwd : (-1) ≤ gwd.toInt ∧ gwd.toInt ≤ 5) (n_hi : 0 ≤ hi.toInt ∧ hi.toInt ≤ 1) (n_lc : 0 ≤ lc.toInt ∧ lc.toInt ≤ 4) (n_nb : 0 ≤ nb.toInt ∧ nb.toInt ≤ 6) (n_np : 0 ≤ np.toInt ∧ np.toInt ≤ 5) (hlk : lk ≤ 241) (ci_fS_zSt : zSt fS) (ci_gfP_zPo : zPo gfP)  : Met l yX10_whose (.code yX10_whose cX10_whose 5 (some .int) :: wA) ({ frames := 4, cells := 0, slots := 0, locals := 103 }) (zP (dC, dI) [(cI, .int), (cJ, .long)] [.ref h0, .int p0, .int p1] sz [(h0, .inr (10, [.ref tp, h0_courtReader, h0_lawReader, h0_draft, .ref aC, h0_laws, .ref g0, .ref k0, .ref ac, .ref sd, .ref mi, .ref dw, .ref rf, .int lc, .int lh, .int br, .int hi])), (aC, .inr (1, [.ref aR, .ref aB, .ref aP, .int nb, .int np])), (aB, .inl (cI, 24, .inl fb)), (aP, .inl (cI, 20, .inl fp)), (g0, .inr (7, [.ref gY, .ref gF, .ref gP, .int gpn, .int glt, .int gsh, .int gwd, .int gpu, .int gmo])), (gY, .inl (cI, 6, .inl gfY)), (gF, .inl (cI, 5, .inl gfF)), (gP, .inl (cI, 80, .inl gfP)), (sd, .inr (8, [.ref w1, .ref w2, .ref aC, .ref g0, .ref aL, .ref aK, .ref lw])), (aL, .inl (cI, 6, .inl fL)), (aK, .inl (cI, 32, .inl fK)), (lw, .inr (4, [.ref lS])), (lS, .inl (cI, lk, .inl fS))]) (va_Qi (fun (r : Int32) (u : (Nat → Int32) × (Nat → Int32)) => (∀ (kc : zK3) (kT : zT) (q_fr : Nat → Int32) (q_fR : Nat → Int32) (q_pl : Int32) (q_cn : Int32) (q_frf : Nat → Int32) (kt : (Int → Int) × Int), zCn q_fr fb fp nb.toInt np.toInt kc → zKo nb.toInt np.toInt kc kT → zTc nb.toInt np.toInt kT gfY gfF gfP gpn glt gsh gwd gpu gmo q_fR q_pl q_cn q_frf → zLwC fS lk kt → r = sV_who nb.toInt np.toInt kc kT.1 (some kt) p0 p1)) (fun (u : (Nat → Int32) × (Nat → Int32)) (t : State) => va_P (dC, dI) vwCl [(h0, .inr (10, [.ref tp, h0_courtReader, h0_lawReader, h0_draft, .ref aC, h0_laws, .ref g0, .ref k0, .ref ac, .ref sd, .ref mi, .ref dw, .ref rf, .int lc, .int lh, .int br, .int hi])), (aC, .inr (1, [.ref aR, .ref aB, .ref aP, .int nb, .int np])), (aB, .inl (cI, 24, .inl fb)), (aP, .inl (cI, 20, .inl fp)), (g0, .inr (7, [.ref gY, .ref gF, .ref gP, .int gpn, .int glt, .int gsh, .int gwd, .int gpu, .int gmo])), (gY, .inl (cI, 6, .inl gfY)), (gF, .inl (cI, 5, .inl gfF)), (gP, .inl (cI, 80, .inl gfP)), (sd, .inr (8, [.ref w1, .ref w2, .ref aC, .ref g0, .ref aL, .ref aK, .ref lw])), (aL, .inl (cI, 6, .inl u.1)), (aK, .inl (cI, 32, .inl u.2)), (lw, .inr (4, [.ref lS])), (lS, .inl (cI, lk, .inl fS))] t.heap ∧ va_D (va_A [(h0, .inr (10, [.ref tp, h0_courtReader, h0_lawReader, h0_draft, .ref aC, h0_laws, .ref g0, .ref k0, .ref ac, .ref sd, .ref mi, .ref dw, .ref rf, .int lc, .int lh, .int br, .int hi])), (aC, .inr (1, [.ref aR, .ref aB, .ref aP, .int nb, .int np])), (aB, .inl (cI, 24, .inl fb)), (aP, .inl (cI, 20, .inl fp)), (g0, .inr (7, [.ref gY, .ref gF, .ref gP, .int gpn, .int glt, .int gsh, .int gwd, .int gpu, .int gmo])), (gY, .inl (cI, 6, .inl gfY)), (gF, .inl (cI, 5, .inl gfF)), (gP, .inl (cI, 80, .inl gfP)), (sd, .inr (8, [.ref w1, .ref w2, .ref aC, .ref g0, .ref aL, .ref aK, .ref lw])), (aL, .inl (cI, 6, .inl fL)), (aK, .inl (cI, 32, .inl fK)), (lw, .inr (4, [.ref lS])), (lS, .inl (cI, lk, .inl fS))] sz) [(h0, .inr (10, [.ref tp, h0_courtReader, h0_lawReader, h0_draft, .ref aC, h0_laws, .ref g0, .ref k0, .ref ac, .ref sd, .ref mi, .ref dw, .ref rf, .int lc, .int lh, .int br, .int hi])), (aC, .inr (1, [.ref aR, .ref aB, .ref aP, .int nb, .int np])), (aB, .inl (cI, 24, .inl fb)), (aP, .inl (cI, 20, .inl fp)), (g0, .inr (7, [.ref gY, .ref gF, .ref gP, .int gpn, .int glt, .int gsh, .int gwd, .int gpu, .int gmo])), (gY, .inl (cI, 6, .inl gfY)), (gF, .inl (cI, 5, .inl gfF)), (gP, .inl (cI, 80, .inl gfP)), (sd, .inr (8, [.ref w1, .ref w2, .ref aC, .ref g0, .ref aL, .ref aK, .ref lw])), (aL, .inl (cI, 6, .inl u.1)), (aK, .inl (cI, 32, .inl u.2)), (lw, .inr (4, [.ref lS])), (lS, .inl (cI, lk, .inl fS))]) (va_A [(h0, .inr (10, [.ref tp, h0_courtReader, h0_lawReader, h0_draft, .ref aC, h0_laws, .ref g0, .ref k0, .ref ac, .ref sd, .ref mi, .ref dw, .ref rf, .int lc, .int lh, .int br, .int hi])), (aC, .inr (1, [.ref aR, .ref aB, .ref aP, .int nb, .int np])), (aB, .inl (cI, 24, .inl fb)), (aP, .inl (cI, 20, .inl fp)), (g0, .inr (7, [.ref gY, .ref gF, .ref gP, .int gpn, .int glt, .int gsh, .int gwd, .int gpu, .int gmo])), (gY, .inl (cI, 6, .inl gfY)), (gF, .inl (cI, 5, .inl gfF)), (gP, .inl (cI, 80, .inl gfP)), (sd, .inr (8, [.ref w1, .ref w2, .ref aC, .ref g0, .ref aL, .ref aK, .ref lw])), (aL, .inl (cI, 6, .inl fL)), (aK, .inl (cI, 32, .inl fK)), (lw, .inr (4, [.ref lS])), (lS, .inl (cI, lk, .inl fS))] sz)) 0 0 (va_A [(h0, .inr (10, [.ref tp, h0_courtReader, h0_lawReader, h0_draft, .ref aC, h0_laws, .ref g0, .ref k0, .ref ac, .ref sd, .ref mi, .ref dw, .ref rf, .int lc, .int lh, .int br, .int hi])), (aC, .inr (1, [.ref aR, .ref aB, .ref aP, .int nb, .int np])), (aB, .inl (cI, 24, .inl fb)), (aP, .inl (cI, 20, .inl fp)), (g0, .inr (7, [.ref gY, .ref gF, .ref gP, .int gpn, .int glt, .int gsh, .int gwd, .int gpu, .int gmo])), (gY, .inl (cI, 6, .inl gfY)), (gF, .inl (cI, 5, .inl gfF)), (gP, .inl (cI, 80, .inl gfP)), (sd, .inr (8, [.ref w1, .ref w2, .ref aC, .ref g0, .ref aL, .ref aK, .ref lw])), (aL, .inl (cI, 6, .inl fL)), (aK, .inl (cI, 32, .inl fK)), (lw, .inr (4, [.ref lS])), (lS, .inl (cI, lk, .inl fS))] sz) := by
  refine Met.ofW (cc := cX10_whose) (maxL := 5) (ret := (some .int)) (by decide) rfl ?_
  intro p e s m args below meth c s₁ B hml hv
  have y_gwd : zHid ((-1) ≤ gwd.toInt ∧ gwd.toInt ≤ 5) := n_gwd
  have y_hi : zHid (0 ≤ hi.toInt ∧ hi.toInt ≤ 1) := n_hi
  have y_lc : zHid (0 ≤ lc.toInt ∧ lc.toInt ≤ 4) := n_lc
  clear n_gwd n_hi n_lc
  obtain ⟨hargs, hsz, hP, hK, hT⟩ := hv
  have hx := B.exec
  have hb := B.bytes
  have hr := B.returns
  have hts : ∀ w ∈ wA, w.before args s = true := fun w h => atoms_spec (ws := .code yX10_whose cX10_whose 5 (some .int) :: wA) B.pre w (List.mem_cons_of_mem _ h)
  have hown : s.vm.findClass RX10 = some m.cls := findClass_of_methodNamed B.named
  have hlocks := B.notSynchronized
  subst hsz
  have hD := hT.self (sz := s.heap.size)
  generalize hAe : va_A [(h0, .inr (10, [.ref tp, h0_courtReader, h0_lawReader, h0_draft, .ref aC, h0_laws, .ref g0, .ref k0, .ref ac, .ref sd, .ref mi, .ref dw, .ref rf, .int lc, .int lh, .int br, .int hi])), (aC, .inr (1, [.ref aR, .ref aB, .ref aP, .int nb, .int np])), (aB, .inl (cI, 24, .inl fb)), (aP, .inl (cI, 20, .inl fp)), (g0, .inr (7, [.ref gY, .ref gF, .ref gP, .int gpn, .int glt, .int gsh, .int gwd, .int gpu, .int gmo])), (gY, .inl (cI, 6, .inl gfY)), (gF, .inl (cI, 5, .inl gfF)), (gP, .inl (cI, 80, .inl gfP)), (sd, .inr (8, [.ref w1, .ref w2, .ref aC, .ref g0, .ref aL, .ref aK, .ref lw])), (aL, .inl (cI, 6, .inl fL)), (aK, .inl (cI, 32, .inl fK)), (lw, .inr (4, [.ref lS])), (lS, .inl (cI, lk, .inl fS))] s.heap.size = A at hD ⊢
  have hA : ∀ q : Nat, s.heap.size ≤ q → A q := fun q h => by rw [← hAe]; exact Or.inr h
  have hl := lv_entry ([.ref h0, .int p0, .int p1]) (n := 5) (Nat.le_of_ble_eq_true rfl)
  rw [show entryFrame m args 5 = entryFrame m ([.ref h0, .int p0, .int p1] : List Value).toArray 5 by rw [hargs], lg_entry_eq]
  generalize (lg_sl ([.ref h0, .int p0, .int p1]) ++ List.replicate (5 - (lg_sl ([.ref h0, .int p0, .int p1])).length) Slot.unset).toArray = ls at hl ⊢
  have hl : lv_has ls 5 [(0, .ref h0), (1, .int p0), (2, .int p1)] := hl
  refine zstart (fun H hH => ?_)
  rw [← hH] at hP
  have hS : va_S A s.heap H [] := by rw [hH]; exact va_S.rf
  generalize ([] : List Loc) = locs at hS ⊢
  refine zgen (fun R Q hR hQ => ?_)
  refine lv_aload_n hx hb dX10_whose_0 rfl (lv_at hl 0 rfl) ?_
  refine lv_iload_n hx hb dX10_whose_1 rfl (lv_at hl 1 rfl) ?_
  obtain ⟨hPc, hDc⟩ := zc2 (wc := [(h0, .inr (10, [.ref tp, h0_courtReader, h0_lawReader, h0_draft, .ref aC, h0_laws, .ref g0, .ref k0, .ref ac, .ref sd, .ref mi, .ref dw, .ref rf, .int lc, .int lh, .int br, .int hi])), (aC, .inr (1, [.ref aR, .ref aB, .ref aP, .int nb, .int np]))]) hP hD [0, 1] (by decide +kernel) rfl
  have hFc := zfr hS hA
  refine va_calli (va_runV (As := [.int p0]) (rest := []) ⟨hx, hb, hml, hown, hts⟩ (g_X10_isPainter l dC dI cI cJ h0 p0 (.ref tp) h0_courtReader h0_lawReader h0_draft aC h0_laws (.ref g0) (.ref k0) (.ref ac) (.ref sd) (.ref mi) (.ref dw) (.ref rf) (.int lc) (.int lh) (.int br) (.int hi) aR aB aP nb np H.size n_np) (cwV 1 hts (zgV qw600 qw602 qw11 qw98 qw603) rfl rfl rfl hd_X10_isPainter ⟨by rw [hR]; exact Nat.le_of_ble_eq_true rfl, by rw [hR]; exact Nat.le_of_ble_eq_true rfl⟩) (zPV hPc hK hDc (va_recv (q := (RX10, TX10, 17)) hK hP (ci := 10) (q0 := 0) rfl rfl)) rfl rfl hl.1 rfl (lv_room (Nat.le_of_ble_eq_true rfl)) dX10_whose_2 ⟨Nat.zero_le _, Nat.zero_le _⟩) hS (fun q _ h => hFc q h) hFc (fun v2 u2 t H locs ht hvm hw hB hz1 hk1 hS9 => ?_)
  replace hP := zkeep hP hk1
  replace hS := hS9
  clear hPc hDc hFc hk1 hz1 hvm hS9
  obtain ⟨f2_0, f2_1, f2_2, f2_3⟩ : (0 ≤ v2.toInt) ∧ (v2.toInt ≤ 1) ∧ (¬ v2.toInt = 0 → (0 ≤ p0.toInt ∧ p0.toInt < np.toInt)) ∧ (v2.toInt = 0 → ¬ (0 ≤ p0.toInt ∧ p0.toInt < np.toInt)) := hw
  refine lv_if_eq (tgt := 15) hx hb dX10_whose_5 (by decide) (fun c5 => ?_) (fun c5 => ?_)
  · have c5 : v2.toInt = 0 := z5 rfl (by decide) c5
    refine lv_iconst (v := (-1)) hx hb dX10_whose_15 (by decide) ?_
    have zr0 : ((-1) : Int32).toInt = (-1) := by decide
    rw [hQ]
    exact W.iret (v := ((-1))) hx hb hr (fun t ht hW => ⟨⟨(-1), (fL, fK), rfl, (by (try dsimp only); exact fun kc kT q_fr q_fR q_pl q_cn q_frf kt hc hb h ht => by unfold sV_who; rw [if_neg (by omega)]; ), ⟨by rw [ht]; exact hP, hD⟩⟩, hS.F ht⟩) hS.2.2 dX10_whose_16
  · have c5 : ¬ v2.toInt = 0 := z6 rfl (by decide) c5
    refine lv_iload_n hx hb dX10_whose_8 rfl (lv_at hl 2 rfl) ?_
    have hPc : va_P (dC, dI) vwCl [] H := zP0
    have hDc : va_D (fun _ => True) [] := zD0
    have hFc := zfr hS hA
    refine va_calli (va_runS (As := [.int p1]) (rest := []) ⟨hx, hb, hml, hown, hts⟩ (g_X10_isDigit l dC dI cI cJ p1 H.size) (cwS 1 hts (zgS qw714 qw715 qw98 qw716) rfl rfl rfl hd_X10_isDigit ⟨by rw [hR]; exact Nat.le_of_ble_eq_true rfl, by rw [hR]; exact Nat.le_of_ble_eq_true rfl⟩) (zPS hPc hK hDc) rfl rfl hl.1 rfl (lv_room (Nat.le_of_ble_eq_true rfl)) dX10_whose_9 ⟨Nat.zero_le _, Nat.zero_le _⟩) hS (fun q _ h => hFc q h) hFc (fun v9 u9 t H locs ht hvm hw hB hz1 hk1 hS9 => ?_)
    replace hP := zkeep hP hk1
    replace hS := hS9
    clear hPc hDc hFc hk1 hz1 hvm hS9
    obtain ⟨f9_0, f9_1, f9_2, f9_3⟩ : (0 ≤ v9.toInt) ∧ (v9.toInt ≤ 1) ∧ (¬ v9.toInt = 0 → (0 ≤ p1.toInt ∧ p1.toInt ≤ 9)) ∧ (v9.toInt = 0 → ¬ (0 ≤ p1.toInt ∧ p1.toInt ≤ 9)) := hw
    refine lv_if_ne (tgt := 17) hx hb dX10_whose_12 (by decide) (fun c12 => ?_) (fun c12 => ?_)
    · have c12 : ¬ v9.toInt = 0 := z6 rfl (by decide) c12
      refine lv_iconst (v := 0) hx hb dX10_whose_17 (by decide) ?_
      refine lv_istore_n (lv' := [(3, .int 0), (0, .ref h0), (1, .int p0), (2, .int p1)]) hx hb dX10_whose_18 rfl hl (by decide) rfl (fun ls hl => ?_)
      refine lv_iconst (v := 0) hx hb dX10_whose_19 (by decide) ?_
      have J22 : ∀ (n : Nat) (m22_A_aK : Nat → Int32) (m22_A_aL : Nat → Int32) (m22_L_3 : Int32) (m22_L_4 : Int32), (0 ≤ m22_L_4.toInt ∧ m22_L_4.toInt ≤ 6) → (∀ (kc : zK3) (kT : zT) (q_fr : Nat → Int32) (q_fR : Nat → Int32) (q_pl : Int32) (q_cn : Int32) (q_frf : Nat → Int32) (kt : (Int → Int) × Int), zCn q_fr fb fp nb.toInt np.toInt kc → zKo nb.toInt np.toInt kc kT → zTc nb.toInt np.toInt kT gfY gfF gfP gpn glt gsh gwd gpu gmo q_fR q_pl q_cn q_frf → zLwC fS lk kt → m22_L_3 = sWho kc kT.1 (some kt) p0 p1 m22_L_4.toInt.toNat) → (m22_L_4.toInt ≤ nb.toInt) → (7 - m22_L_4.toInt).toNat = n → ∀ (H : Heap) (locs : List Loc) (ls : Array Slot), va_P (dC, dI) vwCl [(h0, .inr (10, [.ref tp, h0_courtReader, h0_lawReader, h0_draft, .ref aC, h0_laws, .ref g0, .ref k0, .ref ac, .ref sd, .ref mi, .ref dw, .ref rf, .int lc, .int lh, .int br, .int hi])), (aC, .inr (1, [.ref aR, .ref aB, .ref aP, .int nb, .int np])), (aB, .inl (cI, 24, .inl fb)), (aP, .inl (cI, 20, .inl fp)), (g0, .inr (7, [.ref gY, .ref gF, .ref gP, .int gpn, .int glt, .int gsh, .int gwd, .int gpu, .int gmo])), (gY, .inl (cI, 6, .inl gfY)), (gF, .inl (cI, 5, .inl gfF)), (gP, .inl (cI, 80, .inl gfP)), (sd, .inr (8, [.ref w1, .ref w2, .ref aC, .ref g0, .ref aL, .ref aK, .ref lw])), (aL, .inl (cI, 6, .inl m22_A_aL)), (aK, .inl (cI, 32, .inl m22_A_aK)), (lw, .inr (4, [.ref lS])), (lS, .inl (cI, lk, .inl fS))] H → va_D A [(h0, .inr (10, [.ref tp, h0_courtReader, h0_lawReader, h0_draft, .ref aC, h0_laws, .ref g0, .ref k0, .ref ac, .ref sd, .ref mi, .ref dw, .ref rf, .int lc, .int lh, .int br, .int hi])), (aC, .inr (1, [.ref aR, .ref aB, .ref aP, .int nb, .int np])), (aB, .inl (cI, 24, .inl fb)), (aP, .inl (cI, 20, .inl fp)), (g0, .inr (7, [.ref gY, .ref gF, .ref gP, .int gpn, .int glt, .int gsh, .int gwd, .int gpu, .int gmo])), (gY, .inl (cI, 6, .inl gfY)), (gF, .inl (cI, 5, .inl gfF)), (gP, .inl (cI, 80, .inl gfP)), (sd, .inr (8, [.ref w1, .ref w2, .ref aC, .ref g0, .ref aL, .ref aK, .ref lw])), (aL, .inl (cI, 6, .inl m22_A_aL)), (aK, .inl (cI, 32, .inl m22_A_aK)), (lw, .inr (4, [.ref lS])), (lS, .inl (cI, lk, .inl fS))] → va_S A s.heap H locs → lv_has ls 5 [(4, .int m22_L_4), (3, .int m22_L_3), (0, .ref h0), (1, .int p0), (2, .int p1)] → W p l e R s m args below meth c H locs 0 0 Q (F0 m 22 ls []) := by
        intro n22
        induction n22 using Nat.strongRecOn with
        | _ n22 ih22 =>
          intro m22_A_aK m22_A_aL m22_L_3 m22_L_4 jf22_0 jv22_0 jf22_2 hmu22 H locs ls hP hD hS hl
          refine lv_iload hx hb dX10_whose_22 (lv_at hl 0 rfl) ?_
          refine lv_aload_n hx hb dX10_whose_24 rfl (lv_at hl 2 rfl) ?_
          refine va_get (D := (dC, dI)) (ci := 10) (v := .ref aC) (C := RX10) (T := TX10) (N := 17) hx hb hts iX10 hown hK hP 0 rfl rfl 4 (by decide) (hts _ qw360) (fun _ h9 => h9) rfl dX10_whose_25 ?_
          refine va_get (D := (dC, dI)) (ci := 1) (v := .int nb) (C := RX1) (T := TX1) (N := 5) hx hb hts iX1 hown hK hP 1 rfl rfl 3 (by decide) (hts _ qw195) (fun _ h9 => h9) rfl dX10_whose_28 ?_
          refine lv_icmp_ge (tgt := 70) hx hb dX10_whose_31 (by decide) (fun c31 => ?_) (fun c31 => ?_)
          · have c31 : nb.toInt ≤ m22_L_4.toInt := z3 rfl rfl c31
            refine lv_iload_n hx hb dX10_whose_70 rfl (lv_at hl 1 rfl) ?_
            rw [hQ]
            exact W.iret (v := m22_L_3) hx hb hr (fun t ht hW => ⟨⟨m22_L_3, (m22_A_aL, m22_A_aK), rfl, (by (try dsimp only); exact fun kc kT q_fr q_fR q_pl q_cn q_frf kt hc hb h ht => by unfold sV_who; rw [if_pos (by omega)]; rw [jv22_0 kc kT _ _ _ _ _ kt hc hb h ht, show m22_L_4.toInt.toNat = nb.toInt.toNat by omega]), ⟨by rw [ht]; exact hP, hD⟩⟩, hS.F ht⟩) hS.2.2 dX10_whose_71
          · have c31 : m22_L_4.toInt < nb.toInt := z4 rfl rfl c31
            refine lv_aload_n hx hb dX10_whose_34 rfl (lv_at hl 2 rfl) ?_
            refine va_get (D := (dC, dI)) (ci := 10) (v := .ref sd) (C := RX10) (T := TX10) (N := 17) hx hb hts iX10 hown hK hP 0 rfl rfl 9 (by decide) (hts _ qw365) (fun _ h9 => h9) rfl dX10_whose_35 ?_
            refine lv_iload_n hx hb dX10_whose_38 rfl (lv_at hl 3 rfl) ?_
            refine lv_iload hx hb dX10_whose_39 (lv_at hl 0 rfl) ?_
            refine lv_aload_n hx hb dX10_whose_41 rfl (lv_at hl 2 rfl) ?_
            refine va_get (D := (dC, dI)) (ci := 10) (v := .ref aC) (C := RX10) (T := TX10) (N := 17) hx hb hts iX10 hown hK hP 0 rfl rfl 4 (by decide) (hts _ qw360) (fun _ h9 => h9) rfl dX10_whose_42 ?_
            refine lv_iload hx hb dX10_whose_45 (lv_at hl 0 rfl) ?_
            obtain ⟨hPc, hDc⟩ := zc2 (wc := [(aC, .inr (1, [.ref aR, .ref aB, .ref aP, .int nb, .int np])), (aB, .inl (cI, 24, .inl fb))]) hP hD [1, 2] (by decide +kernel) rfl
            have hFc := zfr hS hA
            refine va_calli (va_runV (As := [.int m22_L_4]) (rest := [.int m22_L_4, .int p0, .ref sd]) ⟨hx, hb, hml, hown, hts⟩ (g_X1_faceOf l dC dI cI cJ aC m22_L_4 aR aB aP nb np fb H.size (by omega)) (cwV 1 hts (zgV qw702 qw703 qw704 qw102 qw705) rfl rfl rfl hd_X1_faceOf ⟨by rw [hR]; exact Nat.le_of_ble_eq_true rfl, by rw [hR]; exact Nat.le_of_ble_eq_true rfl⟩) (zPV hPc hK hDc (va_recv (q := (RX1, TX1, 5)) hK hP (ci := 1) (q0 := 1) rfl rfl)) rfl rfl hl.1 rfl (lv_room (Nat.le_of_ble_eq_true rfl)) dX10_whose_47 ⟨Nat.zero_le _, Nat.zero_le _⟩) hS (fun q _ h => hFc q h) hFc (fun v47 u47 t H locs ht hvm hw hB hz1 hk1 hS9 => ?_)
            replace hP := zkeep hP hk1
            replace hS := hS9
            clear hPc hDc hFc hk1 hz1 hvm hS9
            have f47_0 : (v47 = fb (4 * m22_L_4.toInt.toNat)) := hw
            have F47 := f47_0
            obtain ⟨hPc, hDc, hFc⟩ := zc3 (wc := [(sd, .inr (8, [.ref w1, .ref w2, .ref aC, .ref g0, .ref aL, .ref aK, .ref lw])), (aC, .inr (1, [.ref aR, .ref aB, .ref aP, .int nb, .int np])), (aB, .inl (cI, 24, .inl fb)), (aP, .inl (cI, 20, .inl fp)), (g0, .inr (7, [.ref gY, .ref gF, .ref gP, .int gpn, .int glt, .int gsh, .int gwd, .int gpu, .int gmo])), (gY, .inl (cI, 6, .inl gfY)), (gF, .inl (cI, 5, .inl gfF)), (gP, .inl (cI, 80, .inl gfP)), (aL, .inl (cI, 6, .inl m22_A_aL)), (aK, .inl (cI, 32, .inl m22_A_aK)), (lw, .inr (4, [.ref lS])), (lS, .inl (cI, lk, .inl fS))]) hP hD hS hA [8, 1, 2, 3, 4, 5, 6, 7, 9, 10, 11, 12] (by decide +kernel) rfl
            refine va_calli (va_runV (As := [.int p0, .int m22_L_4, .int v47]) (rest := []) ⟨hx, hb, hml, hown, hts⟩ (g_X8_showOf_l l dC dI cI cJ sd p0 m22_L_4 v47 w1 w2 aC g0 aL aK lw aR aB aP nb np fb fp gY gF gP gpn glt gsh gwd gpu gmo gfY gfF gfP m22_A_aL m22_A_aK lS fS lk H.size n_gpn (by omega) (by omega) (hlk) ci_fS_zSt ci_gfP_zPo) (cwV 3 hts (zgV qw643 qw644 qw645 qw105 qw646) rfl rfl rfl hd_X8_showOf ⟨by rw [hR]; exact Nat.le_of_ble_eq_true rfl, by rw [hR]; exact Nat.le_of_ble_eq_true rfl⟩) (zPV hPc hK hDc (va_recv (q := (RX8, TX8, 7)) hK hP (ci := 8) (q0 := 8) rfl rfl)) rfl rfl hl.1 rfl (lv_room (Nat.le_of_ble_eq_true rfl)) dX10_whose_50 ⟨Nat.zero_le _, Nat.zero_le _⟩) hS (fun q _ h => hFc q h) hFc (fun v50 u50 t H locs ht hvm hw hB hz1 hk1 hS9 => ?_)
            obtain ⟨u50_0, u50_1⟩ := u50
            obtain ⟨hP9, hD9⟩ := zj2 (wX := [(h0, .inr (10, [.ref tp, h0_courtReader, h0_lawReader, h0_draft, .ref aC, h0_laws, .ref g0, .ref k0, .ref ac, .ref sd, .ref mi, .ref dw, .ref rf, .int lc, .int lh, .int br, .int hi])), (aC, .inr (1, [.ref aR, .ref aB, .ref aP, .int nb, .int np])), (aB, .inl (cI, 24, .inl fb)), (aP, .inl (cI, 20, .inl fp)), (g0, .inr (7, [.ref gY, .ref gF, .ref gP, .int gpn, .int glt, .int gsh, .int gwd, .int gpu, .int gmo])), (gY, .inl (cI, 6, .inl gfY)), (gF, .inl (cI, 5, .inl gfF)), (gP, .inl (cI, 80, .inl gfP)), (sd, .inr (8, [.ref w1, .ref w2, .ref aC, .ref g0, .ref aL, .ref aK, .ref lw])), (aL, .inl (cI, 6, .inl u50_0)), (aK, .inl (cI, 32, .inl u50_1)), (lw, .inr (4, [.ref lS])), (lS, .inl (cI, lk, .inl fS))]) hP hD hk1 hFc ht hB [8, 1, 2, 3, 4, 5, 6, 7, 9, 10, 11, 12] [(false, 0), (true, 1), (true, 2), (true, 3), (true, 4), (true, 5), (true, 6), (true, 7), (true, 0), (true, 8), (true, 9), (true, 10), (true, 11)] rfl (by decide +kernel) (by decide +kernel) rfl
            clear hP hD hS hPc hDc hFc hB hk1 hz1 hvm
            have hP := hP9
            have hD := hD9
            have hS := hS9
            clear hP9 hD9 hS9
            obtain ⟨f50_0, f50_1, f50_2⟩ : (0 ≤ v50.toInt) ∧ (v50.toInt ≤ 9) ∧ (∀ t : (Int → Int) × Int, zLwC fS lk t → zB5 v47 (fb (4 * m22_L_4.toInt.toNat + 2)) (gfY m22_L_4.toInt.toNat) (fp (4 * p0.toInt.toNat)) (gfF p0.toInt.toNat) gmo → v50 = zSh (fp (4 * p0.toInt.toNat + 3)) (zLat gfP p0 gpn.toInt.toNat) (zLkv (some t) v47 (fb (4 * m22_L_4.toInt.toNat + 2)) (gfY m22_L_4.toInt.toNat) (fp (4 * p0.toInt.toNat)) (gfF p0.toInt.toNat) gmo)) := hw
            have F50 := f50_2
            refine lv_iload_n hx hb dX10_whose_53 rfl (lv_at hl 4 rfl) ?_
            refine lv_icmp_ne (tgt := 64) hx hb dX10_whose_54 (by decide) (fun c54 => ?_) (fun c54 => ?_)
            · have c54 : ¬ v50.toInt = p1.toInt := z6 rfl rfl c54
              obtain ⟨v64, e64⟩ : ∃ y : Int32, y = m22_L_4 + Int32.ofInt (1) := ⟨_, rfl⟩
              refine lv_iinc (v := v64) (lv' := [(4, .int v64), (3, .int m22_L_3), (0, .ref h0), (1, .int p0), (2, .int p1)]) hx hb dX10_whose_64 hl (k := 0) rfl e64.symm (by decide) rfl (fun ls hl => ?_)
              have i64 : v64.toInt = m22_L_4.toInt + 1 := zaddI e64 (by decide) (by omega) (by omega)
              refine lv_goto (tgt := 22) hx hb dX10_whose_67 (by decide) ?_
              exact ih22 _ (by omega) u50_1 u50_0 m22_L_3 v64 (by omega) (fun kc kT q_fr q_fR q_pl q_cn q_frf kt hc hb h ht => by have a := jv22_0 kc kT _ _ _ _ _ kt hc hb h ht; have y47 : v47 = kc.2.1 (4 * m22_L_4.toInt.toNat) := F47.trans (hc.2.1 _ (by omega)); have s0 : v50 = sShow kc kT.1 (some kt) p0 m22_L_4 (kc.2.1 (4 * m22_L_4.toInt.toNat)) := (by rw [← y47]; exact sShow_l hc hb h.1 (by omega) (by omega) (by rw [y47]; exact zFace_b hb (by omega)) ht F50); first | exact zWhoY a (by omega) i64 s0 (by omega) e61 e62 | exact zWhoN a (by omega) i64 s0 (by omega)) (by omega) rfl H locs ls hP hD hS (lv_sub hl [0, 1, 2, 3, 4] rfl)
            · have c54 : v50.toInt = p1.toInt := z5 rfl rfl c54
              refine lv_iload_n hx hb dX10_whose_57 rfl (lv_at hl 1 rfl) ?_
              refine lv_iconst (v := 1) hx hb dX10_whose_58 (by decide) ?_
              refine lv_iload hx hb dX10_whose_59 (lv_at hl 0 rfl) ?_
              refine lv_ishl hx hb dX10_whose_61 ?_
              refine lv_topi (fun v61 e61 => ?_)
              have i61 : 1 ≤ v61.toInt ∧ v61.toInt ≤ 32 := zshl1 e61 (by omega) (by omega)
              refine lv_ior hx hb dX10_whose_62 ?_
              refine lv_topi (fun v62 e62 => ?_)
              refine lv_istore_n (lv' := [(3, .int v62), (4, .int m22_L_4), (0, .ref h0), (1, .int p0), (2, .int p1)]) hx hb dX10_whose_63 rfl hl (by decide) rfl (fun ls hl => ?_)
              obtain ⟨v64, e64⟩ : ∃ y : Int32, y = m22_L_4 + Int32.ofInt (1) := ⟨_, rfl⟩
              refine lv_iinc (v := v64) (lv' := [(4, .int v64), (3, .int v62), (0, .ref h0), (1, .int p0), (2, .int p1)]) hx hb dX10_whose_64 hl (k := 1) rfl e64.symm (by decide) rfl (fun ls hl => ?_)
              have i64 : v64.toInt = m22_L_4.toInt + 1 := zaddI e64 (by decide) (by omega) (by omega)
              refine lv_goto (tgt := 22) hx hb dX10_whose_67 (by decide) ?_
              exact ih22 _ (by omega) u50_1 u50_0 v62 v64 (by omega) (fun kc kT q_fr q_fR q_pl q_cn q_frf kt hc hb h ht => by have a := jv22_0 kc kT _ _ _ _ _ kt hc hb h ht; have y47 : v47 = kc.2.1 (4 * m22_L_4.toInt.toNat) := F47.trans (hc.2.1 _ (by omega)); have s0 : v50 = sShow kc kT.1 (some kt) p0 m22_L_4 (kc.2.1 (4 * m22_L_4.toInt.toNat)) := (by rw [← y47]; exact sShow_l hc hb h.1 (by omega) (by omega) (by rw [y47]; exact zFace_b hb (by omega)) ht F50); first | exact zWhoY a (by omega) i64 s0 (by omega) e61 e62 | exact zWhoN a (by omega) i64 s0 (by omega)) (by omega) rfl H locs ls hP hD hS (lv_sub hl [0, 1, 2, 3, 4] rfl)
      refine lv_istore (lv' := [(4, .int 0), (3, .int 0), (0, .ref h0), (1, .int p0), (2, .int p1)]) hx hb dX10_whose_20 hl (by decide) rfl (fun ls hl => ?_)
      have zj22_m22_L_3 : (0 : Int32).toInt = 0 := by decide
      have zj22_m22_L_4 : (0 : Int32).toInt = 0 := by decide
      exact J22 _ fK fL 0 0 (by decide) (fun kc kT q_fr q_fR q_pl q_cn q_frf kt hc hb h ht => rfl) (by omega) rfl H locs ls hP hD hS (lv_sub hl [0, 1, 2, 3, 4] rfl)
    · have c12 : v9.toInt = 0 := z5 rfl (by decide) c12
      refine lv_iconst (v := (-1)) hx hb dX10_whose_15 (by decide) ?_
      have zr0 : ((-1) : Int32).toInt = (-1) := by decide
      rw [hQ]
      exact W.iret (v := ((-1))) hx hb hr (fun t ht hW => ⟨⟨(-1), (fL, fK), rfl, (by (try dsimp only); exact fun kc kT q_fr q_fR q_pl q_cn q_frf kt hc hb h ht => by unfold sV_who; rw [if_neg (by omega)]; ), ⟨by rw [ht]; exact hP, hD⟩⟩, hS.F ht⟩) hS.2.2 dX10_whose_16
set_option maxHeartbeats 4000000 in
set_option maxRecDepth 100000 in
theorem g_X10_plainBrides_n (l : Launch) (dC : Nat → ClassId) (dI : Nat → Nat → Nat) (cI cJ : ClassId) (h0 : Nat) (tp : Nat) (h0_courtReader : Value) (h0_lawReader : Value) (h0_draft : Value) (aC : Nat) (h0_laws : Value) (g0 : Nat) (k0 : Nat) (ac : Nat) (sd : Nat) (mi : Nat) (dw : Nat) (rf : Nat) (lc : Int32) (lh : Int32) (br : Int32) (hi : Int32) (aR : Nat) (aB : Nat) (aP : Nat) (nb : Int32) (np : Int32) (fb : Nat → Int32) (fp : Nat → Int32) (gY : Nat) (gF : Nat) (gP : Nat) (gpn : Int32) (glt : Int32) (gsh : Int32) (gwd : Int32) (gpu : Int32) (gmo : Int32) (gfY : Nat → Int32) (gfF : Nat → Int32) (gfP : Nat → Int32) (w1 : Nat) (w2 : Nat) (aL : Nat) (aK : Nat) (mW : Nat) (mt : Int64) (lf : Int32) (mV : Nat) (mA : Nat) (mT : Nat) (fW : Nat → Int64) (sz : Nat) (n_gpn : 0 ≤ gpn.toInt ∧ gpn.toInt ≤ 20) (n_gwd : (-1) ≤ gwd.toInt ∧ gwd.toInt ≤ 5) (n_hi : 0 ≤ hi.toInt ∧ hi.toInt ≤ 1) (n_lc : 0 ≤ lc.toInt ∧ lc.toInt ≤ 4) (n_lf : 0 ≤ lf.toInt ∧ lf.toInt ≤ 9) (n_nb : 0 ≤ nb.toInt ∧ nb.toInt ≤ 6) (n_np : 0 ≤ np.toInt ∧ np.toInt ≤ 5)  (ci_gfP_zPo : zPo gfP)  : Met l yX10_plainBrides (.code yX10_plainBrides cX10_plainBrides 3 (some .int) :: wA) ({ frames := 6, cells := 0, slots := 0, locals := 153 }) (zPW (dC, dI) [(cI, .int), (cJ, .long)] [.ref h0] sz [(h0, .inr (10, [.ref tp, h0_courtReader, h0_lawReader, h0_draft, .ref aC, h0_laws, .ref g0, .ref k0, .ref ac, .ref sd, .ref mi, .ref dw, .ref rf, .int lc, .int lh, .int br, .int hi])), (aC, .inr (1, [.ref aR, .ref aB, .ref aP, .int nb, .int np])), (aB, .inl (cI, 24, .inl fb)), (aP, .inl (cI, 20, .inl fp)), (g0, .inr (7, [.ref gY, .ref gF, .ref gP, .int gpn, .int glt, .int gsh, .int gwd, .int gpu, .int gmo])), (gY, .inl (cI, 6, .inl gfY)), (gF, .inl (cI, 5, .inl gfF)), (gP, .inl (cI, 80, .inl gfP)), (sd, .inr (8, [.ref w1, .ref w2, .ref aC, .ref g0, .ref aL, .ref aK, .null])), (mi, .inr (6, [.ref aC, .ref g0, .ref sd, .ref mW, .long mt, .int lf, .ref mV, .ref mA, .ref mT])), (mW, .inl (cJ, 10, .inr (.inl fW)))] (va_A [(h0, .inr (10, [.ref tp, h0_courtReader, h0_lawReader, h0_draft, .ref aC, h0_laws, .ref g0, .ref k0, .ref ac, .ref sd, .ref mi, .ref dw, .ref rf, .int lc, .int lh, .int br, .int hi])), (aC, .inr (1, [.ref aR, .ref aB, .ref aP, .int nb, .int np])), (aB, .inl (cI, 24, .inl fb)), (aP, .inl (cI, 20, .inl fp)), (g0, .inr (7, [.ref gY, .ref gF, .ref gP, .int gpn, .int glt, .int gsh, .int gwd, .int gpu, .int gmo])), (gY, .inl (cI, 6, .inl gfY)), (gF, .inl (cI, 5, .inl gfF)), (gP, .inl (cI, 80, .inl gfP)), (sd, .inr (8, [.ref w1, .ref w2, .ref aC, .ref g0, .ref aL, .ref aK, .null])), (mi, .inr (6, [.ref aC, .ref g0, .ref sd, .ref mW, .long mt, .int lf, .ref mV, .ref mA, .ref mT])), (mW, .inl (cJ, 10, .inr (.inl fW)))] sz)) (va_Qi (fun (r : Int32) (u : Int64 × Int32 × (Nat → Int64)) => (0 ≤ u.2.1.toInt) ∧ (u.2.1.toInt ≤ 9) ∧ (∀ (kc : zK3) (kT : zT) (q_fr : Nat → Int32), zCn q_fr fb fp nb.toInt np.toInt kc → zKo nb.toInt np.toInt kc kT → zSc nb.toInt np.toInt kT.1 gfY gfF gfP gpn glt gsh gwd gpu gmo → r = sPl kc kT.1 none nb.toInt.toNat)) (fun (u : Int64 × Int32 × (Nat → Int64)) (t : State) => va_P (dC, dI) vwCl [(h0, .inr (10, [.ref tp, h0_courtReader, h0_lawReader, h0_draft, .ref aC, h0_laws, .ref g0, .ref k0, .ref ac, .ref sd, .ref mi, .ref dw, .ref rf, .int lc, .int lh, .int br, .int hi])), (aC, .inr (1, [.ref aR, .ref aB, .ref aP, .int nb, .int np])), (aB, .inl (cI, 24, .inl fb)), (aP, .inl (cI, 20, .inl fp)), (g0, .inr (7, [.ref gY, .ref gF, .ref gP, .int gpn, .int glt, .int gsh, .int gwd, .int gpu, .int gmo])), (gY, .inl (cI, 6, .inl gfY)), (gF, .inl (cI, 5, .inl gfF)), (gP, .inl (cI, 80, .inl gfP)), (sd, .inr (8, [.ref w1, .ref w2, .ref aC, .ref g0, .ref aL, .ref aK, .null])), (mi, .inr (6, [.ref aC, .ref g0, .ref sd, .ref mW, .long u.1, .int u.2.1, .ref mV, .ref mA, .ref mT])), (mW, .inl (cJ, 10, .inr (.inl u.2.2)))] t.heap ∧ va_D (va_A [(h0, .inr (10, [.ref tp, h0_courtReader, h0_lawReader, h0_draft, .ref aC, h0_laws, .ref g0, .ref k0, .ref ac, .ref sd, .ref mi, .ref dw, .ref rf, .int lc, .int lh, .int br, .int hi])), (aC, .inr (1, [.ref aR, .ref aB, .ref aP, .int nb, .int np])), (aB, .inl (cI, 24, .inl fb)), (aP, .inl (cI, 20, .inl fp)), (g0, .inr (7, [.ref gY, .ref gF, .ref gP, .int gpn, .int glt, .int gsh, .int gwd, .int gpu, .int gmo])), (gY, .inl (cI, 6, .inl gfY)), (gF, .inl (cI, 5, .inl gfF)), (gP, .inl (cI, 80, .inl gfP)), (sd, .inr (8, [.ref w1, .ref w2, .ref aC, .ref g0, .ref aL, .ref aK, .null])), (mi, .inr (6, [.ref aC, .ref g0, .ref sd, .ref mW, .long mt, .int lf, .ref mV, .ref mA, .ref mT])), (mW, .inl (cJ, 10, .inr (.inl fW)))] sz) [(h0, .inr (10, [.ref tp, h0_courtReader, h0_lawReader, h0_draft, .ref aC, h0_laws, .ref g0, .ref k0, .ref ac, .ref sd, .ref mi, .ref dw, .ref rf, .int lc, .int lh, .int br, .int hi])), (aC, .inr (1, [.ref aR, .ref aB, .ref aP, .int nb, .int np])), (aB, .inl (cI, 24, .inl fb)), (aP, .inl (cI, 20, .inl fp)), (g0, .inr (7, [.ref gY, .ref gF, .ref gP, .int gpn, .int glt, .int gsh, .int gwd, .int gpu, .int gmo])), (gY, .inl (cI, 6, .inl gfY)), (gF, .inl (cI, 5, .inl gfF)), (gP, .inl (cI, 80, .inl gfP)), (sd, .inr (8, [.ref w1, .ref w2, .ref aC, .ref g0, .ref aL, .ref aK, .null])), (mi, .inr (6, [.ref aC, .ref g0, .ref sd, .ref mW, .long u.1, .int u.2.1, .ref mV, .ref mA, .ref mT])), (mW, .inl (cJ, 10, .inr (.inl u.2.2)))]) (va_A [(h0, .inr (10, [.ref tp, h0_courtReader, h0_lawReader, h0_draft, .ref aC, h0_laws, .ref g0, .ref k0, .ref ac, .ref sd, .ref mi, .ref dw, .ref rf, .int lc, .int lh, .int br, .int hi])), (aC, .inr (1, [.ref aR, .ref aB, .ref aP, .int nb, .int np])), (aB, .inl (cI, 24, .inl fb)), (aP, .inl (cI, 20, .inl fp)), (g0, .inr (7, [.ref gY, .ref gF, .ref gP, .int gpn, .int glt, .int gsh, .int gwd, .int gpu, .int gmo])), (gY, .inl (cI, 6, .inl gfY)), (gF, .inl (cI, 5, .inl gfF)), (gP, .inl (cI, 80, .inl gfP)), (sd, .inr (8, [.ref w1, .ref w2, .ref aC, .ref g0, .ref aL, .ref aK, .null])), (mi, .inr (6, [.ref aC, .ref g0, .ref sd, .ref mW, .long mt, .int lf, .ref mV, .ref mA, .ref mT])), (mW, .inl (cJ, 10, .inr (.inl fW)))] sz)) 0 0 (va_A [(h0, .inr (10, [.ref tp, h0_courtReader, h0_lawReader, h0_draft, .ref aC, h0_laws, .ref g0, .ref k0, .ref ac, .ref sd, .ref mi, .ref dw, .ref rf, .int lc, .int lh, .int br, .int hi])), (aC, .inr (1, [.ref aR, .ref aB, .ref aP, .int nb, .int np])), (aB, .inl (cI, 24, .inl fb)), (aP, .inl (cI, 20, .inl fp)), (g0, .inr (7, [.ref gY, .ref gF, .ref gP, .int gpn, .int glt, .int gsh, .int gwd, .int gpu, .int gmo])), (gY, .inl (cI, 6, .inl gfY)), (gF, .inl (cI, 5, .inl gfF)), (gP, .inl (cI, 80, .inl gfP)), (sd, .inr (8, [.ref w1, .ref w2, .ref aC, .ref g0, .ref aL, .ref aK, .null])), (mi, .inr (6, [.ref aC, .ref g0, .ref sd, .ref mW, .long mt, .int lf, .ref mV, .ref mA, .ref mT])), (mW, .inl (cJ, 10, .inr (.inl fW)))] sz) := by
  refine Met.ofW (cc := cX10_plainBrides) (maxL := 3) (ret := (some .int)) (by decide) rfl ?_
  intro p e s m args below meth c s₁ B hml hv
  have y_gpn : zHid (0 ≤ gpn.toInt ∧ gpn.toInt ≤ 20) := n_gpn
  have y_gwd : zHid ((-1) ≤ gwd.toInt ∧ gwd.toInt ≤ 5) := n_gwd
  have y_hi : zHid (0 ≤ hi.toInt ∧ hi.toInt ≤ 1) := n_hi
  have y_lc : zHid (0 ≤ lc.toInt ∧ lc.toInt ≤ 4) := n_lc
  have y_lf : zHid (0 ≤ lf.toInt ∧ lf.toInt ≤ 9) := n_lf
  clear n_gpn n_gwd n_hi n_lc n_lf
  obtain ⟨⟨hargs, hsz, hP, hK, hT⟩, hV⟩ := hv
  have hx := B.exec
  have hb := B.bytes
  have hr := B.returns
  have hts : ∀ w ∈ wA, w.before args s = true := fun w h => atoms_spec (ws := .code yX10_plainBrides cX10_plainBrides 3 (some .int) :: wA) B.pre w (List.mem_cons_of_mem _ h)
  have hown : s.vm.findClass RX10 = some m.cls := findClass_of_methodNamed B.named
  have hlocks := B.notSynchronized
  subst hsz
  have hD := hT.self (sz := s.heap.size)
  generalize hAe : va_A [(h0, .inr (10, [.ref tp, h0_courtReader, h0_lawReader, h0_draft, .ref aC, h0_laws, .ref g0, .ref k0, .ref ac, .ref sd, .ref mi, .ref dw, .ref rf, .int lc, .int lh, .int br, .int hi])), (aC, .inr (1, [.ref aR, .ref aB, .ref aP, .int nb, .int np])), (aB, .inl (cI, 24, .inl fb)), (aP, .inl (cI, 20, .inl fp)), (g0, .inr (7, [.ref gY, .ref gF, .ref gP, .int gpn, .int glt, .int gsh, .int gwd, .int gpu, .int gmo])), (gY, .inl (cI, 6, .inl gfY)), (gF, .inl (cI, 5, .inl gfF)), (gP, .inl (cI, 80, .inl gfP)), (sd, .inr (8, [.ref w1, .ref w2, .ref aC, .ref g0, .ref aL, .ref aK, .null])), (mi, .inr (6, [.ref aC, .ref g0, .ref sd, .ref mW, .long mt, .int lf, .ref mV, .ref mA, .ref mT])), (mW, .inl (cJ, 10, .inr (.inl fW)))] s.heap.size = A at hD hV ⊢
  have hA : ∀ q : Nat, s.heap.size ≤ q → A q := fun q h => by rw [← hAe]; exact Or.inr h
  have hl := lv_entry ([.ref h0]) (n := 3) (Nat.le_of_ble_eq_true rfl)
  rw [show entryFrame m args 3 = entryFrame m ([.ref h0] : List Value).toArray 3 by rw [hargs], lg_entry_eq]
  generalize (lg_sl ([.ref h0]) ++ List.replicate (3 - (lg_sl ([.ref h0])).length) Slot.unset).toArray = ls at hl ⊢
  have hl : lv_has ls 3 [(0, .ref h0)] := hl
  refine zstart (fun H hH => ?_)
  rw [← hH] at hP
  have hS : va_S A s.heap H [] := by rw [hH]; exact va_S.rf
  generalize ([] : List Loc) = locs at hS ⊢
  refine zgen (fun R Q hR hQ => ?_)
  refine lv_iconst (v := 0) hx hb dX10_plainBrides_0 (by decide) ?_
  refine lv_istore_n (lv' := [(1, .int 0), (0, .ref h0)]) hx hb dX10_plainBrides_1 rfl hl (by decide) rfl (fun ls hl => ?_)
  refine lv_iconst (v := 0) hx hb dX10_plainBrides_2 (by decide) ?_
  have J4 : ∀ (n : Nat) (m4_A_mW : Nat → Int64) (m4_F_mi_4 : Int64) (m4_F_mi_5 : Int32) (m4_L_1 : Int32) (m4_L_2 : Int32), (0 ≤ m4_F_mi_5.toInt ∧ m4_F_mi_5.toInt ≤ 9) → (0 ≤ m4_L_2.toInt ∧ m4_L_2.toInt ≤ 6) → (∀ (kc : zK3) (kT : zT) (q_fr : Nat → Int32), zCn q_fr fb fp nb.toInt np.toInt kc → zKo nb.toInt np.toInt kc kT → zSc nb.toInt np.toInt kT.1 gfY gfF gfP gpn glt gsh gwd gpu gmo → m4_L_1 = sPl kc kT.1 none m4_L_2.toInt.toNat) → (m4_L_2.toInt ≤ nb.toInt) → (7 - m4_L_2.toInt).toNat = n → ∀ (H : Heap) (locs : List Loc) (ls : Array Slot), va_P (dC, dI) vwCl [(h0, .inr (10, [.ref tp, h0_courtReader, h0_lawReader, h0_draft, .ref aC, h0_laws, .ref g0, .ref k0, .ref ac, .ref sd, .ref mi, .ref dw, .ref rf, .int lc, .int lh, .int br, .int hi])), (aC, .inr (1, [.ref aR, .ref aB, .ref aP, .int nb, .int np])), (aB, .inl (cI, 24, .inl fb)), (aP, .inl (cI, 20, .inl fp)), (g0, .inr (7, [.ref gY, .ref gF, .ref gP, .int gpn, .int glt, .int gsh, .int gwd, .int gpu, .int gmo])), (gY, .inl (cI, 6, .inl gfY)), (gF, .inl (cI, 5, .inl gfF)), (gP, .inl (cI, 80, .inl gfP)), (sd, .inr (8, [.ref w1, .ref w2, .ref aC, .ref g0, .ref aL, .ref aK, .null])), (mi, .inr (6, [.ref aC, .ref g0, .ref sd, .ref mW, .long m4_F_mi_4, .int m4_F_mi_5, .ref mV, .ref mA, .ref mT])), (mW, .inl (cJ, 10, .inr (.inl m4_A_mW)))] H → va_D A [(h0, .inr (10, [.ref tp, h0_courtReader, h0_lawReader, h0_draft, .ref aC, h0_laws, .ref g0, .ref k0, .ref ac, .ref sd, .ref mi, .ref dw, .ref rf, .int lc, .int lh, .int br, .int hi])), (aC, .inr (1, [.ref aR, .ref aB, .ref aP, .int nb, .int np])), (aB, .inl (cI, 24, .inl fb)), (aP, .inl (cI, 20, .inl fp)), (g0, .inr (7, [.ref gY, .ref gF, .ref gP, .int gpn, .int glt, .int gsh, .int gwd, .int gpu, .int gmo])), (gY, .inl (cI, 6, .inl gfY)), (gF, .inl (cI, 5, .inl gfF)), (gP, .inl (cI, 80, .inl gfP)), (sd, .inr (8, [.ref w1, .ref w2, .ref aC, .ref g0, .ref aL, .ref aK, .null])), (mi, .inr (6, [.ref aC, .ref g0, .ref sd, .ref mW, .long m4_F_mi_4, .int m4_F_mi_5, .ref mV, .ref mA, .ref mT])), (mW, .inl (cJ, 10, .inr (.inl m4_A_mW)))] → va_S A s.heap H locs → lv_has ls 3 [(2, .int m4_L_2), (1, .int m4_L_1), (0, .ref h0)] → W p l e R s m args below meth c H locs 0 0 Q (F0 m 4 ls []) := by
    intro n4
    induction n4 using Nat.strongRecOn with
    | _ n4 ih4 =>
      intro m4_A_mW m4_F_mi_4 m4_F_mi_5 m4_L_1 m4_L_2 jf4_0 jf4_1 jv4_0 jf4_3 hmu4 H locs ls hP hD hS hl
      refine lv_iload_n hx hb dX10_plainBrides_4 rfl (lv_at hl 0 rfl) ?_
      refine lv_aload_n hx hb dX10_plainBrides_5 rfl (lv_at hl 2 rfl) ?_
      refine va_get (D := (dC, dI)) (ci := 10) (v := .ref aC) (C := RX10) (T := TX10) (N := 17) hx hb hts iX10 hown hK hP 0 rfl rfl 4 (by decide) (hts _ qw360) (fun _ h9 => h9) rfl dX10_plainBrides_6 ?_
      refine va_get (D := (dC, dI)) (ci := 1) (v := .int nb) (C := RX1) (T := TX1) (N := 5) hx hb hts iX1 hown hK hP 1 rfl rfl 3 (by decide) (hts _ qw195) (fun _ h9 => h9) rfl dX10_plainBrides_9 ?_
      refine lv_icmp_ge (tgt := 46) hx hb dX10_plainBrides_12 (by decide) (fun c12 => ?_) (fun c12 => ?_)
      · have c12 : nb.toInt ≤ m4_L_2.toInt := z3 rfl rfl c12
        refine lv_iload_n hx hb dX10_plainBrides_46 rfl (lv_at hl 1 rfl) ?_
        rw [hQ]
        exact W.iret (v := m4_L_1) hx hb hr (fun t ht hW => ⟨⟨m4_L_1, (m4_F_mi_4, m4_F_mi_5, m4_A_mW), rfl, ⟨by (try dsimp only); omega, by (try dsimp only); omega, by (try dsimp only); exact fun kc kT q_fr hc hb h => (jv4_0 kc kT _ hc hb h).trans (by rw [show m4_L_2.toInt.toNat = nb.toInt.toNat by omega])⟩, ⟨by rw [ht]; exact hP, hD⟩⟩, hS.F ht⟩) hS.2.2 dX10_plainBrides_47
      · have c12 : m4_L_2.toInt < nb.toInt := z4 rfl rfl c12
        refine lv_aload_n hx hb dX10_plainBrides_15 rfl (lv_at hl 2 rfl) ?_
        refine va_get (D := (dC, dI)) (ci := 10) (v := .ref mi) (C := RX10) (T := TX10) (N := 17) hx hb hts iX10 hown hK hP 0 rfl rfl 10 (by decide) (hts _ qw366) (fun _ h9 => h9) rfl dX10_plainBrides_16 ?_
        refine lv_iload_n hx hb dX10_plainBrides_19 rfl (lv_at hl 0 rfl) ?_
        obtain ⟨hPc, hDc, hFc⟩ := zc3 (wc := [(mi, .inr (6, [.ref aC, .ref g0, .ref sd, .ref mW, .long m4_F_mi_4, .int m4_F_mi_5, .ref mV, .ref mA, .ref mT])), (aC, .inr (1, [.ref aR, .ref aB, .ref aP, .int nb, .int np])), (aB, .inl (cI, 24, .inl fb)), (aP, .inl (cI, 20, .inl fp)), (g0, .inr (7, [.ref gY, .ref gF, .ref gP, .int gpn, .int glt, .int gsh, .int gwd, .int gpu, .int gmo])), (gY, .inl (cI, 6, .inl gfY)), (gF, .inl (cI, 5, .inl gfF)), (gP, .inl (cI, 80, .inl gfP)), (sd, .inr (8, [.ref w1, .ref w2, .ref aC, .ref g0, .ref aL, .ref aK, .null])), (mW, .inl (cJ, 10, .inr (.inl m4_A_mW)))]) hP hD hS hA [9, 1, 2, 3, 4, 5, 6, 7, 8, 10] (by decide +kernel) rfl
        refine va_callv (va_runV (As := [.int m4_L_2]) (rest := []) ⟨hx, hb, hml, hown, hts⟩ (g_X6_weigh_n l dC dI cI cJ mi m4_L_2 aC g0 sd mW m4_F_mi_4 m4_F_mi_5 mV mA mT aR aB aP nb np fb fp gY gF gP gpn glt gsh gwd gpu gmo gfY gfF gfP w1 w2 aL aK m4_A_mW H.size y_gpn jf4_0 (by omega) ci_gfP_zPo) (cwV 1 hts (zgV qw829 qw830 qw831 qw106 qw832) rfl rfl rfl hd_X6_weigh ⟨by rw [hR]; exact Nat.le_of_ble_eq_true rfl, by rw [hR]; exact Nat.le_of_ble_eq_true rfl⟩) (zPWV hPc hK hDc (va_recv (q := (RX6, TX6, 9)) hK hP (ci := 6) (q0 := 9) rfl rfl) (zV_call hV hS hFc)) rfl rfl hl.1 rfl (lv_room (Nat.le_of_ble_eq_true rfl)) dX10_plainBrides_20 ⟨Nat.zero_le _, Nat.zero_le _⟩) hS (fun q _ h => hFc q h) hFc (fun u20 t H locs ht hvm hw hB hz1 hk1 hS9 => ?_)
        obtain ⟨u20_0, u20_1, u20_2⟩ := u20
        obtain ⟨hP9, hD9⟩ := zj2 (wX := [(h0, .inr (10, [.ref tp, h0_courtReader, h0_lawReader, h0_draft, .ref aC, h0_laws, .ref g0, .ref k0, .ref ac, .ref sd, .ref mi, .ref dw, .ref rf, .int lc, .int lh, .int br, .int hi])), (aC, .inr (1, [.ref aR, .ref aB, .ref aP, .int nb, .int np])), (aB, .inl (cI, 24, .inl fb)), (aP, .inl (cI, 20, .inl fp)), (g0, .inr (7, [.ref gY, .ref gF, .ref gP, .int gpn, .int glt, .int gsh, .int gwd, .int gpu, .int gmo])), (gY, .inl (cI, 6, .inl gfY)), (gF, .inl (cI, 5, .inl gfF)), (gP, .inl (cI, 80, .inl gfP)), (sd, .inr (8, [.ref w1, .ref w2, .ref aC, .ref g0, .ref aL, .ref aK, .null])), (mi, .inr (6, [.ref aC, .ref g0, .ref sd, .ref mW, .long u20_0, .int u20_1, .ref mV, .ref mA, .ref mT])), (mW, .inl (cJ, 10, .inr (.inl u20_2)))]) hP hD hk1 hFc ht hB [9, 1, 2, 3, 4, 5, 6, 7, 8, 10] [(false, 0), (true, 1), (true, 2), (true, 3), (true, 4), (true, 5), (true, 6), (true, 7), (true, 8), (true, 0), (true, 9)] rfl (by decide +kernel) (by decide +kernel) rfl
        clear hP hD hS hPc hDc hFc hB hk1 hz1 hvm
        have hP := hP9
        have hD := hD9
        have hS := hS9
        clear hP9 hD9 hS9
        obtain ⟨f20_0, f20_1, f20_2⟩ : (0 ≤ u20_1.toInt) ∧ (u20_1.toInt ≤ 9) ∧ (∀ (kc : zK3) (kT : zT) (q_fr : Nat → Int32), zCn q_fr fb fp nb.toInt np.toInt kc → zKo nb.toInt np.toInt kc kT → zSc nb.toInt np.toInt kT.1 gfY gfF gfP gpn glt gsh gwd gpu gmo → (0 ≤ m4_L_2.toInt ∧ m4_L_2.toInt < nb.toInt) → zWe kc kT.1 none m4_L_2 u20_2 u20_0 u20_1) := hw
        have F20 := f20_2
        refine lv_aload_n hx hb dX10_plainBrides_23 rfl (lv_at hl 2 rfl) ?_
        refine va_get (D := (dC, dI)) (ci := 10) (v := .ref mi) (C := RX10) (T := TX10) (N := 17) hx hb hts iX10 hown hK hP 0 rfl rfl 10 (by decide) (hts _ qw366) (fun _ h9 => h9) rfl dX10_plainBrides_24 ?_
        refine va_get (D := (dC, dI)) (ci := 6) (v := .int u20_1) (C := RX6) (T := TX6) (N := 9) hx hb hts iX6 hown hK hP 9 rfl rfl 5 (by decide) (hts _ qw322) (fun _ h9 => h9) rfl dX10_plainBrides_27 ?_
        refine lv_iconst (v := 5) hx hb dX10_plainBrides_30 (by decide) ?_
        refine lv_icmp_ge (tgt := 40) hx hb dX10_plainBrides_31 (by decide) (fun c31 => ?_) (fun c31 => ?_)
        · have c31 : 5 ≤ u20_1.toInt := z3 (by decide) rfl c31
          obtain ⟨v40, e40⟩ : ∃ y : Int32, y = m4_L_2 + Int32.ofInt (1) := ⟨_, rfl⟩
          refine lv_iinc (v := v40) (lv' := [(2, .int v40), (1, .int m4_L_1), (0, .ref h0)]) hx hb dX10_plainBrides_40 hl (k := 0) rfl e40.symm (by decide) rfl (fun ls hl => ?_)
          have i40 : v40.toInt = m4_L_2.toInt + 1 := zaddI e40 (by decide) (by omega) (by omega)
          refine lv_goto (tgt := 4) hx hb dX10_plainBrides_43 (by decide) ?_
          exact ih4 _ (by omega) u20_2 u20_0 u20_1 m4_L_1 v40 ⟨f20_0, f20_1⟩ (by omega) (fun kc kT q_fr hc hb h => by first | exact zPlY (jv4_0 kc kT _ hc hb h) (by omega) i40 (F20 kc kT _ hc hb h (by omega)).2 (by omega) e37 e38 | exact zPlN (jv4_0 kc kT _ hc hb h) (by omega) i40 (F20 kc kT _ hc hb h (by omega)).2 (by omega)) (by omega) rfl H locs ls hP hD hS (lv_sub hl [0, 1, 2] rfl)
        · have c31 : u20_1.toInt < 5 := z4 (by decide) rfl c31
          refine lv_iload_n hx hb dX10_plainBrides_34 rfl (lv_at hl 1 rfl) ?_
          refine lv_iconst (v := 1) hx hb dX10_plainBrides_35 (by decide) ?_
          refine lv_iload_n hx hb dX10_plainBrides_36 rfl (lv_at hl 0 rfl) ?_
          refine lv_ishl hx hb dX10_plainBrides_37 ?_
          refine lv_topi (fun v37 e37 => ?_)
          have i37 : 1 ≤ v37.toInt ∧ v37.toInt ≤ 32 := zshl1 e37 (by omega) (by omega)
          refine lv_ior hx hb dX10_plainBrides_38 ?_
          refine lv_topi (fun v38 e38 => ?_)
          refine lv_istore_n (lv' := [(1, .int v38), (2, .int m4_L_2), (0, .ref h0)]) hx hb dX10_plainBrides_39 rfl hl (by decide) rfl (fun ls hl => ?_)
          obtain ⟨v40, e40⟩ : ∃ y : Int32, y = m4_L_2 + Int32.ofInt (1) := ⟨_, rfl⟩
          refine lv_iinc (v := v40) (lv' := [(2, .int v40), (1, .int v38), (0, .ref h0)]) hx hb dX10_plainBrides_40 hl (k := 1) rfl e40.symm (by decide) rfl (fun ls hl => ?_)
          have i40 : v40.toInt = m4_L_2.toInt + 1 := zaddI e40 (by decide) (by omega) (by omega)
          refine lv_goto (tgt := 4) hx hb dX10_plainBrides_43 (by decide) ?_
          exact ih4 _ (by omega) u20_2 u20_0 u20_1 v38 v40 ⟨f20_0, f20_1⟩ (by omega) (fun kc kT q_fr hc hb h => by first | exact zPlY (jv4_0 kc kT _ hc hb h) (by omega) i40 (F20 kc kT _ hc hb h (by omega)).2 (by omega) e37 e38 | exact zPlN (jv4_0 kc kT _ hc hb h) (by omega) i40 (F20 kc kT _ hc hb h (by omega)).2 (by omega)) (by omega) rfl H locs ls hP hD hS (lv_sub hl [0, 1, 2] rfl)
  refine lv_istore_n (lv' := [(2, .int 0), (1, .int 0), (0, .ref h0)]) hx hb dX10_plainBrides_3 rfl hl (by decide) rfl (fun ls hl => ?_)
  have zj4_m4_L_1 : (0 : Int32).toInt = 0 := by decide
  have zj4_m4_L_2 : (0 : Int32).toInt = 0 := by decide
  exact J4 _ fW mt lf 0 0 y_lf (by decide) (fun kc kT q_fr hc hb h => rfl) (by omega) rfl H locs ls hP hD hS (lv_sub hl [0, 1, 2] rfl)
set_option maxHeartbeats 4000000 in
set_option maxRecDepth 100000 in
theorem g_X10_plainBrides_l (l : Launch) (dC : Nat → ClassId) (dI : Nat → Nat → Nat) (cI cJ : ClassId) (h0 : Nat) (tp : Nat) (h0_courtReader : Value) (h0_lawReader : Value) (h0_draft : Value) (aC : Nat) (h0_laws : Value) (g0 : Nat) (k0 : Nat) (ac : Nat) (sd : Nat) (mi : Nat) (dw : Nat) (rf : Nat) (lc : Int32) (lh : Int32) (br : Int32) (hi : Int32) (aR : Nat) (aB : Nat) (aP : Nat) (nb : Int32) (np : Int32) (fb : Nat → Int32) (fp : Nat → Int32) (gY : Nat) (gF : Nat) (gP : Nat) (gpn : Int32) (glt : Int32) (gsh : Int32) (gwd : Int32) (gpu : Int32) (gmo : Int32) (gfY : Nat → Int32) (gfF : Nat → Int32) (gfP : Nat → Int32) (w1 : Nat) (w2 : Nat) (aL : Nat) (aK : Nat) (lw : Nat) (fL : Nat → Int32) (fK : Nat → Int32) (lS : Nat) (fS : Nat → Int32) (lk : Nat) (mW : Nat) (mt : Int64) (lf : Int32) (mV : Nat) (mA : Nat) (mT : Nat) (fW : Nat → Int64) (sz : Nat) (n_gpn : 0 ≤ gpn.toInt ∧ gpn.toInt ≤ 20) (n_gwd : (-1) ≤ gwd.toInt ∧ gwd.toInt ≤ 5) (n_hi : 0 ≤ hi.toInt ∧ hi.toInt ≤ 1) (n_lc : 0 ≤ lc.toInt ∧ lc.toInt ≤ 4) (n_lf : 0 ≤ lf.toInt ∧ lf.toInt ≤ 9) (n_nb : 0 ≤ nb.toInt ∧ nb.toInt ≤ 6) (n_np : 0 ≤ np.toInt ∧ np.toInt ≤ 5) (hlk : lk ≤ 241) (ci_fS_zSt : zSt fS) (ci_gfP_zPo : zPo gfP)  : Met l yX10_plainBrides (.code yX10_plainBrides cX10_plainBrides 3 (some .int) :: wA) ({ frames := 6, cells := 0, slots := 0, locals := 153 }) (zPW (dC, dI) [(cI, .int), (cJ, .long)] [.ref h0] sz [(h0, .inr (10, [.ref tp, h0_courtReader, h0_lawReader, h0_draft, .ref aC, h0_laws, .ref g0, .ref k0, .ref ac, .ref sd, .ref mi, .ref dw, .ref rf, .int lc, .int lh, .int br, .int hi])), (aC, .inr (1, [.ref aR, .ref aB, .ref aP, .int nb, .int np])), (aB, .inl (cI, 24, .inl fb)), (aP, .inl (cI, 20, .inl fp)), (g0, .inr (7, [.ref gY, .ref gF, .ref gP, .int gpn, .int glt, .int gsh, .int gwd, .int gpu, .int gmo])), (gY, .inl (cI, 6, .inl gfY)), (gF, .inl (cI, 5, .inl gfF)), (gP, .inl (cI, 80, .inl gfP)), (sd, .inr (8, [.ref w1, .ref w2, .ref aC, .ref g0, .ref aL, .ref aK, .ref lw])), (aL, .inl (cI, 6, .inl fL)), (aK, .inl (cI, 32, .inl fK)), (lw, .inr (4, [.ref lS])), (lS, .inl (cI, lk, .inl fS)), (mi, .inr (6, [.ref aC, .ref g0, .ref sd, .ref mW, .long mt, .int lf, .ref mV, .ref mA, .ref mT])), (mW, .inl (cJ, 10, .inr (.inl fW)))] (va_A [(h0, .inr (10, [.ref tp, h0_courtReader, h0_lawReader, h0_draft, .ref aC, h0_laws, .ref g0, .ref k0, .ref ac, .ref sd, .ref mi, .ref dw, .ref rf, .int lc, .int lh, .int br, .int hi])), (aC, .inr (1, [.ref aR, .ref aB, .ref aP, .int nb, .int np])), (aB, .inl (cI, 24, .inl fb)), (aP, .inl (cI, 20, .inl fp)), (g0, .inr (7, [.ref gY, .ref gF, .ref gP, .int gpn, .int glt, .int gsh, .int gwd, .int gpu, .int gmo])), (gY, .inl (cI, 6, .inl gfY)), (gF, .inl (cI, 5, .inl gfF)), (gP, .inl (cI, 80, .inl gfP)), (sd, .inr (8, [.ref w1, .ref w2, .ref aC, .ref g0, .ref aL, .ref aK, .ref lw])), (aL, .inl (cI, 6, .inl fL)), (aK, .inl (cI, 32, .inl fK)), (lw, .inr (4, [.ref lS])), (lS, .inl (cI, lk, .inl fS)), (mi, .inr (6, [.ref aC, .ref g0, .ref sd, .ref mW, .long mt, .int lf, .ref mV, .ref mA, .ref mT])), (mW, .inl (cJ, 10, .inr (.inl fW)))] sz)) (va_Qi (fun (r : Int32) (u : (Nat → Int32) × (Nat → Int32) × Int64 × Int32 × (Nat → Int64)) => (0 ≤ u.2.2.2.1.toInt) ∧ (u.2.2.2.1.toInt ≤ 9) ∧ (∀ (kc : zK3) (kT : zT) (q_fr : Nat → Int32) (kt : (Int → Int) × Int), zCn q_fr fb fp nb.toInt np.toInt kc → zKo nb.toInt np.toInt kc kT → zSc nb.toInt np.toInt kT.1 gfY gfF gfP gpn glt gsh gwd gpu gmo → zLwC fS lk kt → r = sPl kc kT.1 (some kt) nb.toInt.toNat)) (fun (u : (Nat → Int32) × (Nat → Int32) × Int64 × Int32 × (Nat → Int64)) (t : State) => va_P (dC, dI) vwCl [(h0, .inr (10, [.ref tp, h0_courtReader, h0_lawReader, h0_draft, .ref aC, h0_laws, .ref g0, .ref k0, .ref ac, .ref sd, .ref mi, .ref dw, .ref rf, .int lc, .int lh, .int br, .int hi])), (aC, .inr (1, [.ref aR, .ref aB, .ref aP, .int nb, .int np])), (aB, .inl (cI, 24, .inl fb)), (aP, .inl (cI, 20, .inl fp)), (g0, .inr (7, [.ref gY, .ref gF, .ref gP, .int gpn, .int glt, .int gsh, .int gwd, .int gpu, .int gmo])), (gY, .inl (cI, 6, .inl gfY)), (gF, .inl (cI, 5, .inl gfF)), (gP, .inl (cI, 80, .inl gfP)), (sd, .inr (8, [.ref w1, .ref w2, .ref aC, .ref g0, .ref aL, .ref aK, .ref lw])), (aL, .inl (cI, 6, .inl u.1)), (aK, .inl (cI, 32, .inl u.2.1)), (lw, .inr (4, [.ref lS])), (lS, .inl (cI, lk, .inl fS)), (mi, .inr (6, [.ref aC, .ref g0, .ref sd, .ref mW, .long u.2.2.1, .int u.2.2.2.1, .ref mV, .ref mA, .ref mT])), (mW, .inl (cJ, 10, .inr (.inl u.2.2.2.2)))] t.heap ∧ va_D (va_A [(h0, .inr (10, [.ref tp, h0_courtReader, h0_lawReader, h0_draft, .ref aC, h0_laws, .ref g0, .ref k0, .ref ac, .ref sd, .ref mi, .ref dw, .ref rf, .int lc, .int lh, .int br, .int hi])), (aC, .inr (1, [.ref aR, .ref aB, .ref aP, .int nb, .int np])), (aB, .inl (cI, 24, .inl fb)), (aP, .inl (cI, 20, .inl fp)), (g0, .inr (7, [.ref gY, .ref gF, .ref gP, .int gpn, .int glt, .int gsh, .int gwd, .int gpu, .int gmo])), (gY, .inl (cI, 6, .inl gfY)), (gF, .inl (cI, 5, .inl gfF)), (gP, .inl (cI, 80, .inl gfP)), (sd, .inr (8, [.ref w1, .ref w2, .ref aC, .ref g0, .ref aL, .ref aK, .ref lw])), (aL, .inl (cI, 6, .inl fL)), (aK, .inl (cI, 32, .inl fK)), (lw, .inr (4, [.ref lS])), (lS, .inl (cI, lk, .inl fS)), (mi, .inr (6, [.ref aC, .ref g0, .ref sd, .ref mW, .long mt, .int lf, .ref mV, .ref mA, .ref mT])), (mW, .inl (cJ, 10, .inr (.inl fW)))] sz) [(h0, .inr (10, [.ref tp, h0_courtReader, h0_lawReader, h0_draft, .ref aC, h0_laws, .ref g0, .ref k0, .ref ac, .ref sd, .ref mi, .ref dw, .ref rf, .int lc, .int lh, .int br, .int hi])), (aC, .inr (1, [.ref aR, .ref aB, .ref aP, .int nb, .int np])), (aB, .inl (cI, 24, .inl fb)), (aP, .inl (cI, 20, .inl fp)), (g0, .inr (7, [.ref gY, .ref gF, .ref gP, .int gpn, .int glt, .int gsh, .int gwd, .int gpu, .int gmo])), (gY, .inl (cI, 6, .inl gfY)), (gF, .inl (cI, 5, .inl gfF)), (gP, .inl (cI, 80, .inl gfP)), (sd, .inr (8, [.ref w1, .ref w2, .ref aC, .ref g0, .ref aL, .ref aK, .ref lw])), (aL, .inl (cI, 6, .inl u.1)), (aK, .inl (cI, 32, .inl u.2.1)), (lw, .inr (4, [.ref lS])), (lS, .inl (cI, lk, .inl fS)), (mi, .inr (6, [.ref aC, .ref g0, .ref sd, .ref mW, .long u.2.2.1, .int u.2.2.2.1, .ref mV, .ref mA, .ref mT])), (mW, .inl (cJ, 10, .inr (.inl u.2.2.2.2)))]) (va_A [(h0, .inr (10, [.ref tp, h0_courtReader, h0_lawReader, h0_draft, .ref aC, h0_laws, .ref g0, .ref k0, .ref ac, .ref sd, .ref mi, .ref dw, .ref rf, .int lc, .int lh, .int br, .int hi])), (aC, .inr (1, [.ref aR, .ref aB, .ref aP, .int nb, .int np])), (aB, .inl (cI, 24, .inl fb)), (aP, .inl (cI, 20, .inl fp)), (g0, .inr (7, [.ref gY, .ref gF, .ref gP, .int gpn, .int glt, .int gsh, .int gwd, .int gpu, .int gmo])), (gY, .inl (cI, 6, .inl gfY)), (gF, .inl (cI, 5, .inl gfF)), (gP, .inl (cI, 80, .inl gfP)), (sd, .inr (8, [.ref w1, .ref w2, .ref aC, .ref g0, .ref aL, .ref aK, .ref lw])), (aL, .inl (cI, 6, .inl fL)), (aK, .inl (cI, 32, .inl fK)), (lw, .inr (4, [.ref lS])), (lS, .inl (cI, lk, .inl fS)), (mi, .inr (6, [.ref aC, .ref g0, .ref sd, .ref mW, .long mt, .int lf, .ref mV, .ref mA, .ref mT])), (mW, .inl (cJ, 10, .inr (.inl fW)))] sz)) 0 0 (va_A [(h0, .inr (10, [.ref tp, h0_courtReader, h0_lawReader, h0_draft, .ref aC, h0_laws, .ref g0, .ref k0, .ref ac, .ref sd, .ref mi, .ref dw, .ref rf, .int lc, .int lh, .int br, .int hi])), (aC, .inr (1, [.ref aR, .ref aB, .ref aP, .int nb, .int np])), (aB, .inl (cI, 24, .inl fb)), (aP, .inl (cI, 20, .inl fp)), (g0, .inr (7, [.ref gY, .ref gF, .ref gP, .int gpn, .int glt, .int gsh, .int gwd, .int gpu, .int gmo])), (gY, .inl (cI, 6, .inl gfY)), (gF, .inl (cI, 5, .inl gfF)), (gP, .inl (cI, 80, .inl gfP)), (sd, .inr (8, [.ref w1, .ref w2, .ref aC, .ref g0, .ref aL, .ref aK, .ref lw])), (aL, .inl (cI, 6, .inl fL)), (aK, .inl (cI, 32, .inl fK)), (lw, .inr (4, [.ref lS])), (lS, .inl (cI, lk, .inl fS)), (mi, .inr (6, [.ref aC, .ref g0, .ref sd, .ref mW, .long mt, .int lf, .ref mV, .ref mA, .ref mT])), (mW, .inl (cJ, 10, .inr (.inl fW)))] sz) := by
  refine Met.ofW (cc := cX10_plainBrides) (maxL := 3) (ret := (some .int)) (by decide) rfl ?_
  intro p e s m args below meth c s₁ B hml hv
  have y_gpn : zHid (0 ≤ gpn.toInt ∧ gpn.toInt ≤ 20) := n_gpn
  have y_gwd : zHid ((-1) ≤ gwd.toInt ∧ gwd.toInt ≤ 5) := n_gwd
  have y_hi : zHid (0 ≤ hi.toInt ∧ hi.toInt ≤ 1) := n_hi
  have y_lc : zHid (0 ≤ lc.toInt ∧ lc.toInt ≤ 4) := n_lc
  have y_lf : zHid (0 ≤ lf.toInt ∧ lf.toInt ≤ 9) := n_lf
  clear n_gpn n_gwd n_hi n_lc n_lf
  obtain ⟨⟨hargs, hsz, hP, hK, hT⟩, hV⟩ := hv
  have hx := B.exec
  have hb := B.bytes
  have hr := B.returns
  have hts : ∀ w ∈ wA, w.before args s = true := fun w h => atoms_spec (ws := .code yX10_plainBrides cX10_plainBrides 3 (some .int) :: wA) B.pre w (List.mem_cons_of_mem _ h)
  have hown : s.vm.findClass RX10 = some m.cls := findClass_of_methodNamed B.named
  have hlocks := B.notSynchronized
  subst hsz
  have hD := hT.self (sz := s.heap.size)
  generalize hAe : va_A [(h0, .inr (10, [.ref tp, h0_courtReader, h0_lawReader, h0_draft, .ref aC, h0_laws, .ref g0, .ref k0, .ref ac, .ref sd, .ref mi, .ref dw, .ref rf, .int lc, .int lh, .int br, .int hi])), (aC, .inr (1, [.ref aR, .ref aB, .ref aP, .int nb, .int np])), (aB, .inl (cI, 24, .inl fb)), (aP, .inl (cI, 20, .inl fp)), (g0, .inr (7, [.ref gY, .ref gF, .ref gP, .int gpn, .int glt, .int gsh, .int gwd, .int gpu, .int gmo])), (gY, .inl (cI, 6, .inl gfY)), (gF, .inl (cI, 5, .inl gfF)), (gP, .inl (cI, 80, .inl gfP)), (sd, .inr (8, [.ref w1, .ref w2, .ref aC, .ref g0, .ref aL, .ref aK, .ref lw])), (aL, .inl (cI, 6, .inl fL)), (aK, .inl (cI, 32, .inl fK)), (lw, .inr (4, [.ref lS])), (lS, .inl (cI, lk, .inl fS)), (mi, .inr (6, [.ref aC, .ref g0, .ref sd, .ref mW, .long mt, .int lf, .ref mV, .ref mA, .ref mT])), (mW, .inl (cJ, 10, .inr (.inl fW)))] s.heap.size = A at hD hV ⊢
  have hA : ∀ q : Nat, s.heap.size ≤ q → A q := fun q h => by rw [← hAe]; exact Or.inr h
  have hl := lv_entry ([.ref h0]) (n := 3) (Nat.le_of_ble_eq_true rfl)
  rw [show entryFrame m args 3 = entryFrame m ([.ref h0] : List Value).toArray 3 by rw [hargs], lg_entry_eq]
  generalize (lg_sl ([.ref h0]) ++ List.replicate (3 - (lg_sl ([.ref h0])).length) Slot.unset).toArray = ls at hl ⊢
  have hl : lv_has ls 3 [(0, .ref h0)] := hl
  refine zstart (fun H hH => ?_)
  rw [← hH] at hP
  have hS : va_S A s.heap H [] := by rw [hH]; exact va_S.rf
  generalize ([] : List Loc) = locs at hS ⊢
  refine zgen (fun R Q hR hQ => ?_)
  refine lv_iconst (v := 0) hx hb dX10_plainBrides_0 (by decide) ?_
  refine lv_istore_n (lv' := [(1, .int 0), (0, .ref h0)]) hx hb dX10_plainBrides_1 rfl hl (by decide) rfl (fun ls hl => ?_)
  refine lv_iconst (v := 0) hx hb dX10_plainBrides_2 (by decide) ?_
  have J4 : ∀ (n : Nat) (m4_A_aK : Nat → Int32) (m4_A_aL : Nat → Int32) (m4_A_mW : Nat → Int64) (m4_F_mi_4 : Int64) (m4_F_mi_5 : Int32) (m4_L_1 : Int32) (m4_L_2 : Int32), (0 ≤ m4_F_mi_5.toInt ∧ m4_F_mi_5.toInt ≤ 9) → (0 ≤ m4_L_2.toInt ∧ m4_L_2.toInt ≤ 6) → (∀ (kc : zK3) (kT : zT) (q_fr : Nat → Int32) (kt : (Int → Int) × Int), zCn q_fr fb fp nb.toInt np.toInt kc → zKo nb.toInt np.toInt kc kT → zSc nb.toInt np.toInt kT.1 gfY gfF gfP gpn glt gsh gwd gpu gmo → zLwC fS lk kt → m4_L_1 = sPl kc kT.1 (some kt) m4_L_2.toInt.toNat) → (m4_L_2.toInt ≤ nb.toInt) → (7 - m4_L_2.toInt).toNat = n → ∀ (H : Heap) (locs : List Loc) (ls : Array Slot), va_P (dC, dI) vwCl [(h0, .inr (10, [.ref tp, h0_courtReader, h0_lawReader, h0_draft, .ref aC, h0_laws, .ref g0, .ref k0, .ref ac, .ref sd, .ref mi, .ref dw, .ref rf, .int lc, .int lh, .int br, .int hi])), (aC, .inr (1, [.ref aR, .ref aB, .ref aP, .int nb, .int np])), (aB, .inl (cI, 24, .inl fb)), (aP, .inl (cI, 20, .inl fp)), (g0, .inr (7, [.ref gY, .ref gF, .ref gP, .int gpn, .int glt, .int gsh, .int gwd, .int gpu, .int gmo])), (gY, .inl (cI, 6, .inl gfY)), (gF, .inl (cI, 5, .inl gfF)), (gP, .inl (cI, 80, .inl gfP)), (sd, .inr (8, [.ref w1, .ref w2, .ref aC, .ref g0, .ref aL, .ref aK, .ref lw])), (aL, .inl (cI, 6, .inl m4_A_aL)), (aK, .inl (cI, 32, .inl m4_A_aK)), (lw, .inr (4, [.ref lS])), (lS, .inl (cI, lk, .inl fS)), (mi, .inr (6, [.ref aC, .ref g0, .ref sd, .ref mW, .long m4_F_mi_4, .int m4_F_mi_5, .ref mV, .ref mA, .ref mT])), (mW, .inl (cJ, 10, .inr (.inl m4_A_mW)))] H → va_D A [(h0, .inr (10, [.ref tp, h0_courtReader, h0_lawReader, h0_draft, .ref aC, h0_laws, .ref g0, .ref k0, .ref ac, .ref sd, .ref mi, .ref dw, .ref rf, .int lc, .int lh, .int br, .int hi])), (aC, .inr (1, [.ref aR, .ref aB, .ref aP, .int nb, .int np])), (aB, .inl (cI, 24, .inl fb)), (aP, .inl (cI, 20, .inl fp)), (g0, .inr (7, [.ref gY, .ref gF, .ref gP, .int gpn, .int glt, .int gsh, .int gwd, .int gpu, .int gmo])), (gY, .inl (cI, 6, .inl gfY)), (gF, .inl (cI, 5, .inl gfF)), (gP, .inl (cI, 80, .inl gfP)), (sd, .inr (8, [.ref w1, .ref w2, .ref aC, .ref g0, .ref aL, .ref aK, .ref lw])), (aL, .inl (cI, 6, .inl m4_A_aL)), (aK, .inl (cI, 32, .inl m4_A_aK)), (lw, .inr (4, [.ref lS])), (lS, .inl (cI, lk, .inl fS)), (mi, .inr (6, [.ref aC, .ref g0, .ref sd, .ref mW, .long m4_F_mi_4, .int m4_F_mi_5, .ref mV, .ref mA, .ref mT])), (mW, .inl (cJ, 10, .inr (.inl m4_A_mW)))] → va_S A s.heap H locs → lv_has ls 3 [(2, .int m4_L_2), (1, .int m4_L_1), (0, .ref h0)] → W p l e R s m args below meth c H locs 0 0 Q (F0 m 4 ls []) := by
    intro n4
    induction n4 using Nat.strongRecOn with
    | _ n4 ih4 =>
      intro m4_A_aK m4_A_aL m4_A_mW m4_F_mi_4 m4_F_mi_5 m4_L_1 m4_L_2 jf4_0 jf4_1 jv4_0 jf4_3 hmu4 H locs ls hP hD hS hl
      refine lv_iload_n hx hb dX10_plainBrides_4 rfl (lv_at hl 0 rfl) ?_
      refine lv_aload_n hx hb dX10_plainBrides_5 rfl (lv_at hl 2 rfl) ?_
      refine va_get (D := (dC, dI)) (ci := 10) (v := .ref aC) (C := RX10) (T := TX10) (N := 17) hx hb hts iX10 hown hK hP 0 rfl rfl 4 (by decide) (hts _ qw360) (fun _ h9 => h9) rfl dX10_plainBrides_6 ?_
      refine va_get (D := (dC, dI)) (ci := 1) (v := .int nb) (C := RX1) (T := TX1) (N := 5) hx hb hts iX1 hown hK hP 1 rfl rfl 3 (by decide) (hts _ qw195) (fun _ h9 => h9) rfl dX10_plainBrides_9 ?_
      refine lv_icmp_ge (tgt := 46) hx hb dX10_plainBrides_12 (by decide) (fun c12 => ?_) (fun c12 => ?_)
      · have c12 : nb.toInt ≤ m4_L_2.toInt := z3 rfl rfl c12
        refine lv_iload_n hx hb dX10_plainBrides_46 rfl (lv_at hl 1 rfl) ?_
        rw [hQ]
        exact W.iret (v := m4_L_1) hx hb hr (fun t ht hW => ⟨⟨m4_L_1, (m4_A_aL, m4_A_aK, m4_F_mi_4, m4_F_mi_5, m4_A_mW), rfl, ⟨by (try dsimp only); omega, by (try dsimp only); omega, by (try dsimp only); exact fun kc kT q_fr kt hc hb h ht => (jv4_0 kc kT _ kt hc hb h ht).trans (by rw [show m4_L_2.toInt.toNat = nb.toInt.toNat by omega])⟩, ⟨by rw [ht]; exact hP, hD⟩⟩, hS.F ht⟩) hS.2.2 dX10_plainBrides_47
      · have c12 : m4_L_2.toInt < nb.toInt := z4 rfl rfl c12
        refine lv_aload_n hx hb dX10_plainBrides_15 rfl (lv_at hl 2 rfl) ?_
        refine va_get (D := (dC, dI)) (ci := 10) (v := .ref mi) (C := RX10) (T := TX10) (N := 17) hx hb hts iX10 hown hK hP 0 rfl rfl 10 (by decide) (hts _ qw366) (fun _ h9 => h9) rfl dX10_plainBrides_16 ?_
        refine lv_iload_n hx hb dX10_plainBrides_19 rfl (lv_at hl 0 rfl) ?_
        obtain ⟨hPc, hDc, hFc⟩ := zc3 (wc := [(mi, .inr (6, [.ref aC, .ref g0, .ref sd, .ref mW, .long m4_F_mi_4, .int m4_F_mi_5, .ref mV, .ref mA, .ref mT])), (aC, .inr (1, [.ref aR, .ref aB, .ref aP, .int nb, .int np])), (aB, .inl (cI, 24, .inl fb)), (aP, .inl (cI, 20, .inl fp)), (g0, .inr (7, [.ref gY, .ref gF, .ref gP, .int gpn, .int glt, .int gsh, .int gwd, .int gpu, .int gmo])), (gY, .inl (cI, 6, .inl gfY)), (gF, .inl (cI, 5, .inl gfF)), (gP, .inl (cI, 80, .inl gfP)), (sd, .inr (8, [.ref w1, .ref w2, .ref aC, .ref g0, .ref aL, .ref aK, .ref lw])), (aL, .inl (cI, 6, .inl m4_A_aL)), (aK, .inl (cI, 32, .inl m4_A_aK)), (lw, .inr (4, [.ref lS])), (lS, .inl (cI, lk, .inl fS)), (mW, .inl (cJ, 10, .inr (.inl m4_A_mW)))]) hP hD hS hA [13, 1, 2, 3, 4, 5, 6, 7, 8, 9, 10, 11, 12, 14] (by decide +kernel) rfl
        refine va_callv (va_runV (As := [.int m4_L_2]) (rest := []) ⟨hx, hb, hml, hown, hts⟩ (g_X6_weigh_l l dC dI cI cJ mi m4_L_2 aC g0 sd mW m4_F_mi_4 m4_F_mi_5 mV mA mT aR aB aP nb np fb fp gY gF gP gpn glt gsh gwd gpu gmo gfY gfF gfP w1 w2 aL aK lw m4_A_aL m4_A_aK lS fS lk m4_A_mW H.size y_gpn jf4_0 (by omega) (hlk) ci_fS_zSt ci_gfP_zPo) (cwV 1 hts (zgV qw829 qw830 qw831 qw106 qw832) rfl rfl rfl hd_X6_weigh ⟨by rw [hR]; exact Nat.le_of_ble_eq_true rfl, by rw [hR]; exact Nat.le_of_ble_eq_true rfl⟩) (zPWV hPc hK hDc (va_recv (q := (RX6, TX6, 9)) hK hP (ci := 6) (q0 := 13) rfl rfl) (zV_call hV hS hFc)) rfl rfl hl.1 rfl (lv_room (Nat.le_of_ble_eq_true rfl)) dX10_plainBrides_20 ⟨Nat.zero_le _, Nat.zero_le _⟩) hS (fun q _ h => hFc q h) hFc (fun u20 t H locs ht hvm hw hB hz1 hk1 hS9 => ?_)
        obtain ⟨u20_0, u20_1, u20_2, u20_3, u20_4⟩ := u20
        obtain ⟨hP9, hD9⟩ := zj2 (wX := [(h0, .inr (10, [.ref tp, h0_courtReader, h0_lawReader, h0_draft, .ref aC, h0_laws, .ref g0, .ref k0, .ref ac, .ref sd, .ref mi, .ref dw, .ref rf, .int lc, .int lh, .int br, .int hi])), (aC, .inr (1, [.ref aR, .ref aB, .ref aP, .int nb, .int np])), (aB, .inl (cI, 24, .inl fb)), (aP, .inl (cI, 20, .inl fp)), (g0, .inr (7, [.ref gY, .ref gF, .ref gP, .int gpn, .int glt, .int gsh, .int gwd, .int gpu, .int gmo])), (gY, .inl (cI, 6, .inl gfY)), (gF, .inl (cI, 5, .inl gfF)), (gP, .inl (cI, 80, .inl gfP)), (sd, .inr (8, [.ref w1, .ref w2, .ref aC, .ref g0, .ref aL, .ref aK, .ref lw])), (aL, .inl (cI, 6, .inl u20_2)), (aK, .inl (cI, 32, .inl u20_3)), (lw, .inr (4, [.ref lS])), (lS, .inl (cI, lk, .inl fS)), (mi, .inr (6, [.ref aC, .ref g0, .ref sd, .ref mW, .long u20_0, .int u20_1, .ref mV, .ref mA, .ref mT])), (mW, .inl (cJ, 10, .inr (.inl u20_4)))]) hP hD hk1 hFc ht hB [13, 1, 2, 3, 4, 5, 6, 7, 8, 9, 10, 11, 12, 14] [(false, 0), (true, 1), (true, 2), (true, 3), (true, 4), (true, 5), (true, 6), (true, 7), (true, 8), (true, 9), (true, 10), (true, 11), (true, 12), (true, 0), (true, 13)] rfl (by decide +kernel) (by decide +kernel) rfl
        clear hP hD hS hPc hDc hFc hB hk1 hz1 hvm
        have hP := hP9
        have hD := hD9
        have hS := hS9
        clear hP9 hD9 hS9
        obtain ⟨f20_0, f20_1, f20_2⟩ : (0 ≤ u20_1.toInt) ∧ (u20_1.toInt ≤ 9) ∧ (∀ (kc : zK3) (kT : zT) (q_fr : Nat → Int32) (kt : (Int → Int) × Int), zCn q_fr fb fp nb.toInt np.toInt kc → zKo nb.toInt np.toInt kc kT → zSc nb.toInt np.toInt kT.1 gfY gfF gfP gpn glt gsh gwd gpu gmo → zLwC fS lk kt → (0 ≤ m4_L_2.toInt ∧ m4_L_2.toInt < nb.toInt) → zWe kc kT.1 (some kt) m4_L_2 u20_4 u20_0 u20_1) := hw
        have F20 := f20_2
        refine lv_aload_n hx hb dX10_plainBrides_23 rfl (lv_at hl 2 rfl) ?_
        refine va_get (D := (dC, dI)) (ci := 10) (v := .ref mi) (C := RX10) (T := TX10) (N := 17) hx hb hts iX10 hown hK hP 0 rfl rfl 10 (by decide) (hts _ qw366) (fun _ h9 => h9) rfl dX10_plainBrides_24 ?_
        refine va_get (D := (dC, dI)) (ci := 6) (v := .int u20_1) (C := RX6) (T := TX6) (N := 9) hx hb hts iX6 hown hK hP 13 rfl rfl 5 (by decide) (hts _ qw322) (fun _ h9 => h9) rfl dX10_plainBrides_27 ?_
        refine lv_iconst (v := 5) hx hb dX10_plainBrides_30 (by decide) ?_
        refine lv_icmp_ge (tgt := 40) hx hb dX10_plainBrides_31 (by decide) (fun c31 => ?_) (fun c31 => ?_)
        · have c31 : 5 ≤ u20_1.toInt := z3 (by decide) rfl c31
          obtain ⟨v40, e40⟩ : ∃ y : Int32, y = m4_L_2 + Int32.ofInt (1) := ⟨_, rfl⟩
          refine lv_iinc (v := v40) (lv' := [(2, .int v40), (1, .int m4_L_1), (0, .ref h0)]) hx hb dX10_plainBrides_40 hl (k := 0) rfl e40.symm (by decide) rfl (fun ls hl => ?_)
          have i40 : v40.toInt = m4_L_2.toInt + 1 := zaddI e40 (by decide) (by omega) (by omega)
          refine lv_goto (tgt := 4) hx hb dX10_plainBrides_43 (by decide) ?_
          exact ih4 _ (by omega) u20_3 u20_2 u20_4 u20_0 u20_1 m4_L_1 v40 ⟨f20_0, f20_1⟩ (by omega) (fun kc kT q_fr kt hc hb h ht => by first | exact zPlY (jv4_0 kc kT _ kt hc hb h ht) (by omega) i40 (F20 kc kT _ kt hc hb h ht (by omega)).2 (by omega) e37 e38 | exact zPlN (jv4_0 kc kT _ kt hc hb h ht) (by omega) i40 (F20 kc kT _ kt hc hb h ht (by omega)).2 (by omega)) (by omega) rfl H locs ls hP hD hS (lv_sub hl [0, 1, 2] rfl)
        · have c31 : u20_1.toInt < 5 := z4 (by decide) rfl c31
          refine lv_iload_n hx hb dX10_plainBrides_34 rfl (lv_at hl 1 rfl) ?_
          refine lv_iconst (v := 1) hx hb dX10_plainBrides_35 (by decide) ?_
          refine lv_iload_n hx hb dX10_plainBrides_36 rfl (lv_at hl 0 rfl) ?_
          refine lv_ishl hx hb dX10_plainBrides_37 ?_
          refine lv_topi (fun v37 e37 => ?_)
          have i37 : 1 ≤ v37.toInt ∧ v37.toInt ≤ 32 := zshl1 e37 (by omega) (by omega)
          refine lv_ior hx hb dX10_plainBrides_38 ?_
          refine lv_topi (fun v38 e38 => ?_)
          refine lv_istore_n (lv' := [(1, .int v38), (2, .int m4_L_2), (0, .ref h0)]) hx hb dX10_plainBrides_39 rfl hl (by decide) rfl (fun ls hl => ?_)
          obtain ⟨v40, e40⟩ : ∃ y : Int32, y = m4_L_2 + Int32.ofInt (1) := ⟨_, rfl⟩
          refine lv_iinc (v := v40) (lv' := [(2, .int v40), (1, .int v38), (0, .ref h0)]) hx hb dX10_plainBrides_40 hl (k := 1) rfl e40.symm (by decide) rfl (fun ls hl => ?_)
          have i40 : v40.toInt = m4_L_2.toInt + 1 := zaddI e40 (by decide) (by omega) (by omega)
          refine lv_goto (tgt := 4) hx hb dX10_plainBrides_43 (by decide) ?_
          exact ih4 _ (by omega) u20_3 u20_2 u20_4 u20_0 u20_1 v38 v40 ⟨f20_0, f20_1⟩ (by omega) (fun kc kT q_fr kt hc hb h ht => by first | exact zPlY (jv4_0 kc kT _ kt hc hb h ht) (by omega) i40 (F20 kc kT _ kt hc hb h ht (by omega)).2 (by omega) e37 e38 | exact zPlN (jv4_0 kc kT _ kt hc hb h ht) (by omega) i40 (F20 kc kT _ kt hc hb h ht (by omega)).2 (by omega)) (by omega) rfl H locs ls hP hD hS (lv_sub hl [0, 1, 2] rfl)
  refine lv_istore_n (lv' := [(2, .int 0), (1, .int 0), (0, .ref h0)]) hx hb dX10_plainBrides_3 rfl hl (by decide) rfl (fun ls hl => ?_)
  have zj4_m4_L_1 : (0 : Int32).toInt = 0 := by decide
  have zj4_m4_L_2 : (0 : Int32).toInt = 0 := by decide
  exact J4 _ fK fL fW mt lf 0 0 y_lf (by decide) (fun kc kT q_fr kt hc hb h ht => rfl) (by omega) rfl H locs ls hP hD hS (lv_sub hl [0, 1, 2] rfl)
set_option maxHeartbeats 4000000 in
set_option maxRecDepth 100000 in
theorem g_X10_most_n (l : Launch) (dC : Nat → ClassId) (dI : Nat → Nat → Nat) (cI cJ : ClassId) (h0 : Nat) (p0 : Int32) (tp : Nat) (h0_courtReader : Value) (h0_lawReader : Value) (h0_draft : Value) (aC : Nat) (h0_laws : Value) (g0 : Nat) (k0 : Nat) (ac : Nat) (sd : Nat) (mi : Nat) (dw : Nat) (rf : Nat) (lc : Int32) (lh : Int32) (br : Int32) (hi : Int32) (aR : Nat) (aB : Nat) (aP : Nat) (nb : Int32) (np : Int32) (fb : Nat → Int32) (fp : Nat → Int32) (gY : Nat) (gF : Nat) (gP : Nat) (gpn : Int32) (glt : Int32) (gsh : Int32) (gwd : Int32) (gpu : Int32) (gmo : Int32) (gfY : Nat → Int32) (gfF : Nat → Int32) (gfP : Nat → Int32) (w1 : Nat) (w2 : Nat) (aL : Nat) (aK : Nat) (mW : Nat) (mt : Int64) (lf : Int32) (mV : Nat) (mA : Nat) (mT : Nat) (fW : Nat → Int64) (sz : Nat) (n_gpn : 0 ≤ gpn.toInt ∧ gpn.toInt ≤ 20) (n_gwd : (-1) ≤ gwd.toInt ∧ gwd.toInt ≤ 5) (n_hi : 0 ≤ hi.toInt ∧ hi.toInt ≤ 1) (n_lc : 0 ≤ lc.toInt ∧ lc.toInt ≤ 4) (n_lf : 0 ≤ lf.toInt ∧ lf.toInt ≤ 9) (n_nb : 0 ≤ nb.toInt ∧ nb.toInt ≤ 6) (n_np : 0 ≤ np.toInt ∧ np.toInt ≤ 5)  (ci_gfP_zPo : zPo gfP)  : Met l yX10_most (.code yX10_most cX10_most 2 (some .int) :: wA) ({ frames := 7, cells := 0, slots := 0, locals := 175 }) (zPW (dC, dI) [(cI, .int), (cJ, .long)] [.ref h0, .int p0] sz [(h0, .inr (10, [.ref tp, h0_courtReader, h0_lawReader, h0_draft, .ref aC, h0_laws, .ref g0, .ref k0, .ref ac, .ref sd, .ref mi, .ref dw, .ref rf, .int lc, .int lh, .int br, .int hi])), (aC, .inr (1, [.ref aR, .ref aB, .ref aP, .int nb, .int np])), (aB, .inl (cI, 24, .inl fb)), (aP, .inl (cI, 20, .inl fp)), (g0, .inr (7, [.ref gY, .ref gF, .ref gP, .int gpn, .int glt, .int gsh, .int gwd, .int gpu, .int gmo])), (gY, .inl (cI, 6, .inl gfY)), (gF, .inl (cI, 5, .inl gfF)), (gP, .inl (cI, 80, .inl gfP)), (sd, .inr (8, [.ref w1, .ref w2, .ref aC, .ref g0, .ref aL, .ref aK, .null])), (mi, .inr (6, [.ref aC, .ref g0, .ref sd, .ref mW, .long mt, .int lf, .ref mV, .ref mA, .ref mT])), (mW, .inl (cJ, 10, .inr (.inl fW)))] (va_A [(h0, .inr (10, [.ref tp, h0_courtReader, h0_lawReader, h0_draft, .ref aC, h0_laws, .ref g0, .ref k0, .ref ac, .ref sd, .ref mi, .ref dw, .ref rf, .int lc, .int lh, .int br, .int hi])), (aC, .inr (1, [.ref aR, .ref aB, .ref aP, .int nb, .int np])), (aB, .inl (cI, 24, .inl fb)), (aP, .inl (cI, 20, .inl fp)), (g0, .inr (7, [.ref gY, .ref gF, .ref gP, .int gpn, .int glt, .int gsh, .int gwd, .int gpu, .int gmo])), (gY, .inl (cI, 6, .inl gfY)), (gF, .inl (cI, 5, .inl gfF)), (gP, .inl (cI, 80, .inl gfP)), (sd, .inr (8, [.ref w1, .ref w2, .ref aC, .ref g0, .ref aL, .ref aK, .null])), (mi, .inr (6, [.ref aC, .ref g0, .ref sd, .ref mW, .long mt, .int lf, .ref mV, .ref mA, .ref mT])), (mW, .inl (cJ, 10, .inr (.inl fW)))] sz)) (va_Qi (fun (r : Int32) (u : Int64 × Int32 × (Nat → Int64)) => (0 ≤ u.2.1.toInt) ∧ (u.2.1.toInt ≤ 9) ∧ (∀ (kc : zK3) (kT : zT) (q_fr : Nat → Int32) (q_fR : Nat → Int32) (q_pl : Int32) (q_cn : Int32) (q_frf : Nat → Int32), zCn q_fr fb fp nb.toInt np.toInt kc → zKo nb.toInt np.toInt kc kT → zTc nb.toInt np.toInt kT gfY gfF gfP gpn glt gsh gwd gpu gmo q_fR q_pl q_cn q_frf → r = sV_mos nb.toInt np.toInt kc kT.1 none p0)) (fun (u : Int64 × Int32 × (Nat → Int64)) (t : State) => va_P (dC, dI) vwCl [(h0, .inr (10, [.ref tp, h0_courtReader, h0_lawReader, h0_draft, .ref aC, h0_laws, .ref g0, .ref k0, .ref ac, .ref sd, .ref mi, .ref dw, .ref rf, .int lc, .int lh, .int br, .int hi])), (aC, .inr (1, [.ref aR, .ref aB, .ref aP, .int nb, .int np])), (aB, .inl (cI, 24, .inl fb)), (aP, .inl (cI, 20, .inl fp)), (g0, .inr (7, [.ref gY, .ref gF, .ref gP, .int gpn, .int glt, .int gsh, .int gwd, .int gpu, .int gmo])), (gY, .inl (cI, 6, .inl gfY)), (gF, .inl (cI, 5, .inl gfF)), (gP, .inl (cI, 80, .inl gfP)), (sd, .inr (8, [.ref w1, .ref w2, .ref aC, .ref g0, .ref aL, .ref aK, .null])), (mi, .inr (6, [.ref aC, .ref g0, .ref sd, .ref mW, .long u.1, .int u.2.1, .ref mV, .ref mA, .ref mT])), (mW, .inl (cJ, 10, .inr (.inl u.2.2)))] t.heap ∧ va_D (va_A [(h0, .inr (10, [.ref tp, h0_courtReader, h0_lawReader, h0_draft, .ref aC, h0_laws, .ref g0, .ref k0, .ref ac, .ref sd, .ref mi, .ref dw, .ref rf, .int lc, .int lh, .int br, .int hi])), (aC, .inr (1, [.ref aR, .ref aB, .ref aP, .int nb, .int np])), (aB, .inl (cI, 24, .inl fb)), (aP, .inl (cI, 20, .inl fp)), (g0, .inr (7, [.ref gY, .ref gF, .ref gP, .int gpn, .int glt, .int gsh, .int gwd, .int gpu, .int gmo])), (gY, .inl (cI, 6, .inl gfY)), (gF, .inl (cI, 5, .inl gfF)), (gP, .inl (cI, 80, .inl gfP)), (sd, .inr (8, [.ref w1, .ref w2, .ref aC, .ref g0, .ref aL, .ref aK, .null])), (mi, .inr (6, [.ref aC, .ref g0, .ref sd, .ref mW, .long mt, .int lf, .ref mV, .ref mA, .ref mT])), (mW, .inl (cJ, 10, .inr (.inl fW)))] sz) [(h0, .inr (10, [.ref tp, h0_courtReader, h0_lawReader, h0_draft, .ref aC, h0_laws, .ref g0, .ref k0, .ref ac, .ref sd, .ref mi, .ref dw, .ref rf, .int lc, .int lh, .int br, .int hi])), (aC, .inr (1, [.ref aR, .ref aB, .ref aP, .int nb, .int np])), (aB, .inl (cI, 24, .inl fb)), (aP, .inl (cI, 20, .inl fp)), (g0, .inr (7, [.ref gY, .ref gF, .ref gP, .int gpn, .int glt, .int gsh, .int gwd, .int gpu, .int gmo])), (gY, .inl (cI, 6, .inl gfY)), (gF, .inl (cI, 5, .inl gfF)), (gP, .inl (cI, 80, .inl gfP)), (sd, .inr (8, [.ref w1, .ref w2, .ref aC, .ref g0, .ref aL, .ref aK, .null])), (mi, .inr (6, [.ref aC, .ref g0, .ref sd, .ref mW, .long u.1, .int u.2.1, .ref mV, .ref mA, .ref mT])), (mW, .inl (cJ, 10, .inr (.inl u.2.2)))]) (va_A [(h0, .inr (10, [.ref tp, h0_courtReader, h0_lawReader, h0_draft, .ref aC, h0_laws, .ref g0, .ref k0, .ref ac, .ref sd, .ref mi, .ref dw, .ref rf, .int lc, .int lh, .int br, .int hi])), (aC, .inr (1, [.ref aR, .ref aB, .ref aP, .int nb, .int np])), (aB, .inl (cI, 24, .inl fb)), (aP, .inl (cI, 20, .inl fp)), (g0, .inr (7, [.ref gY, .ref gF, .ref gP, .int gpn, .int glt, .int gsh, .int gwd, .int gpu, .int gmo])), (gY, .inl (cI, 6, .inl gfY)), (gF, .inl (cI, 5, .inl gfF)), (gP, .inl (cI, 80, .inl gfP)), (sd, .inr (8, [.ref w1, .ref w2, .ref aC, .ref g0, .ref aL, .ref aK, .null])), (mi, .inr (6, [.ref aC, .ref g0, .ref sd, .ref mW, .long mt, .int lf, .ref mV, .ref mA, .ref mT])), (mW, .inl (cJ, 10, .inr (.inl fW)))] sz)) 0 0 (va_A [(h0, .inr (10, [.ref tp, h0_courtReader, h0_lawReader, h0_draft, .ref aC, h0_laws, .ref g0, .ref k0, .ref ac, .ref sd, .ref mi, .ref dw, .ref rf, .int lc, .int lh, .int br, .int hi])), (aC, .inr (1, [.ref aR, .ref aB, .ref aP, .int nb, .int np])), (aB, .inl (cI, 24, .inl fb)), (aP, .inl (cI, 20, .inl fp)), (g0, .inr (7, [.ref gY, .ref gF, .ref gP, .int gpn, .int glt, .int gsh, .int gwd, .int gpu, .int gmo])), (gY, .inl (cI, 6, .inl gfY)), (gF, .inl (cI, 5, .inl gfF)), (gP, .inl (cI, 80, .inl gfP)), (sd, .inr (8, [.ref w1, .ref w2, .ref aC, .ref g0, .ref aL, .ref aK, .null])), (mi, .inr (6, [.ref aC, .ref g0, .ref sd, .ref mW, .long mt, .int lf, .ref mV, .ref mA, .ref mT])), (mW, .inl (cJ, 10, .inr (.inl fW)))] sz) := by
  refine Met.ofW (cc := cX10_most) (maxL := 2) (ret := (some .int)) (by decide) rfl ?_
  intro p e s m args below meth c s₁ B hml hv
  have y_gwd : zHid ((-1) ≤ gwd.toInt ∧ gwd.toInt ≤ 5) := n_gwd
  have y_hi : zHid (0 ≤ hi.toInt ∧ hi.toInt ≤ 1) := n_hi
  have y_lc : zHid (0 ≤ lc.toInt ∧ lc.toInt ≤ 4) := n_lc
  clear n_gwd n_hi n_lc
  obtain ⟨⟨hargs, hsz, hP, hK, hT⟩, hV⟩ := hv
  have hx := B.exec
  have hb := B.bytes
  have hr := B.returns
  have hts : ∀ w ∈ wA, w.before args s = true := fun w h => atoms_spec (ws := .code yX10_most cX10_most 2 (some .int) :: wA) B.pre w (List.mem_cons_of_mem _ h)
  have hown : s.vm.findClass RX10 = some m.cls := findClass_of_methodNamed B.named
  have hlocks := B.notSynchronized
  subst hsz
  have hD := hT.self (sz := s.heap.size)
  generalize hAe : va_A [(h0, .inr (10, [.ref tp, h0_courtReader, h0_lawReader, h0_draft, .ref aC, h0_laws, .ref g0, .ref k0, .ref ac, .ref sd, .ref mi, .ref dw, .ref rf, .int lc, .int lh, .int br, .int hi])), (aC, .inr (1, [.ref aR, .ref aB, .ref aP, .int nb, .int np])), (aB, .inl (cI, 24, .inl fb)), (aP, .inl (cI, 20, .inl fp)), (g0, .inr (7, [.ref gY, .ref gF, .ref gP, .int gpn, .int glt, .int gsh, .int gwd, .int gpu, .int gmo])), (gY, .inl (cI, 6, .inl gfY)), (gF, .inl (cI, 5, .inl gfF)), (gP, .inl (cI, 80, .inl gfP)), (sd, .inr (8, [.ref w1, .ref w2, .ref aC, .ref g0, .ref aL, .ref aK, .null])), (mi, .inr (6, [.ref aC, .ref g0, .ref sd, .ref mW, .long mt, .int lf, .ref mV, .ref mA, .ref mT])), (mW, .inl (cJ, 10, .inr (.inl fW)))] s.heap.size = A at hD hV ⊢
  have hA : ∀ q : Nat, s.heap.size ≤ q → A q := fun q h => by rw [← hAe]; exact Or.inr h
  have hl := lv_entry ([.ref h0, .int p0]) (n := 2) (Nat.le_of_ble_eq_true rfl)
  rw [show entryFrame m args 2 = entryFrame m ([.ref h0, .int p0] : List Value).toArray 2 by rw [hargs], lg_entry_eq]
  generalize (lg_sl ([.ref h0, .int p0]) ++ List.replicate (2 - (lg_sl ([.ref h0, .int p0])).length) Slot.unset).toArray = ls at hl ⊢
  have hl : lv_has ls 2 [(0, .ref h0), (1, .int p0)] := hl
  refine zstart (fun H hH => ?_)
  rw [← hH] at hP
  have hS : va_S A s.heap H [] := by rw [hH]; exact va_S.rf
  generalize ([] : List Loc) = locs at hS ⊢
  refine zgen (fun R Q hR hQ => ?_)
  refine lv_aload_n hx hb dX10_most_0 rfl (lv_at hl 0 rfl) ?_
  obtain ⟨hPc, hDc⟩ := zc2 (wc := [(h0, .inr (10, [.ref tp, h0_courtReader, h0_lawReader, h0_draft, .ref aC, h0_laws, .ref g0, .ref k0, .ref ac, .ref sd, .ref mi, .ref dw, .ref rf, .int lc, .int lh, .int br, .int hi])), (aC, .inr (1, [.ref aR, .ref aB, .ref aP, .int nb, .int np]))]) hP hD [0, 1] (by decide +kernel) rfl
  have hFc := zfr hS hA
  refine va_calli (va_runV (As := []) (rest := []) ⟨hx, hb, hml, hown, hts⟩ (g_X10_hasCourt l dC dI cI cJ h0 (.ref tp) h0_courtReader h0_lawReader h0_draft aC h0_laws (.ref g0) (.ref k0) (.ref ac) (.ref sd) (.ref mi) (.ref dw) (.ref rf) (.int lc) (.int lh) (.int br) (.int hi) aR aB aP nb np H.size) (cwV 0 hts (zgV qw584 qw586 qw10 qw98 qw587) rfl rfl rfl hd_X10_hasCourt ⟨by rw [hR]; exact Nat.le_of_ble_eq_true rfl, by rw [hR]; exact Nat.le_of_ble_eq_true rfl⟩) (zPV hPc hK hDc (va_recv (q := (RX10, TX10, 17)) hK hP (ci := 10) (q0 := 0) rfl rfl)) rfl rfl hl.1 rfl (lv_room (Nat.le_of_ble_eq_true rfl)) dX10_most_1 ⟨Nat.zero_le _, Nat.zero_le _⟩) hS (fun q _ h => hFc q h) hFc (fun v1 u1 t H locs ht hvm hw hB hz1 hk1 hS9 => ?_)
  replace hP := zkeep hP hk1
  replace hS := hS9
  clear hPc hDc hFc hk1 hz1 hvm hS9
  obtain ⟨f1_0, f1_1, f1_2, f1_3⟩ : (0 ≤ v1.toInt) ∧ (v1.toInt ≤ 1) ∧ (¬ v1.toInt = 0 → 0 < nb.toInt) ∧ (v1.toInt = 0 → nb.toInt ≤ 0) := hw
  refine lv_if_ne (tgt := 9) hx hb dX10_most_4 (by decide) (fun c4 => ?_) (fun c4 => ?_)
  · have c4 : ¬ v1.toInt = 0 := z6 rfl (by decide) c4
    refine lv_iload_n hx hb dX10_most_9 rfl (lv_at hl 1 rfl) ?_
    rcases (show (p0.toInt < 0 ∨ 4 < p0.toInt) ∨ p0.toInt = 0 ∨ p0.toInt = 1 ∨ p0.toInt = 2 ∨ p0.toInt = 3 ∨ p0.toInt = 4 by omega) with c10 | c10 | c10 | c10 | c10 | c10
    · refine lv_tableOut (tgt := 80) hx hb dX10_most_10 c10 (by decide) ?_
      refine lv_iconst (v := (-1)) hx hb dX10_most_80 (by decide) ?_
      have zr0 : ((-1) : Int32).toInt = (-1) := by decide
      rw [hQ]
      exact W.iret (v := ((-1))) hx hb hr (fun t ht hW => ⟨⟨(-1), (mt, lf, fW), rfl, ⟨by (try dsimp only); omega, by (try dsimp only); omega, by (try dsimp only); exact fun kc kT q_fr q_fR q_pl q_cn q_frf hc hb h => by unfold sV_mos; rw [if_neg (by omega), if_neg (by omega), if_neg (by omega), if_neg (by omega), if_neg (by omega), if_neg (by omega)]; ⟩, ⟨by rw [ht]; exact hP, hD⟩⟩, hS.F ht⟩) hS.2.2 dX10_most_81
    · refine lv_tableIn (off := 34) (tgt := 44) hx hb dX10_most_10 (by omega) (by omega) (by rw [c10]; rfl) (by decide) ?_
      refine lv_aload_n hx hb dX10_most_44 rfl (lv_at hl 0 rfl) ?_
      obtain ⟨hPc, hDc, hFc⟩ := zc3 (wc := [(h0, .inr (10, [.ref tp, h0_courtReader, h0_lawReader, h0_draft, .ref aC, h0_laws, .ref g0, .ref k0, .ref ac, .ref sd, .ref mi, .ref dw, .ref rf, .int lc, .int lh, .int br, .int hi])), (aC, .inr (1, [.ref aR, .ref aB, .ref aP, .int nb, .int np])), (aB, .inl (cI, 24, .inl fb)), (aP, .inl (cI, 20, .inl fp)), (g0, .inr (7, [.ref gY, .ref gF, .ref gP, .int gpn, .int glt, .int gsh, .int gwd, .int gpu, .int gmo])), (gY, .inl (cI, 6, .inl gfY)), (gF, .inl (cI, 5, .inl gfF)), (gP, .inl (cI, 80, .inl gfP)), (sd, .inr (8, [.ref w1, .ref w2, .ref aC, .ref g0, .ref aL, .ref aK, .null])), (mi, .inr (6, [.ref aC, .ref g0, .ref sd, .ref mW, .long mt, .int lf, .ref mV, .ref mA, .ref mT])), (mW, .inl (cJ, 10, .inr (.inl fW)))]) hP hD hS hA [0, 1, 2, 3, 4, 5, 6, 7, 8, 9, 10] (by decide +kernel) rfl
      refine va_calli (va_runV (As := []) (rest := []) ⟨hx, hb, hml, hown, hts⟩ (g_X10_plainBrides_n l dC dI cI cJ h0 tp h0_courtReader h0_lawReader h0_draft aC h0_laws g0 k0 ac sd mi dw rf lc lh br hi aR aB aP nb np fb fp gY gF gP gpn glt gsh gwd gpu gmo gfY gfF gfP w1 w2 aL aK mW mt lf mV mA mT fW H.size n_gpn y_gwd y_hi y_lc n_lf n_nb n_np ci_gfP_zPo) (cwV 0 hts (zgV qw992 qw994 qw27 qw98 qw995) rfl rfl rfl hd_X10_plainBrides ⟨by rw [hR]; exact Nat.le_of_ble_eq_true rfl, by rw [hR]; exact Nat.le_of_ble_eq_true rfl⟩) (zPWV hPc hK hDc (va_recv (q := (RX10, TX10, 17)) hK hP (ci := 10) (q0 := 0) rfl rfl) (zV_call hV hS hFc)) rfl rfl hl.1 rfl (lv_room (Nat.le_of_ble_eq_true rfl)) dX10_most_45 ⟨Nat.zero_le _, Nat.zero_le _⟩) hS (fun q _ h => hFc q h) hFc (fun v45 u45 t H locs ht hvm hw hB hz1 hk1 hS9 => ?_)
      obtain ⟨u45_0, u45_1, u45_2⟩ := u45
      obtain ⟨hP9, hD9⟩ := zj2 (wX := [(h0, .inr (10, [.ref tp, h0_courtReader, h0_lawReader, h0_draft, .ref aC, h0_laws, .ref g0, .ref k0, .ref ac, .ref sd, .ref mi, .ref dw, .ref rf, .int lc, .int lh, .int br, .int hi])), (aC, .inr (1, [.ref aR, .ref aB, .ref aP, .int nb, .int np])), (aB, .inl (cI, 24, .inl fb)), (aP, .inl (cI, 20, .inl fp)), (g0, .inr (7, [.ref gY, .ref gF, .ref gP, .int gpn, .int glt, .int gsh, .int gwd, .int gpu, .int gmo])), (gY, .inl (cI, 6, .inl gfY)), (gF, .inl (cI, 5, .inl gfF)), (gP, .inl (cI, 80, .inl gfP)), (sd, .inr (8, [.ref w1, .ref w2, .ref aC, .ref g0, .ref aL, .ref aK, .null])), (mi, .inr (6, [.ref aC, .ref g0, .ref sd, .ref mW, .long u45_0, .int u45_1, .ref mV, .ref mA, .ref mT])), (mW, .inl (cJ, 10, .inr (.inl u45_2)))]) hP hD hk1 hFc ht hB [0, 1, 2, 3, 4, 5, 6, 7, 8, 9, 10] [(true, 0), (true, 1), (true, 2), (true, 3), (true, 4), (true, 5), (true, 6), (true, 7), (true, 8), (true, 9), (true, 10)] rfl (by decide +kernel) (by decide +kernel) rfl
      clear hP hD hS hPc hDc hFc hB hk1 hz1 hvm
      have hP := hP9
      have hD := hD9
      have hS := hS9
      clear hP9 hD9 hS9
      obtain ⟨f45_0, f45_1, f45_2⟩ : (0 ≤ u45_1.toInt) ∧ (u45_1.toInt ≤ 9) ∧ (∀ (kc : zK3) (kT : zT) (q_fr : Nat → Int32), zCn q_fr fb fp nb.toInt np.toInt kc → zKo nb.toInt np.toInt kc kT → zSc nb.toInt np.toInt kT.1 gfY gfF gfP gpn glt gsh gwd gpu gmo → v45 = sPl kc kT.1 none nb.toInt.toNat) := hw
      have F45 := f45_2
      rw [hQ]
      exact W.iret (v := v45) hx hb hr (fun t ht hW => ⟨⟨v45, (u45_0, u45_1, u45_2), rfl, ⟨by (try dsimp only); omega, by (try dsimp only); omega, by (try dsimp only); exact fun kc kT q_fr q_fR q_pl q_cn q_frf hc hb h => by unfold sV_mos; rw [if_neg (by omega), if_pos (by omega)]; exact F45 kc kT _ hc hb h.1⟩, ⟨by rw [ht]; exact hP, hD⟩⟩, hS.F ht⟩) hS.2.2 dX10_most_48
    · refine lv_tableIn (off := 39) (tgt := 49) hx hb dX10_most_10 (by omega) (by omega) (by rw [c10]; rfl) (by decide) ?_
      refine lv_aload_n hx hb dX10_most_49 rfl (lv_at hl 0 rfl) ?_
      refine va_get (D := (dC, dI)) (ci := 10) (v := .ref aC) (C := RX10) (T := TX10) (N := 17) hx hb hts iX10 hown hK hP 0 rfl rfl 4 (by decide) (hts _ qw360) (fun _ h9 => h9) rfl dX10_most_50 ?_
      refine lv_iconst (v := 1) hx hb dX10_most_53 (by decide) ?_
      obtain ⟨hPc, hDc⟩ := zc2 (wc := [(aC, .inr (1, [.ref aR, .ref aB, .ref aP, .int nb, .int np])), (aB, .inl (cI, 24, .inl fb))]) hP hD [1, 2] (by decide +kernel) rfl
      have hFc := zfr hS hA
      refine va_calli (va_runV (As := [.int 1]) (rest := []) ⟨hx, hb, hml, hown, hts⟩ (g_X1_topBride l dC dI cI cJ aC 1 aR aB aP nb np fb H.size n_nb (by decide)) (cwV 1 hts (zgV qw996 qw997 qw998 qw102 qw999) rfl rfl rfl hd_X1_topBride ⟨by rw [hR]; exact Nat.le_of_ble_eq_true rfl, by rw [hR]; exact Nat.le_of_ble_eq_true rfl⟩) (zPV hPc hK hDc (va_recv (q := (RX1, TX1, 5)) hK hP (ci := 1) (q0 := 1) rfl rfl)) rfl rfl hl.1 rfl (lv_room (Nat.le_of_ble_eq_true rfl)) dX10_most_54 ⟨Nat.zero_le _, Nat.zero_le _⟩) hS (fun q _ h => hFc q h) hFc (fun v54 u54 t H locs ht hvm hw hB hz1 hk1 hS9 => ?_)
      replace hP := zkeep hP hk1
      replace hS := hS9
      clear hPc hDc hFc hk1 hz1 hvm hS9
      have zn54_1 : (1 : Int32).toInt = 1 := by decide
      obtain ⟨f54_0, f54_1, f54_2⟩ : (0 ≤ v54.toInt) ∧ (v54.toInt ≤ 5) ∧ (v54 = zXm (fun j => fb (4 * j + (1 : Int32).toInt.toNat)) (nb.toInt.toNat - 1)) := hw
      have F54 := f54_2
      rw [hQ]
      exact W.iret (v := v54) hx hb hr (fun t ht hW => ⟨⟨v54, (mt, lf, fW), rfl, ⟨by (try dsimp only); omega, by (try dsimp only); omega, by (try dsimp only); exact fun kc kT q_fr q_fR q_pl q_cn q_frf hc hb h => by unfold sV_mos; rw [if_neg (by omega), if_neg (by omega), if_pos (by omega)]; exact F54.trans (zXm_c _ (by omega) (fun j hj => by (try dsimp only); rw [show (4 * j + (1 : Int32).toInt.toNat : Nat) = 4 * j + 1 by have : (1 : Int32).toInt = 1 := (by decide); omega]; exact hc.2.1 _ (by omega)))⟩, ⟨by rw [ht]; exact hP, hD⟩⟩, hS.F ht⟩) hS.2.2 dX10_most_57
    · refine lv_tableIn (off := 48) (tgt := 58) hx hb dX10_most_10 (by omega) (by omega) (by rw [c10]; rfl) (by decide) ?_
      refine lv_aload_n hx hb dX10_most_58 rfl (lv_at hl 0 rfl) ?_
      refine va_get (D := (dC, dI)) (ci := 10) (v := .ref aC) (C := RX10) (T := TX10) (N := 17) hx hb hts iX10 hown hK hP 0 rfl rfl 4 (by decide) (hts _ qw360) (fun _ h9 => h9) rfl dX10_most_59 ?_
      refine lv_iconst (v := 0) hx hb dX10_most_62 (by decide) ?_
      obtain ⟨hPc, hDc⟩ := zc2 (wc := [(aC, .inr (1, [.ref aR, .ref aB, .ref aP, .int nb, .int np])), (aB, .inl (cI, 24, .inl fb))]) hP hD [1, 2] (by decide +kernel) rfl
      have hFc := zfr hS hA
      refine va_calli (va_runV (As := [.int 0]) (rest := []) ⟨hx, hb, hml, hown, hts⟩ (g_X1_topBride l dC dI cI cJ aC 0 aR aB aP nb np fb H.size n_nb (by decide)) (cwV 1 hts (zgV qw996 qw997 qw998 qw102 qw999) rfl rfl rfl hd_X1_topBride ⟨by rw [hR]; exact Nat.le_of_ble_eq_true rfl, by rw [hR]; exact Nat.le_of_ble_eq_true rfl⟩) (zPV hPc hK hDc (va_recv (q := (RX1, TX1, 5)) hK hP (ci := 1) (q0 := 1) rfl rfl)) rfl rfl hl.1 rfl (lv_room (Nat.le_of_ble_eq_true rfl)) dX10_most_63 ⟨Nat.zero_le _, Nat.zero_le _⟩) hS (fun q _ h => hFc q h) hFc (fun v63 u63 t H locs ht hvm hw hB hz1 hk1 hS9 => ?_)
      replace hP := zkeep hP hk1
      replace hS := hS9
      clear hPc hDc hFc hk1 hz1 hvm hS9
      have zn63_0 : (0 : Int32).toInt = 0 := by decide
      obtain ⟨f63_0, f63_1, f63_2⟩ : (0 ≤ v63.toInt) ∧ (v63.toInt ≤ 5) ∧ (v63 = zXm (fun j => fb (4 * j + (0 : Int32).toInt.toNat)) (nb.toInt.toNat - 1)) := hw
      have F63 := f63_2
      rw [hQ]
      exact W.iret (v := v63) hx hb hr (fun t ht hW => ⟨⟨v63, (mt, lf, fW), rfl, ⟨by (try dsimp only); omega, by (try dsimp only); omega, by (try dsimp only); exact fun kc kT q_fr q_fR q_pl q_cn q_frf hc hb h => by unfold sV_mos; rw [if_neg (by omega), if_neg (by omega), if_neg (by omega), if_pos (by omega)]; exact F63.trans (zXm_c _ (by omega) (fun j hj => by (try dsimp only); rw [show (4 * j + (0 : Int32).toInt.toNat : Nat) = 4 * j by have : (0 : Int32).toInt = 0 := (by decide); omega]; exact hc.2.1 _ (by omega)))⟩, ⟨by rw [ht]; exact hP, hD⟩⟩, hS.F ht⟩) hS.2.2 dX10_most_66
    · refine lv_tableIn (off := 57) (tgt := 67) hx hb dX10_most_10 (by omega) (by omega) (by rw [c10]; rfl) (by decide) ?_
      refine lv_aload_n hx hb dX10_most_67 rfl (lv_at hl 0 rfl) ?_
      refine va_get (D := (dC, dI)) (ci := 10) (v := .ref aC) (C := RX10) (T := TX10) (N := 17) hx hb hts iX10 hown hK hP 0 rfl rfl 4 (by decide) (hts _ qw360) (fun _ h9 => h9) rfl dX10_most_68 ?_
      obtain ⟨hPc, hDc⟩ := zc2 (wc := [(aC, .inr (1, [.ref aR, .ref aB, .ref aP, .int nb, .int np])), (aP, .inl (cI, 20, .inl fp))]) hP hD [1, 3] (by decide +kernel) rfl
      have hFc := zfr hS hA
      refine va_calli (va_runV (As := []) (rest := []) ⟨hx, hb, hml, hown, hts⟩ (g_X1_cheapPainter l dC dI cI cJ aC aR aB aP nb np fp H.size n_np) (cwV 0 hts (zgV qw1000 qw1001 qw1002 qw102 qw1003) rfl rfl rfl hd_X1_cheapPainter ⟨by rw [hR]; exact Nat.le_of_ble_eq_true rfl, by rw [hR]; exact Nat.le_of_ble_eq_true rfl⟩) (zPV hPc hK hDc (va_recv (q := (RX1, TX1, 5)) hK hP (ci := 1) (q0 := 1) rfl rfl)) rfl rfl hl.1 rfl (lv_room (Nat.le_of_ble_eq_true rfl)) dX10_most_71 ⟨Nat.zero_le _, Nat.zero_le _⟩) hS (fun q _ h => hFc q h) hFc (fun v71 u71 t H locs ht hvm hw hB hz1 hk1 hS9 => ?_)
      replace hP := zkeep hP hk1
      replace hS := hS9
      clear hPc hDc hFc hk1 hz1 hvm hS9
      obtain ⟨f71_0, f71_1, f71_2⟩ : (0 ≤ v71.toInt) ∧ (v71.toInt ≤ 4) ∧ (v71 = zAn (fun j => fp (4 * j + 1)) (np.toInt.toNat - 1)) := hw
      have F71 := f71_2
      rw [hQ]
      exact W.iret (v := v71) hx hb hr (fun t ht hW => ⟨⟨v71, (mt, lf, fW), rfl, ⟨by (try dsimp only); omega, by (try dsimp only); omega, by (try dsimp only); exact fun kc kT q_fr q_fR q_pl q_cn q_frf hc hb h => by unfold sV_mos; rw [if_neg (by omega), if_neg (by omega), if_neg (by omega), if_neg (by omega), if_pos (by omega)]; exact F71.trans (zAn_c _ (by omega) (fun j hj => hc.2.2 _ (by have := hb.1.2; omega)))⟩, ⟨by rw [ht]; exact hP, hD⟩⟩, hS.F ht⟩) hS.2.2 dX10_most_74
    · refine lv_tableIn (off := 65) (tgt := 75) hx hb dX10_most_10 (by omega) (by omega) (by rw [c10]; rfl) (by decide) ?_
      refine lv_aload_n hx hb dX10_most_75 rfl (lv_at hl 0 rfl) ?_
      obtain ⟨hPc, hDc⟩ := zc2 (wc := [(h0, .inr (10, [.ref tp, h0_courtReader, h0_lawReader, h0_draft, .ref aC, h0_laws, .ref g0, .ref k0, .ref ac, .ref sd, .ref mi, .ref dw, .ref rf, .int lc, .int lh, .int br, .int hi])), (aC, .inr (1, [.ref aR, .ref aB, .ref aP, .int nb, .int np])), (aB, .inl (cI, 24, .inl fb)), (g0, .inr (7, [.ref gY, .ref gF, .ref gP, .int gpn, .int glt, .int gsh, .int gwd, .int gpu, .int gmo])), (gP, .inl (cI, 80, .inl gfP))]) hP hD [0, 1, 2, 4, 7] (by decide +kernel) rfl
      have hFc := zfr hS hA
      refine va_calli (va_runV (As := []) (rest := []) ⟨hx, hb, hml, hown, hts⟩ (g_X10_lies l dC dI cI cJ h0 tp h0_courtReader h0_lawReader h0_draft aC h0_laws g0 k0 ac sd mi dw rf lc lh br hi aR aB aP nb np fb gY gF gP gpn glt gsh gwd gpu gmo gfP H.size n_gpn y_gwd y_hi y_lc n_nb n_np ci_gfP_zPo) (cwV 0 hts (zgV qw1004 qw1006 qw28 qw98 qw1007) rfl rfl rfl hd_X10_lies ⟨by rw [hR]; exact Nat.le_of_ble_eq_true rfl, by rw [hR]; exact Nat.le_of_ble_eq_true rfl⟩) (zPV hPc hK hDc (va_recv (q := (RX10, TX10, 17)) hK hP (ci := 10) (q0 := 0) rfl rfl)) rfl rfl hl.1 rfl (lv_room (Nat.le_of_ble_eq_true rfl)) dX10_most_76 ⟨Nat.zero_le _, Nat.zero_le _⟩) hS (fun q _ h => hFc q h) hFc (fun v76 u76 t H locs ht hvm hw hB hz1 hk1 hS9 => ?_)
      replace hP := zkeep hP hk1
      replace hS := hS9
      clear hPc hDc hFc hk1 hz1 hvm hS9
      have f76_0 : (v76 = zLie fb gfP gpn.toInt.toNat) := hw
      have F76 := f76_0
      rw [hQ]
      exact W.iret (v := v76) hx hb hr (fun t ht hW => ⟨⟨v76, (mt, lf, fW), rfl, ⟨by (try dsimp only); omega, by (try dsimp only); omega, by (try dsimp only); exact fun kc kT q_fr q_fR q_pl q_cn q_frf hc hb h => by unfold sV_mos; rw [if_neg (by omega), if_neg (by omega), if_neg (by omega), if_neg (by omega), if_neg (by omega), if_pos (by omega)]; exact F76.trans (zLie_s hc hb.2.2.2.1 (zSc_pn h.1) (zSc_P h.1))⟩, ⟨by rw [ht]; exact hP, hD⟩⟩, hS.F ht⟩) hS.2.2 dX10_most_79
  · have c4 : v1.toInt = 0 := z5 rfl (by decide) c4
    refine lv_iconst (v := (-1)) hx hb dX10_most_7 (by decide) ?_
    have zr0 : ((-1) : Int32).toInt = (-1) := by decide
    rw [hQ]
    exact W.iret (v := ((-1))) hx hb hr (fun t ht hW => ⟨⟨(-1), (mt, lf, fW), rfl, ⟨by (try dsimp only); omega, by (try dsimp only); omega, by (try dsimp only); exact fun kc kT q_fr q_fR q_pl q_cn q_frf hc hb h => by unfold sV_mos; rw [if_pos (by omega)]; ⟩, ⟨by rw [ht]; exact hP, hD⟩⟩, hS.F ht⟩) hS.2.2 dX10_most_8
set_option maxHeartbeats 4000000 in
set_option maxRecDepth 100000 in
theorem g_X10_most_l (l : Launch) (dC : Nat → ClassId) (dI : Nat → Nat → Nat) (cI cJ : ClassId) (h0 : Nat) (p0 : Int32) (tp : Nat) (h0_courtReader : Value) (h0_lawReader : Value) (h0_draft : Value) (aC : Nat) (h0_laws : Value) (g0 : Nat) (k0 : Nat) (ac : Nat) (sd : Nat) (mi : Nat) (dw : Nat) (rf : Nat) (lc : Int32) (lh : Int32) (br : Int32) (hi : Int32) (aR : Nat) (aB : Nat) (aP : Nat) (nb : Int32) (np : Int32) (fb : Nat → Int32) (fp : Nat → Int32) (gY : Nat) (gF : Nat) (gP : Nat) (gpn : Int32) (glt : Int32) (gsh : Int32) (gwd : Int32) (gpu : Int32) (gmo : Int32) (gfY : Nat → Int32) (gfF : Nat → Int32) (gfP : Nat → Int32) (w1 : Nat) (w2 : Nat) (aL : Nat) (aK : Nat) (lw : Nat) (fL : Nat → Int32) (fK : Nat → Int32) (lS : Nat) (fS : Nat → Int32) (lk : Nat) (mW : Nat) (mt : Int64) (lf : Int32) (mV : Nat) (mA : Nat) (mT : Nat) (fW : Nat → Int64) (sz : Nat) (n_gpn : 0 ≤ gpn.toInt ∧ gpn.toInt ≤ 20) (n_gwd : (-1) ≤ gwd.toInt ∧ gwd.toInt ≤ 5) (n_hi : 0 ≤ hi.toInt ∧ hi.toInt ≤ 1) (n_lc : 0 ≤ lc.toInt ∧ lc.toInt ≤ 4) (n_lf : 0 ≤ lf.toInt ∧ lf.toInt ≤ 9) (n_nb : 0 ≤ nb.toInt ∧ nb.toInt ≤ 6) (n_np : 0 ≤ np.toInt ∧ np.toInt ≤ 5) (hlk : lk ≤ 241) (ci_fS_zSt : zSt fS) (ci_gfP_zPo : zPo gfP)  : Met l yX10_most (.code yX10_most cX10_most 2 (some .int) :: wA) ({ frames := 7, cells := 0, slots := 0, locals := 175 }) (zPW (dC, dI) [(cI, .int), (cJ, .long)] [.ref h0, .int p0] sz [(h0, .inr (10, [.ref tp, h0_courtReader, h0_lawReader, h0_draft, .ref aC, h0_laws, .ref g0, .ref k0, .ref ac, .ref sd, .ref mi, .ref dw, .ref rf, .int lc, .int lh, .int br, .int hi])), (aC, .inr (1, [.ref aR, .ref aB, .ref aP, .int nb, .int np])), (aB, .inl (cI, 24, .inl fb)), (aP, .inl (cI, 20, .inl fp)), (g0, .inr (7, [.ref gY, .ref gF, .ref gP, .int gpn, .int glt, .int gsh, .int gwd, .int gpu, .int gmo])), (gY, .inl (cI, 6, .inl gfY)), (gF, .inl (cI, 5, .inl gfF)), (gP, .inl (cI, 80, .inl gfP)), (sd, .inr (8, [.ref w1, .ref w2, .ref aC, .ref g0, .ref aL, .ref aK, .ref lw])), (aL, .inl (cI, 6, .inl fL)), (aK, .inl (cI, 32, .inl fK)), (lw, .inr (4, [.ref lS])), (lS, .inl (cI, lk, .inl fS)), (mi, .inr (6, [.ref aC, .ref g0, .ref sd, .ref mW, .long mt, .int lf, .ref mV, .ref mA, .ref mT])), (mW, .inl (cJ, 10, .inr (.inl fW)))] (va_A [(h0, .inr (10, [.ref tp, h0_courtReader, h0_lawReader, h0_draft, .ref aC, h0_laws, .ref g0, .ref k0, .ref ac, .ref sd, .ref mi, .ref dw, .ref rf, .int lc, .int lh, .int br, .int hi])), (aC, .inr (1, [.ref aR, .ref aB, .ref aP, .int nb, .int np])), (aB, .inl (cI, 24, .inl fb)), (aP, .inl (cI, 20, .inl fp)), (g0, .inr (7, [.ref gY, .ref gF, .ref gP, .int gpn, .int glt, .int gsh, .int gwd, .int gpu, .int gmo])), (gY, .inl (cI, 6, .inl gfY)), (gF, .inl (cI, 5, .inl gfF)), (gP, .inl (cI, 80, .inl gfP)), (sd, .inr (8, [.ref w1, .ref w2, .ref aC, .ref g0, .ref aL, .ref aK, .ref lw])), (aL, .inl (cI, 6, .inl fL)), (aK, .inl (cI, 32, .inl fK)), (lw, .inr (4, [.ref lS])), (lS, .inl (cI, lk, .inl fS)), (mi, .inr (6, [.ref aC, .ref g0, .ref sd, .ref mW, .long mt, .int lf, .ref mV, .ref mA, .ref mT])), (mW, .inl (cJ, 10, .inr (.inl fW)))] sz)) (va_Qi (fun (r : Int32) (u : (Nat → Int32) × (Nat → Int32) × Int64 × Int32 × (Nat → Int64)) => (0 ≤ u.2.2.2.1.toInt) ∧ (u.2.2.2.1.toInt ≤ 9) ∧ (∀ (kc : zK3) (kT : zT) (q_fr : Nat → Int32) (q_fR : Nat → Int32) (q_pl : Int32) (q_cn : Int32) (q_frf : Nat → Int32) (kt : (Int → Int) × Int), zCn q_fr fb fp nb.toInt np.toInt kc → zKo nb.toInt np.toInt kc kT → zTc nb.toInt np.toInt kT gfY gfF gfP gpn glt gsh gwd gpu gmo q_fR q_pl q_cn q_frf → zLwC fS lk kt → r = sV_mos nb.toInt np.toInt kc kT.1 (some kt) p0)) (fun (u : (Nat → Int32) × (Nat → Int32) × Int64 × Int32 × (Nat → Int64)) (t : State) => va_P (dC, dI) vwCl [(h0, .inr (10, [.ref tp, h0_courtReader, h0_lawReader, h0_draft, .ref aC, h0_laws, .ref g0, .ref k0, .ref ac, .ref sd, .ref mi, .ref dw, .ref rf, .int lc, .int lh, .int br, .int hi])), (aC, .inr (1, [.ref aR, .ref aB, .ref aP, .int nb, .int np])), (aB, .inl (cI, 24, .inl fb)), (aP, .inl (cI, 20, .inl fp)), (g0, .inr (7, [.ref gY, .ref gF, .ref gP, .int gpn, .int glt, .int gsh, .int gwd, .int gpu, .int gmo])), (gY, .inl (cI, 6, .inl gfY)), (gF, .inl (cI, 5, .inl gfF)), (gP, .inl (cI, 80, .inl gfP)), (sd, .inr (8, [.ref w1, .ref w2, .ref aC, .ref g0, .ref aL, .ref aK, .ref lw])), (aL, .inl (cI, 6, .inl u.1)), (aK, .inl (cI, 32, .inl u.2.1)), (lw, .inr (4, [.ref lS])), (lS, .inl (cI, lk, .inl fS)), (mi, .inr (6, [.ref aC, .ref g0, .ref sd, .ref mW, .long u.2.2.1, .int u.2.2.2.1, .ref mV, .ref mA, .ref mT])), (mW, .inl (cJ, 10, .inr (.inl u.2.2.2.2)))] t.heap ∧ va_D (va_A [(h0, .inr (10, [.ref tp, h0_courtReader, h0_lawReader, h0_draft, .ref aC, h0_laws, .ref g0, .ref k0, .ref ac, .ref sd, .ref mi, .ref dw, .ref rf, .int lc, .int lh, .int br, .int hi])), (aC, .inr (1, [.ref aR, .ref aB, .ref aP, .int nb, .int np])), (aB, .inl (cI, 24, .inl fb)), (aP, .inl (cI, 20, .inl fp)), (g0, .inr (7, [.ref gY, .ref gF, .ref gP, .int gpn, .int glt, .int gsh, .int gwd, .int gpu, .int gmo])), (gY, .inl (cI, 6, .inl gfY)), (gF, .inl (cI, 5, .inl gfF)), (gP, .inl (cI, 80, .inl gfP)), (sd, .inr (8, [.ref w1, .ref w2, .ref aC, .ref g0, .ref aL, .ref aK, .ref lw])), (aL, .inl (cI, 6, .inl fL)), (aK, .inl (cI, 32, .inl fK)), (lw, .inr (4, [.ref lS])), (lS, .inl (cI, lk, .inl fS)), (mi, .inr (6, [.ref aC, .ref g0, .ref sd, .ref mW, .long mt, .int lf, .ref mV, .ref mA, .ref mT])), (mW, .inl (cJ, 10, .inr (.inl fW)))] sz) [(h0, .inr (10, [.ref tp, h0_courtReader, h0_lawReader, h0_draft, .ref aC, h0_laws, .ref g0, .ref k0, .ref ac, .ref sd, .ref mi, .ref dw, .ref rf, .int lc, .int lh, .int br, .int hi])), (aC, .inr (1, [.ref aR, .ref aB, .ref aP, .int nb, .int np])), (aB, .inl (cI, 24, .inl fb)), (aP, .inl (cI, 20, .inl fp)), (g0, .inr (7, [.ref gY, .ref gF, .ref gP, .int gpn, .int glt, .int gsh, .int gwd, .int gpu, .int gmo])), (gY, .inl (cI, 6, .inl gfY)), (gF, .inl (cI, 5, .inl gfF)), (gP, .inl (cI, 80, .inl gfP)), (sd, .inr (8, [.ref w1, .ref w2, .ref aC, .ref g0, .ref aL, .ref aK, .ref lw])), (aL, .inl (cI, 6, .inl u.1)), (aK, .inl (cI, 32, .inl u.2.1)), (lw, .inr (4, [.ref lS])), (lS, .inl (cI, lk, .inl fS)), (mi, .inr (6, [.ref aC, .ref g0, .ref sd, .ref mW, .long u.2.2.1, .int u.2.2.2.1, .ref mV, .ref mA, .ref mT])), (mW, .inl (cJ, 10, .inr (.inl u.2.2.2.2)))]) (va_A [(h0, .inr (10, [.ref tp, h0_courtReader, h0_lawReader, h0_draft, .ref aC, h0_laws, .ref g0, .ref k0, .ref ac, .ref sd, .ref mi, .ref dw, .ref rf, .int lc, .int lh, .int br, .int hi])), (aC, .inr (1, [.ref aR, .ref aB, .ref aP, .int nb, .int np])), (aB, .inl (cI, 24, .inl fb)), (aP, .inl (cI, 20, .inl fp)), (g0, .inr (7, [.ref gY, .ref gF, .ref gP, .int gpn, .int glt, .int gsh, .int gwd, .int gpu, .int gmo])), (gY, .inl (cI, 6, .inl gfY)), (gF, .inl (cI, 5, .inl gfF)), (gP, .inl (cI, 80, .inl gfP)), (sd, .inr (8, [.ref w1, .ref w2, .ref aC, .ref g0, .ref aL, .ref aK, .ref lw])), (aL, .inl (cI, 6, .inl fL)), (aK, .inl (cI, 32, .inl fK)), (lw, .inr (4, [.ref lS])), (lS, .inl (cI, lk, .inl fS)), (mi, .inr (6, [.ref aC, .ref g0, .ref sd, .ref mW, .long mt, .int lf, .ref mV, .ref mA, .ref mT])), (mW, .inl (cJ, 10, .inr (.inl fW)))] sz)) 0 0 (va_A [(h0, .inr (10, [.ref tp, h0_courtReader, h0_lawReader, h0_draft, .ref aC, h0_laws, .ref g0, .ref k0, .ref ac, .ref sd, .ref mi, .ref dw, .ref rf, .int lc, .int lh, .int br, .int hi])), (aC, .inr (1, [.ref aR, .ref aB, .ref aP, .int nb, .int np])), (aB, .inl (cI, 24, .inl fb)), (aP, .inl (cI, 20, .inl fp)), (g0, .inr (7, [.ref gY, .ref gF, .ref gP, .int gpn, .int glt, .int gsh, .int gwd, .int gpu, .int gmo])), (gY, .inl (cI, 6, .inl gfY)), (gF, .inl (cI, 5, .inl gfF)), (gP, .inl (cI, 80, .inl gfP)), (sd, .inr (8, [.ref w1, .ref w2, .ref aC, .ref g0, .ref aL, .ref aK, .ref lw])), (aL, .inl (cI, 6, .inl fL)), (aK, .inl (cI, 32, .inl fK)), (lw, .inr (4, [.ref lS])), (lS, .inl (cI, lk, .inl fS)), (mi, .inr (6, [.ref aC, .ref g0, .ref sd, .ref mW, .long mt, .int lf, .ref mV, .ref mA, .ref mT])), (mW, .inl (cJ, 10, .inr (.inl fW)))] sz) := by
  refine Met.ofW (cc := cX10_most) (maxL := 2) (ret := (some .int)) (by decide) rfl ?_
  intro p e s m args below meth c s₁ B hml hv
  have y_gwd : zHid ((-1) ≤ gwd.toInt ∧ gwd.toInt ≤ 5) := n_gwd
  have y_hi : zHid (0 ≤ hi.toInt ∧ hi.toInt ≤ 1) := n_hi
  have y_lc : zHid (0 ≤ lc.toInt ∧ lc.toInt ≤ 4) := n_lc
  clear n_gwd n_hi n_lc
  obtain ⟨⟨hargs, hsz, hP, hK, hT⟩, hV⟩ := hv
  have hx := B.exec
  have hb := B.bytes
  have hr := B.returns
  have hts : ∀ w ∈ wA, w.before args s = true := fun w h => atoms_spec (ws := .code yX10_most cX10_most 2 (some .int) :: wA) B.pre w (List.mem_cons_of_mem _ h)
  have hown : s.vm.findClass RX10 = some m.cls := findClass_of_methodNamed B.named
  have hlocks := B.notSynchronized
  subst hsz
  have hD := hT.self (sz := s.heap.size)
  generalize hAe : va_A [(h0, .inr (10, [.ref tp, h0_courtReader, h0_lawReader, h0_draft, .ref aC, h0_laws, .ref g0, .ref k0, .ref ac, .ref sd, .ref mi, .ref dw, .ref rf, .int lc, .int lh, .int br, .int hi])), (aC, .inr (1, [.ref aR, .ref aB, .ref aP, .int nb, .int np])), (aB, .inl (cI, 24, .inl fb)), (aP, .inl (cI, 20, .inl fp)), (g0, .inr (7, [.ref gY, .ref gF, .ref gP, .int gpn, .int glt, .int gsh, .int gwd, .int gpu, .int gmo])), (gY, .inl (cI, 6, .inl gfY)), (gF, .inl (cI, 5, .inl gfF)), (gP, .inl (cI, 80, .inl gfP)), (sd, .inr (8, [.ref w1, .ref w2, .ref aC, .ref g0, .ref aL, .ref aK, .ref lw])), (aL, .inl (cI, 6, .inl fL)), (aK, .inl (cI, 32, .inl fK)), (lw, .inr (4, [.ref lS])), (lS, .inl (cI, lk, .inl fS)), (mi, .inr (6, [.ref aC, .ref g0, .ref sd, .ref mW, .long mt, .int lf, .ref mV, .ref mA, .ref mT])), (mW, .inl (cJ, 10, .inr (.inl fW)))] s.heap.size = A at hD hV ⊢
  have hA : ∀ q : Nat, s.heap.size ≤ q → A q := fun q h => by rw [← hAe]; exact Or.inr h
  have hl := lv_entry ([.ref h0, .int p0]) (n := 2) (Nat.le_of_ble_eq_true rfl)
  rw [show entryFrame m args 2 = entryFrame m ([.ref h0, .int p0] : List Value).toArray 2 by rw [hargs], lg_entry_eq]
  generalize (lg_sl ([.ref h0, .int p0]) ++ List.replicate (2 - (lg_sl ([.ref h0, .int p0])).length) Slot.unset).toArray = ls at hl ⊢
  have hl : lv_has ls 2 [(0, .ref h0), (1, .int p0)] := hl
  refine zstart (fun H hH => ?_)
  rw [← hH] at hP
  have hS : va_S A s.heap H [] := by rw [hH]; exact va_S.rf
  generalize ([] : List Loc) = locs at hS ⊢
  refine zgen (fun R Q hR hQ => ?_)
  refine lv_aload_n hx hb dX10_most_0 rfl (lv_at hl 0 rfl) ?_
  obtain ⟨hPc, hDc⟩ := zc2 (wc := [(h0, .inr (10, [.ref tp, h0_courtReader, h0_lawReader, h0_draft, .ref aC, h0_laws, .ref g0, .ref k0, .ref ac, .ref sd, .ref mi, .ref dw, .ref rf, .int lc, .int lh, .int br, .int hi])), (aC, .inr (1, [.ref aR, .ref aB, .ref aP, .int nb, .int np]))]) hP hD [0, 1] (by decide +kernel) rfl
  have hFc := zfr hS hA
  refine va_calli (va_runV (As := []) (rest := []) ⟨hx, hb, hml, hown, hts⟩ (g_X10_hasCourt l dC dI cI cJ h0 (.ref tp) h0_courtReader h0_lawReader h0_draft aC h0_laws (.ref g0) (.ref k0) (.ref ac) (.ref sd) (.ref mi) (.ref dw) (.ref rf) (.int lc) (.int lh) (.int br) (.int hi) aR aB aP nb np H.size) (cwV 0 hts (zgV qw584 qw586 qw10 qw98 qw587) rfl rfl rfl hd_X10_hasCourt ⟨by rw [hR]; exact Nat.le_of_ble_eq_true rfl, by rw [hR]; exact Nat.le_of_ble_eq_true rfl⟩) (zPV hPc hK hDc (va_recv (q := (RX10, TX10, 17)) hK hP (ci := 10) (q0 := 0) rfl rfl)) rfl rfl hl.1 rfl (lv_room (Nat.le_of_ble_eq_true rfl)) dX10_most_1 ⟨Nat.zero_le _, Nat.zero_le _⟩) hS (fun q _ h => hFc q h) hFc (fun v1 u1 t H locs ht hvm hw hB hz1 hk1 hS9 => ?_)
  replace hP := zkeep hP hk1
  replace hS := hS9
  clear hPc hDc hFc hk1 hz1 hvm hS9
  obtain ⟨f1_0, f1_1, f1_2, f1_3⟩ : (0 ≤ v1.toInt) ∧ (v1.toInt ≤ 1) ∧ (¬ v1.toInt = 0 → 0 < nb.toInt) ∧ (v1.toInt = 0 → nb.toInt ≤ 0) := hw
  refine lv_if_ne (tgt := 9) hx hb dX10_most_4 (by decide) (fun c4 => ?_) (fun c4 => ?_)
  · have c4 : ¬ v1.toInt = 0 := z6 rfl (by decide) c4
    refine lv_iload_n hx hb dX10_most_9 rfl (lv_at hl 1 rfl) ?_
    rcases (show (p0.toInt < 0 ∨ 4 < p0.toInt) ∨ p0.toInt = 0 ∨ p0.toInt = 1 ∨ p0.toInt = 2 ∨ p0.toInt = 3 ∨ p0.toInt = 4 by omega) with c10 | c10 | c10 | c10 | c10 | c10
    · refine lv_tableOut (tgt := 80) hx hb dX10_most_10 c10 (by decide) ?_
      refine lv_iconst (v := (-1)) hx hb dX10_most_80 (by decide) ?_
      have zr0 : ((-1) : Int32).toInt = (-1) := by decide
      rw [hQ]
      exact W.iret (v := ((-1))) hx hb hr (fun t ht hW => ⟨⟨(-1), (fL, fK, mt, lf, fW), rfl, ⟨by (try dsimp only); omega, by (try dsimp only); omega, by (try dsimp only); exact fun kc kT q_fr q_fR q_pl q_cn q_frf kt hc hb h ht => by unfold sV_mos; rw [if_neg (by omega), if_neg (by omega), if_neg (by omega), if_neg (by omega), if_neg (by omega), if_neg (by omega)]; ⟩, ⟨by rw [ht]; exact hP, hD⟩⟩, hS.F ht⟩) hS.2.2 dX10_most_81
    · refine lv_tableIn (off := 34) (tgt := 44) hx hb dX10_most_10 (by omega) (by omega) (by rw [c10]; rfl) (by decide) ?_
      refine lv_aload_n hx hb dX10_most_44 rfl (lv_at hl 0 rfl) ?_
      obtain ⟨hPc, hDc, hFc⟩ := zc3 (wc := [(h0, .inr (10, [.ref tp, h0_courtReader, h0_lawReader, h0_draft, .ref aC, h0_laws, .ref g0, .ref k0, .ref ac, .ref sd, .ref mi, .ref dw, .ref rf, .int lc, .int lh, .int br, .int hi])), (aC, .inr (1, [.ref aR, .ref aB, .ref aP, .int nb, .int np])), (aB, .inl (cI, 24, .inl fb)), (aP, .inl (cI, 20, .inl fp)), (g0, .inr (7, [.ref gY, .ref gF, .ref gP, .int gpn, .int glt, .int gsh, .int gwd, .int gpu, .int gmo])), (gY, .inl (cI, 6, .inl gfY)), (gF, .inl (cI, 5, .inl gfF)), (gP, .inl (cI, 80, .inl gfP)), (sd, .inr (8, [.ref w1, .ref w2, .ref aC, .ref g0, .ref aL, .ref aK, .ref lw])), (aL, .inl (cI, 6, .inl fL)), (aK, .inl (cI, 32, .inl fK)), (lw, .inr (4, [.ref lS])), (lS, .inl (cI, lk, .inl fS)), (mi, .inr (6, [.ref aC, .ref g0, .ref sd, .ref mW, .long mt, .int lf, .ref mV, .ref mA, .ref mT])), (mW, .inl (cJ, 10, .inr (.inl fW)))]) hP hD hS hA [0, 1, 2, 3, 4, 5, 6, 7, 8, 9, 10, 11, 12, 13, 14] (by decide +kernel) rfl
      refine va_calli (va_runV (As := []) (rest := []) ⟨hx, hb, hml, hown, hts⟩ (g_X10_plainBrides_l l dC dI cI cJ h0 tp h0_courtReader h0_lawReader h0_draft aC h0_laws g0 k0 ac sd mi dw rf lc lh br hi aR aB aP nb np fb fp gY gF gP gpn glt gsh gwd gpu gmo gfY gfF gfP w1 w2 aL aK lw fL fK lS fS lk mW mt lf mV mA mT fW H.size n_gpn y_gwd y_hi y_lc n_lf n_nb n_np (hlk) ci_fS_zSt ci_gfP_zPo) (cwV 0 hts (zgV qw992 qw994 qw27 qw98 qw995) rfl rfl rfl hd_X10_plainBrides ⟨by rw [hR]; exact Nat.le_of_ble_eq_true rfl, by rw [hR]; exact Nat.le_of_ble_eq_true rfl⟩) (zPWV hPc hK hDc (va_recv (q := (RX10, TX10, 17)) hK hP (ci := 10) (q0 := 0) rfl rfl) (zV_call hV hS hFc)) rfl rfl hl.1 rfl (lv_room (Nat.le_of_ble_eq_true rfl)) dX10_most_45 ⟨Nat.zero_le _, Nat.zero_le _⟩) hS (fun q _ h => hFc q h) hFc (fun v45 u45 t H locs ht hvm hw hB hz1 hk1 hS9 => ?_)
      obtain ⟨u45_0, u45_1, u45_2, u45_3, u45_4⟩ := u45
      obtain ⟨hP9, hD9⟩ := zj2 (wX := [(h0, .inr (10, [.ref tp, h0_courtReader, h0_lawReader, h0_draft, .ref aC, h0_laws, .ref g0, .ref k0, .ref ac, .ref sd, .ref mi, .ref dw, .ref rf, .int lc, .int lh, .int br, .int hi])), (aC, .inr (1, [.ref aR, .ref aB, .ref aP, .int nb, .int np])), (aB, .inl (cI, 24, .inl fb)), (aP, .inl (cI, 20, .inl fp)), (g0, .inr (7, [.ref gY, .ref gF, .ref gP, .int gpn, .int glt, .int gsh, .int gwd, .int gpu, .int gmo])), (gY, .inl (cI, 6, .inl gfY)), (gF, .inl (cI, 5, .inl gfF)), (gP, .inl (cI, 80, .inl gfP)), (sd, .inr (8, [.ref w1, .ref w2, .ref aC, .ref g0, .ref aL, .ref aK, .ref lw])), (aL, .inl (cI, 6, .inl u45_0)), (aK, .inl (cI, 32, .inl u45_1)), (lw, .inr (4, [.ref lS])), (lS, .inl (cI, lk, .inl fS)), (mi, .inr (6, [.ref aC, .ref g0, .ref sd, .ref mW, .long u45_2, .int u45_3, .ref mV, .ref mA, .ref mT])), (mW, .inl (cJ, 10, .inr (.inl u45_4)))]) hP hD hk1 hFc ht hB [0, 1, 2, 3, 4, 5, 6, 7, 8, 9, 10, 11, 12, 13, 14] [(true, 0), (true, 1), (true, 2), (true, 3), (true, 4), (true, 5), (true, 6), (true, 7), (true, 8), (true, 9), (true, 10), (true, 11), (true, 12), (true, 13), (true, 14)] rfl (by decide +kernel) (by decide +kernel) rfl
      clear hP hD hS hPc hDc hFc hB hk1 hz1 hvm
      have hP := hP9
      have hD := hD9
      have hS := hS9
      clear hP9 hD9 hS9
      obtain ⟨f45_0, f45_1, f45_2⟩ : (0 ≤ u45_3.toInt) ∧ (u45_3.toInt ≤ 9) ∧ (∀ (kc : zK3) (kT : zT) (q_fr : Nat → Int32) (kt : (Int → Int) × Int), zCn q_fr fb fp nb.toInt np.toInt kc → zKo nb.toInt np.toInt kc kT → zSc nb.toInt np.toInt kT.1 gfY gfF gfP gpn glt gsh gwd gpu gmo → zLwC fS lk kt → v45 = sPl kc kT.1 (some kt) nb.toInt.toNat) := hw
      have F45 := f45_2
      rw [hQ]
      exact W.iret (v := v45) hx hb hr (fun t ht hW => ⟨⟨v45, (u45_0, u45_1, u45_2, u45_3, u45_4), rfl, ⟨by (try dsimp only); omega, by (try dsimp only); omega, by (try dsimp only); exact fun kc kT q_fr q_fR q_pl q_cn q_frf kt hc hb h ht => by unfold sV_mos; rw [if_neg (by omega), if_pos (by omega)]; exact F45 kc kT _ kt hc hb h.1 ht⟩, ⟨by rw [ht]; exact hP, hD⟩⟩, hS.F ht⟩) hS.2.2 dX10_most_48
    · refine lv_tableIn (off := 39) (tgt := 49) hx hb dX10_most_10 (by omega) (by omega) (by rw [c10]; rfl) (by decide) ?_
      refine lv_aload_n hx hb dX10_most_49 rfl (lv_at hl 0 rfl) ?_
      refine va_get (D := (dC, dI)) (ci := 10) (v := .ref aC) (C := RX10) (T := TX10) (N := 17) hx hb hts iX10 hown hK hP 0 rfl rfl 4 (by decide) (hts _ qw360) (fun _ h9 => h9) rfl dX10_most_50 ?_
      refine lv_iconst (v := 1) hx hb dX10_most_53 (by decide) ?_
      obtain ⟨hPc, hDc⟩ := zc2 (wc := [(aC, .inr (1, [.ref aR, .ref aB, .ref aP, .int nb, .int np])), (aB, .inl (cI, 24, .inl fb))]) hP hD [1, 2] (by decide +kernel) rfl
      have hFc := zfr hS hA
      refine va_calli (va_runV (As := [.int 1]) (rest := []) ⟨hx, hb, hml, hown, hts⟩ (g_X1_topBride l dC dI cI cJ aC 1 aR aB aP nb np fb H.size n_nb (by decide)) (cwV 1 hts (zgV qw996 qw997 qw998 qw102 qw999) rfl rfl rfl hd_X1_topBride ⟨by rw [hR]; exact Nat.le_of_ble_eq_true rfl, by rw [hR]; exact Nat.le_of_ble_eq_true rfl⟩) (zPV hPc hK hDc (va_recv (q := (RX1, TX1, 5)) hK hP (ci := 1) (q0 := 1) rfl rfl)) rfl rfl hl.1 rfl (lv_room (Nat.le_of_ble_eq_true rfl)) dX10_most_54 ⟨Nat.zero_le _, Nat.zero_le _⟩) hS (fun q _ h => hFc q h) hFc (fun v54 u54 t H locs ht hvm hw hB hz1 hk1 hS9 => ?_)
      replace hP := zkeep hP hk1
      replace hS := hS9
      clear hPc hDc hFc hk1 hz1 hvm hS9
      have zn54_1 : (1 : Int32).toInt = 1 := by decide
      obtain ⟨f54_0, f54_1, f54_2⟩ : (0 ≤ v54.toInt) ∧ (v54.toInt ≤ 5) ∧ (v54 = zXm (fun j => fb (4 * j + (1 : Int32).toInt.toNat)) (nb.toInt.toNat - 1)) := hw
      have F54 := f54_2
      rw [hQ]
      exact W.iret (v := v54) hx hb hr (fun t ht hW => ⟨⟨v54, (fL, fK, mt, lf, fW), rfl, ⟨by (try dsimp only); omega, by (try dsimp only); omega, by (try dsimp only); exact fun kc kT q_fr q_fR q_pl q_cn q_frf kt hc hb h ht => by unfold sV_mos; rw [if_neg (by omega), if_neg (by omega), if_pos (by omega)]; exact F54.trans (zXm_c _ (by omega) (fun j hj => by (try dsimp only); rw [show (4 * j + (1 : Int32).toInt.toNat : Nat) = 4 * j + 1 by have : (1 : Int32).toInt = 1 := (by decide); omega]; exact hc.2.1 _ (by omega)))⟩, ⟨by rw [ht]; exact hP, hD⟩⟩, hS.F ht⟩) hS.2.2 dX10_most_57
    · refine lv_tableIn (off := 48) (tgt := 58) hx hb dX10_most_10 (by omega) (by omega) (by rw [c10]; rfl) (by decide) ?_
      refine lv_aload_n hx hb dX10_most_58 rfl (lv_at hl 0 rfl) ?_
      refine va_get (D := (dC, dI)) (ci := 10) (v := .ref aC) (C := RX10) (T := TX10) (N := 17) hx hb hts iX10 hown hK hP 0 rfl rfl 4 (by decide) (hts _ qw360) (fun _ h9 => h9) rfl dX10_most_59 ?_
      refine lv_iconst (v := 0) hx hb dX10_most_62 (by decide) ?_
      obtain ⟨hPc, hDc⟩ := zc2 (wc := [(aC, .inr (1, [.ref aR, .ref aB, .ref aP, .int nb, .int np])), (aB, .inl (cI, 24, .inl fb))]) hP hD [1, 2] (by decide +kernel) rfl
      have hFc := zfr hS hA
      refine va_calli (va_runV (As := [.int 0]) (rest := []) ⟨hx, hb, hml, hown, hts⟩ (g_X1_topBride l dC dI cI cJ aC 0 aR aB aP nb np fb H.size n_nb (by decide)) (cwV 1 hts (zgV qw996 qw997 qw998 qw102 qw999) rfl rfl rfl hd_X1_topBride ⟨by rw [hR]; exact Nat.le_of_ble_eq_true rfl, by rw [hR]; exact Nat.le_of_ble_eq_true rfl⟩) (zPV hPc hK hDc (va_recv (q := (RX1, TX1, 5)) hK hP (ci := 1) (q0 := 1) rfl rfl)) rfl rfl hl.1 rfl (lv_room (Nat.le_of_ble_eq_true rfl)) dX10_most_63 ⟨Nat.zero_le _, Nat.zero_le _⟩) hS (fun q _ h => hFc q h) hFc (fun v63 u63 t H locs ht hvm hw hB hz1 hk1 hS9 => ?_)
      replace hP := zkeep hP hk1
      replace hS := hS9
      clear hPc hDc hFc hk1 hz1 hvm hS9
      have zn63_0 : (0 : Int32).toInt = 0 := by decide
      obtain ⟨f63_0, f63_1, f63_2⟩ : (0 ≤ v63.toInt) ∧ (v63.toInt ≤ 5) ∧ (v63 = zXm (fun j => fb (4 * j + (0 : Int32).toInt.toNat)) (nb.toInt.toNat - 1)) := hw
      have F63 := f63_2
      rw [hQ]
      exact W.iret (v := v63) hx hb hr (fun t ht hW => ⟨⟨v63, (fL, fK, mt, lf, fW), rfl, ⟨by (try dsimp only); omega, by (try dsimp only); omega, by (try dsimp only); exact fun kc kT q_fr q_fR q_pl q_cn q_frf kt hc hb h ht => by unfold sV_mos; rw [if_neg (by omega), if_neg (by omega), if_neg (by omega), if_pos (by omega)]; exact F63.trans (zXm_c _ (by omega) (fun j hj => by (try dsimp only); rw [show (4 * j + (0 : Int32).toInt.toNat : Nat) = 4 * j by have : (0 : Int32).toInt = 0 := (by decide); omega]; exact hc.2.1 _ (by omega)))⟩, ⟨by rw [ht]; exact hP, hD⟩⟩, hS.F ht⟩) hS.2.2 dX10_most_66
    · refine lv_tableIn (off := 57) (tgt := 67) hx hb dX10_most_10 (by omega) (by omega) (by rw [c10]; rfl) (by decide) ?_
      refine lv_aload_n hx hb dX10_most_67 rfl (lv_at hl 0 rfl) ?_
      refine va_get (D := (dC, dI)) (ci := 10) (v := .ref aC) (C := RX10) (T := TX10) (N := 17) hx hb hts iX10 hown hK hP 0 rfl rfl 4 (by decide) (hts _ qw360) (fun _ h9 => h9) rfl dX10_most_68 ?_
      obtain ⟨hPc, hDc⟩ := zc2 (wc := [(aC, .inr (1, [.ref aR, .ref aB, .ref aP, .int nb, .int np])), (aP, .inl (cI, 20, .inl fp))]) hP hD [1, 3] (by decide +kernel) rfl
      have hFc := zfr hS hA
      refine va_calli (va_runV (As := []) (rest := []) ⟨hx, hb, hml, hown, hts⟩ (g_X1_cheapPainter l dC dI cI cJ aC aR aB aP nb np fp H.size n_np) (cwV 0 hts (zgV qw1000 qw1001 qw1002 qw102 qw1003) rfl rfl rfl hd_X1_cheapPainter ⟨by rw [hR]; exact Nat.le_of_ble_eq_true rfl, by rw [hR]; exact Nat.le_of_ble_eq_true rfl⟩) (zPV hPc hK hDc (va_recv (q := (RX1, TX1, 5)) hK hP (ci := 1) (q0 := 1) rfl rfl)) rfl rfl hl.1 rfl (lv_room (Nat.le_of_ble_eq_true rfl)) dX10_most_71 ⟨Nat.zero_le _, Nat.zero_le _⟩) hS (fun q _ h => hFc q h) hFc (fun v71 u71 t H locs ht hvm hw hB hz1 hk1 hS9 => ?_)
      replace hP := zkeep hP hk1
      replace hS := hS9
      clear hPc hDc hFc hk1 hz1 hvm hS9
      obtain ⟨f71_0, f71_1, f71_2⟩ : (0 ≤ v71.toInt) ∧ (v71.toInt ≤ 4) ∧ (v71 = zAn (fun j => fp (4 * j + 1)) (np.toInt.toNat - 1)) := hw
      have F71 := f71_2
      rw [hQ]
      exact W.iret (v := v71) hx hb hr (fun t ht hW => ⟨⟨v71, (fL, fK, mt, lf, fW), rfl, ⟨by (try dsimp only); omega, by (try dsimp only); omega, by (try dsimp only); exact fun kc kT q_fr q_fR q_pl q_cn q_frf kt hc hb h ht => by unfold sV_mos; rw [if_neg (by omega), if_neg (by omega), if_neg (by omega), if_neg (by omega), if_pos (by omega)]; exact F71.trans (zAn_c _ (by omega) (fun j hj => hc.2.2 _ (by have := hb.1.2; omega)))⟩, ⟨by rw [ht]; exact hP, hD⟩⟩, hS.F ht⟩) hS.2.2 dX10_most_74
    · refine lv_tableIn (off := 65) (tgt := 75) hx hb dX10_most_10 (by omega) (by omega) (by rw [c10]; rfl) (by decide) ?_
      refine lv_aload_n hx hb dX10_most_75 rfl (lv_at hl 0 rfl) ?_
      obtain ⟨hPc, hDc⟩ := zc2 (wc := [(h0, .inr (10, [.ref tp, h0_courtReader, h0_lawReader, h0_draft, .ref aC, h0_laws, .ref g0, .ref k0, .ref ac, .ref sd, .ref mi, .ref dw, .ref rf, .int lc, .int lh, .int br, .int hi])), (aC, .inr (1, [.ref aR, .ref aB, .ref aP, .int nb, .int np])), (aB, .inl (cI, 24, .inl fb)), (g0, .inr (7, [.ref gY, .ref gF, .ref gP, .int gpn, .int glt, .int gsh, .int gwd, .int gpu, .int gmo])), (gP, .inl (cI, 80, .inl gfP))]) hP hD [0, 1, 2, 4, 7] (by decide +kernel) rfl
      have hFc := zfr hS hA
      refine va_calli (va_runV (As := []) (rest := []) ⟨hx, hb, hml, hown, hts⟩ (g_X10_lies l dC dI cI cJ h0 tp h0_courtReader h0_lawReader h0_draft aC h0_laws g0 k0 ac sd mi dw rf lc lh br hi aR aB aP nb np fb gY gF gP gpn glt gsh gwd gpu gmo gfP H.size n_gpn y_gwd y_hi y_lc n_nb n_np ci_gfP_zPo) (cwV 0 hts (zgV qw1004 qw1006 qw28 qw98 qw1007) rfl rfl rfl hd_X10_lies ⟨by rw [hR]; exact Nat.le_of_ble_eq_true rfl, by rw [hR]; exact Nat.le_of_ble_eq_true rfl⟩) (zPV hPc hK hDc (va_recv (q := (RX10, TX10, 17)) hK hP (ci := 10) (q0 := 0) rfl rfl)) rfl rfl hl.1 rfl (lv_room (Nat.le_of_ble_eq_true rfl)) dX10_most_76 ⟨Nat.zero_le _, Nat.zero_le _⟩) hS (fun q _ h => hFc q h) hFc (fun v76 u76 t H locs ht hvm hw hB hz1 hk1 hS9 => ?_)
      replace hP := zkeep hP hk1
      replace hS := hS9
      clear hPc hDc hFc hk1 hz1 hvm hS9
      have f76_0 : (v76 = zLie fb gfP gpn.toInt.toNat) := hw
      have F76 := f76_0
      rw [hQ]
      exact W.iret (v := v76) hx hb hr (fun t ht hW => ⟨⟨v76, (fL, fK, mt, lf, fW), rfl, ⟨by (try dsimp only); omega, by (try dsimp only); omega, by (try dsimp only); exact fun kc kT q_fr q_fR q_pl q_cn q_frf kt hc hb h ht => by unfold sV_mos; rw [if_neg (by omega), if_neg (by omega), if_neg (by omega), if_neg (by omega), if_neg (by omega), if_pos (by omega)]; exact F76.trans (zLie_s hc hb.2.2.2.1 (zSc_pn h.1) (zSc_P h.1))⟩, ⟨by rw [ht]; exact hP, hD⟩⟩, hS.F ht⟩) hS.2.2 dX10_most_79
  · have c4 : v1.toInt = 0 := z5 rfl (by decide) c4
    refine lv_iconst (v := (-1)) hx hb dX10_most_7 (by decide) ?_
    have zr0 : ((-1) : Int32).toInt = (-1) := by decide
    rw [hQ]
    exact W.iret (v := ((-1))) hx hb hr (fun t ht hW => ⟨⟨(-1), (fL, fK, mt, lf, fW), rfl, ⟨by (try dsimp only); omega, by (try dsimp only); omega, by (try dsimp only); exact fun kc kT q_fr q_fR q_pl q_cn q_frf kt hc hb h ht => by unfold sV_mos; rw [if_pos (by omega)]; ⟩, ⟨by rw [ht]; exact hP, hD⟩⟩, hS.F ht⟩) hS.2.2 dX10_most_8
set_option maxHeartbeats 4000000 in
set_option maxRecDepth 100000 in
theorem g_X10_decades_n (l : Launch) (dC : Nat → ClassId) (dI : Nat → Nat → Nat) (cI cJ : ClassId) (h0 : Nat) (p0 : Int32) (p1 : Int64) (tp : Nat) (h0_courtReader : Value) (h0_lawReader : Value) (h0_draft : Value) (aC : Nat) (h0_laws : Value) (g0 : Nat) (k0 : Nat) (ac : Nat) (sd : Nat) (mi : Nat) (dw : Nat) (rf : Nat) (lc : Int32) (lh : Int32) (br : Int32) (hi : Int32) (aR : Nat) (aB : Nat) (aP : Nat) (nb : Int32) (np : Int32) (fb : Nat → Int32) (fp : Nat → Int32) (gY : Nat) (gF : Nat) (gP : Nat) (gpn : Int32) (glt : Int32) (gsh : Int32) (gwd : Int32) (gpu : Int32) (gmo : Int32) (gfY : Nat → Int32) (gfF : Nat → Int32) (gfP : Nat → Int32) (aW : Nat) (pl : Int32) (cn : Int32) (fR : Nat → Int32) (w1 : Nat) (w2 : Nat) (aL : Nat) (aK : Nat) (x0 : Int64) (sz : Nat) (n_cn : 0 ≤ cn.toInt ∧ cn.toInt ≤ 40) (n_gpn : 0 ≤ gpn.toInt ∧ gpn.toInt ≤ 20) (n_gwd : (-1) ≤ gwd.toInt ∧ gwd.toInt ≤ 5) (n_hi : 0 ≤ hi.toInt ∧ hi.toInt ≤ 1) (n_lc : 0 ≤ lc.toInt ∧ lc.toInt ≤ 4) (n_nb : 0 ≤ nb.toInt ∧ nb.toInt ≤ 6) (n_np : 0 ≤ np.toInt ∧ np.toInt ≤ 5) (n_pl : 0 ≤ pl.toInt ∧ pl.toInt ≤ 39)  (ci_fR_zRw : zRw fR) (ci_gfP_zPo : zPo gfP)  : Met l yX10_decades (.code yX10_decades cX10_decades 5 (some .int) :: wA) ({ frames := 6, cells := 0, slots := 0, locals := 148 }) (zP (dC, dI) [(cI, .int), (cJ, .long)] [.ref h0, .int p0, .long p1] sz [(h0, .inr (10, [.ref tp, h0_courtReader, h0_lawReader, h0_draft, .ref aC, h0_laws, .ref g0, .ref k0, .ref ac, .ref sd, .ref mi, .ref dw, .ref rf, .int lc, .int lh, .int br, .int hi])), (aC, .inr (1, [.ref aR, .ref aB, .ref aP, .int nb, .int np])), (aB, .inl (cI, 24, .inl fb)), (aP, .inl (cI, 20, .inl fp)), (g0, .inr (7, [.ref gY, .ref gF, .ref gP, .int gpn, .int glt, .int gsh, .int gwd, .int gpu, .int gmo])), (gY, .inl (cI, 6, .inl gfY)), (gF, .inl (cI, 5, .inl gfF)), (gP, .inl (cI, 80, .inl gfP)), (ac, .inr (0, [.ref aW, .int pl, .int cn])), (aW, .inl (cI, 680, .inl fR)), (sd, .inr (8, [.ref w1, .ref w2, .ref aC, .ref g0, .ref aL, .ref aK, .null])), (dw, .inr (3, [.long x0]))]) (va_Qi (fun (r : Int32) (u : Int32 × Int32 × Int32 × (Nat → Int32) × (Nat → Int32) × Int32 × Int32 × (Nat → Int32) × Int64) => (0 ≤ u.1.toInt) ∧ (u.1.toInt ≤ 20) ∧ (0 ≤ u.2.2.2.2.2.1.toInt) ∧ (u.2.2.2.2.2.1.toInt ≤ 39) ∧ (0 ≤ u.2.2.2.2.2.2.1.toInt) ∧ (u.2.2.2.2.2.2.1.toInt ≤ 40) ∧ (∀ (kc : zK3) (kT : zT) (q_fr : Nat → Int32) (q_frf : Nat → Int32), zCn q_fr fb fp nb.toInt np.toInt kc → zKo nb.toInt np.toInt kc kT → zTc nb.toInt np.toInt kT gfY gfF gfP gpn glt gsh gwd gpu gmo fR pl cn q_frf → r = sV_dec nb np br kc none kT p0 p1 ∧ zTc nb.toInt np.toInt (sT_dec nb np br kc none kT p0 p1) u.2.2.2.1 gfF u.2.2.2.2.1 u.1 glt gsh gwd u.2.1 u.2.2.1 u.2.2.2.2.2.2.2.1 u.2.2.2.2.2.1 u.2.2.2.2.2.2.1 q_frf) ∧ (zRw u.2.2.2.2.2.2.2.1) ∧ (zPo u.2.2.2.2.1)) (fun (u : Int32 × Int32 × Int32 × (Nat → Int32) × (Nat → Int32) × Int32 × Int32 × (Nat → Int32) × Int64) (t : State) => va_P (dC, dI) vwCl [(h0, .inr (10, [.ref tp, h0_courtReader, h0_lawReader, h0_draft, .ref aC, h0_laws, .ref g0, .ref k0, .ref ac, .ref sd, .ref mi, .ref dw, .ref rf, .int lc, .int lh, .int br, .int hi])), (aC, .inr (1, [.ref aR, .ref aB, .ref aP, .int nb, .int np])), (aB, .inl (cI, 24, .inl fb)), (aP, .inl (cI, 20, .inl fp)), (g0, .inr (7, [.ref gY, .ref gF, .ref gP, .int u.1, .int glt, .int gsh, .int gwd, .int u.2.1, .int u.2.2.1])), (gY, .inl (cI, 6, .inl u.2.2.2.1)), (gF, .inl (cI, 5, .inl gfF)), (gP, .inl (cI, 80, .inl u.2.2.2.2.1)), (ac, .inr (0, [.ref aW, .int u.2.2.2.2.2.1, .int u.2.2.2.2.2.2.1])), (aW, .inl (cI, 680, .inl u.2.2.2.2.2.2.2.1)), (sd, .inr (8, [.ref w1, .ref w2, .ref aC, .ref g0, .ref aL, .ref aK, .null])), (dw, .inr (3, [.long u.2.2.2.2.2.2.2.2]))] t.heap ∧ va_D (va_A [(h0, .inr (10, [.ref tp, h0_courtReader, h0_lawReader, h0_draft, .ref aC, h0_laws, .ref g0, .ref k0, .ref ac, .ref sd, .ref mi, .ref dw, .ref rf, .int lc, .int lh, .int br, .int hi])), (aC, .inr (1, [.ref aR, .ref aB, .ref aP, .int nb, .int np])), (aB, .inl (cI, 24, .inl fb)), (aP, .inl (cI, 20, .inl fp)), (g0, .inr (7, [.ref gY, .ref gF, .ref gP, .int gpn, .int glt, .int gsh, .int gwd, .int gpu, .int gmo])), (gY, .inl (cI, 6, .inl gfY)), (gF, .inl (cI, 5, .inl gfF)), (gP, .inl (cI, 80, .inl gfP)), (ac, .inr (0, [.ref aW, .int pl, .int cn])), (aW, .inl (cI, 680, .inl fR)), (sd, .inr (8, [.ref w1, .ref w2, .ref aC, .ref g0, .ref aL, .ref aK, .null])), (dw, .inr (3, [.long x0]))] sz) [(h0, .inr (10, [.ref tp, h0_courtReader, h0_lawReader, h0_draft, .ref aC, h0_laws, .ref g0, .ref k0, .ref ac, .ref sd, .ref mi, .ref dw, .ref rf, .int lc, .int lh, .int br, .int hi])), (aC, .inr (1, [.ref aR, .ref aB, .ref aP, .int nb, .int np])), (aB, .inl (cI, 24, .inl fb)), (aP, .inl (cI, 20, .inl fp)), (g0, .inr (7, [.ref gY, .ref gF, .ref gP, .int u.1, .int glt, .int gsh, .int gwd, .int u.2.1, .int u.2.2.1])), (gY, .inl (cI, 6, .inl u.2.2.2.1)), (gF, .inl (cI, 5, .inl gfF)), (gP, .inl (cI, 80, .inl u.2.2.2.2.1)), (ac, .inr (0, [.ref aW, .int u.2.2.2.2.2.1, .int u.2.2.2.2.2.2.1])), (aW, .inl (cI, 680, .inl u.2.2.2.2.2.2.2.1)), (sd, .inr (8, [.ref w1, .ref w2, .ref aC, .ref g0, .ref aL, .ref aK, .null])), (dw, .inr (3, [.long u.2.2.2.2.2.2.2.2]))]) (va_A [(h0, .inr (10, [.ref tp, h0_courtReader, h0_lawReader, h0_draft, .ref aC, h0_laws, .ref g0, .ref k0, .ref ac, .ref sd, .ref mi, .ref dw, .ref rf, .int lc, .int lh, .int br, .int hi])), (aC, .inr (1, [.ref aR, .ref aB, .ref aP, .int nb, .int np])), (aB, .inl (cI, 24, .inl fb)), (aP, .inl (cI, 20, .inl fp)), (g0, .inr (7, [.ref gY, .ref gF, .ref gP, .int gpn, .int glt, .int gsh, .int gwd, .int gpu, .int gmo])), (gY, .inl (cI, 6, .inl gfY)), (gF, .inl (cI, 5, .inl gfF)), (gP, .inl (cI, 80, .inl gfP)), (ac, .inr (0, [.ref aW, .int pl, .int cn])), (aW, .inl (cI, 680, .inl fR)), (sd, .inr (8, [.ref w1, .ref w2, .ref aC, .ref g0, .ref aL, .ref aK, .null])), (dw, .inr (3, [.long x0]))] sz)) 0 0 (va_A [(h0, .inr (10, [.ref tp, h0_courtReader, h0_lawReader, h0_draft, .ref aC, h0_laws, .ref g0, .ref k0, .ref ac, .ref sd, .ref mi, .ref dw, .ref rf, .int lc, .int lh, .int br, .int hi])), (aC, .inr (1, [.ref aR, .ref aB, .ref aP, .int nb, .int np])), (aB, .inl (cI, 24, .inl fb)), (aP, .inl (cI, 20, .inl fp)), (g0, .inr (7, [.ref gY, .ref gF, .ref gP, .int gpn, .int glt, .int gsh, .int gwd, .int gpu, .int gmo])), (gY, .inl (cI, 6, .inl gfY)), (gF, .inl (cI, 5, .inl gfF)), (gP, .inl (cI, 80, .inl gfP)), (ac, .inr (0, [.ref aW, .int pl, .int cn])), (aW, .inl (cI, 680, .inl fR)), (sd, .inr (8, [.ref w1, .ref w2, .ref aC, .ref g0, .ref aL, .ref aK, .null])), (dw, .inr (3, [.long x0]))] sz) := by
  refine Met.ofW (cc := cX10_decades) (maxL := 5) (ret := (some .int)) (by decide) rfl ?_
  intro p e s m args below meth c s₁ B hml hv
  have y_gwd : zHid ((-1) ≤ gwd.toInt ∧ gwd.toInt ≤ 5) := n_gwd
  have y_hi : zHid (0 ≤ hi.toInt ∧ hi.toInt ≤ 1) := n_hi
  have y_lc : zHid (0 ≤ lc.toInt ∧ lc.toInt ≤ 4) := n_lc
  clear n_gwd n_hi n_lc
  obtain ⟨hargs, hsz, hP, hK, hT⟩ := hv
  have hx := B.exec
  have hb := B.bytes
  have hr := B.returns
  have hts : ∀ w ∈ wA, w.before args s = true := fun w h => atoms_spec (ws := .code yX10_decades cX10_decades 5 (some .int) :: wA) B.pre w (List.mem_cons_of_mem _ h)
  have hown : s.vm.findClass RX10 = some m.cls := findClass_of_methodNamed B.named
  have hlocks := B.notSynchronized
  subst hsz
  have hD := hT.self (sz := s.heap.size)
  generalize hAe : va_A [(h0, .inr (10, [.ref tp, h0_courtReader, h0_lawReader, h0_draft, .ref aC, h0_laws, .ref g0, .ref k0, .ref ac, .ref sd, .ref mi, .ref dw, .ref rf, .int lc, .int lh, .int br, .int hi])), (aC, .inr (1, [.ref aR, .ref aB, .ref aP, .int nb, .int np])), (aB, .inl (cI, 24, .inl fb)), (aP, .inl (cI, 20, .inl fp)), (g0, .inr (7, [.ref gY, .ref gF, .ref gP, .int gpn, .int glt, .int gsh, .int gwd, .int gpu, .int gmo])), (gY, .inl (cI, 6, .inl gfY)), (gF, .inl (cI, 5, .inl gfF)), (gP, .inl (cI, 80, .inl gfP)), (ac, .inr (0, [.ref aW, .int pl, .int cn])), (aW, .inl (cI, 680, .inl fR)), (sd, .inr (8, [.ref w1, .ref w2, .ref aC, .ref g0, .ref aL, .ref aK, .null])), (dw, .inr (3, [.long x0]))] s.heap.size = A at hD ⊢
  have hA : ∀ q : Nat, s.heap.size ≤ q → A q := fun q h => by rw [← hAe]; exact Or.inr h
  have hl := lv_entry ([.ref h0, .int p0, .long p1]) (n := 5) (Nat.le_of_ble_eq_true rfl)
  rw [show entryFrame m args 5 = entryFrame m ([.ref h0, .int p0, .long p1] : List Value).toArray 5 by rw [hargs], lg_entry_eq]
  generalize (lg_sl ([.ref h0, .int p0, .long p1]) ++ List.replicate (5 - (lg_sl ([.ref h0, .int p0, .long p1])).length) Slot.unset).toArray = ls at hl ⊢
  have hl : lv_has ls 5 [(0, .ref h0), (1, .int p0), (2, .long p1)] := hl
  refine zstart (fun H hH => ?_)
  rw [← hH] at hP
  have hS : va_S A s.heap H [] := by rw [hH]; exact va_S.rf
  generalize ([] : List Loc) = locs at hS ⊢
  refine zgen (fun R Q hR hQ => ?_)
  refine lv_aload_n hx hb dX10_decades_0 rfl (lv_at hl 0 rfl) ?_
  obtain ⟨hPc, hDc⟩ := zc2 (wc := [(h0, .inr (10, [.ref tp, h0_courtReader, h0_lawReader, h0_draft, .ref aC, h0_laws, .ref g0, .ref k0, .ref ac, .ref sd, .ref mi, .ref dw, .ref rf, .int lc, .int lh, .int br, .int hi])), (aC, .inr (1, [.ref aR, .ref aB, .ref aP, .int nb, .int np]))]) hP hD [0, 1] (by decide +kernel) rfl
  have hFc := zfr hS hA
  refine va_calli (va_runV (As := []) (rest := []) ⟨hx, hb, hml, hown, hts⟩ (g_X10_hasCourt l dC dI cI cJ h0 (.ref tp) h0_courtReader h0_lawReader h0_draft aC h0_laws (.ref g0) (.ref k0) (.ref ac) (.ref sd) (.ref mi) (.ref dw) (.ref rf) (.int lc) (.int lh) (.int br) (.int hi) aR aB aP nb np H.size) (cwV 0 hts (zgV qw584 qw586 qw10 qw98 qw587) rfl rfl rfl hd_X10_hasCourt ⟨by rw [hR]; exact Nat.le_of_ble_eq_true rfl, by rw [hR]; exact Nat.le_of_ble_eq_true rfl⟩) (zPV hPc hK hDc (va_recv (q := (RX10, TX10, 17)) hK hP (ci := 10) (q0 := 0) rfl rfl)) rfl rfl hl.1 rfl (lv_room (Nat.le_of_ble_eq_true rfl)) dX10_decades_1 ⟨Nat.zero_le _, Nat.zero_le _⟩) hS (fun q _ h => hFc q h) hFc (fun v1 u1 t H locs ht hvm hw hB hz1 hk1 hS9 => ?_)
  replace hP := zkeep hP hk1
  replace hS := hS9
  clear hPc hDc hFc hk1 hz1 hvm hS9
  obtain ⟨f1_0, f1_1, f1_2, f1_3⟩ : (0 ≤ v1.toInt) ∧ (v1.toInt ≤ 1) ∧ (¬ v1.toInt = 0 → 0 < nb.toInt) ∧ (v1.toInt = 0 → nb.toInt ≤ 0) := hw
  refine lv_if_eq (tgt := 33) hx hb dX10_decades_4 (by decide) (fun c4 => ?_) (fun c4 => ?_)
  · have c4 : v1.toInt = 0 := z5 rfl (by decide) c4
    refine lv_iconst (v := (-1)) hx hb dX10_decades_33 (by decide) ?_
    have zr0 : ((-1) : Int32).toInt = (-1) := by decide
    rw [hQ]
    exact W.iret (v := ((-1))) hx hb hr (fun t ht hW => ⟨⟨(-1), (gpn, gpu, gmo, gfY, gfP, pl, cn, fR, x0), rfl, ⟨by (try dsimp only); omega, by (try dsimp only); omega, by (try dsimp only); omega, by (try dsimp only); omega, by (try dsimp only); omega, by (try dsimp only); omega, by (try dsimp only); exact fun kc kT q_fr q_frf hc hb h => by have zm := congrArg Int32.toInt (zSc_mo h.1); have zb := hb.2.2.2.1.2.2.2.1; unfold sV_dec sT_dec; rw [if_neg (by unfold sQ_dec; omega), if_neg (by unfold sQ_dec; omega)]; exact ⟨rfl, h⟩, ci_fR_zRw, ci_gfP_zPo⟩, ⟨by rw [ht]; exact hP, hD⟩⟩, hS.F ht⟩) hS.2.2 dX10_decades_34
  · have c4 : ¬ v1.toInt = 0 := z6 rfl (by decide) c4
    refine lv_iload_n hx hb dX10_decades_7 rfl (lv_at hl 1 rfl) ?_
    refine lv_iconst (v := 1) hx hb dX10_decades_8 (by decide) ?_
    refine lv_icmp_lt (tgt := 33) hx hb dX10_decades_9 (by decide) (fun c9 => ?_) (fun c9 => ?_)
    · have c9 : p0.toInt < 1 := z1 rfl (by decide) c9
      refine lv_iconst (v := (-1)) hx hb dX10_decades_33 (by decide) ?_
      have zr0 : ((-1) : Int32).toInt = (-1) := by decide
      rw [hQ]
      exact W.iret (v := ((-1))) hx hb hr (fun t ht hW => ⟨⟨(-1), (gpn, gpu, gmo, gfY, gfP, pl, cn, fR, x0), rfl, ⟨by (try dsimp only); omega, by (try dsimp only); omega, by (try dsimp only); omega, by (try dsimp only); omega, by (try dsimp only); omega, by (try dsimp only); omega, by (try dsimp only); exact fun kc kT q_fr q_frf hc hb h => by have zm := congrArg Int32.toInt (zSc_mo h.1); have zb := hb.2.2.2.1.2.2.2.1; unfold sV_dec sT_dec; rw [if_neg (by unfold sQ_dec; omega), if_neg (by unfold sQ_dec; omega)]; exact ⟨rfl, h⟩, ci_fR_zRw, ci_gfP_zPo⟩, ⟨by rw [ht]; exact hP, hD⟩⟩, hS.F ht⟩) hS.2.2 dX10_decades_34
    · have c9 : 1 ≤ p0.toInt := z2 rfl (by decide) c9
      refine lv_iload_n hx hb dX10_decades_12 rfl (lv_at hl 1 rfl) ?_
      refine lv_bipush (v := 60) hx hb dX10_decades_13 (by decide) ?_
      refine lv_icmp_gt (tgt := 33) hx hb dX10_decades_15 (by decide) (fun c15 => ?_) (fun c15 => ?_)
      · have c15 : 60 < p0.toInt := z1 (by decide) rfl c15
        refine lv_iconst (v := (-1)) hx hb dX10_decades_33 (by decide) ?_
        have zr0 : ((-1) : Int32).toInt = (-1) := by decide
        rw [hQ]
        exact W.iret (v := ((-1))) hx hb hr (fun t ht hW => ⟨⟨(-1), (gpn, gpu, gmo, gfY, gfP, pl, cn, fR, x0), rfl, ⟨by (try dsimp only); omega, by (try dsimp only); omega, by (try dsimp only); omega, by (try dsimp only); omega, by (try dsimp only); omega, by (try dsimp only); omega, by (try dsimp only); exact fun kc kT q_fr q_frf hc hb h => by have zm := congrArg Int32.toInt (zSc_mo h.1); have zb := hb.2.2.2.1.2.2.2.1; unfold sV_dec sT_dec; rw [if_neg (by unfold sQ_dec; omega), if_neg (by unfold sQ_dec; omega)]; exact ⟨rfl, h⟩, ci_fR_zRw, ci_gfP_zPo⟩, ⟨by rw [ht]; exact hP, hD⟩⟩, hS.F ht⟩) hS.2.2 dX10_decades_34
      · have c15 : p0.toInt ≤ 60 := z2 (by decide) rfl c15
        refine lv_aload_n hx hb dX10_decades_18 rfl (lv_at hl 0 rfl) ?_
        refine va_get (D := (dC, dI)) (ci := 10) (v := .ref g0) (C := RX10) (T := TX10) (N := 17) hx hb hts iX10 hown hK hP 0 rfl rfl 6 (by decide) (hts _ qw362) (fun _ h9 => h9) rfl dX10_decades_19 ?_
        refine va_get (D := (dC, dI)) (ci := 7) (v := .int gmo) (C := RX7) (T := TX7) (N := 9) hx hb hts iX7 hown hK hP 4 rfl rfl 8 (by decide) (hts _ qw242) (fun _ h9 => h9) rfl dX10_decades_22 ?_
        refine lv_iload_n hx hb dX10_decades_25 rfl (lv_at hl 1 rfl) ?_
        refine lv_iadd hx hb dX10_decades_26 ?_
        refine lv_topi (fun v26 e26 => ?_)
        refine lv_sipush (v := 999) hx hb dX10_decades_27 (by decide) ?_
        refine lv_icmp_le (tgt := 35) hx hb dX10_decades_30 (by decide) (fun c30 => ?_) (fun c30 => ?_)
        · have c30 : v26.toInt ≤ 999 := z3 rfl (by decide) c30
          refine lv_aload_n hx hb dX10_decades_35 rfl (lv_at hl 0 rfl) ?_
          refine va_get (D := (dC, dI)) (ci := 10) (v := .ref dw) (C := RX10) (T := TX10) (N := 17) hx hb hts iX10 hown hK hP 0 rfl rfl 11 (by decide) (hts _ qw367) (fun _ h9 => h9) rfl dX10_decades_36 ?_
          refine lv_lload_n hx hb dX10_decades_39 rfl (lv_at hl 2 rfl) ?_
          obtain ⟨hPc, hDc, hFc⟩ := zc3 (wc := [(dw, .inr (3, [.long x0]))]) hP hD hS hA [11] (by decide +kernel) rfl
          refine va_callv (va_runV (As := [.long p1]) (rest := []) ⟨hx, hb, hml, hown, hts⟩ (g_X3_begin l dC dI cI cJ dw p1 x0 H.size) (cwV 1 hts (zgV qw776 qw777 qw778 qw107 qw779) rfl rfl rfl hd_X3_begin ⟨by rw [hR]; exact Nat.le_of_ble_eq_true rfl, by rw [hR]; exact Nat.le_of_ble_eq_true rfl⟩) (zPV hPc hK hDc (va_recv (q := (RX3, TX3, 1)) hK hP (ci := 3) (q0 := 11) rfl rfl)) rfl rfl hl.1 rfl (lv_room (Nat.le_of_ble_eq_true rfl)) dX10_decades_40 ⟨Nat.zero_le _, Nat.zero_le _⟩) hS (fun q _ h => hFc q h) hFc (fun u40 t H locs ht hvm hw hB hz1 hk1 hS9 => ?_)
          obtain ⟨hP9, hD9⟩ := zj2 (wX := [(h0, .inr (10, [.ref tp, h0_courtReader, h0_lawReader, h0_draft, .ref aC, h0_laws, .ref g0, .ref k0, .ref ac, .ref sd, .ref mi, .ref dw, .ref rf, .int lc, .int lh, .int br, .int hi])), (aC, .inr (1, [.ref aR, .ref aB, .ref aP, .int nb, .int np])), (aB, .inl (cI, 24, .inl fb)), (aP, .inl (cI, 20, .inl fp)), (g0, .inr (7, [.ref gY, .ref gF, .ref gP, .int gpn, .int glt, .int gsh, .int gwd, .int gpu, .int gmo])), (gY, .inl (cI, 6, .inl gfY)), (gF, .inl (cI, 5, .inl gfF)), (gP, .inl (cI, 80, .inl gfP)), (ac, .inr (0, [.ref aW, .int pl, .int cn])), (aW, .inl (cI, 680, .inl fR)), (sd, .inr (8, [.ref w1, .ref w2, .ref aC, .ref g0, .ref aL, .ref aK, .null])), (dw, .inr (3, [.long p1]))]) hP hD hk1 hFc ht hB [11] [(false, 0), (false, 1), (false, 2), (false, 3), (false, 4), (false, 5), (false, 6), (false, 7), (false, 8), (false, 9), (false, 10), (true, 0)] rfl (by decide +kernel) (by decide +kernel) rfl
          clear hP hD hS hPc hDc hFc hB hk1 hz1 hvm
          have hP := hP9
          have hD := hD9
          have hS := hS9
          clear hP9 hD9 hS9
          refine lv_iconst (v := 0) hx hb dX10_decades_43 (by decide) ?_
          have J46 : ∀ (n : Nat) (m46_A_aW : Nat → Int32) (m46_A_gP : Nat → Int32) (m46_A_gY : Nat → Int32) (m46_F_ac_1 : Int32) (m46_F_ac_2 : Int32) (m46_F_dw_0 : Int64) (m46_F_g0_3 : Int32) (m46_F_g0_7 : Int32) (m46_F_g0_8 : Int32) (m46_L_4 : Int32), (0 ≤ m46_F_ac_1.toInt ∧ m46_F_ac_1.toInt ≤ 39) → (0 ≤ m46_F_ac_2.toInt ∧ m46_F_ac_2.toInt ≤ 40) → (0 ≤ m46_F_g0_3.toInt ∧ m46_F_g0_3.toInt ≤ 20) → (0 ≤ m46_L_4.toInt ∧ m46_L_4.toInt ≤ 60) → (∀ (kc : zK3) (kT : zT) (q_fr : Nat → Int32) (q_frf : Nat → Int32), zCn q_fr fb fp nb.toInt np.toInt kc → zKo nb.toInt np.toInt kc kT → zTc nb.toInt np.toInt kT gfY gfF gfP gpn glt gsh gwd gpu gmo fR pl cn q_frf → zTc nb.toInt np.toInt (sDec nb np br kc none kT p1 m46_L_4.toInt.toNat).1 m46_A_gY gfF m46_A_gP m46_F_g0_3 glt gsh gwd m46_F_g0_7 m46_F_g0_8 m46_A_aW m46_F_ac_1 m46_F_ac_2 q_frf ∧ m46_F_dw_0 = (sDec nb np br kc none kT p1 m46_L_4.toInt.toNat).2) → (m46_L_4.toInt ≤ p0.toInt) → (zRw m46_A_aW) → (zPo m46_A_gP) → (61 - m46_L_4.toInt).toNat = n → ∀ (H : Heap) (locs : List Loc) (ls : Array Slot), va_P (dC, dI) vwCl [(h0, .inr (10, [.ref tp, h0_courtReader, h0_lawReader, h0_draft, .ref aC, h0_laws, .ref g0, .ref k0, .ref ac, .ref sd, .ref mi, .ref dw, .ref rf, .int lc, .int lh, .int br, .int hi])), (aC, .inr (1, [.ref aR, .ref aB, .ref aP, .int nb, .int np])), (aB, .inl (cI, 24, .inl fb)), (aP, .inl (cI, 20, .inl fp)), (g0, .inr (7, [.ref gY, .ref gF, .ref gP, .int m46_F_g0_3, .int glt, .int gsh, .int gwd, .int m46_F_g0_7, .int m46_F_g0_8])), (gY, .inl (cI, 6, .inl m46_A_gY)), (gF, .inl (cI, 5, .inl gfF)), (gP, .inl (cI, 80, .inl m46_A_gP)), (ac, .inr (0, [.ref aW, .int m46_F_ac_1, .int m46_F_ac_2])), (aW, .inl (cI, 680, .inl m46_A_aW)), (sd, .inr (8, [.ref w1, .ref w2, .ref aC, .ref g0, .ref aL, .ref aK, .null])), (dw, .inr (3, [.long m46_F_dw_0]))] H → va_D A [(h0, .inr (10, [.ref tp, h0_courtReader, h0_lawReader, h0_draft, .ref aC, h0_laws, .ref g0, .ref k0, .ref ac, .ref sd, .ref mi, .ref dw, .ref rf, .int lc, .int lh, .int br, .int hi])), (aC, .inr (1, [.ref aR, .ref aB, .ref aP, .int nb, .int np])), (aB, .inl (cI, 24, .inl fb)), (aP, .inl (cI, 20, .inl fp)), (g0, .inr (7, [.ref gY, .ref gF, .ref gP, .int m46_F_g0_3, .int glt, .int gsh, .int gwd, .int m46_F_g0_7, .int m46_F_g0_8])), (gY, .inl (cI, 6, .inl m46_A_gY)), (gF, .inl (cI, 5, .inl gfF)), (gP, .inl (cI, 80, .inl m46_A_gP)), (ac, .inr (0, [.ref aW, .int m46_F_ac_1, .int m46_F_ac_2])), (aW, .inl (cI, 680, .inl m46_A_aW)), (sd, .inr (8, [.ref w1, .ref w2, .ref aC, .ref g0, .ref aL, .ref aK, .null])), (dw, .inr (3, [.long m46_F_dw_0]))] → va_S A s.heap H locs → lv_has ls 5 [(4, .int m46_L_4), (0, .ref h0), (1, .int p0), (2, .long p1)] → W p l e R s m args below meth c H locs 0 0 Q (F0 m 46 ls []) := by
            intro n46
            induction n46 using Nat.strongRecOn with
            | _ n46 ih46 =>
              intro m46_A_aW m46_A_gP m46_A_gY m46_F_ac_1 m46_F_ac_2 m46_F_dw_0 m46_F_g0_3 m46_F_g0_7 m46_F_g0_8 m46_L_4 jf46_0 jf46_1 jf46_2 jf46_3 jv46_0 jf46_5 jf46_6 jf46_7 hmu46 H locs ls hP hD hS hl
              refine lv_iload hx hb dX10_decades_46 (lv_at hl 0 rfl) ?_
              refine lv_iload_n hx hb dX10_decades_48 rfl (lv_at hl 2 rfl) ?_
              refine lv_icmp_ge (tgt := 84) hx hb dX10_decades_49 (by decide) (fun c49 => ?_) (fun c49 => ?_)
              · have c49 : p0.toInt ≤ m46_L_4.toInt := z3 rfl rfl c49
                refine lv_aload_n hx hb dX10_decades_84 rfl (lv_at hl 1 rfl) ?_
                refine va_get (D := (dC, dI)) (ci := 10) (v := .ref g0) (C := RX10) (T := TX10) (N := 17) hx hb hts iX10 hown hK hP 0 rfl rfl 6 (by decide) (hts _ qw362) (fun _ h9 => h9) rfl dX10_decades_85 ?_
                refine va_get (D := (dC, dI)) (ci := 7) (v := .int m46_F_g0_8) (C := RX7) (T := TX7) (N := 9) hx hb hts iX7 hown hK hP 4 rfl rfl 8 (by decide) (hts _ qw242) (fun _ h9 => h9) rfl dX10_decades_88 ?_
                rw [hQ]
                exact W.iret (v := m46_F_g0_8) hx hb hr (fun t ht hW => ⟨⟨m46_F_g0_8, (m46_F_g0_3, m46_F_g0_7, m46_F_g0_8, m46_A_gY, m46_A_gP, m46_F_ac_1, m46_F_ac_2, m46_A_aW, m46_F_dw_0), rfl, ⟨by (try dsimp only); omega, by (try dsimp only); omega, by (try dsimp only); omega, by (try dsimp only); omega, by (try dsimp only); omega, by (try dsimp only); omega, by (try dsimp only); exact fun kc kT q_fr q_frf hc hb h => by have zm := congrArg Int32.toInt (zSc_mo h.1); have zb := hb.2.2.2.1.2.2.2.1; have q : sQ_dec nb.toInt kT.1 p0 := (by unfold sQ_dec; rw [zSc_mo h.1, ← e26]; omega); have a := jv46_0 kc kT _ _ hc hb h; rw [show m46_L_4.toInt.toNat = p0.toInt.toNat by omega] at a; unfold sV_dec sT_dec; rw [if_pos q, if_pos q]; exact ⟨(zSc_mo a.1.1).symm, a.1⟩, jf46_6, jf46_7⟩, ⟨by rw [ht]; exact hP, hD⟩⟩, hS.F ht⟩) hS.2.2 dX10_decades_91
              · have c49 : m46_L_4.toInt < p0.toInt := z4 rfl rfl c49
                refine lv_aload_n hx hb dX10_decades_52 rfl (lv_at hl 1 rfl) ?_
                refine va_get (D := (dC, dI)) (ci := 10) (v := .ref ac) (C := RX10) (T := TX10) (N := 17) hx hb hts iX10 hown hK hP 0 rfl rfl 8 (by decide) (hts _ qw364) (fun _ h9 => h9) rfl dX10_decades_53 ?_
                refine lv_aload_n hx hb dX10_decades_56 rfl (lv_at hl 1 rfl) ?_
                refine va_get (D := (dC, dI)) (ci := 10) (v := .ref g0) (C := RX10) (T := TX10) (N := 17) hx hb hts iX10 hown hK hP 0 rfl rfl 6 (by decide) (hts _ qw362) (fun _ h9 => h9) rfl dX10_decades_57 ?_
                obtain ⟨hPc, hDc, hFc⟩ := zc3 (wc := [(ac, .inr (0, [.ref aW, .int m46_F_ac_1, .int m46_F_ac_2])), (aW, .inl (cI, 680, .inl m46_A_aW)), (g0, .inr (7, [.ref gY, .ref gF, .ref gP, .int m46_F_g0_3, .int glt, .int gsh, .int gwd, .int m46_F_g0_7, .int m46_F_g0_8])), (gY, .inl (cI, 6, .inl m46_A_gY)), (gF, .inl (cI, 5, .inl gfF))]) hP hD hS hA [8, 9, 4, 5, 6] (by decide +kernel) rfl
                refine va_callv (va_runV (As := [.ref g0]) (rest := []) ⟨hx, hb, hml, hown, hts⟩ (g_X0_keep l dC dI cI cJ ac g0 aW m46_F_ac_1 m46_F_ac_2 m46_A_aW gY gF gP m46_F_g0_3 glt gsh gwd m46_F_g0_7 m46_F_g0_8 m46_A_gY gfF H.size jf46_1 jf46_2 y_gwd jf46_0 jf46_6) (cwV 1 hts (zgV qw688 qw689 qw690 qw104 qw691) rfl rfl rfl hd_X0_keep ⟨by rw [hR]; exact Nat.le_of_ble_eq_true rfl, by rw [hR]; exact Nat.le_of_ble_eq_true rfl⟩) (zPV hPc hK hDc (va_recv (q := (RX0, TX0, 3)) hK hP (ci := 0) (q0 := 8) rfl rfl)) rfl rfl hl.1 rfl (lv_room (Nat.le_of_ble_eq_true rfl)) dX10_decades_60 ⟨Nat.zero_le _, Nat.zero_le _⟩) hS (fun q _ h => hFc q h) hFc (fun u60 t H locs ht hvm hw hB hz1 hk1 hS9 => ?_)
                obtain ⟨u60_0, u60_1, u60_2⟩ := u60
                obtain ⟨hP9, hD9⟩ := zj2 (wX := [(h0, .inr (10, [.ref tp, h0_courtReader, h0_lawReader, h0_draft, .ref aC, h0_laws, .ref g0, .ref k0, .ref ac, .ref sd, .ref mi, .ref dw, .ref rf, .int lc, .int lh, .int br, .int hi])), (aC, .inr (1, [.ref aR, .ref aB, .ref aP, .int nb, .int np])), (aB, .inl (cI, 24, .inl fb)), (aP, .inl (cI, 20, .inl fp)), (g0, .inr (7, [.ref gY, .ref gF, .ref gP, .int m46_F_g0_3, .int glt, .int gsh, .int gwd, .int m46_F_g0_7, .int m46_F_g0_8])), (gY, .inl (cI, 6, .inl m46_A_gY)), (gF, .inl (cI, 5, .inl gfF)), (gP, .inl (cI, 80, .inl m46_A_gP)), (ac, .inr (0, [.ref aW, .int u60_0, .int u60_1])), (aW, .inl (cI, 680, .inl u60_2)), (sd, .inr (8, [.ref w1, .ref w2, .ref aC, .ref g0, .ref aL, .ref aK, .null])), (dw, .inr (3, [.long m46_F_dw_0]))]) hP hD hk1 hFc ht hB [8, 9, 4, 5, 6] [(false, 0), (false, 1), (false, 2), (false, 3), (true, 2), (true, 3), (true, 4), (false, 7), (true, 0), (true, 1), (false, 10), (false, 11)] rfl (by decide +kernel) (by decide +kernel) rfl
                clear hP hD hS hPc hDc hFc hB hk1 hz1 hvm
                have hP := hP9
                have hD := hD9
                have hS := hS9
                clear hP9 hD9 hS9
                obtain ⟨f60_0, f60_1, f60_2, f60_3, f60_4, f60_5⟩ : (0 ≤ u60_0.toInt) ∧ (u60_0.toInt ≤ 39) ∧ (1 ≤ u60_1.toInt) ∧ (u60_1.toInt ≤ 40) ∧ (∀ (nbI npI : Int) (S : zS) (Ks : List zS) (P : Nat → Int32), nbI ≤ 6 → npI ≤ 5 → zSc nbI npI S m46_A_gY gfF P m46_F_g0_3 glt gsh gwd m46_F_g0_7 m46_F_g0_8 → zKc nbI npI Ks P m46_A_aW m46_F_ac_1 m46_F_ac_2 → zKc nbI npI (sKeep S Ks) P u60_2 u60_0 u60_1) ∧ (zRw u60_2) := hw
                have F60 := f60_4
                refine lv_aload_n hx hb dX10_decades_63 rfl (lv_at hl 1 rfl) ?_
                obtain ⟨hPc, hDc, hFc⟩ := zc3 (wc := [(h0, .inr (10, [.ref tp, h0_courtReader, h0_lawReader, h0_draft, .ref aC, h0_laws, .ref g0, .ref k0, .ref ac, .ref sd, .ref mi, .ref dw, .ref rf, .int lc, .int lh, .int br, .int hi])), (aC, .inr (1, [.ref aR, .ref aB, .ref aP, .int nb, .int np])), (aB, .inl (cI, 24, .inl fb)), (aP, .inl (cI, 20, .inl fp)), (g0, .inr (7, [.ref gY, .ref gF, .ref gP, .int m46_F_g0_3, .int glt, .int gsh, .int gwd, .int m46_F_g0_7, .int m46_F_g0_8])), (gY, .inl (cI, 6, .inl m46_A_gY)), (gF, .inl (cI, 5, .inl gfF)), (gP, .inl (cI, 80, .inl m46_A_gP)), (sd, .inr (8, [.ref w1, .ref w2, .ref aC, .ref g0, .ref aL, .ref aK, .null])), (dw, .inr (3, [.long m46_F_dw_0]))]) hP hD hS hA [0, 1, 2, 3, 4, 5, 6, 7, 10, 11] (by decide +kernel) rfl
                refine va_callv (va_runV (As := []) (rest := []) ⟨hx, hb, hml, hown, hts⟩ (g_X10_paintByDraws_n l dC dI cI cJ h0 tp h0_courtReader h0_lawReader h0_draft aC h0_laws g0 k0 ac sd mi dw rf lc lh br hi aR aB aP nb np fb fp gY gF gP m46_F_g0_3 glt gsh gwd m46_F_g0_7 m46_F_g0_8 m46_A_gY gfF m46_A_gP w1 w2 aL aK m46_F_dw_0 H.size jf46_2 y_gwd y_hi y_lc n_nb n_np jf46_7) (cwV 0 hts (zgV qw780 qw782 qw17 qw98 qw783) rfl rfl rfl hd_X10_paintByDraws ⟨by rw [hR]; exact Nat.le_of_ble_eq_true rfl, by rw [hR]; exact Nat.le_of_ble_eq_true rfl⟩) (zPV hPc hK hDc (va_recv (q := (RX10, TX10, 17)) hK hP (ci := 10) (q0 := 0) rfl rfl)) rfl rfl hl.1 rfl (lv_room (Nat.le_of_ble_eq_true rfl)) dX10_decades_64 ⟨Nat.zero_le _, Nat.zero_le _⟩) hS (fun q _ h => hFc q h) hFc (fun u64 t H locs ht hvm hw hB hz1 hk1 hS9 => ?_)
                obtain ⟨u64_0, u64_1, u64_2, u64_3⟩ := u64
                obtain ⟨hP9, hD9⟩ := zj2 (wX := [(h0, .inr (10, [.ref tp, h0_courtReader, h0_lawReader, h0_draft, .ref aC, h0_laws, .ref g0, .ref k0, .ref ac, .ref sd, .ref mi, .ref dw, .ref rf, .int lc, .int lh, .int br, .int hi])), (aC, .inr (1, [.ref aR, .ref aB, .ref aP, .int nb, .int np])), (aB, .inl (cI, 24, .inl fb)), (aP, .inl (cI, 20, .inl fp)), (g0, .inr (7, [.ref gY, .ref gF, .ref gP, .int u64_0, .int glt, .int gsh, .int gwd, .int u64_1, .int m46_F_g0_8])), (gY, .inl (cI, 6, .inl m46_A_gY)), (gF, .inl (cI, 5, .inl gfF)), (gP, .inl (cI, 80, .inl u64_2)), (ac, .inr (0, [.ref aW, .int u60_0, .int u60_1])), (aW, .inl (cI, 680, .inl u60_2)), (sd, .inr (8, [.ref w1, .ref w2, .ref aC, .ref g0, .ref aL, .ref aK, .null])), (dw, .inr (3, [.long u64_3]))]) hP hD hk1 hFc ht hB [0, 1, 2, 3, 4, 5, 6, 7, 10, 11] [(true, 0), (true, 1), (true, 2), (true, 3), (true, 4), (true, 5), (true, 6), (true, 7), (false, 8), (false, 9), (true, 8), (true, 9)] rfl (by decide +kernel) (by decide +kernel) rfl
                clear hP hD hS hPc hDc hFc hB hk1 hz1 hvm
                have hP := hP9
                have hD := hD9
                have hS := hS9
                clear hP9 hD9 hS9
                obtain ⟨f64_0, f64_1, f64_2, f64_3⟩ : (0 ≤ u64_0.toInt) ∧ (u64_0.toInt ≤ 20) ∧ (∀ (kc : zK3) (kT : zT) (q_fr : Nat → Int32), zCn q_fr fb fp nb.toInt np.toInt kc → zKo nb.toInt np.toInt kc kT → zSc nb.toInt np.toInt kT.1 m46_A_gY gfF m46_A_gP m46_F_g0_3 glt gsh gwd m46_F_g0_7 m46_F_g0_8 → 1 ≤ nb.toInt → 1 ≤ np.toInt → zSc nb.toInt np.toInt (sDp nb np kc none kT.1 m46_F_dw_0) m46_A_gY gfF u64_2 u64_0 glt gsh gwd u64_1 m46_F_g0_8 ∧ u64_3 = sNx (sNx m46_F_dw_0) ∧ ∀ i : Nat, (i : Int) < 4 * m46_F_g0_3.toInt → u64_2 i = m46_A_gP i) ∧ (zPo u64_2) := hw
                have F64 := f64_2
                refine lv_aload_n hx hb dX10_decades_67 rfl (lv_at hl 1 rfl) ?_
                obtain ⟨hPc, hDc, hFc⟩ := zc3 (wc := [(h0, .inr (10, [.ref tp, h0_courtReader, h0_lawReader, h0_draft, .ref aC, h0_laws, .ref g0, .ref k0, .ref ac, .ref sd, .ref mi, .ref dw, .ref rf, .int lc, .int lh, .int br, .int hi])), (aC, .inr (1, [.ref aR, .ref aB, .ref aP, .int nb, .int np])), (g0, .inr (7, [.ref gY, .ref gF, .ref gP, .int u64_0, .int glt, .int gsh, .int gwd, .int u64_1, .int m46_F_g0_8])), (gY, .inl (cI, 6, .inl m46_A_gY)), (dw, .inr (3, [.long u64_3]))]) hP hD hS hA [0, 1, 4, 5, 11] (by decide +kernel) rfl
                refine va_callv (va_runV (As := []) (rest := []) ⟨hx, hb, hml, hown, hts⟩ (g_X10_payByDraws l dC dI cI cJ h0 tp h0_courtReader h0_lawReader h0_draft aC h0_laws g0 k0 ac sd mi dw rf lc lh br hi aR aB aP nb np gY gF gP u64_0 glt gsh gwd u64_1 m46_F_g0_8 m46_A_gY u64_3 H.size ⟨f64_0, f64_1⟩ y_gwd y_hi y_lc n_nb n_np) (cwV 0 hts (zgV qw790 qw792 qw18 qw98 qw793) rfl rfl rfl hd_X10_payByDraws ⟨by rw [hR]; exact Nat.le_of_ble_eq_true rfl, by rw [hR]; exact Nat.le_of_ble_eq_true rfl⟩) (zPV hPc hK hDc (va_recv (q := (RX10, TX10, 17)) hK hP (ci := 10) (q0 := 0) rfl rfl)) rfl rfl hl.1 rfl (lv_room (Nat.le_of_ble_eq_true rfl)) dX10_decades_68 ⟨Nat.zero_le _, Nat.zero_le _⟩) hS (fun q _ h => hFc q h) hFc (fun u68 t H locs ht hvm hw hB hz1 hk1 hS9 => ?_)
                obtain ⟨u68_0, u68_1⟩ := u68
                obtain ⟨hP9, hD9⟩ := zj2 (wX := [(h0, .inr (10, [.ref tp, h0_courtReader, h0_lawReader, h0_draft, .ref aC, h0_laws, .ref g0, .ref k0, .ref ac, .ref sd, .ref mi, .ref dw, .ref rf, .int lc, .int lh, .int br, .int hi])), (aC, .inr (1, [.ref aR, .ref aB, .ref aP, .int nb, .int np])), (aB, .inl (cI, 24, .inl fb)), (aP, .inl (cI, 20, .inl fp)), (g0, .inr (7, [.ref gY, .ref gF, .ref gP, .int u64_0, .int glt, .int gsh, .int gwd, .int u64_1, .int m46_F_g0_8])), (gY, .inl (cI, 6, .inl u68_0)), (gF, .inl (cI, 5, .inl gfF)), (gP, .inl (cI, 80, .inl u64_2)), (ac, .inr (0, [.ref aW, .int u60_0, .int u60_1])), (aW, .inl (cI, 680, .inl u60_2)), (sd, .inr (8, [.ref w1, .ref w2, .ref aC, .ref g0, .ref aL, .ref aK, .null])), (dw, .inr (3, [.long u68_1]))]) hP hD hk1 hFc ht hB [0, 1, 4, 5, 11] [(true, 0), (true, 1), (false, 2), (false, 3), (true, 2), (true, 3), (false, 6), (false, 7), (false, 8), (false, 9), (false, 10), (true, 4)] rfl (by decide +kernel) (by decide +kernel) rfl
                clear hP hD hS hPc hDc hFc hB hk1 hz1 hvm
                have hP := hP9
                have hD := hD9
                have hS := hS9
                clear hP9 hD9 hS9
                have f68_0 : (∀ (npq : Int) (kS : zS) (q_gfF q_gfP : Nat → Int32), 1 ≤ nb.toInt → zSc nb.toInt npq kS m46_A_gY q_gfF q_gfP u64_0 glt gsh gwd u64_1 m46_F_g0_8 → zSc nb.toInt npq (sDq nb br kS u64_3) u68_0 q_gfF q_gfP u64_0 glt gsh gwd u64_1 m46_F_g0_8 ∧ u68_1 = sDx br u64_3) := hw
                have F68 := f68_0
                refine lv_aload_n hx hb dX10_decades_71 rfl (lv_at hl 1 rfl) ?_
                refine va_get (D := (dC, dI)) (ci := 10) (v := .ref g0) (C := RX10) (T := TX10) (N := 17) hx hb hts iX10 hown hK hP 0 rfl rfl 6 (by decide) (hts _ qw362) (fun _ h9 => h9) rfl dX10_decades_72 ?_
                obtain ⟨hPc, hDc, hFc⟩ := zc3 (wc := [(g0, .inr (7, [.ref gY, .ref gF, .ref gP, .int u64_0, .int glt, .int gsh, .int gwd, .int u64_1, .int m46_F_g0_8]))]) hP hD hS hA [4] (by decide +kernel) rfl
                refine va_callv (va_runV (As := []) (rest := []) ⟨hx, hb, hml, hown, hts⟩ (g_X7_passMonth l dC dI cI cJ g0 gY gF gP u64_0 glt gsh gwd u64_1 m46_F_g0_8 H.size) (cwV 0 hts (zgV qw763 qw764 qw765 qw103 qw766) rfl rfl rfl hd_X7_passMonth ⟨by rw [hR]; exact Nat.le_of_ble_eq_true rfl, by rw [hR]; exact Nat.le_of_ble_eq_true rfl⟩) (zPV hPc hK hDc (va_recv (q := (RX7, TX7, 9)) hK hP (ci := 7) (q0 := 4) rfl rfl)) rfl rfl hl.1 rfl (lv_room (Nat.le_of_ble_eq_true rfl)) dX10_decades_75 ⟨Nat.zero_le _, Nat.zero_le _⟩) hS (fun q _ h => hFc q h) hFc (fun u75 t H locs ht hvm hw hB hz1 hk1 hS9 => ?_)
                obtain ⟨u75_0, u75_1⟩ := u75
                obtain ⟨hP9, hD9⟩ := zj2 (wX := [(h0, .inr (10, [.ref tp, h0_courtReader, h0_lawReader, h0_draft, .ref aC, h0_laws, .ref g0, .ref k0, .ref ac, .ref sd, .ref mi, .ref dw, .ref rf, .int lc, .int lh, .int br, .int hi])), (aC, .inr (1, [.ref aR, .ref aB, .ref aP, .int nb, .int np])), (aB, .inl (cI, 24, .inl fb)), (aP, .inl (cI, 20, .inl fp)), (g0, .inr (7, [.ref gY, .ref gF, .ref gP, .int u64_0, .int glt, .int gsh, .int gwd, .int u75_0, .int u75_1])), (gY, .inl (cI, 6, .inl u68_0)), (gF, .inl (cI, 5, .inl gfF)), (gP, .inl (cI, 80, .inl u64_2)), (ac, .inr (0, [.ref aW, .int u60_0, .int u60_1])), (aW, .inl (cI, 680, .inl u60_2)), (sd, .inr (8, [.ref w1, .ref w2, .ref aC, .ref g0, .ref aL, .ref aK, .null])), (dw, .inr (3, [.long u68_1]))]) hP hD hk1 hFc ht hB [4] [(false, 0), (false, 1), (false, 2), (false, 3), (true, 0), (false, 5), (false, 6), (false, 7), (false, 8), (false, 9), (false, 10), (false, 11)] rfl (by decide +kernel) (by decide +kernel) rfl
                clear hP hD hS hPc hDc hFc hB hk1 hz1 hvm
                have hP := hP9
                have hD := hD9
                have hS := hS9
                clear hP9 hD9 hS9
                obtain ⟨f75_0, f75_1⟩ : (u75_0.toInt ≤ 999) ∧ (u75_0 = sMin 999 (u64_1 + 1) ∧ u75_1 = m46_F_g0_8 + 1) := hw
                have F75 := f75_1
                obtain ⟨v78, e78⟩ : ∃ y : Int32, y = m46_L_4 + Int32.ofInt (1) := ⟨_, rfl⟩
                refine lv_iinc (v := v78) (lv' := [(4, .int v78), (0, .ref h0), (1, .int p0), (2, .long p1)]) hx hb dX10_decades_78 hl (k := 0) rfl e78.symm (by decide) rfl (fun ls hl => ?_)
                have i78 : v78.toInt = m46_L_4.toInt + 1 := zaddI e78 (by decide) (by omega) (by omega)
                refine lv_goto (tgt := 46) hx hb dX10_decades_81 (by decide) ?_
                exact ih46 _ (by omega) u60_2 u64_2 u68_0 u60_0 u60_1 u68_1 u64_0 u75_0 u75_1 v78 ⟨f60_0, f60_1⟩ (by omega) ⟨f64_0, f64_1⟩ (by omega) (fun kc kT q_fr q_frf hc hb h => by have zm := congrArg Int32.toInt (zSc_mo h.1); have zb := hb.2.2.2.1.2.2.2.1; have z26 : v26.toInt = gmo.toInt + p0.toInt := zadd e26 rfl rfl (by omega) (by omega); have hn1 : 1 ≤ np.toInt := (by have := hb.1.2; omega); have a := jv46_0 kc kT _ _ hc hb h; have ob := sDec_b (br := br) (c := kc) (lw := none) (x := p1) hb.2 (by omega) hn1 m46_L_4.toInt.toNat (by omega); rw [show v78.toInt.toNat = m46_L_4.toInt.toNat + 1 by omega]; have g1 := F64 kc (sDec nb np br kc none kT p1 m46_L_4.toInt.toNat).1 _ hc ⟨hb.1, ob.1⟩ a.1.1 (by omega) hn1; rw [a.2] at g1; have g2 := F68 _ _ _ _ (by omega) g1.1; rw [g1.2.1] at g2; exact ⟨zActK ob.1 a.1 (F60 _ _ (sDec nb np br kc none kT p1 m46_L_4.toInt.toNat).1.1 (sDec nb np br kc none kT p1 m46_L_4.toInt.toNat).1.2.1 _ hb.2.1.2 hb.2.2.1.2 a.1.1 a.1.2.1) (zSc_M g2.1 F75.1 F75.2) g1.2.2, g2.2⟩) (by omega) f60_5 f64_3 rfl H locs ls hP hD hS (lv_sub hl [0, 1, 2, 3] rfl)
          refine lv_istore (lv' := [(4, .int 0), (0, .ref h0), (1, .int p0), (2, .long p1)]) hx hb dX10_decades_44 hl (by decide) rfl (fun ls hl => ?_)
          have zj46_m46_L_4 : (0 : Int32).toInt = 0 := by decide
          exact J46 _ fR gfP gfY pl cn p1 gpn gpu gmo 0 n_pl n_cn n_gpn (by decide) (fun kc kT q_fr q_frf hc hb h => ⟨h, rfl⟩) (by omega) ci_fR_zRw ci_gfP_zPo rfl H locs ls hP hD hS (lv_sub hl [0, 1, 2, 3] rfl)
        · have c30 : 999 < v26.toInt := z4 rfl (by decide) c30
          refine lv_iconst (v := (-1)) hx hb dX10_decades_33 (by decide) ?_
          have zr0 : ((-1) : Int32).toInt = (-1) := by decide
          rw [hQ]
          exact W.iret (v := ((-1))) hx hb hr (fun t ht hW => ⟨⟨(-1), (gpn, gpu, gmo, gfY, gfP, pl, cn, fR, x0), rfl, ⟨by (try dsimp only); omega, by (try dsimp only); omega, by (try dsimp only); omega, by (try dsimp only); omega, by (try dsimp only); omega, by (try dsimp only); omega, by (try dsimp only); exact fun kc kT q_fr q_frf hc hb h => by have zm := congrArg Int32.toInt (zSc_mo h.1); have zb := hb.2.2.2.1.2.2.2.1; have z26 : (kT.1.2.2.2.1.2.1 + p0).toInt = v26.toInt := (by rw [zSc_mo h.1, ← e26]); unfold sV_dec sT_dec; rw [if_neg (by unfold sQ_dec; omega), if_neg (by unfold sQ_dec; omega)]; exact ⟨rfl, h⟩, ci_fR_zRw, ci_gfP_zPo⟩, ⟨by rw [ht]; exact hP, hD⟩⟩, hS.F ht⟩) hS.2.2 dX10_decades_34
set_option maxHeartbeats 4000000 in
set_option maxRecDepth 100000 in
theorem g_X10_decades_l (l : Launch) (dC : Nat → ClassId) (dI : Nat → Nat → Nat) (cI cJ : ClassId) (h0 : Nat) (p0 : Int32) (p1 : Int64) (tp : Nat) (h0_courtReader : Value) (h0_lawReader : Value) (h0_draft : Value) (aC : Nat) (h0_laws : Value) (g0 : Nat) (k0 : Nat) (ac : Nat) (sd : Nat) (mi : Nat) (dw : Nat) (rf : Nat) (lc : Int32) (lh : Int32) (br : Int32) (hi : Int32) (aR : Nat) (aB : Nat) (aP : Nat) (nb : Int32) (np : Int32) (fb : Nat → Int32) (fp : Nat → Int32) (gY : Nat) (gF : Nat) (gP : Nat) (gpn : Int32) (glt : Int32) (gsh : Int32) (gwd : Int32) (gpu : Int32) (gmo : Int32) (gfY : Nat → Int32) (gfF : Nat → Int32) (gfP : Nat → Int32) (aW : Nat) (pl : Int32) (cn : Int32) (fR : Nat → Int32) (w1 : Nat) (w2 : Nat) (aL : Nat) (aK : Nat) (lw : Nat) (fL : Nat → Int32) (fK : Nat → Int32) (lS : Nat) (fS : Nat → Int32) (lk : Nat) (x0 : Int64) (sz : Nat) (n_cn : 0 ≤ cn.toInt ∧ cn.toInt ≤ 40) (n_gpn : 0 ≤ gpn.toInt ∧ gpn.toInt ≤ 20) (n_gwd : (-1) ≤ gwd.toInt ∧ gwd.toInt ≤ 5) (n_hi : 0 ≤ hi.toInt ∧ hi.toInt ≤ 1) (n_lc : 0 ≤ lc.toInt ∧ lc.toInt ≤ 4) (n_nb : 0 ≤ nb.toInt ∧ nb.toInt ≤ 6) (n_np : 0 ≤ np.toInt ∧ np.toInt ≤ 5) (n_pl : 0 ≤ pl.toInt ∧ pl.toInt ≤ 39) (hlk : lk ≤ 241) (ci_fR_zRw : zRw fR) (ci_fS_zSt : zSt fS) (ci_gfP_zPo : zPo gfP)  : Met l yX10_decades (.code yX10_decades cX10_decades 5 (some .int) :: wA) ({ frames := 6, cells := 0, slots := 0, locals := 148 }) (zP (dC, dI) [(cI, .int), (cJ, .long)] [.ref h0, .int p0, .long p1] sz [(h0, .inr (10, [.ref tp, h0_courtReader, h0_lawReader, h0_draft, .ref aC, h0_laws, .ref g0, .ref k0, .ref ac, .ref sd, .ref mi, .ref dw, .ref rf, .int lc, .int lh, .int br, .int hi])), (aC, .inr (1, [.ref aR, .ref aB, .ref aP, .int nb, .int np])), (aB, .inl (cI, 24, .inl fb)), (aP, .inl (cI, 20, .inl fp)), (g0, .inr (7, [.ref gY, .ref gF, .ref gP, .int gpn, .int glt, .int gsh, .int gwd, .int gpu, .int gmo])), (gY, .inl (cI, 6, .inl gfY)), (gF, .inl (cI, 5, .inl gfF)), (gP, .inl (cI, 80, .inl gfP)), (ac, .inr (0, [.ref aW, .int pl, .int cn])), (aW, .inl (cI, 680, .inl fR)), (sd, .inr (8, [.ref w1, .ref w2, .ref aC, .ref g0, .ref aL, .ref aK, .ref lw])), (aL, .inl (cI, 6, .inl fL)), (aK, .inl (cI, 32, .inl fK)), (lw, .inr (4, [.ref lS])), (lS, .inl (cI, lk, .inl fS)), (dw, .inr (3, [.long x0]))]) (va_Qi (fun (r : Int32) (u : Int32 × Int32 × Int32 × (Nat → Int32) × (Nat → Int32) × Int32 × Int32 × (Nat → Int32) × (Nat → Int32) × (Nat → Int32) × Int64) => (0 ≤ u.1.toInt) ∧ (u.1.toInt ≤ 20) ∧ (0 ≤ u.2.2.2.2.2.1.toInt) ∧ (u.2.2.2.2.2.1.toInt ≤ 39) ∧ (0 ≤ u.2.2.2.2.2.2.1.toInt) ∧ (u.2.2.2.2.2.2.1.toInt ≤ 40) ∧ (∀ (kc : zK3) (kT : zT) (q_fr : Nat → Int32) (q_frf : Nat → Int32) (kt : (Int → Int) × Int), zCn q_fr fb fp nb.toInt np.toInt kc → zKo nb.toInt np.toInt kc kT → zTc nb.toInt np.toInt kT gfY gfF gfP gpn glt gsh gwd gpu gmo fR pl cn q_frf → zLwC fS lk kt → r = sV_dec nb np br kc (some kt) kT p0 p1 ∧ zTc nb.toInt np.toInt (sT_dec nb np br kc (some kt) kT p0 p1) u.2.2.2.1 gfF u.2.2.2.2.1 u.1 glt gsh gwd u.2.1 u.2.2.1 u.2.2.2.2.2.2.2.1 u.2.2.2.2.2.1 u.2.2.2.2.2.2.1 q_frf) ∧ (zRw u.2.2.2.2.2.2.2.1) ∧ (zPo u.2.2.2.2.1)) (fun (u : Int32 × Int32 × Int32 × (Nat → Int32) × (Nat → Int32) × Int32 × Int32 × (Nat → Int32) × (Nat → Int32) × (Nat → Int32) × Int64) (t : State) => va_P (dC, dI) vwCl [(h0, .inr (10, [.ref tp, h0_courtReader, h0_lawReader, h0_draft, .ref aC, h0_laws, .ref g0, .ref k0, .ref ac, .ref sd, .ref mi, .ref dw, .ref rf, .int lc, .int lh, .int br, .int hi])), (aC, .inr (1, [.ref aR, .ref aB, .ref aP, .int nb, .int np])), (aB, .inl (cI, 24, .inl fb)), (aP, .inl (cI, 20, .inl fp)), (g0, .inr (7, [.ref gY, .ref gF, .ref gP, .int u.1, .int glt, .int gsh, .int gwd, .int u.2.1, .int u.2.2.1])), (gY, .inl (cI, 6, .inl u.2.2.2.1)), (gF, .inl (cI, 5, .inl gfF)), (gP, .inl (cI, 80, .inl u.2.2.2.2.1)), (ac, .inr (0, [.ref aW, .int u.2.2.2.2.2.1, .int u.2.2.2.2.2.2.1])), (aW, .inl (cI, 680, .inl u.2.2.2.2.2.2.2.1)), (sd, .inr (8, [.ref w1, .ref w2, .ref aC, .ref g0, .ref aL, .ref aK, .ref lw])), (aL, .inl (cI, 6, .inl u.2.2.2.2.2.2.2.2.1)), (aK, .inl (cI, 32, .inl u.2.2.2.2.2.2.2.2.2.1)), (lw, .inr (4, [.ref lS])), (lS, .inl (cI, lk, .inl fS)), (dw, .inr (3, [.long u.2.2.2.2.2.2.2.2.2.2]))] t.heap ∧ va_D (va_A [(h0, .inr (10, [.ref tp, h0_courtReader, h0_lawReader, h0_draft, .ref aC, h0_laws, .ref g0, .ref k0, .ref ac, .ref sd, .ref mi, .ref dw, .ref rf, .int lc, .int lh, .int br, .int hi])), (aC, .inr (1, [.ref aR, .ref aB, .ref aP, .int nb, .int np])), (aB, .inl (cI, 24, .inl fb)), (aP, .inl (cI, 20, .inl fp)), (g0, .inr (7, [.ref gY, .ref gF, .ref gP, .int gpn, .int glt, .int gsh, .int gwd, .int gpu, .int gmo])), (gY, .inl (cI, 6, .inl gfY)), (gF, .inl (cI, 5, .inl gfF)), (gP, .inl (cI, 80, .inl gfP)), (ac, .inr (0, [.ref aW, .int pl, .int cn])), (aW, .inl (cI, 680, .inl fR)), (sd, .inr (8, [.ref w1, .ref w2, .ref aC, .ref g0, .ref aL, .ref aK, .ref lw])), (aL, .inl (cI, 6, .inl fL)), (aK, .inl (cI, 32, .inl fK)), (lw, .inr (4, [.ref lS])), (lS, .inl (cI, lk, .inl fS)), (dw, .inr (3, [.long x0]))] sz) [(h0, .inr (10, [.ref tp, h0_courtReader, h0_lawReader, h0_draft, .ref aC, h0_laws, .ref g0, .ref k0, .ref ac, .ref sd, .ref mi, .ref dw, .ref rf, .int lc, .int lh, .int br, .int hi])), (aC, .inr (1, [.ref aR, .ref aB, .ref aP, .int nb, .int np])), (aB, .inl (cI, 24, .inl fb)), (aP, .inl (cI, 20, .inl fp)), (g0, .inr (7, [.ref gY, .ref gF, .ref gP, .int u.1, .int glt, .int gsh, .int gwd, .int u.2.1, .int u.2.2.1])), (gY, .inl (cI, 6, .inl u.2.2.2.1)), (gF, .inl (cI, 5, .inl gfF)), (gP, .inl (cI, 80, .inl u.2.2.2.2.1)), (ac, .inr (0, [.ref aW, .int u.2.2.2.2.2.1, .int u.2.2.2.2.2.2.1])), (aW, .inl (cI, 680, .inl u.2.2.2.2.2.2.2.1)), (sd, .inr (8, [.ref w1, .ref w2, .ref aC, .ref g0, .ref aL, .ref aK, .ref lw])), (aL, .inl (cI, 6, .inl u.2.2.2.2.2.2.2.2.1)), (aK, .inl (cI, 32, .inl u.2.2.2.2.2.2.2.2.2.1)), (lw, .inr (4, [.ref lS])), (lS, .inl (cI, lk, .inl fS)), (dw, .inr (3, [.long u.2.2.2.2.2.2.2.2.2.2]))]) (va_A [(h0, .inr (10, [.ref tp, h0_courtReader, h0_lawReader, h0_draft, .ref aC, h0_laws, .ref g0, .ref k0, .ref ac, .ref sd, .ref mi, .ref dw, .ref rf, .int lc, .int lh, .int br, .int hi])), (aC, .inr (1, [.ref aR, .ref aB, .ref aP, .int nb, .int np])), (aB, .inl (cI, 24, .inl fb)), (aP, .inl (cI, 20, .inl fp)), (g0, .inr (7, [.ref gY, .ref gF, .ref gP, .int gpn, .int glt, .int gsh, .int gwd, .int gpu, .int gmo])), (gY, .inl (cI, 6, .inl gfY)), (gF, .inl (cI, 5, .inl gfF)), (gP, .inl (cI, 80, .inl gfP)), (ac, .inr (0, [.ref aW, .int pl, .int cn])), (aW, .inl (cI, 680, .inl fR)), (sd, .inr (8, [.ref w1, .ref w2, .ref aC, .ref g0, .ref aL, .ref aK, .ref lw])), (aL, .inl (cI, 6, .inl fL)), (aK, .inl (cI, 32, .inl fK)), (lw, .inr (4, [.ref lS])), (lS, .inl (cI, lk, .inl fS)), (dw, .inr (3, [.long x0]))] sz)) 0 0 (va_A [(h0, .inr (10, [.ref tp, h0_courtReader, h0_lawReader, h0_draft, .ref aC, h0_laws, .ref g0, .ref k0, .ref ac, .ref sd, .ref mi, .ref dw, .ref rf, .int lc, .int lh, .int br, .int hi])), (aC, .inr (1, [.ref aR, .ref aB, .ref aP, .int nb, .int np])), (aB, .inl (cI, 24, .inl fb)), (aP, .inl (cI, 20, .inl fp)), (g0, .inr (7, [.ref gY, .ref gF, .ref gP, .int gpn, .int glt, .int gsh, .int gwd, .int gpu, .int gmo])), (gY, .inl (cI, 6, .inl gfY)), (gF, .inl (cI, 5, .inl gfF)), (gP, .inl (cI, 80, .inl gfP)), (ac, .inr (0, [.ref aW, .int pl, .int cn])), (aW, .inl (cI, 680, .inl fR)), (sd, .inr (8, [.ref w1, .ref w2, .ref aC, .ref g0, .ref aL, .ref aK, .ref lw])), (aL, .inl (cI, 6, .inl fL)), (aK, .inl (cI, 32, .inl fK)), (lw, .inr (4, [.ref lS])), (lS, .inl (cI, lk, .inl fS)), (dw, .inr (3, [.long x0]))] sz) := by
  refine Met.ofW (cc := cX10_decades) (maxL := 5) (ret := (some .int)) (by decide) rfl ?_
  intro p e s m args below meth c s₁ B hml hv
  have y_gwd : zHid ((-1) ≤ gwd.toInt ∧ gwd.toInt ≤ 5) := n_gwd
  have y_hi : zHid (0 ≤ hi.toInt ∧ hi.toInt ≤ 1) := n_hi
  have y_lc : zHid (0 ≤ lc.toInt ∧ lc.toInt ≤ 4) := n_lc
  clear n_gwd n_hi n_lc
  obtain ⟨hargs, hsz, hP, hK, hT⟩ := hv
  have hx := B.exec
  have hb := B.bytes
  have hr := B.returns
  have hts : ∀ w ∈ wA, w.before args s = true := fun w h => atoms_spec (ws := .code yX10_decades cX10_decades 5 (some .int) :: wA) B.pre w (List.mem_cons_of_mem _ h)
  have hown : s.vm.findClass RX10 = some m.cls := findClass_of_methodNamed B.named
  have hlocks := B.notSynchronized
  subst hsz
  have hD := hT.self (sz := s.heap.size)
  generalize hAe : va_A [(h0, .inr (10, [.ref tp, h0_courtReader, h0_lawReader, h0_draft, .ref aC, h0_laws, .ref g0, .ref k0, .ref ac, .ref sd, .ref mi, .ref dw, .ref rf, .int lc, .int lh, .int br, .int hi])), (aC, .inr (1, [.ref aR, .ref aB, .ref aP, .int nb, .int np])), (aB, .inl (cI, 24, .inl fb)), (aP, .inl (cI, 20, .inl fp)), (g0, .inr (7, [.ref gY, .ref gF, .ref gP, .int gpn, .int glt, .int gsh, .int gwd, .int gpu, .int gmo])), (gY, .inl (cI, 6, .inl gfY)), (gF, .inl (cI, 5, .inl gfF)), (gP, .inl (cI, 80, .inl gfP)), (ac, .inr (0, [.ref aW, .int pl, .int cn])), (aW, .inl (cI, 680, .inl fR)), (sd, .inr (8, [.ref w1, .ref w2, .ref aC, .ref g0, .ref aL, .ref aK, .ref lw])), (aL, .inl (cI, 6, .inl fL)), (aK, .inl (cI, 32, .inl fK)), (lw, .inr (4, [.ref lS])), (lS, .inl (cI, lk, .inl fS)), (dw, .inr (3, [.long x0]))] s.heap.size = A at hD ⊢
  have hA : ∀ q : Nat, s.heap.size ≤ q → A q := fun q h => by rw [← hAe]; exact Or.inr h
  have hl := lv_entry ([.ref h0, .int p0, .long p1]) (n := 5) (Nat.le_of_ble_eq_true rfl)
  rw [show entryFrame m args 5 = entryFrame m ([.ref h0, .int p0, .long p1] : List Value).toArray 5 by rw [hargs], lg_entry_eq]
  generalize (lg_sl ([.ref h0, .int p0, .long p1]) ++ List.replicate (5 - (lg_sl ([.ref h0, .int p0, .long p1])).length) Slot.unset).toArray = ls at hl ⊢
  have hl : lv_has ls 5 [(0, .ref h0), (1, .int p0), (2, .long p1)] := hl
  refine zstart (fun H hH => ?_)
  rw [← hH] at hP
  have hS : va_S A s.heap H [] := by rw [hH]; exact va_S.rf
  generalize ([] : List Loc) = locs at hS ⊢
  refine zgen (fun R Q hR hQ => ?_)
  refine lv_aload_n hx hb dX10_decades_0 rfl (lv_at hl 0 rfl) ?_
  obtain ⟨hPc, hDc⟩ := zc2 (wc := [(h0, .inr (10, [.ref tp, h0_courtReader, h0_lawReader, h0_draft, .ref aC, h0_laws, .ref g0, .ref k0, .ref ac, .ref sd, .ref mi, .ref dw, .ref rf, .int lc, .int lh, .int br, .int hi])), (aC, .inr (1, [.ref aR, .ref aB, .ref aP, .int nb, .int np]))]) hP hD [0, 1] (by decide +kernel) rfl
  have hFc := zfr hS hA
  refine va_calli (va_runV (As := []) (rest := []) ⟨hx, hb, hml, hown, hts⟩ (g_X10_hasCourt l dC dI cI cJ h0 (.ref tp) h0_courtReader h0_lawReader h0_draft aC h0_laws (.ref g0) (.ref k0) (.ref ac) (.ref sd) (.ref mi) (.ref dw) (.ref rf) (.int lc) (.int lh) (.int br) (.int hi) aR aB aP nb np H.size) (cwV 0 hts (zgV qw584 qw586 qw10 qw98 qw587) rfl rfl rfl hd_X10_hasCourt ⟨by rw [hR]; exact Nat.le_of_ble_eq_true rfl, by rw [hR]; exact Nat.le_of_ble_eq_true rfl⟩) (zPV hPc hK hDc (va_recv (q := (RX10, TX10, 17)) hK hP (ci := 10) (q0 := 0) rfl rfl)) rfl rfl hl.1 rfl (lv_room (Nat.le_of_ble_eq_true rfl)) dX10_decades_1 ⟨Nat.zero_le _, Nat.zero_le _⟩) hS (fun q _ h => hFc q h) hFc (fun v1 u1 t H locs ht hvm hw hB hz1 hk1 hS9 => ?_)
  replace hP := zkeep hP hk1
  replace hS := hS9
  clear hPc hDc hFc hk1 hz1 hvm hS9
  obtain ⟨f1_0, f1_1, f1_2, f1_3⟩ : (0 ≤ v1.toInt) ∧ (v1.toInt ≤ 1) ∧ (¬ v1.toInt = 0 → 0 < nb.toInt) ∧ (v1.toInt = 0 → nb.toInt ≤ 0) := hw
  refine lv_if_eq (tgt := 33) hx hb dX10_decades_4 (by decide) (fun c4 => ?_) (fun c4 => ?_)
  · have c4 : v1.toInt = 0 := z5 rfl (by decide) c4
    refine lv_iconst (v := (-1)) hx hb dX10_decades_33 (by decide) ?_
    have zr0 : ((-1) : Int32).toInt = (-1) := by decide
    rw [hQ]
    exact W.iret (v := ((-1))) hx hb hr (fun t ht hW => ⟨⟨(-1), (gpn, gpu, gmo, gfY, gfP, pl, cn, fR, fL, fK, x0), rfl, ⟨by (try dsimp only); omega, by (try dsimp only); omega, by (try dsimp only); omega, by (try dsimp only); omega, by (try dsimp only); omega, by (try dsimp only); omega, by (try dsimp only); exact fun kc kT q_fr q_frf kt hc hb h ht => by have zm := congrArg Int32.toInt (zSc_mo h.1); have zb := hb.2.2.2.1.2.2.2.1; unfold sV_dec sT_dec; rw [if_neg (by unfold sQ_dec; omega), if_neg (by unfold sQ_dec; omega)]; exact ⟨rfl, h⟩, ci_fR_zRw, ci_gfP_zPo⟩, ⟨by rw [ht]; exact hP, hD⟩⟩, hS.F ht⟩) hS.2.2 dX10_decades_34
  · have c4 : ¬ v1.toInt = 0 := z6 rfl (by decide) c4
    refine lv_iload_n hx hb dX10_decades_7 rfl (lv_at hl 1 rfl) ?_
    refine lv_iconst (v := 1) hx hb dX10_decades_8 (by decide) ?_
    refine lv_icmp_lt (tgt := 33) hx hb dX10_decades_9 (by decide) (fun c9 => ?_) (fun c9 => ?_)
    · have c9 : p0.toInt < 1 := z1 rfl (by decide) c9
      refine lv_iconst (v := (-1)) hx hb dX10_decades_33 (by decide) ?_
      have zr0 : ((-1) : Int32).toInt = (-1) := by decide
      rw [hQ]
      exact W.iret (v := ((-1))) hx hb hr (fun t ht hW => ⟨⟨(-1), (gpn, gpu, gmo, gfY, gfP, pl, cn, fR, fL, fK, x0), rfl, ⟨by (try dsimp only); omega, by (try dsimp only); omega, by (try dsimp only); omega, by (try dsimp only); omega, by (try dsimp only); omega, by (try dsimp only); omega, by (try dsimp only); exact fun kc kT q_fr q_frf kt hc hb h ht => by have zm := congrArg Int32.toInt (zSc_mo h.1); have zb := hb.2.2.2.1.2.2.2.1; unfold sV_dec sT_dec; rw [if_neg (by unfold sQ_dec; omega), if_neg (by unfold sQ_dec; omega)]; exact ⟨rfl, h⟩, ci_fR_zRw, ci_gfP_zPo⟩, ⟨by rw [ht]; exact hP, hD⟩⟩, hS.F ht⟩) hS.2.2 dX10_decades_34
    · have c9 : 1 ≤ p0.toInt := z2 rfl (by decide) c9
      refine lv_iload_n hx hb dX10_decades_12 rfl (lv_at hl 1 rfl) ?_
      refine lv_bipush (v := 60) hx hb dX10_decades_13 (by decide) ?_
      refine lv_icmp_gt (tgt := 33) hx hb dX10_decades_15 (by decide) (fun c15 => ?_) (fun c15 => ?_)
      · have c15 : 60 < p0.toInt := z1 (by decide) rfl c15
        refine lv_iconst (v := (-1)) hx hb dX10_decades_33 (by decide) ?_
        have zr0 : ((-1) : Int32).toInt = (-1) := by decide
        rw [hQ]
        exact W.iret (v := ((-1))) hx hb hr (fun t ht hW => ⟨⟨(-1), (gpn, gpu, gmo, gfY, gfP, pl, cn, fR, fL, fK, x0), rfl, ⟨by (try dsimp only); omega, by (try dsimp only); omega, by (try dsimp only); omega, by (try dsimp only); omega, by (try dsimp only); omega, by (try dsimp only); omega, by (try dsimp only); exact fun kc kT q_fr q_frf kt hc hb h ht => by have zm := congrArg Int32.toInt (zSc_mo h.1); have zb := hb.2.2.2.1.2.2.2.1; unfold sV_dec sT_dec; rw [if_neg (by unfold sQ_dec; omega), if_neg (by unfold sQ_dec; omega)]; exact ⟨rfl, h⟩, ci_fR_zRw, ci_gfP_zPo⟩, ⟨by rw [ht]; exact hP, hD⟩⟩, hS.F ht⟩) hS.2.2 dX10_decades_34
      · have c15 : p0.toInt ≤ 60 := z2 (by decide) rfl c15
        refine lv_aload_n hx hb dX10_decades_18 rfl (lv_at hl 0 rfl) ?_
        refine va_get (D := (dC, dI)) (ci := 10) (v := .ref g0) (C := RX10) (T := TX10) (N := 17) hx hb hts iX10 hown hK hP 0 rfl rfl 6 (by decide) (hts _ qw362) (fun _ h9 => h9) rfl dX10_decades_19 ?_
        refine va_get (D := (dC, dI)) (ci := 7) (v := .int gmo) (C := RX7) (T := TX7) (N := 9) hx hb hts iX7 hown hK hP 4 rfl rfl 8 (by decide) (hts _ qw242) (fun _ h9 => h9) rfl dX10_decades_22 ?_
        refine lv_iload_n hx hb dX10_decades_25 rfl (lv_at hl 1 rfl) ?_
        refine lv_iadd hx hb dX10_decades_26 ?_
        refine lv_topi (fun v26 e26 => ?_)
        refine lv_sipush (v := 999) hx hb dX10_decades_27 (by decide) ?_
        refine lv_icmp_le (tgt := 35) hx hb dX10_decades_30 (by decide) (fun c30 => ?_) (fun c30 => ?_)
        · have c30 : v26.toInt ≤ 999 := z3 rfl (by decide) c30
          refine lv_aload_n hx hb dX10_decades_35 rfl (lv_at hl 0 rfl) ?_
          refine va_get (D := (dC, dI)) (ci := 10) (v := .ref dw) (C := RX10) (T := TX10) (N := 17) hx hb hts iX10 hown hK hP 0 rfl rfl 11 (by decide) (hts _ qw367) (fun _ h9 => h9) rfl dX10_decades_36 ?_
          refine lv_lload_n hx hb dX10_decades_39 rfl (lv_at hl 2 rfl) ?_
          obtain ⟨hPc, hDc, hFc⟩ := zc3 (wc := [(dw, .inr (3, [.long x0]))]) hP hD hS hA [15] (by decide +kernel) rfl
          refine va_callv (va_runV (As := [.long p1]) (rest := []) ⟨hx, hb, hml, hown, hts⟩ (g_X3_begin l dC dI cI cJ dw p1 x0 H.size) (cwV 1 hts (zgV qw776 qw777 qw778 qw107 qw779) rfl rfl rfl hd_X3_begin ⟨by rw [hR]; exact Nat.le_of_ble_eq_true rfl, by rw [hR]; exact Nat.le_of_ble_eq_true rfl⟩) (zPV hPc hK hDc (va_recv (q := (RX3, TX3, 1)) hK hP (ci := 3) (q0 := 15) rfl rfl)) rfl rfl hl.1 rfl (lv_room (Nat.le_of_ble_eq_true rfl)) dX10_decades_40 ⟨Nat.zero_le _, Nat.zero_le _⟩) hS (fun q _ h => hFc q h) hFc (fun u40 t H locs ht hvm hw hB hz1 hk1 hS9 => ?_)
          obtain ⟨hP9, hD9⟩ := zj2 (wX := [(h0, .inr (10, [.ref tp, h0_courtReader, h0_lawReader, h0_draft, .ref aC, h0_laws, .ref g0, .ref k0, .ref ac, .ref sd, .ref mi, .ref dw, .ref rf, .int lc, .int lh, .int br, .int hi])), (aC, .inr (1, [.ref aR, .ref aB, .ref aP, .int nb, .int np])), (aB, .inl (cI, 24, .inl fb)), (aP, .inl (cI, 20, .inl fp)), (g0, .inr (7, [.ref gY, .ref gF, .ref gP, .int gpn, .int glt, .int gsh, .int gwd, .int gpu, .int gmo])), (gY, .inl (cI, 6, .inl gfY)), (gF, .inl (cI, 5, .inl gfF)), (gP, .inl (cI, 80, .inl gfP)), (ac, .inr (0, [.ref aW, .int pl, .int cn])), (aW, .inl (cI, 680, .inl fR)), (sd, .inr (8, [.ref w1, .ref w2, .ref aC, .ref g0, .ref aL, .ref aK, .ref lw])), (aL, .inl (cI, 6, .inl fL)), (aK, .inl (cI, 32, .inl fK)), (lw, .inr (4, [.ref lS])), (lS, .inl (cI, lk, .inl fS)), (dw, .inr (3, [.long p1]))]) hP hD hk1 hFc ht hB [15] [(false, 0), (false, 1), (false, 2), (false, 3), (false, 4), (false, 5), (false, 6), (false, 7), (false, 8), (false, 9), (false, 10), (false, 11), (false, 12), (false, 13), (false, 14), (true, 0)] rfl (by decide +kernel) (by decide +kernel) rfl
          clear hP hD hS hPc hDc hFc hB hk1 hz1 hvm
          have hP := hP9
          have hD := hD9
          have hS := hS9
          clear hP9 hD9 hS9
          refine lv_iconst (v := 0) hx hb dX10_decades_43 (by decide) ?_
          have J46 : ∀ (n : Nat) (m46_A_aK : Nat → Int32) (m46_A_aL : Nat → Int32) (m46_A_aW : Nat → Int32) (m46_A_gP : Nat → Int32) (m46_A_gY : Nat → Int32) (m46_F_ac_1 : Int32) (m46_F_ac_2 : Int32) (m46_F_dw_0 : Int64) (m46_F_g0_3 : Int32) (m46_F_g0_7 : Int32) (m46_F_g0_8 : Int32) (m46_L_4 : Int32), (0 ≤ m46_F_ac_1.toInt ∧ m46_F_ac_1.toInt ≤ 39) → (0 ≤ m46_F_ac_2.toInt ∧ m46_F_ac_2.toInt ≤ 40) → (0 ≤ m46_F_g0_3.toInt ∧ m46_F_g0_3.toInt ≤ 20) → (0 ≤ m46_L_4.toInt ∧ m46_L_4.toInt ≤ 60) → (∀ (kc : zK3) (kT : zT) (q_fr : Nat → Int32) (q_frf : Nat → Int32) (kt : (Int → Int) × Int), zCn q_fr fb fp nb.toInt np.toInt kc → zKo nb.toInt np.toInt kc kT → zTc nb.toInt np.toInt kT gfY gfF gfP gpn glt gsh gwd gpu gmo fR pl cn q_frf → zLwC fS lk kt → zTc nb.toInt np.toInt (sDec nb np br kc (some kt) kT p1 m46_L_4.toInt.toNat).1 m46_A_gY gfF m46_A_gP m46_F_g0_3 glt gsh gwd m46_F_g0_7 m46_F_g0_8 m46_A_aW m46_F_ac_1 m46_F_ac_2 q_frf ∧ m46_F_dw_0 = (sDec nb np br kc (some kt) kT p1 m46_L_4.toInt.toNat).2) → (m46_L_4.toInt ≤ p0.toInt) → (zRw m46_A_aW) → (zPo m46_A_gP) → (61 - m46_L_4.toInt).toNat = n → ∀ (H : Heap) (locs : List Loc) (ls : Array Slot), va_P (dC, dI) vwCl [(h0, .inr (10, [.ref tp, h0_courtReader, h0_lawReader, h0_draft, .ref aC, h0_laws, .ref g0, .ref k0, .ref ac, .ref sd, .ref mi, .ref dw, .ref rf, .int lc, .int lh, .int br, .int hi])), (aC, .inr (1, [.ref aR, .ref aB, .ref aP, .int nb, .int np])), (aB, .inl (cI, 24, .inl fb)), (aP, .inl (cI, 20, .inl fp)), (g0, .inr (7, [.ref gY, .ref gF, .ref gP, .int m46_F_g0_3, .int glt, .int gsh, .int gwd, .int m46_F_g0_7, .int m46_F_g0_8])), (gY, .inl (cI, 6, .inl m46_A_gY)), (gF, .inl (cI, 5, .inl gfF)), (gP, .inl (cI, 80, .inl m46_A_gP)), (ac, .inr (0, [.ref aW, .int m46_F_ac_1, .int m46_F_ac_2])), (aW, .inl (cI, 680, .inl m46_A_aW)), (sd, .inr (8, [.ref w1, .ref w2, .ref aC, .ref g0, .ref aL, .ref aK, .ref lw])), (aL, .inl (cI, 6, .inl m46_A_aL)), (aK, .inl (cI, 32, .inl m46_A_aK)), (lw, .inr (4, [.ref lS])), (lS, .inl (cI, lk, .inl fS)), (dw, .inr (3, [.long m46_F_dw_0]))] H → va_D A [(h0, .inr (10, [.ref tp, h0_courtReader, h0_lawReader, h0_draft, .ref aC, h0_laws, .ref g0, .ref k0, .ref ac, .ref sd, .ref mi, .ref dw, .ref rf, .int lc, .int lh, .int br, .int hi])), (aC, .inr (1, [.ref aR, .ref aB, .ref aP, .int nb, .int np])), (aB, .inl (cI, 24, .inl fb)), (aP, .inl (cI, 20, .inl fp)), (g0, .inr (7, [.ref gY, .ref gF, .ref gP, .int m46_F_g0_3, .int glt, .int gsh, .int gwd, .int m46_F_g0_7, .int m46_F_g0_8])), (gY, .inl (cI, 6, .inl m46_A_gY)), (gF, .inl (cI, 5, .inl gfF)), (gP, .inl (cI, 80, .inl m46_A_gP)), (ac, .inr (0, [.ref aW, .int m46_F_ac_1, .int m46_F_ac_2])), (aW, .inl (cI, 680, .inl m46_A_aW)), (sd, .inr (8, [.ref w1, .ref w2, .ref aC, .ref g0, .ref aL, .ref aK, .ref lw])), (aL, .inl (cI, 6, .inl m46_A_aL)), (aK, .inl (cI, 32, .inl m46_A_aK)), (lw, .inr (4, [.ref lS])), (lS, .inl (cI, lk, .inl fS)), (dw, .inr (3, [.long m46_F_dw_0]))] → va_S A s.heap H locs → lv_has ls 5 [(4, .int m46_L_4), (0, .ref h0), (1, .int p0), (2, .long p1)] → W p l e R s m args below meth c H locs 0 0 Q (F0 m 46 ls []) := by
            intro n46
            induction n46 using Nat.strongRecOn with
            | _ n46 ih46 =>
              intro m46_A_aK m46_A_aL m46_A_aW m46_A_gP m46_A_gY m46_F_ac_1 m46_F_ac_2 m46_F_dw_0 m46_F_g0_3 m46_F_g0_7 m46_F_g0_8 m46_L_4 jf46_0 jf46_1 jf46_2 jf46_3 jv46_0 jf46_5 jf46_6 jf46_7 hmu46 H locs ls hP hD hS hl
              refine lv_iload hx hb dX10_decades_46 (lv_at hl 0 rfl) ?_
              refine lv_iload_n hx hb dX10_decades_48 rfl (lv_at hl 2 rfl) ?_
              refine lv_icmp_ge (tgt := 84) hx hb dX10_decades_49 (by decide) (fun c49 => ?_) (fun c49 => ?_)
              · have c49 : p0.toInt ≤ m46_L_4.toInt := z3 rfl rfl c49
                refine lv_aload_n hx hb dX10_decades_84 rfl (lv_at hl 1 rfl) ?_
                refine va_get (D := (dC, dI)) (ci := 10) (v := .ref g0) (C := RX10) (T := TX10) (N := 17) hx hb hts iX10 hown hK hP 0 rfl rfl 6 (by decide) (hts _ qw362) (fun _ h9 => h9) rfl dX10_decades_85 ?_
                refine va_get (D := (dC, dI)) (ci := 7) (v := .int m46_F_g0_8) (C := RX7) (T := TX7) (N := 9) hx hb hts iX7 hown hK hP 4 rfl rfl 8 (by decide) (hts _ qw242) (fun _ h9 => h9) rfl dX10_decades_88 ?_
                rw [hQ]
                exact W.iret (v := m46_F_g0_8) hx hb hr (fun t ht hW => ⟨⟨m46_F_g0_8, (m46_F_g0_3, m46_F_g0_7, m46_F_g0_8, m46_A_gY, m46_A_gP, m46_F_ac_1, m46_F_ac_2, m46_A_aW, m46_A_aL, m46_A_aK, m46_F_dw_0), rfl, ⟨by (try dsimp only); omega, by (try dsimp only); omega, by (try dsimp only); omega, by (try dsimp only); omega, by (try dsimp only); omega, by (try dsimp only); omega, by (try dsimp only); exact fun kc kT q_fr q_frf kt hc hb h ht => by have zm := congrArg Int32.toInt (zSc_mo h.1); have zb := hb.2.2.2.1.2.2.2.1; have q : sQ_dec nb.toInt kT.1 p0 := (by unfold sQ_dec; rw [zSc_mo h.1, ← e26]; omega); have a := jv46_0 kc kT _ _ kt hc hb h ht; rw [show m46_L_4.toInt.toNat = p0.toInt.toNat by omega] at a; unfold sV_dec sT_dec; rw [if_pos q, if_pos q]; exact ⟨(zSc_mo a.1.1).symm, a.1⟩, jf46_6, jf46_7⟩, ⟨by rw [ht]; exact hP, hD⟩⟩, hS.F ht⟩) hS.2.2 dX10_decades_91
              · have c49 : m46_L_4.toInt < p0.toInt := z4 rfl rfl c49
                refine lv_aload_n hx hb dX10_decades_52 rfl (lv_at hl 1 rfl) ?_
                refine va_get (D := (dC, dI)) (ci := 10) (v := .ref ac) (C := RX10) (T := TX10) (N := 17) hx hb hts iX10 hown hK hP 0 rfl rfl 8 (by decide) (hts _ qw364) (fun _ h9 => h9) rfl dX10_decades_53 ?_
                refine lv_aload_n hx hb dX10_decades_56 rfl (lv_at hl 1 rfl) ?_
                refine va_get (D := (dC, dI)) (ci := 10) (v := .ref g0) (C := RX10) (T := TX10) (N := 17) hx hb hts iX10 hown hK hP 0 rfl rfl 6 (by decide) (hts _ qw362) (fun _ h9 => h9) rfl dX10_decades_57 ?_
                obtain ⟨hPc, hDc, hFc⟩ := zc3 (wc := [(ac, .inr (0, [.ref aW, .int m46_F_ac_1, .int m46_F_ac_2])), (aW, .inl (cI, 680, .inl m46_A_aW)), (g0, .inr (7, [.ref gY, .ref gF, .ref gP, .int m46_F_g0_3, .int glt, .int gsh, .int gwd, .int m46_F_g0_7, .int m46_F_g0_8])), (gY, .inl (cI, 6, .inl m46_A_gY)), (gF, .inl (cI, 5, .inl gfF))]) hP hD hS hA [8, 9, 4, 5, 6] (by decide +kernel) rfl
                refine va_callv (va_runV (As := [.ref g0]) (rest := []) ⟨hx, hb, hml, hown, hts⟩ (g_X0_keep l dC dI cI cJ ac g0 aW m46_F_ac_1 m46_F_ac_2 m46_A_aW gY gF gP m46_F_g0_3 glt gsh gwd m46_F_g0_7 m46_F_g0_8 m46_A_gY gfF H.size jf46_1 jf46_2 y_gwd jf46_0 jf46_6) (cwV 1 hts (zgV qw688 qw689 qw690 qw104 qw691) rfl rfl rfl hd_X0_keep ⟨by rw [hR]; exact Nat.le_of_ble_eq_true rfl, by rw [hR]; exact Nat.le_of_ble_eq_true rfl⟩) (zPV hPc hK hDc (va_recv (q := (RX0, TX0, 3)) hK hP (ci := 0) (q0 := 8) rfl rfl)) rfl rfl hl.1 rfl (lv_room (Nat.le_of_ble_eq_true rfl)) dX10_decades_60 ⟨Nat.zero_le _, Nat.zero_le _⟩) hS (fun q _ h => hFc q h) hFc (fun u60 t H locs ht hvm hw hB hz1 hk1 hS9 => ?_)
                obtain ⟨u60_0, u60_1, u60_2⟩ := u60
                obtain ⟨hP9, hD9⟩ := zj2 (wX := [(h0, .inr (10, [.ref tp, h0_courtReader, h0_lawReader, h0_draft, .ref aC, h0_laws, .ref g0, .ref k0, .ref ac, .ref sd, .ref mi, .ref dw, .ref rf, .int lc, .int lh, .int br, .int hi])), (aC, .inr (1, [.ref aR, .ref aB, .ref aP, .int nb, .int np])), (aB, .inl (cI, 24, .inl fb)), (aP, .inl (cI, 20, .inl fp)), (g0, .inr (7, [.ref gY, .ref gF, .ref gP, .int m46_F_g0_3, .int glt, .int gsh, .int gwd, .int m46_F_g0_7, .int m46_F_g0_8])), (gY, .inl (cI, 6, .inl m46_A_gY)), (gF, .inl (cI, 5, .inl gfF)), (gP, .inl (cI, 80, .inl m46_A_gP)), (ac, .inr (0, [.ref aW, .int u60_0, .int u60_1])), (aW, .inl (cI, 680, .inl u60_2)), (sd, .inr (8, [.ref w1, .ref w2, .ref aC, .ref g0, .ref aL, .ref aK, .ref lw])), (aL, .inl (cI, 6, .inl m46_A_aL)), (aK, .inl (cI, 32, .inl m46_A_aK)), (lw, .inr (4, [.ref lS])), (lS, .inl (cI, lk, .inl fS)), (dw, .inr (3, [.long m46_F_dw_0]))]) hP hD hk1 hFc ht hB [8, 9, 4, 5, 6] [(false, 0), (false, 1), (false, 2), (false, 3), (true, 2), (true, 3), (true, 4), (false, 7), (true, 0), (true, 1), (false, 10), (false, 11), (false, 12), (false, 13), (false, 14), (false, 15)] rfl (by decide +kernel) (by decide +kernel) rfl
                clear hP hD hS hPc hDc hFc hB hk1 hz1 hvm
                have hP := hP9
                have hD := hD9
                have hS := hS9
                clear hP9 hD9 hS9
                obtain ⟨f60_0, f60_1, f60_2, f60_3, f60_4, f60_5⟩ : (0 ≤ u60_0.toInt) ∧ (u60_0.toInt ≤ 39) ∧ (1 ≤ u60_1.toInt) ∧ (u60_1.toInt ≤ 40) ∧ (∀ (nbI npI : Int) (S : zS) (Ks : List zS) (P : Nat → Int32), nbI ≤ 6 → npI ≤ 5 → zSc nbI npI S m46_A_gY gfF P m46_F_g0_3 glt gsh gwd m46_F_g0_7 m46_F_g0_8 → zKc nbI npI Ks P m46_A_aW m46_F_ac_1 m46_F_ac_2 → zKc nbI npI (sKeep S Ks) P u60_2 u60_0 u60_1) ∧ (zRw u60_2) := hw
                have F60 := f60_4
                refine lv_aload_n hx hb dX10_decades_63 rfl (lv_at hl 1 rfl) ?_
                obtain ⟨hPc, hDc, hFc⟩ := zc3 (wc := [(h0, .inr (10, [.ref tp, h0_courtReader, h0_lawReader, h0_draft, .ref aC, h0_laws, .ref g0, .ref k0, .ref ac, .ref sd, .ref mi, .ref dw, .ref rf, .int lc, .int lh, .int br, .int hi])), (aC, .inr (1, [.ref aR, .ref aB, .ref aP, .int nb, .int np])), (aB, .inl (cI, 24, .inl fb)), (aP, .inl (cI, 20, .inl fp)), (g0, .inr (7, [.ref gY, .ref gF, .ref gP, .int m46_F_g0_3, .int glt, .int gsh, .int gwd, .int m46_F_g0_7, .int m46_F_g0_8])), (gY, .inl (cI, 6, .inl m46_A_gY)), (gF, .inl (cI, 5, .inl gfF)), (gP, .inl (cI, 80, .inl m46_A_gP)), (sd, .inr (8, [.ref w1, .ref w2, .ref aC, .ref g0, .ref aL, .ref aK, .ref lw])), (aL, .inl (cI, 6, .inl m46_A_aL)), (aK, .inl (cI, 32, .inl m46_A_aK)), (lw, .inr (4, [.ref lS])), (lS, .inl (cI, lk, .inl fS)), (dw, .inr (3, [.long m46_F_dw_0]))]) hP hD hS hA [0, 1, 2, 3, 4, 5, 6, 7, 10, 11, 12, 13, 14, 15] (by decide +kernel) rfl
                refine va_callv (va_runV (As := []) (rest := []) ⟨hx, hb, hml, hown, hts⟩ (g_X10_paintByDraws_l l dC dI cI cJ h0 tp h0_courtReader h0_lawReader h0_draft aC h0_laws g0 k0 ac sd mi dw rf lc lh br hi aR aB aP nb np fb fp gY gF gP m46_F_g0_3 glt gsh gwd m46_F_g0_7 m46_F_g0_8 m46_A_gY gfF m46_A_gP w1 w2 aL aK lw m46_A_aL m46_A_aK lS fS lk m46_F_dw_0 H.size jf46_2 y_gwd y_hi y_lc n_nb n_np (hlk) ci_fS_zSt jf46_7) (cwV 0 hts (zgV qw780 qw782 qw17 qw98 qw783) rfl rfl rfl hd_X10_paintByDraws ⟨by rw [hR]; exact Nat.le_of_ble_eq_true rfl, by rw [hR]; exact Nat.le_of_ble_eq_true rfl⟩) (zPV hPc hK hDc (va_recv (q := (RX10, TX10, 17)) hK hP (ci := 10) (q0 := 0) rfl rfl)) rfl rfl hl.1 rfl (lv_room (Nat.le_of_ble_eq_true rfl)) dX10_decades_64 ⟨Nat.zero_le _, Nat.zero_le _⟩) hS (fun q _ h => hFc q h) hFc (fun u64 t H locs ht hvm hw hB hz1 hk1 hS9 => ?_)
                obtain ⟨u64_0, u64_1, u64_2, u64_3, u64_4, u64_5⟩ := u64
                obtain ⟨hP9, hD9⟩ := zj2 (wX := [(h0, .inr (10, [.ref tp, h0_courtReader, h0_lawReader, h0_draft, .ref aC, h0_laws, .ref g0, .ref k0, .ref ac, .ref sd, .ref mi, .ref dw, .ref rf, .int lc, .int lh, .int br, .int hi])), (aC, .inr (1, [.ref aR, .ref aB, .ref aP, .int nb, .int np])), (aB, .inl (cI, 24, .inl fb)), (aP, .inl (cI, 20, .inl fp)), (g0, .inr (7, [.ref gY, .ref gF, .ref gP, .int u64_0, .int glt, .int gsh, .int gwd, .int u64_1, .int m46_F_g0_8])), (gY, .inl (cI, 6, .inl m46_A_gY)), (gF, .inl (cI, 5, .inl gfF)), (gP, .inl (cI, 80, .inl u64_2)), (ac, .inr (0, [.ref aW, .int u60_0, .int u60_1])), (aW, .inl (cI, 680, .inl u60_2)), (sd, .inr (8, [.ref w1, .ref w2, .ref aC, .ref g0, .ref aL, .ref aK, .ref lw])), (aL, .inl (cI, 6, .inl u64_3)), (aK, .inl (cI, 32, .inl u64_4)), (lw, .inr (4, [.ref lS])), (lS, .inl (cI, lk, .inl fS)), (dw, .inr (3, [.long u64_5]))]) hP hD hk1 hFc ht hB [0, 1, 2, 3, 4, 5, 6, 7, 10, 11, 12, 13, 14, 15] [(true, 0), (true, 1), (true, 2), (true, 3), (true, 4), (true, 5), (true, 6), (true, 7), (false, 8), (false, 9), (true, 8), (true, 9), (true, 10), (true, 11), (true, 12), (true, 13)] rfl (by decide +kernel) (by decide +kernel) rfl
                clear hP hD hS hPc hDc hFc hB hk1 hz1 hvm
                have hP := hP9
                have hD := hD9
                have hS := hS9
                clear hP9 hD9 hS9
                obtain ⟨f64_0, f64_1, f64_2, f64_3⟩ : (0 ≤ u64_0.toInt) ∧ (u64_0.toInt ≤ 20) ∧ (∀ (kc : zK3) (kT : zT) (q_fr : Nat → Int32) (kt : (Int → Int) × Int), zCn q_fr fb fp nb.toInt np.toInt kc → zKo nb.toInt np.toInt kc kT → zSc nb.toInt np.toInt kT.1 m46_A_gY gfF m46_A_gP m46_F_g0_3 glt gsh gwd m46_F_g0_7 m46_F_g0_8 → zLwC fS lk kt → 1 ≤ nb.toInt → 1 ≤ np.toInt → zSc nb.toInt np.toInt (sDp nb np kc (some kt) kT.1 m46_F_dw_0) m46_A_gY gfF u64_2 u64_0 glt gsh gwd u64_1 m46_F_g0_8 ∧ u64_5 = sNx (sNx m46_F_dw_0) ∧ ∀ i : Nat, (i : Int) < 4 * m46_F_g0_3.toInt → u64_2 i = m46_A_gP i) ∧ (zPo u64_2) := hw
                have F64 := f64_2
                refine lv_aload_n hx hb dX10_decades_67 rfl (lv_at hl 1 rfl) ?_
                obtain ⟨hPc, hDc, hFc⟩ := zc3 (wc := [(h0, .inr (10, [.ref tp, h0_courtReader, h0_lawReader, h0_draft, .ref aC, h0_laws, .ref g0, .ref k0, .ref ac, .ref sd, .ref mi, .ref dw, .ref rf, .int lc, .int lh, .int br, .int hi])), (aC, .inr (1, [.ref aR, .ref aB, .ref aP, .int nb, .int np])), (g0, .inr (7, [.ref gY, .ref gF, .ref gP, .int u64_0, .int glt, .int gsh, .int gwd, .int u64_1, .int m46_F_g0_8])), (gY, .inl (cI, 6, .inl m46_A_gY)), (dw, .inr (3, [.long u64_5]))]) hP hD hS hA [0, 1, 4, 5, 15] (by decide +kernel) rfl
                refine va_callv (va_runV (As := []) (rest := []) ⟨hx, hb, hml, hown, hts⟩ (g_X10_payByDraws l dC dI cI cJ h0 tp h0_courtReader h0_lawReader h0_draft aC h0_laws g0 k0 ac sd mi dw rf lc lh br hi aR aB aP nb np gY gF gP u64_0 glt gsh gwd u64_1 m46_F_g0_8 m46_A_gY u64_5 H.size ⟨f64_0, f64_1⟩ y_gwd y_hi y_lc n_nb n_np) (cwV 0 hts (zgV qw790 qw792 qw18 qw98 qw793) rfl rfl rfl hd_X10_payByDraws ⟨by rw [hR]; exact Nat.le_of_ble_eq_true rfl, by rw [hR]; exact Nat.le_of_ble_eq_true rfl⟩) (zPV hPc hK hDc (va_recv (q := (RX10, TX10, 17)) hK hP (ci := 10) (q0 := 0) rfl rfl)) rfl rfl hl.1 rfl (lv_room (Nat.le_of_ble_eq_true rfl)) dX10_decades_68 ⟨Nat.zero_le _, Nat.zero_le _⟩) hS (fun q _ h => hFc q h) hFc (fun u68 t H locs ht hvm hw hB hz1 hk1 hS9 => ?_)
                obtain ⟨u68_0, u68_1⟩ := u68
                obtain ⟨hP9, hD9⟩ := zj2 (wX := [(h0, .inr (10, [.ref tp, h0_courtReader, h0_lawReader, h0_draft, .ref aC, h0_laws, .ref g0, .ref k0, .ref ac, .ref sd, .ref mi, .ref dw, .ref rf, .int lc, .int lh, .int br, .int hi])), (aC, .inr (1, [.ref aR, .ref aB, .ref aP, .int nb, .int np])), (aB, .inl (cI, 24, .inl fb)), (aP, .inl (cI, 20, .inl fp)), (g0, .inr (7, [.ref gY, .ref gF, .ref gP, .int u64_0, .int glt, .int gsh, .int gwd, .int u64_1, .int m46_F_g0_8])), (gY, .inl (cI, 6, .inl u68_0)), (gF, .inl (cI, 5, .inl gfF)), (gP, .inl (cI, 80, .inl u64_2)), (ac, .inr (0, [.ref aW, .int u60_0, .int u60_1])), (aW, .inl (cI, 680, .inl u60_2)), (sd, .inr (8, [.ref w1, .ref w2, .ref aC, .ref g0, .ref aL, .ref aK, .ref lw])), (aL, .inl (cI, 6, .inl u64_3)), (aK, .inl (cI, 32, .inl u64_4)), (lw, .inr (4, [.ref lS])), (lS, .inl (cI, lk, .inl fS)), (dw, .inr (3, [.long u68_1]))]) hP hD hk1 hFc ht hB [0, 1, 4, 5, 15] [(true, 0), (true, 1), (false, 2), (false, 3), (true, 2), (true, 3), (false, 6), (false, 7), (false, 8), (false, 9), (false, 10), (false, 11), (false, 12), (false, 13), (false, 14), (true, 4)] rfl (by decide +kernel) (by decide +kernel) rfl
                clear hP hD hS hPc hDc hFc hB hk1 hz1 hvm
                have hP := hP9
                have hD := hD9
                have hS := hS9
                clear hP9 hD9 hS9
                have f68_0 : (∀ (npq : Int) (kS : zS) (q_gfF q_gfP : Nat → Int32), 1 ≤ nb.toInt → zSc nb.toInt npq kS m46_A_gY q_gfF q_gfP u64_0 glt gsh gwd u64_1 m46_F_g0_8 → zSc nb.toInt npq (sDq nb br kS u64_5) u68_0 q_gfF q_gfP u64_0 glt gsh gwd u64_1 m46_F_g0_8 ∧ u68_1 = sDx br u64_5) := hw
                have F68 := f68_0
                refine lv_aload_n hx hb dX10_decades_71 rfl (lv_at hl 1 rfl) ?_
                refine va_get (D := (dC, dI)) (ci := 10) (v := .ref g0) (C := RX10) (T := TX10) (N := 17) hx hb hts iX10 hown hK hP 0 rfl rfl 6 (by decide) (hts _ qw362) (fun _ h9 => h9) rfl dX10_decades_72 ?_
                obtain ⟨hPc, hDc, hFc⟩ := zc3 (wc := [(g0, .inr (7, [.ref gY, .ref gF, .ref gP, .int u64_0, .int glt, .int gsh, .int gwd, .int u64_1, .int m46_F_g0_8]))]) hP hD hS hA [4] (by decide +kernel) rfl
                refine va_callv (va_runV (As := []) (rest := []) ⟨hx, hb, hml, hown, hts⟩ (g_X7_passMonth l dC dI cI cJ g0 gY gF gP u64_0 glt gsh gwd u64_1 m46_F_g0_8 H.size) (cwV 0 hts (zgV qw763 qw764 qw765 qw103 qw766) rfl rfl rfl hd_X7_passMonth ⟨by rw [hR]; exact Nat.le_of_ble_eq_true rfl, by rw [hR]; exact Nat.le_of_ble_eq_true rfl⟩) (zPV hPc hK hDc (va_recv (q := (RX7, TX7, 9)) hK hP (ci := 7) (q0 := 4) rfl rfl)) rfl rfl hl.1 rfl (lv_room (Nat.le_of_ble_eq_true rfl)) dX10_decades_75 ⟨Nat.zero_le _, Nat.zero_le _⟩) hS (fun q _ h => hFc q h) hFc (fun u75 t H locs ht hvm hw hB hz1 hk1 hS9 => ?_)
                obtain ⟨u75_0, u75_1⟩ := u75
                obtain ⟨hP9, hD9⟩ := zj2 (wX := [(h0, .inr (10, [.ref tp, h0_courtReader, h0_lawReader, h0_draft, .ref aC, h0_laws, .ref g0, .ref k0, .ref ac, .ref sd, .ref mi, .ref dw, .ref rf, .int lc, .int lh, .int br, .int hi])), (aC, .inr (1, [.ref aR, .ref aB, .ref aP, .int nb, .int np])), (aB, .inl (cI, 24, .inl fb)), (aP, .inl (cI, 20, .inl fp)), (g0, .inr (7, [.ref gY, .ref gF, .ref gP, .int u64_0, .int glt, .int gsh, .int gwd, .int u75_0, .int u75_1])), (gY, .inl (cI, 6, .inl u68_0)), (gF, .inl (cI, 5, .inl gfF)), (gP, .inl (cI, 80, .inl u64_2)), (ac, .inr (0, [.ref aW, .int u60_0, .int u60_1])), (aW, .inl (cI, 680, .inl u60_2)), (sd, .inr (8, [.ref w1, .ref w2, .ref aC, .ref g0, .ref aL, .ref aK, .ref lw])), (aL, .inl (cI, 6, .inl u64_3)), (aK, .inl (cI, 32, .inl u64_4)), (lw, .inr (4, [.ref lS])), (lS, .inl (cI, lk, .inl fS)), (dw, .inr (3, [.long u68_1]))]) hP hD hk1 hFc ht hB [4] [(false, 0), (false, 1), (false, 2), (false, 3), (true, 0), (false, 5), (false, 6), (false, 7), (false, 8), (false, 9), (false, 10), (false, 11), (false, 12), (false, 13), (false, 14), (false, 15)] rfl (by decide +kernel) (by decide +kernel) rfl
                clear hP hD hS hPc hDc hFc hB hk1 hz1 hvm
                have hP := hP9
                have hD := hD9
                have hS := hS9
                clear hP9 hD9 hS9
                obtain ⟨f75_0, f75_1⟩ : (u75_0.toInt ≤ 999) ∧ (u75_0 = sMin 999 (u64_1 + 1) ∧ u75_1 = m46_F_g0_8 + 1) := hw
                have F75 := f75_1
                obtain ⟨v78, e78⟩ : ∃ y : Int32, y = m46_L_4 + Int32.ofInt (1) := ⟨_, rfl⟩
                refine lv_iinc (v := v78) (lv' := [(4, .int v78), (0, .ref h0), (1, .int p0), (2, .long p1)]) hx hb dX10_decades_78 hl (k := 0) rfl e78.symm (by decide) rfl (fun ls hl => ?_)
                have i78 : v78.toInt = m46_L_4.toInt + 1 := zaddI e78 (by decide) (by omega) (by omega)
                refine lv_goto (tgt := 46) hx hb dX10_decades_81 (by decide) ?_
                exact ih46 _ (by omega) u64_4 u64_3 u60_2 u64_2 u68_0 u60_0 u60_1 u68_1 u64_0 u75_0 u75_1 v78 ⟨f60_0, f60_1⟩ (by omega) ⟨f64_0, f64_1⟩ (by omega) (fun kc kT q_fr q_frf kt hc hb h ht => by have zm := congrArg Int32.toInt (zSc_mo h.1); have zb := hb.2.2.2.1.2.2.2.1; have z26 : v26.toInt = gmo.toInt + p0.toInt := zadd e26 rfl rfl (by omega) (by omega); have hn1 : 1 ≤ np.toInt := (by have := hb.1.2; omega); have a := jv46_0 kc kT _ _ kt hc hb h ht; have ob := sDec_b (br := br) (c := kc) (lw := (some kt)) (x := p1) hb.2 (by omega) hn1 m46_L_4.toInt.toNat (by omega); rw [show v78.toInt.toNat = m46_L_4.toInt.toNat + 1 by omega]; have g1 := F64 kc (sDec nb np br kc (some kt) kT p1 m46_L_4.toInt.toNat).1 _ kt hc ⟨hb.1, ob.1⟩ a.1.1 ht (by omega) hn1; rw [a.2] at g1; have g2 := F68 _ _ _ _ (by omega) g1.1; rw [g1.2.1] at g2; exact ⟨zActK ob.1 a.1 (F60 _ _ (sDec nb np br kc (some kt) kT p1 m46_L_4.toInt.toNat).1.1 (sDec nb np br kc (some kt) kT p1 m46_L_4.toInt.toNat).1.2.1 _ hb.2.1.2 hb.2.2.1.2 a.1.1 a.1.2.1) (zSc_M g2.1 F75.1 F75.2) g1.2.2, g2.2⟩) (by omega) f60_5 f64_3 rfl H locs ls hP hD hS (lv_sub hl [0, 1, 2, 3] rfl)
          refine lv_istore (lv' := [(4, .int 0), (0, .ref h0), (1, .int p0), (2, .long p1)]) hx hb dX10_decades_44 hl (by decide) rfl (fun ls hl => ?_)
          have zj46_m46_L_4 : (0 : Int32).toInt = 0 := by decide
          exact J46 _ fK fL fR gfP gfY pl cn p1 gpn gpu gmo 0 n_pl n_cn n_gpn (by decide) (fun kc kT q_fr q_frf kt hc hb h ht => ⟨h, rfl⟩) (by omega) ci_fR_zRw ci_gfP_zPo rfl H locs ls hP hD hS (lv_sub hl [0, 1, 2, 3] rfl)
        · have c30 : 999 < v26.toInt := z4 rfl (by decide) c30
          refine lv_iconst (v := (-1)) hx hb dX10_decades_33 (by decide) ?_
          have zr0 : ((-1) : Int32).toInt = (-1) := by decide
          rw [hQ]
          exact W.iret (v := ((-1))) hx hb hr (fun t ht hW => ⟨⟨(-1), (gpn, gpu, gmo, gfY, gfP, pl, cn, fR, fL, fK, x0), rfl, ⟨by (try dsimp only); omega, by (try dsimp only); omega, by (try dsimp only); omega, by (try dsimp only); omega, by (try dsimp only); omega, by (try dsimp only); omega, by (try dsimp only); exact fun kc kT q_fr q_frf kt hc hb h ht => by have zm := congrArg Int32.toInt (zSc_mo h.1); have zb := hb.2.2.2.1.2.2.2.1; have z26 : (kT.1.2.2.2.1.2.1 + p0).toInt = v26.toInt := (by rw [zSc_mo h.1, ← e26]); unfold sV_dec sT_dec; rw [if_neg (by unfold sQ_dec; omega), if_neg (by unfold sQ_dec; omega)]; exact ⟨rfl, h⟩, ci_fR_zRw, ci_gfP_zPo⟩, ⟨by rw [ht]; exact hP, hD⟩⟩, hS.F ht⟩) hS.2.2 dX10_decades_34
