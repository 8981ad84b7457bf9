set_option maxHeartbeats 4000000 in
set_option maxRecDepth 100000 in
theorem g_X10_payByDraws (l : Launch) (dC : Nat → ClassId) (dI : Nat → Nat → Nat) (cI cJ : ClassId) (h0 : Nat) (tp : Nat) (h0_courtReader : Value) (h0_lawReader : Value) (h0_draft : Value) (aC : Nat) (h0_laws : Value) (g0 : Nat) (k0 : Nat) (ac : Nat) (sd : Nat) (mi : Nat) (dw : Nat) (rf : Nat) (lc : Int32) (lh : Int32) (br : Int32) (hi : Int32) (aR : Nat) (aB : Nat) (aP : Nat) (nb : Int32) (np : Int32) (gY : Nat) (gF : Nat) (gP : Nat) (gpn : Int32) (glt : Int32) (gsh : Int32) (gwd : Int32) (gpu : Int32) (gmo : Int32) (gfY : Nat → Int32) (x0 : Int64) (sz : Nat) (n_gpn : 0 ≤ gpn.toInt ∧ gpn.toInt ≤ 20) (n_gwd : (-1) ≤ gwd.toInt ∧ gwd.toInt ≤ 5) (n_hi : 0 ≤ hi.toInt ∧ hi.toInt ≤ 1) (n_lc : 0 ≤ lc.toInt ∧ lc.toInt ≤ 4) (n_nb : 0 ≤ nb.toInt ∧ nb.toInt ≤ 6) (n_np : 0 ≤ np.toInt ∧ np.toInt ≤ 5)    : Met l yX10_payByDraws (.code yX10_payByDraws cX10_payByDraws 2 none :: wA) ({ frames := 1, cells := 0, slots := 0, locals := 30 }) (zP (dC, dI) [(cI, .int), (cJ, .long)] [.ref h0] sz [(h0, .inr (10, [.ref tp, h0_courtReader, h0_lawReader, h0_draft, .ref aC, h0_laws, .ref g0, .ref k0, .ref ac, .ref sd, .ref mi, .ref dw, .ref rf, .int lc, .int lh, .int br, .int hi])), (aC, .inr (1, [.ref aR, .ref aB, .ref aP, .int nb, .int np])), (g0, .inr (7, [.ref gY, .ref gF, .ref gP, .int gpn, .int glt, .int gsh, .int gwd, .int gpu, .int gmo])), (gY, .inl (cI, 6, .inl gfY)), (dw, .inr (3, [.long x0]))]) (va_Qv (fun (u : (Nat → Int32) × Int64) => True) (fun (u : (Nat → Int32) × Int64) (t : State) => va_P (dC, dI) vwCl [(h0, .inr (10, [.ref tp, h0_courtReader, h0_lawReader, h0_draft, .ref aC, h0_laws, .ref g0, .ref k0, .ref ac, .ref sd, .ref mi, .ref dw, .ref rf, .int lc, .int lh, .int br, .int hi])), (aC, .inr (1, [.ref aR, .ref aB, .ref aP, .int nb, .int np])), (g0, .inr (7, [.ref gY, .ref gF, .ref gP, .int gpn, .int glt, .int gsh, .int gwd, .int gpu, .int gmo])), (gY, .inl (cI, 6, .inl u.1)), (dw, .inr (3, [.long u.2]))] t.heap ∧ va_D (va_A [(h0, .inr (10, [.ref tp, h0_courtReader, h0_lawReader, h0_draft, .ref aC, h0_laws, .ref g0, .ref k0, .ref ac, .ref sd, .ref mi, .ref dw, .ref rf, .int lc, .int lh, .int br, .int hi])), (aC, .inr (1, [.ref aR, .ref aB, .ref aP, .int nb, .int np])), (g0, .inr (7, [.ref gY, .ref gF, .ref gP, .int gpn, .int glt, .int gsh, .int gwd, .int gpu, .int gmo])), (gY, .inl (cI, 6, .inl gfY)), (dw, .inr (3, [.long x0]))] sz) [(h0, .inr (10, [.ref tp, h0_courtReader, h0_lawReader, h0_draft, .ref aC, h0_laws, .ref g0, .ref k0, .ref ac, .ref sd, .ref mi, .ref dw, .ref rf, .int lc, .int lh, .int br, .int hi])), (aC, .inr (1, [.ref aR, .ref aB, .ref aP, .int nb, .int np])), (g0, .inr (7, [.ref gY, .ref gF, .ref gP, .int gpn, .int glt, .int gsh, .int gwd, .int gpu, .int gmo])), (gY, .inl (cI, 6, .inl u.1)), (dw, .inr (3, [.long u.2]))]) (va_A [(h0, .inr (10, [.ref tp, h0_courtReader, h0_lawReader, h0_draft, .ref aC, h0_laws, .ref g0, .ref k0, .ref ac, .ref sd, .ref mi, .ref dw, .ref rf, .int lc, .int lh, .int br, .int hi])), (aC, .inr (1, [.ref aR, .ref aB, .ref aP, .int nb, .int np])), (g0, .inr (7, [.ref gY, .ref gF, .ref gP, .int gpn, .int glt, .int gsh, .int gwd, .int gpu, .int gmo])), (gY, .inl (cI, 6, .inl gfY)), (dw, .inr (3, [.long x0]))] sz)) 0 0 (va_A [(h0, .inr (10, [.ref tp, h0_courtReader, h0_lawReader, h0_draft, .ref aC, h0_laws, .ref g0, .ref k0, .ref ac, .ref sd, .ref mi, .ref dw, .ref rf, .int lc, .int lh, .int br, .int hi])), (aC, .inr (1, [.ref aR, .ref aB, .ref aP, .int nb, .int np])), (g0, .inr (7, [.ref gY, .ref gF, .ref gP, .int gpn, .int glt, .int gsh, .int gwd, .int gpu, .int gmo])), (gY, .inl (cI, 6, .inl gfY)), (dw, .inr (3, [.long x0]))] sz) := by
  refine Met.ofW (cc := cX10_payByDraws) (maxL := 2) (ret := none) (by decide) rfl ?_
  intro p e s m args below meth c s₁ B hml hv
  obtain ⟨hargs, hsz, hP, hK, hT⟩ := hv
  have hx := B.exec
  have hb := B.bytes
  have hr := B.returns
  have hts : ∀ w ∈ wA, w.before args s = true := fun w h => atoms_spec (ws := .code yX10_payByDraws cX10_payByDraws 2 none :: wA) B.pre w (List.mem_cons_of_mem _ h)
  have hown : s.vm.findClass RX10 = some m.cls := findClass_of_methodNamed B.named
  have hlocks := B.notSynchronized
  subst hsz
  have hD := hT.self (sz := s.heap.size)
  generalize hAe : va_A [(h0, .inr (10, [.ref tp, h0_courtReader, h0_lawReader, h0_draft, .ref aC, h0_laws, .ref g0, .ref k0, .ref ac, .ref sd, .ref mi, .ref dw, .ref rf, .int lc, .int lh, .int br, .int hi])), (aC, .inr (1, [.ref aR, .ref aB, .ref aP, .int nb, .int np])), (g0, .inr (7, [.ref gY, .ref gF, .ref gP, .int gpn, .int glt, .int gsh, .int gwd, .int gpu, .int gmo])), (gY, .inl (cI, 6, .inl gfY)), (dw, .inr (3, [.long x0]))] s.heap.size = A at hD ⊢
  have hA : ∀ q : Nat, s.heap.size ≤ q → A q := fun q h => by rw [← hAe]; exact Or.inr h
  have hl := lv_entry ([.ref h0]) (n := 2) (Nat.le_of_ble_eq_true rfl)
  rw [show entryFrame m args 2 = entryFrame m ([.ref h0] : List Value).toArray 2 by rw [hargs], lg_entry_eq]
  generalize (lg_sl ([.ref h0]) ++ List.replicate (2 - (lg_sl ([.ref h0])).length) Slot.unset).toArray = ls at hl ⊢
  have hl : lv_has ls 2 [(0, .ref h0)] := hl
  refine zstart (fun H hH => ?_)
  rw [← hH] at hP
  have hS : va_S A s.heap H [] := by rw [hH]; exact va_S.rf
  generalize ([] : List Loc) = locs at hS ⊢
  refine zgen (fun R Q hR hQ => ?_)
  refine lv_aload_n hx hb dX10_payByDraws_0 rfl (lv_at hl 0 rfl) ?_
  refine va_get (D := (dC, dI)) (ci := 10) (v := .ref dw) (C := RX10) (T := TX10) (N := 17) hx hb hts iX10 hown hK hP 0 rfl rfl 11 (by decide) (hts _ qw367) (fun _ h9 => h9) rfl dX10_payByDraws_1 ?_
  refine lv_bipush (v := 10) hx hb dX10_payByDraws_4 (by decide) ?_
  have hPc := hP.sub (ws' := [(dw, .inr (3, [.long x0]))]) [4] rfl
  have hDc := hD.sub (ws' := [(dw, .inr (3, [.long x0]))]) [4] (by decide) rfl
  have hFc := va_free (wc := [(dw, .inr (3, [.long x0]))]) hD hS hA [4] rfl
  refine va_calli (va_runV (As := [.int 10]) (rest := []) ⟨hx, hb, hml, hown, hts⟩ (g_X3_below_10 l dC dI cI cJ dw 10 x0 H.size (by decide)) (cwV 1 hts (zgV qw784 qw785 qw786 qw107 qw787) rfl rfl rfl hd_X3_below ⟨by rw [hR]; exact Nat.le_of_ble_eq_true rfl, by rw [hR]; exact Nat.le_of_ble_eq_true rfl⟩) (zPV hPc hK hDc (va_recv hK hP (ci := 3) (q0 := 4) rfl rfl)) rfl rfl hl.1 rfl (lv_room (Nat.le_of_ble_eq_true rfl)) dX10_payByDraws_6 ⟨Nat.zero_le _, Nat.zero_le _⟩) hS (fun q _ h => hFc q h) hFc (fun v6 u6 t H locs ht hvm hw hB hz1 hk1 hS => ?_)
  obtain ⟨u6_0, rfl⟩ : ∃ z, z = u6 := ⟨_, rfl⟩
  obtain ⟨hP1, hD1⟩ := hB
  rw [ht] at hP1
  obtain ⟨hP, hD⟩ := va_join (wr := [(h0, .inr (10, [.ref tp, h0_courtReader, h0_lawReader, h0_draft, .ref aC, h0_laws, .ref g0, .ref k0, .ref ac, .ref sd, .ref mi, .ref dw, .ref rf, .int lc, .int lh, .int br, .int hi])), (aC, .inr (1, [.ref aR, .ref aB, .ref aP, .int nb, .int np])), (g0, .inr (7, [.ref gY, .ref gF, .ref gP, .int gpn, .int glt, .int gsh, .int gwd, .int gpu, .int gmo])), (gY, .inl (cI, 6, .inl gfY))]) (w1 := [(dw, .inr (3, [.long u6_0]))]) hP hD [4] [0, 1, 2, 3] rfl rfl (by decide) (by decide) hk1 hFc hP1 hD1
  have hP : va_P (dC, dI) vwCl [(h0, .inr (10, [.ref tp, h0_courtReader, h0_lawReader, h0_draft, .ref aC, h0_laws, .ref g0, .ref k0, .ref ac, .ref sd, .ref mi, .ref dw, .ref rf, .int lc, .int lh, .int br, .int hi])), (aC, .inr (1, [.ref aR, .ref aB, .ref aP, .int nb, .int np])), (g0, .inr (7, [.ref gY, .ref gF, .ref gP, .int gpn, .int glt, .int gsh, .int gwd, .int gpu, .int gmo])), (gY, .inl (cI, 6, .inl gfY)), (dw, .inr (3, [.long u6_0]))] H := hP.sub [0, 1, 2, 3, 4] rfl
  have hD : va_D A [(h0, .inr (10, [.ref tp, h0_courtReader, h0_lawReader, h0_draft, .ref aC, h0_laws, .ref g0, .ref k0, .ref ac, .ref sd, .ref mi, .ref dw, .ref rf, .int lc, .int lh, .int br, .int hi])), (aC, .inr (1, [.ref aR, .ref aB, .ref aP, .int nb, .int np])), (g0, .inr (7, [.ref gY, .ref gF, .ref gP, .int gpn, .int glt, .int gsh, .int gwd, .int gpu, .int gmo])), (gY, .inl (cI, 6, .inl gfY)), (dw, .inr (3, [.long u6_0]))] := hD.sub [0, 1, 2, 3, 4] (by decide) rfl
  obtain ⟨f6_0, f6_1⟩ : (0 ≤ v6.toInt) ∧ (v6.toInt ≤ 9) := hw
  refine lv_aload_n hx hb dX10_payByDraws_9 rfl (lv_at hl 0 rfl) ?_
  refine va_get (D := (dC, dI)) (ci := 10) (v := .int br) (C := RX10) (T := TX10) (N := 17) hx hb hts iX10 hown hK hP 0 rfl rfl 15 (by decide) (hts _ qw371) (fun _ h9 => h9) rfl dX10_payByDraws_10 ?_
  refine lv_icmp_lt (tgt := 17) hx hb dX10_payByDraws_13 (by decide) (fun c13 => ?_) (fun c13 => ?_)
  · have c13 : v6.toInt < br.toInt := z1 rfl rfl c13
    refine lv_aload_n hx hb dX10_payByDraws_17 rfl (lv_at hl 0 rfl) ?_
    refine va_get (D := (dC, dI)) (ci := 10) (v := .ref dw) (C := RX10) (T := TX10) (N := 17) hx hb hts iX10 hown hK hP 0 rfl rfl 11 (by decide) (hts _ qw367) (fun _ h9 => h9) rfl dX10_payByDraws_18 ?_
    refine lv_aload_n hx hb dX10_payByDraws_21 rfl (lv_at hl 0 rfl) ?_
    refine va_get (D := (dC, dI)) (ci := 10) (v := .ref aC) (C := RX10) (T := TX10) (N := 17) hx hb hts iX10 hown hK hP 0 rfl rfl 4 (by decide) (hts _ qw360) (fun _ h9 => h9) rfl dX10_payByDraws_22 ?_
    refine va_get (D := (dC, dI)) (ci := 1) (v := .int nb) (C := RX1) (T := TX1) (N := 5) hx hb hts iX1 hown hK hP 1 rfl rfl 3 (by decide) (hts _ qw195) (fun _ h9 => h9) rfl dX10_payByDraws_25 ?_
    have hPc := hP.sub (ws' := [(dw, .inr (3, [.long u6_0]))]) [4] rfl
    have hDc := hD.sub (ws' := [(dw, .inr (3, [.long u6_0]))]) [4] (by decide) rfl
    have hFc := va_free (wc := [(dw, .inr (3, [.long u6_0]))]) hD hS hA [4] rfl
    refine va_calli (va_runV (As := [.int nb]) (rest := []) ⟨hx, hb, hml, hown, hts⟩ (g_X3_below_6 l dC dI cI cJ dw nb u6_0 H.size (by omega)) (cwV 1 hts (zgV qw784 qw785 qw786 qw107 qw787) rfl rfl rfl hd_X3_below ⟨by rw [hR]; exact Nat.le_of_ble_eq_true rfl, by rw [hR]; exact Nat.le_of_ble_eq_true rfl⟩) (zPV hPc hK hDc (va_recv hK hP (ci := 3) (q0 := 4) rfl rfl)) rfl rfl hl.1 rfl (lv_room (Nat.le_of_ble_eq_true rfl)) dX10_payByDraws_28 ⟨Nat.zero_le _, Nat.zero_le _⟩) hS (fun q _ h => hFc q h) hFc (fun v28 u28 t H locs ht hvm hw hB hz1 hk1 hS => ?_)
    obtain ⟨u28_0, rfl⟩ : ∃ z, z = u28 := ⟨_, rfl⟩
    obtain ⟨hP1, hD1⟩ := hB
    rw [ht] at hP1
    obtain ⟨hP, hD⟩ := va_join (wr := [(h0, .inr (10, [.ref tp, h0_courtReader, h0_lawReader, h0_draft, .ref aC, h0_laws, .ref g0, .ref k0, .ref ac, .ref sd, .ref mi, .ref dw, .ref rf, .int lc, .int lh, .int br, .int hi])), (aC, .inr (1, [.ref aR, .ref aB, .ref aP, .int nb, .int np])), (g0, .inr (7, [.ref gY, .ref gF, .ref gP, .int gpn, .int glt, .int gsh, .int gwd, .int gpu, .int gmo])), (gY, .inl (cI, 6, .inl gfY))]) (w1 := [(dw, .inr (3, [.long u28_0]))]) hP hD [4] [0, 1, 2, 3] rfl rfl (by decide) (by decide) hk1 hFc hP1 hD1
    have hP : va_P (dC, dI) vwCl [(h0, .inr (10, [.ref tp, h0_courtReader, h0_lawReader, h0_draft, .ref aC, h0_laws, .ref g0, .ref k0, .ref ac, .ref sd, .ref mi, .ref dw, .ref rf, .int lc, .int lh, .int br, .int hi])), (aC, .inr (1, [.ref aR, .ref aB, .ref aP, .int nb, .int np])), (g0, .inr (7, [.ref gY, .ref gF, .ref gP, .int gpn, .int glt, .int gsh, .int gwd, .int gpu, .int gmo])), (gY, .inl (cI, 6, .inl gfY)), (dw, .inr (3, [.long u28_0]))] H := hP.sub [0, 1, 2, 3, 4] rfl
    have hD : va_D A [(h0, .inr (10, [.ref tp, h0_courtReader, h0_lawReader, h0_draft, .ref aC, h0_laws, .ref g0, .ref k0, .ref ac, .ref sd, .ref mi, .ref dw, .ref rf, .int lc, .int lh, .int br, .int hi])), (aC, .inr (1, [.ref aR, .ref aB, .ref aP, .int nb, .int np])), (g0, .inr (7, [.ref gY, .ref gF, .ref gP, .int gpn, .int glt, .int gsh, .int gwd, .int gpu, .int gmo])), (gY, .inl (cI, 6, .inl gfY)), (dw, .inr (3, [.long u28_0]))] := hD.sub [0, 1, 2, 3, 4] (by decide) rfl
    obtain ⟨f28_0, f28_1⟩ : (0 ≤ v28.toInt) ∧ (v28.toInt ≤ 5) := hw
    refine lv_istore_n (lv' := [(1, .int v28), (0, .ref h0)]) hx hb dX10_payByDraws_31 rfl hl (by decide) rfl (fun ls hl => ?_)
    refine lv_aload_n hx hb dX10_payByDraws_32 rfl (lv_at hl 1 rfl) ?_
    refine va_get (D := (dC, dI)) (ci := 10) (v := .ref g0) (C := RX10) (T := TX10) (N := 17) hx hb hts iX10 hown hK hP 0 rfl rfl 6 (by decide) (hts _ qw362) (fun _ h9 => h9) rfl dX10_payByDraws_33 ?_
    refine va_get (D := (dC, dI)) (ci := 7) (v := .ref gY) (C := RX7) (T := TX7) (N := 9) hx hb hts iX7 hown hK hP 2 rfl rfl 0 (by decide) (hts _ qw222) (fun _ h9 => h9) rfl dX10_payByDraws_36 ?_
    refine lv_iload_n hx hb dX10_payByDraws_39 rfl (lv_at hl 0 rfl) ?_
    refine lv_bipush (v := 9) hx hb dX10_payByDraws_40 (by decide) ?_
    refine lv_aload_n hx hb dX10_payByDraws_42 rfl (lv_at hl 1 rfl) ?_
    refine va_get (D := (dC, dI)) (ci := 10) (v := .ref g0) (C := RX10) (T := TX10) (N := 17) hx hb hts iX10 hown hK hP 0 rfl rfl 6 (by decide) (hts _ qw362) (fun _ h9 => h9) rfl dX10_payByDraws_43 ?_
    refine va_get (D := (dC, dI)) (ci := 7) (v := .ref gY) (C := RX7) (T := TX7) (N := 9) hx hb hts iX7 hown hK hP 2 rfl rfl 0 (by decide) (hts _ qw222) (fun _ h9 => h9) rfl dX10_payByDraws_46 ?_
    refine lv_iload_n hx hb dX10_payByDraws_49 rfl (lv_at hl 0 rfl) ?_
    refine va_iald hx hb hK hP 3 0 rfl rfl (vp_in_iff.mpr ⟨by omega, by omega⟩) dX10_payByDraws_50 ?_
    refine lv_topi (fun v50 e50 => ?_)
    refine lv_iconst (v := 1) hx hb dX10_payByDraws_51 (by decide) ?_
    refine lv_iadd hx hb dX10_payByDraws_52 ?_
    refine lv_topi (fun v52 e52 => ?_)
    refine va_mmin hx hb (by rw [hml]; exact hl.1.symm) hown (hts _ qw742) (hts _ qw569) (hts _ qw112) (hts _ qw570) (by rw [hR]; exact Nat.le_of_ble_eq_true rfl) (by rw [hR]; exact Nat.le_of_ble_eq_true rfl) (Nat.zero_le _) (Nat.zero_le _) dX10_payByDraws_53 ?_
    refine lv_topi (fun v53 e53 => ?_)
    have zc53_0 : (9 : Int32).toInt = 9 := by decide
    have i53 := zmmin e53
    refine va_iast hx hb hK hP hD hS 3 0 rfl rfl (vp_in_iff.mpr ⟨by omega, by omega⟩) dX10_payByDraws_56 (fun H locs hP hD hS => ?_)
    obtain ⟨v56_f, e56⟩ : ∃ g : Nat → Int32, g = upd gfY (v28).toNatClampNeg v53 := ⟨_, rfl⟩
    rw [← e56] at hP hD
    have hP : va_P (dC, dI) vwCl [(h0, .inr (10, [.ref tp, h0_courtReader, h0_lawReader, h0_draft, .ref aC, h0_laws, .ref g0, .ref k0, .ref ac, .ref sd, .ref mi, .ref dw, .ref rf, .int lc, .int lh, .int br, .int hi])), (aC, .inr (1, [.ref aR, .ref aB, .ref aP, .int nb, .int np])), (g0, .inr (7, [.ref gY, .ref gF, .ref gP, .int gpn, .int glt, .int gsh, .int gwd, .int gpu, .int gmo])), (gY, .inl (cI, 6, .inl v56_f)), (dw, .inr (3, [.long u28_0]))] H := hP
    have hD : va_D A [(h0, .inr (10, [.ref tp, h0_courtReader, h0_lawReader, h0_draft, .ref aC, h0_laws, .ref g0, .ref k0, .ref ac, .ref sd, .ref mi, .ref dw, .ref rf, .int lc, .int lh, .int br, .int hi])), (aC, .inr (1, [.ref aR, .ref aB, .ref aP, .int nb, .int np])), (g0, .inr (7, [.ref gY, .ref gF, .ref gP, .int gpn, .int glt, .int gsh, .int gwd, .int gpu, .int gmo])), (gY, .inl (cI, 6, .inl v56_f)), (dw, .inr (3, [.long u28_0]))] := hD
    rw [hQ]
    exact W.vret hx hb hr (fun t ht hW => ⟨⟨(v56_f, u28_0), rfl, trivial, ⟨by rw [ht]; exact hP, hD⟩⟩, hS.F ht⟩) hS.2.2 dX10_payByDraws_57
  · have c13 : br.toInt ≤ v6.toInt := z2 rfl rfl c13
    rw [hQ]
    exact W.vret hx hb hr (fun t ht hW => ⟨⟨(gfY, u6_0), rfl, trivial, ⟨by rw [ht]; exact hP, hD⟩⟩, hS.F ht⟩) hS.2.2 dX10_payByDraws_16
