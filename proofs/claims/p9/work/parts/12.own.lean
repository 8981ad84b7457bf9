set_option maxHeartbeats 4000000 in
set_option maxRecDepth 100000 in
theorem g_X10_refuse (l : Launch) (dC : Nat → ClassId) (dI : Nat → Nat → Nat) (cI cJ : ClassId) (h0 : Nat) (p0 : Int32) (tp : Nat) (h0_courtReader : Value) (h0_lawReader : Value) (h0_draft : Value) (aC : Nat) (h0_laws : Value) (g0 : Nat) (k0 : Nat) (ac : Nat) (sd : Nat) (mi : Nat) (dw : Nat) (rf : Nat) (lc : Int32) (lh : Int32) (br : Int32) (hi : Int32) (frf : Nat → Int32) (sz : Nat) (n_hi : 0 ≤ hi.toInt ∧ hi.toInt ≤ 1) (n_lc : 0 ≤ lc.toInt ∧ lc.toInt ≤ 4) (n_p0 : 0 ≤ p0.toInt ∧ p0.toInt ≤ 4)    : Met l yX10_refuse (.code yX10_refuse cX10_refuse 2 (some .int) :: wA) ({ frames := 0, cells := 0, slots := 0, locals := 0 }) (zP (dC, dI) [(cI, .int), (cJ, .long)] [.ref h0, .int p0] sz [(h0, .inr (10, [.ref tp, h0_courtReader, h0_lawReader, h0_draft, .ref aC, h0_laws, .ref g0, .ref k0, .ref ac, .ref sd, .ref mi, .ref dw, .ref rf, .int lc, .int lh, .int br, .int hi])), (rf, .inl (cI, 5, .inl frf))]) (va_Qi (fun (r : Int32) (u : (Nat → Int32)) => r = (-1) ∧ (zRf frf u p0.toInt)) (fun (u : (Nat → Int32)) (t : State) => va_P (dC, dI) vwCl [(h0, .inr (10, [.ref tp, h0_courtReader, h0_lawReader, h0_draft, .ref aC, h0_laws, .ref g0, .ref k0, .ref ac, .ref sd, .ref mi, .ref dw, .ref rf, .int lc, .int lh, .int br, .int hi])), (rf, .inl (cI, 5, .inl u))] t.heap ∧ va_D (va_A [(h0, .inr (10, [.ref tp, h0_courtReader, h0_lawReader, h0_draft, .ref aC, h0_laws, .ref g0, .ref k0, .ref ac, .ref sd, .ref mi, .ref dw, .ref rf, .int lc, .int lh, .int br, .int hi])), (rf, .inl (cI, 5, .inl frf))] sz) [(h0, .inr (10, [.ref tp, h0_courtReader, h0_lawReader, h0_draft, .ref aC, h0_laws, .ref g0, .ref k0, .ref ac, .ref sd, .ref mi, .ref dw, .ref rf, .int lc, .int lh, .int br, .int hi])), (rf, .inl (cI, 5, .inl u))]) (va_A [(h0, .inr (10, [.ref tp, h0_courtReader, h0_lawReader, h0_draft, .ref aC, h0_laws, .ref g0, .ref k0, .ref ac, .ref sd, .ref mi, .ref dw, .ref rf, .int lc, .int lh, .int br, .int hi])), (rf, .inl (cI, 5, .inl frf))] sz)) 0 0 (va_A [(h0, .inr (10, [.ref tp, h0_courtReader, h0_lawReader, h0_draft, .ref aC, h0_laws, .ref g0, .ref k0, .ref ac, .ref sd, .ref mi, .ref dw, .ref rf, .int lc, .int lh, .int br, .int hi])), (rf, .inl (cI, 5, .inl frf))] sz) := by
  refine Met.ofW (cc := cX10_refuse) (maxL := 2) (ret := (some .int)) (by decide) rfl ?_
  intro p e s m args below meth c s₁ B hml hv
  have y_hi : zHid (0 ≤ hi.toInt ∧ hi.toInt ≤ 1) := n_hi
  have y_lc : zHid (0 ≤ lc.toInt ∧ lc.toInt ≤ 4) := n_lc
  clear n_hi n_lc
  obtain ⟨hargs, hsz, hP, hK, hT⟩ := hv
  have hx := B.exec
  have hb := B.bytes
  have hr := B.returns
  have hts : ∀ w ∈ wA, w.before args s = true := fun w h => atoms_spec (ws := .code yX10_refuse cX10_refuse 2 (some .int) :: wA) B.pre w (List.mem_cons_of_mem _ h)
  have hown : s.vm.findClass RX10 = some m.cls := findClass_of_methodNamed B.named
  have hlocks := B.notSynchronized
  subst hsz
  have hD := hT.self (sz := s.heap.size)
  generalize hAe : va_A [(h0, .inr (10, [.ref tp, h0_courtReader, h0_lawReader, h0_draft, .ref aC, h0_laws, .ref g0, .ref k0, .ref ac, .ref sd, .ref mi, .ref dw, .ref rf, .int lc, .int lh, .int br, .int hi])), (rf, .inl (cI, 5, .inl frf))] s.heap.size = A at hD ⊢
  have hA : ∀ q : Nat, s.heap.size ≤ q → A q := fun q h => by rw [← hAe]; exact Or.inr h
  have hl := lv_entry ([.ref h0, .int p0]) (n := 2) (Nat.le_of_ble_eq_true rfl)
  rw [show entryFrame m args 2 = entryFrame m ([.ref h0, .int p0] : List Value).toArray 2 by rw [hargs], lg_entry_eq]
  generalize (lg_sl ([.ref h0, .int p0]) ++ List.replicate (2 - (lg_sl ([.ref h0, .int p0])).length) Slot.unset).toArray = ls at hl ⊢
  have hl : lv_has ls 2 [(0, .ref h0), (1, .int p0)] := hl
  refine zstart (fun H hH => ?_)
  rw [← hH] at hP
  have hS : va_S A s.heap H [] := by rw [hH]; exact va_S.rf
  generalize ([] : List Loc) = locs at hS ⊢
  refine zgen (fun R Q hR hQ => ?_)
  refine lv_aload_n hx hb dX10_refuse_0 rfl (lv_at hl 0 rfl) ?_
  refine va_get (D := (dC, dI)) (ci := 10) (v := .ref rf) (C := RX10) (T := TX10) (N := 17) hx hb hts iX10 hown hK hP 0 rfl rfl 12 (by decide) (hts _ qw368) (fun _ h9 => h9) rfl dX10_refuse_1 ?_
  refine lv_iload_n hx hb dX10_refuse_4 rfl (lv_at hl 1 rfl) ?_
  refine lv_dup2_11 hx hb dX10_refuse_5 rfl rfl ?_
  refine va_iald hx hb hK hP 1 0 rfl rfl (vp_in_iff.mpr ⟨by omega, by omega⟩) dX10_refuse_6 ?_
  refine lv_topi (fun v6 e6 => ?_)
  refine lv_iconst (v := 1) hx hb dX10_refuse_7 (by decide) ?_
  refine lv_iadd hx hb dX10_refuse_8 ?_
  refine lv_topi (fun v8 e8 => ?_)
  refine va_iast hx hb hK hP hD hS 1 0 rfl rfl (vp_in_iff.mpr ⟨by omega, by omega⟩) dX10_refuse_9 (fun H locs hP9 hD9 hS9 => ?_)
  clear hP hD hS
  obtain ⟨v9_f, e9⟩ : ∃ g : Nat → Int32, g = upd frf (p0).toNatClampNeg v8 := ⟨_, rfl⟩
  rw [← e9] at hP9 hD9
  obtain ⟨hP, hD⟩ := zst (wX := [(h0, .inr (10, [.ref tp, h0_courtReader, h0_lawReader, h0_draft, .ref aC, h0_laws, .ref g0, .ref k0, .ref ac, .ref sd, .ref mi, .ref dw, .ref rf, .int lc, .int lh, .int br, .int hi])), (rf, .inl (cI, 5, .inl v9_f))]) hP9 hD9 rfl
  have hS := hS9
  clear hP9 hD9 hS9
  refine lv_iconst (v := (-1)) hx hb dX10_refuse_10 (by decide) ?_
  have zr0 : ((-1) : Int32).toInt = (-1) := by decide
  rw [hQ]
  exact W.iret (v := ((-1))) hx hb hr (fun t ht hW => ⟨⟨(-1), v9_f, rfl, ⟨rfl, (zRf_mk (by omega) (by omega) e6 e8 e9)⟩, ⟨by rw [ht]; exact hP, hD⟩⟩, hS.F ht⟩) hS.2.2 dX10_refuse_11
set_option maxHeartbeats 4000000 in
set_option maxRecDepth 100000 in
theorem g_X10_feed (l : Launch) (dC : Nat → ClassId) (dI : Nat → Nat → Nat) (cI cJ : ClassId) (h0 : Nat) (p0 : Int32) (p1 : Int32) (p2 : Int32) (p3 : Int32) (p4 : Int32) (tp : Nat) (h0_courtReader : Value) (h0_lawReader : Value) (h0_draft : Value) (aC : Nat) (h0_laws : Value) (g0 : Nat) (k0 : Nat) (ac : Nat) (sd : Nat) (mi : Nat) (dw : Nat) (rf : Nat) (lc : Int32) (lh : Int32) (br : Int32) (hi : Int32) (tB : Nat) (tl : Int32) (ta : Int32) (fB : Nat → Int32) (sz : Nat) (n_hi : 0 ≤ hi.toInt ∧ hi.toInt ≤ 1) (n_lc : 0 ≤ lc.toInt ∧ lc.toInt ≤ 4) (n_ta : 0 ≤ ta.toInt ∧ ta.toInt ≤ 240) (n_tl : 0 ≤ tl.toInt ∧ tl.toInt ≤ 240) (hty : zTy tl fB)   : Met l yX10_feed (.code yX10_feed cX10_feed 7 (some .int) :: wA) ({ frames := 1, cells := 0, slots := 0, locals := 23 }) (zP (dC, dI) [(cI, .int), (cJ, .long)] [.ref h0, .int p0, .int p1, .int p2, .int p3, .int p4] sz [(h0, .inr (10, [.ref tp, h0_courtReader, h0_lawReader, h0_draft, .ref aC, h0_laws, .ref g0, .ref k0, .ref ac, .ref sd, .ref mi, .ref dw, .ref rf, .int lc, .int lh, .int br, .int hi])), (tp, .inr (9, [.ref tB, .int tl, .int ta])), (tB, .inl (cI, 260, .inl fB))]) (va_Qi (fun (r : Int32) (u : Int32 × (Nat → Int32)) => ((-1) ≤ r.toInt) ∧ (r.toInt ≤ 240) ∧ (0 ≤ u.1.toInt) ∧ (u.1.toInt ≤ 240) ∧ (zFd fB tl p0 p1 p2 p3 p4 r u.2 u.1) ∧ (zTy u.1 u.2)) (fun (u : Int32 × (Nat → Int32)) (t : State) => va_P (dC, dI) vwCl [(h0, .inr (10, [.ref tp, h0_courtReader, h0_lawReader, h0_draft, .ref aC, h0_laws, .ref g0, .ref k0, .ref ac, .ref sd, .ref mi, .ref dw, .ref rf, .int lc, .int lh, .int br, .int hi])), (tp, .inr (9, [.ref tB, .int u.1, .int ta])), (tB, .inl (cI, 260, .inl u.2))] t.heap ∧ va_D (va_A [(h0, .inr (10, [.ref tp, h0_courtReader, h0_lawReader, h0_draft, .ref aC, h0_laws, .ref g0, .ref k0, .ref ac, .ref sd, .ref mi, .ref dw, .ref rf, .int lc, .int lh, .int br, .int hi])), (tp, .inr (9, [.ref tB, .int tl, .int ta])), (tB, .inl (cI, 260, .inl fB))] sz) [(h0, .inr (10, [.ref tp, h0_courtReader, h0_lawReader, h0_draft, .ref aC, h0_laws, .ref g0, .ref k0, .ref ac, .ref sd, .ref mi, .ref dw, .ref rf, .int lc, .int lh, .int br, .int hi])), (tp, .inr (9, [.ref tB, .int u.1, .int ta])), (tB, .inl (cI, 260, .inl u.2))]) (va_A [(h0, .inr (10, [.ref tp, h0_courtReader, h0_lawReader, h0_draft, .ref aC, h0_laws, .ref g0, .ref k0, .ref ac, .ref sd, .ref mi, .ref dw, .ref rf, .int lc, .int lh, .int br, .int hi])), (tp, .inr (9, [.ref tB, .int tl, .int ta])), (tB, .inl (cI, 260, .inl fB))] sz)) 0 0 (va_A [(h0, .inr (10, [.ref tp, h0_courtReader, h0_lawReader, h0_draft, .ref aC, h0_laws, .ref g0, .ref k0, .ref ac, .ref sd, .ref mi, .ref dw, .ref rf, .int lc, .int lh, .int br, .int hi])), (tp, .inr (9, [.ref tB, .int tl, .int ta])), (tB, .inl (cI, 260, .inl fB))] sz) := by
  refine Met.ofW (cc := cX10_feed) (maxL := 7) (ret := (some .int)) (by decide) rfl ?_
  intro p e s m args below meth c s₁ B hml hv
  have y_hi : zHid (0 ≤ hi.toInt ∧ hi.toInt ≤ 1) := n_hi
  have y_lc : zHid (0 ≤ lc.toInt ∧ lc.toInt ≤ 4) := n_lc
  have y_ta : zHid (0 ≤ ta.toInt ∧ ta.toInt ≤ 240) := n_ta
  clear n_hi n_lc n_ta
  obtain ⟨hargs, hsz, hP, hK, hT⟩ := hv
  have hx := B.exec
  have hb := B.bytes
  have hr := B.returns
  have hts : ∀ w ∈ wA, w.before args s = true := fun w h => atoms_spec (ws := .code yX10_feed cX10_feed 7 (some .int) :: wA) B.pre w (List.mem_cons_of_mem _ h)
  have hown : s.vm.findClass RX10 = some m.cls := findClass_of_methodNamed B.named
  have hlocks := B.notSynchronized
  subst hsz
  have hD := hT.self (sz := s.heap.size)
  generalize hAe : va_A [(h0, .inr (10, [.ref tp, h0_courtReader, h0_lawReader, h0_draft, .ref aC, h0_laws, .ref g0, .ref k0, .ref ac, .ref sd, .ref mi, .ref dw, .ref rf, .int lc, .int lh, .int br, .int hi])), (tp, .inr (9, [.ref tB, .int tl, .int ta])), (tB, .inl (cI, 260, .inl fB))] s.heap.size = A at hD ⊢
  have hA : ∀ q : Nat, s.heap.size ≤ q → A q := fun q h => by rw [← hAe]; exact Or.inr h
  have hl := lv_entry ([.ref h0, .int p0, .int p1, .int p2, .int p3, .int p4]) (n := 7) (Nat.le_of_ble_eq_true rfl)
  rw [show entryFrame m args 7 = entryFrame m ([.ref h0, .int p0, .int p1, .int p2, .int p3, .int p4] : List Value).toArray 7 by rw [hargs], lg_entry_eq]
  generalize (lg_sl ([.ref h0, .int p0, .int p1, .int p2, .int p3, .int p4]) ++ List.replicate (7 - (lg_sl ([.ref h0, .int p0, .int p1, .int p2, .int p3, .int p4])).length) Slot.unset).toArray = ls at hl ⊢
  have hl : lv_has ls 7 [(0, .ref h0), (1, .int p0), (2, .int p1), (3, .int p2), (4, .int p3), (5, .int p4)] := hl
  refine zstart (fun H hH => ?_)
  rw [← hH] at hP
  have hS : va_S A s.heap H [] := by rw [hH]; exact va_S.rf
  generalize ([] : List Loc) = locs at hS ⊢
  refine zgen (fun R Q hR hQ => ?_)
  refine lv_aload_n hx hb dX10_feed_0 rfl (lv_at hl 0 rfl) ?_
  refine va_get (D := (dC, dI)) (ci := 10) (v := .ref tp) (C := RX10) (T := TX10) (N := 17) hx hb hts iX10 hown hK hP 0 rfl rfl 0 (by decide) (hts _ qw356) (fun _ h9 => h9) rfl dX10_feed_1 ?_
  refine va_get (D := (dC, dI)) (ci := 9) (v := .int tl) (C := RX9) (T := TX9) (N := 3) hx hb hts iX9 hown hK hP 1 rfl rfl 1 (by decide) (hts _ qw133) (fun _ h9 => h9) rfl dX10_feed_4 ?_
  refine lv_istore (lv' := [(6, .int tl), (0, .ref h0), (1, .int p0), (2, .int p1), (3, .int p2), (4, .int p3), (5, .int p4)]) hx hb dX10_feed_7 hl (by decide) rfl (fun ls hl => ?_)
  refine lv_aload_n hx hb dX10_feed_9 rfl (lv_at hl 1 rfl) ?_
  refine va_get (D := (dC, dI)) (ci := 10) (v := .ref tp) (C := RX10) (T := TX10) (N := 17) hx hb hts iX10 hown hK hP 0 rfl rfl 0 (by decide) (hts _ qw356) (fun _ h9 => h9) rfl dX10_feed_10 ?_
  refine lv_iload_n hx hb dX10_feed_13 rfl (lv_at hl 2 rfl) ?_
  obtain ⟨hPc, hDc, hFc⟩ := zc3 (wc := [(tp, .inr (9, [.ref tB, .int tl, .int ta])), (tB, .inl (cI, 260, .inl fB))]) hP hD hS hA [1, 2] (by decide +kernel) rfl
  refine va_callv (va_runV (As := [.int p0]) (rest := []) ⟨hx, hb, hml, hown, hts⟩ (g_X9_add_0 l dC dI cI cJ tp p0 tB tl ta fB H.size n_tl (hty)) (cwV 1 hts (zgV qw412 qw413 qw414 qw99 qw415) rfl rfl rfl hd_X9_add ⟨by rw [hR]; exact Nat.le_of_ble_eq_true rfl, by rw [hR]; exact Nat.le_of_ble_eq_true rfl⟩) (zPV hPc hK hDc (va_recv (q := (RX9, TX9, 3)) hK hP (ci := 9) (q0 := 1) rfl rfl)) rfl rfl hl.1 rfl (lv_room (Nat.le_of_ble_eq_true rfl)) dX10_feed_14 ⟨Nat.zero_le _, Nat.zero_le _⟩) hS (fun q _ h => hFc q h) hFc (fun u14 t H locs ht hvm hw hB hz1 hk1 hS9 => ?_)
  obtain ⟨u14_0, u14_1⟩ := u14
  obtain ⟨hP9, hD9⟩ := zj2 (wX := [(h0, .inr (10, [.ref tp, h0_courtReader, h0_lawReader, h0_draft, .ref aC, h0_laws, .ref g0, .ref k0, .ref ac, .ref sd, .ref mi, .ref dw, .ref rf, .int lc, .int lh, .int br, .int hi])), (tp, .inr (9, [.ref tB, .int u14_0, .int ta])), (tB, .inl (cI, 260, .inl u14_1))]) hP hD hk1 hFc ht hB [1, 2] [(false, 0), (true, 0), (true, 1)] rfl (by decide +kernel) (by decide +kernel) rfl
  clear hP hD hS hPc hDc hFc hB hk1 hz1 hvm
  have hP := hP9
  have hD := hD9
  have hS := hS9
  clear hP9 hD9 hS9
  obtain ⟨f14_0, f14_1, f14_2, f14_3⟩ : (0 ≤ u14_0.toInt) ∧ (u14_0.toInt ≤ 244) ∧ ((sB u14_1 u14_0.toInt, u14_0.toInt) = sW p0 4 (sB fB tl.toInt, tl.toInt)) ∧ (zTy u14_0 u14_1) := hw
  have F14 := f14_2
  have F14_1 := f14_3
  refine lv_aload_n hx hb dX10_feed_17 rfl (lv_at hl 1 rfl) ?_
  refine va_get (D := (dC, dI)) (ci := 10) (v := .ref tp) (C := RX10) (T := TX10) (N := 17) hx hb hts iX10 hown hK hP 0 rfl rfl 0 (by decide) (hts _ qw356) (fun _ h9 => h9) rfl dX10_feed_18 ?_
  refine lv_iload_n hx hb dX10_feed_21 rfl (lv_at hl 3 rfl) ?_
  obtain ⟨hPc, hDc, hFc⟩ := zc3 (wc := [(tp, .inr (9, [.ref tB, .int u14_0, .int ta])), (tB, .inl (cI, 260, .inl u14_1))]) hP hD hS hA [1, 2] (by decide +kernel) rfl
  refine va_callv (va_runV (As := [.int p1]) (rest := []) ⟨hx, hb, hml, hown, hts⟩ (g_X9_add_1 l dC dI cI cJ tp p1 tB u14_0 ta u14_1 H.size ⟨f14_0, f14_1⟩ (F14_1)) (cwV 1 hts (zgV qw412 qw413 qw414 qw99 qw415) rfl rfl rfl hd_X9_add ⟨by rw [hR]; exact Nat.le_of_ble_eq_true rfl, by rw [hR]; exact Nat.le_of_ble_eq_true rfl⟩) (zPV hPc hK hDc (va_recv (q := (RX9, TX9, 3)) hK hP (ci := 9) (q0 := 1) rfl rfl)) rfl rfl hl.1 rfl (lv_room (Nat.le_of_ble_eq_true rfl)) dX10_feed_22 ⟨Nat.zero_le _, Nat.zero_le _⟩) hS (fun q _ h => hFc q h) hFc (fun u22 t H locs ht hvm hw hB hz1 hk1 hS9 => ?_)
  obtain ⟨u22_0, u22_1⟩ := u22
  obtain ⟨hP9, hD9⟩ := zj2 (wX := [(h0, .inr (10, [.ref tp, h0_courtReader, h0_lawReader, h0_draft, .ref aC, h0_laws, .ref g0, .ref k0, .ref ac, .ref sd, .ref mi, .ref dw, .ref rf, .int lc, .int lh, .int br, .int hi])), (tp, .inr (9, [.ref tB, .int u22_0, .int ta])), (tB, .inl (cI, 260, .inl u22_1))]) hP hD hk1 hFc ht hB [1, 2] [(false, 0), (true, 0), (true, 1)] rfl (by decide +kernel) (by decide +kernel) rfl
  clear hP hD hS hPc hDc hFc hB hk1 hz1 hvm
  have hP := hP9
  have hD := hD9
  have hS := hS9
  clear hP9 hD9 hS9
  obtain ⟨f22_0, f22_1, f22_2, f22_3⟩ : (0 ≤ u22_0.toInt) ∧ (u22_0.toInt ≤ 248) ∧ ((sB u22_1 u22_0.toInt, u22_0.toInt) = sW p1 4 (sB u14_1 u14_0.toInt, u14_0.toInt)) ∧ (zTy u22_0 u22_1) := hw
  have F22 := f22_2
  have F22_1 := f22_3
  refine lv_aload_n hx hb dX10_feed_25 rfl (lv_at hl 1 rfl) ?_
  refine va_get (D := (dC, dI)) (ci := 10) (v := .ref tp) (C := RX10) (T := TX10) (N := 17) hx hb hts iX10 hown hK hP 0 rfl rfl 0 (by decide) (hts _ qw356) (fun _ h9 => h9) rfl dX10_feed_26 ?_
  refine lv_iload_n hx hb dX10_feed_29 rfl (lv_at hl 4 rfl) ?_
  obtain ⟨hPc, hDc, hFc⟩ := zc3 (wc := [(tp, .inr (9, [.ref tB, .int u22_0, .int ta])), (tB, .inl (cI, 260, .inl u22_1))]) hP hD hS hA [1, 2] (by decide +kernel) rfl
  refine va_callv (va_runV (As := [.int p2]) (rest := []) ⟨hx, hb, hml, hown, hts⟩ (g_X9_add_2 l dC dI cI cJ tp p2 tB u22_0 ta u22_1 H.size ⟨f22_0, f22_1⟩ (F22_1)) (cwV 1 hts (zgV qw412 qw413 qw414 qw99 qw415) rfl rfl rfl hd_X9_add ⟨by rw [hR]; exact Nat.le_of_ble_eq_true rfl, by rw [hR]; exact Nat.le_of_ble_eq_true rfl⟩) (zPV hPc hK hDc (va_recv (q := (RX9, TX9, 3)) hK hP (ci := 9) (q0 := 1) rfl rfl)) rfl rfl hl.1 rfl (lv_room (Nat.le_of_ble_eq_true rfl)) dX10_feed_30 ⟨Nat.zero_le _, Nat.zero_le _⟩) hS (fun q _ h => hFc q h) hFc (fun u30 t H locs ht hvm hw hB hz1 hk1 hS9 => ?_)
  obtain ⟨u30_0, u30_1⟩ := u30
  obtain ⟨hP9, hD9⟩ := zj2 (wX := [(h0, .inr (10, [.ref tp, h0_courtReader, h0_lawReader, h0_draft, .ref aC, h0_laws, .ref g0, .ref k0, .ref ac, .ref sd, .ref mi, .ref dw, .ref rf, .int lc, .int lh, .int br, .int hi])), (tp, .inr (9, [.ref tB, .int u30_0, .int ta])), (tB, .inl (cI, 260, .inl u30_1))]) hP hD hk1 hFc ht hB [1, 2] [(false, 0), (true, 0), (true, 1)] rfl (by decide +kernel) (by decide +kernel) rfl
  clear hP hD hS hPc hDc hFc hB hk1 hz1 hvm
  have hP := hP9
  have hD := hD9
  have hS := hS9
  clear hP9 hD9 hS9
  obtain ⟨f30_0, f30_1, f30_2, f30_3⟩ : (0 ≤ u30_0.toInt) ∧ (u30_0.toInt ≤ 252) ∧ ((sB u30_1 u30_0.toInt, u30_0.toInt) = sW p2 4 (sB u22_1 u22_0.toInt, u22_0.toInt)) ∧ (zTy u30_0 u30_1) := hw
  have F30 := f30_2
  have F30_1 := f30_3
  refine lv_aload_n hx hb dX10_feed_33 rfl (lv_at hl 1 rfl) ?_
  refine va_get (D := (dC, dI)) (ci := 10) (v := .ref tp) (C := RX10) (T := TX10) (N := 17) hx hb hts iX10 hown hK hP 0 rfl rfl 0 (by decide) (hts _ qw356) (fun _ h9 => h9) rfl dX10_feed_34 ?_
  refine lv_iload hx hb dX10_feed_37 (lv_at hl 5 rfl) ?_
  obtain ⟨hPc, hDc, hFc⟩ := zc3 (wc := [(tp, .inr (9, [.ref tB, .int u30_0, .int ta])), (tB, .inl (cI, 260, .inl u30_1))]) hP hD hS hA [1, 2] (by decide +kernel) rfl
  refine va_callv (va_runV (As := [.int p3]) (rest := []) ⟨hx, hb, hml, hown, hts⟩ (g_X9_add_3 l dC dI cI cJ tp p3 tB u30_0 ta u30_1 H.size ⟨f30_0, f30_1⟩ (F30_1)) (cwV 1 hts (zgV qw412 qw413 qw414 qw99 qw415) rfl rfl rfl hd_X9_add ⟨by rw [hR]; exact Nat.le_of_ble_eq_true rfl, by rw [hR]; exact Nat.le_of_ble_eq_true rfl⟩) (zPV hPc hK hDc (va_recv (q := (RX9, TX9, 3)) hK hP (ci := 9) (q0 := 1) rfl rfl)) rfl rfl hl.1 rfl (lv_room (Nat.le_of_ble_eq_true rfl)) dX10_feed_39 ⟨Nat.zero_le _, Nat.zero_le _⟩) hS (fun q _ h => hFc q h) hFc (fun u39 t H locs ht hvm hw hB hz1 hk1 hS9 => ?_)
  obtain ⟨u39_0, u39_1⟩ := u39
  obtain ⟨hP9, hD9⟩ := zj2 (wX := [(h0, .inr (10, [.ref tp, h0_courtReader, h0_lawReader, h0_draft, .ref aC, h0_laws, .ref g0, .ref k0, .ref ac, .ref sd, .ref mi, .ref dw, .ref rf, .int lc, .int lh, .int br, .int hi])), (tp, .inr (9, [.ref tB, .int u39_0, .int ta])), (tB, .inl (cI, 260, .inl u39_1))]) hP hD hk1 hFc ht hB [1, 2] [(false, 0), (true, 0), (true, 1)] rfl (by decide +kernel) (by decide +kernel) rfl
  clear hP hD hS hPc hDc hFc hB hk1 hz1 hvm
  have hP := hP9
  have hD := hD9
  have hS := hS9
  clear hP9 hD9 hS9
  obtain ⟨f39_0, f39_1, f39_2, f39_3⟩ : (0 ≤ u39_0.toInt) ∧ (u39_0.toInt ≤ 256) ∧ ((sB u39_1 u39_0.toInt, u39_0.toInt) = sW p3 4 (sB u30_1 u30_0.toInt, u30_0.toInt)) ∧ (zTy u39_0 u39_1) := hw
  have F39 := f39_2
  have F39_1 := f39_3
  refine lv_aload_n hx hb dX10_feed_42 rfl (lv_at hl 1 rfl) ?_
  refine va_get (D := (dC, dI)) (ci := 10) (v := .ref tp) (C := RX10) (T := TX10) (N := 17) hx hb hts iX10 hown hK hP 0 rfl rfl 0 (by decide) (hts _ qw356) (fun _ h9 => h9) rfl dX10_feed_43 ?_
  refine lv_iload hx hb dX10_feed_46 (lv_at hl 6 rfl) ?_
  obtain ⟨hPc, hDc, hFc⟩ := zc3 (wc := [(tp, .inr (9, [.ref tB, .int u39_0, .int ta])), (tB, .inl (cI, 260, .inl u39_1))]) hP hD hS hA [1, 2] (by decide +kernel) rfl
  refine va_callv (va_runV (As := [.int p4]) (rest := []) ⟨hx, hb, hml, hown, hts⟩ (g_X9_add_4 l dC dI cI cJ tp p4 tB u39_0 ta u39_1 H.size ⟨f39_0, f39_1⟩ (F39_1)) (cwV 1 hts (zgV qw412 qw413 qw414 qw99 qw415) rfl rfl rfl hd_X9_add ⟨by rw [hR]; exact Nat.le_of_ble_eq_true rfl, by rw [hR]; exact Nat.le_of_ble_eq_true rfl⟩) (zPV hPc hK hDc (va_recv (q := (RX9, TX9, 3)) hK hP (ci := 9) (q0 := 1) rfl rfl)) rfl rfl hl.1 rfl (lv_room (Nat.le_of_ble_eq_true rfl)) dX10_feed_48 ⟨Nat.zero_le _, Nat.zero_le _⟩) hS (fun q _ h => hFc q h) hFc (fun u48 t H locs ht hvm hw hB hz1 hk1 hS9 => ?_)
  obtain ⟨u48_0, u48_1⟩ := u48
  obtain ⟨hP9, hD9⟩ := zj2 (wX := [(h0, .inr (10, [.ref tp, h0_courtReader, h0_lawReader, h0_draft, .ref aC, h0_laws, .ref g0, .ref k0, .ref ac, .ref sd, .ref mi, .ref dw, .ref rf, .int lc, .int lh, .int br, .int hi])), (tp, .inr (9, [.ref tB, .int u48_0, .int ta])), (tB, .inl (cI, 260, .inl u48_1))]) hP hD hk1 hFc ht hB [1, 2] [(false, 0), (true, 0), (true, 1)] rfl (by decide +kernel) (by decide +kernel) rfl
  clear hP hD hS hPc hDc hFc hB hk1 hz1 hvm
  have hP := hP9
  have hD := hD9
  have hS := hS9
  clear hP9 hD9 hS9
  obtain ⟨f48_0, f48_1, f48_2, f48_3⟩ : (0 ≤ u48_0.toInt) ∧ (u48_0.toInt ≤ 260) ∧ ((sB u48_1 u48_0.toInt, u48_0.toInt) = sW p4 4 (sB u39_1 u39_0.toInt, u39_0.toInt)) ∧ (zTy u48_0 u48_1) := hw
  have F48 := f48_2
  have F48_1 := f48_3
  refine lv_aload_n hx hb dX10_feed_51 rfl (lv_at hl 1 rfl) ?_
  refine va_get (D := (dC, dI)) (ci := 10) (v := .ref tp) (C := RX10) (T := TX10) (N := 17) hx hb hts iX10 hown hK hP 0 rfl rfl 0 (by decide) (hts _ qw356) (fun _ h9 => h9) rfl dX10_feed_52 ?_
  refine va_get (D := (dC, dI)) (ci := 9) (v := .int u48_0) (C := RX9) (T := TX9) (N := 3) hx hb hts iX9 hown hK hP 1 rfl rfl 1 (by decide) (hts _ qw133) (fun _ h9 => h9) rfl dX10_feed_55 ?_
  refine lv_sipush (v := 240) hx hb dX10_feed_58 (by decide) ?_
  refine lv_icmp_le (tgt := 75) hx hb dX10_feed_61 (by decide) (fun c61 => ?_) (fun c61 => ?_)
  · have c61 : u48_0.toInt ≤ 240 := z3 rfl (by decide) c61
    refine lv_aload_n hx hb dX10_feed_75 rfl (lv_at hl 1 rfl) ?_
    refine va_get (D := (dC, dI)) (ci := 10) (v := .ref tp) (C := RX10) (T := TX10) (N := 17) hx hb hts iX10 hown hK hP 0 rfl rfl 0 (by decide) (hts _ qw356) (fun _ h9 => h9) rfl dX10_feed_76 ?_
    refine va_get (D := (dC, dI)) (ci := 9) (v := .int u48_0) (C := RX9) (T := TX9) (N := 3) hx hb hts iX9 hown hK hP 1 rfl rfl 1 (by decide) (hts _ qw133) (fun _ h9 => h9) rfl dX10_feed_79 ?_
    rw [hQ]
    exact W.iret (v := u48_0) hx hb hr (fun t ht hW => ⟨⟨u48_0, (u48_0, u48_1), rfl, ⟨by (try dsimp only); omega, by (try dsimp only); omega, by (try dsimp only); omega, by (try dsimp only); omega, by (try dsimp only); exact zfdB (zfd_e F14 F22 F30 F39 F48) (by omega), by (try dsimp only); exact F48_1⟩, ⟨by rw [ht]; exact hP, hD⟩⟩, hS.F ht⟩) hS.2.2 dX10_feed_82
  · have c61 : 240 < u48_0.toInt := z4 rfl (by decide) c61
    refine lv_aload_n hx hb dX10_feed_64 rfl (lv_at hl 1 rfl) ?_
    refine va_get (D := (dC, dI)) (ci := 10) (v := .ref tp) (C := RX10) (T := TX10) (N := 17) hx hb hts iX10 hown hK hP 0 rfl rfl 0 (by decide) (hts _ qw356) (fun _ h9 => h9) rfl dX10_feed_65 ?_
    refine lv_iload hx hb dX10_feed_68 (lv_at hl 0 rfl) ?_
    refine va_put (D := (dC, dI)) (ci := 9) (v := .int tl) (ty := .int) (C := RX9) (T := TX9) (N := 3) hx hb hts iX9 tyX9 tyX9_ok nmX9 hown hK hP hD hS 1 rfl rfl 1 (by decide) (hts _ qw133) (fun _ h9 => h9) rfl (by decide +kernel) rfl rfl (Nat.le_of_ble_eq_true rfl) dX10_feed_70 (fun H locs hP9 hD9 hS9 => ?_)
    clear hP hD hS
    obtain ⟨hP, hD⟩ := zst (wX := [(h0, .inr (10, [.ref tp, h0_courtReader, h0_lawReader, h0_draft, .ref aC, h0_laws, .ref g0, .ref k0, .ref ac, .ref sd, .ref mi, .ref dw, .ref rf, .int lc, .int lh, .int br, .int hi])), (tp, .inr (9, [.ref tB, .int tl, .int ta])), (tB, .inl (cI, 260, .inl u48_1))]) hP9 hD9 rfl
    have hS := hS9
    clear hP9 hD9 hS9
    refine lv_iconst (v := (-1)) hx hb dX10_feed_73 (by decide) ?_
    have zr0 : ((-1) : Int32).toInt = (-1) := by decide
    rw [hQ]
    exact W.iret (v := ((-1))) hx hb hr (fun t ht hW => ⟨⟨(-1), (tl, u48_1), rfl, ⟨by (try dsimp only); omega, by (try dsimp only); omega, by (try dsimp only); omega, by (try dsimp only); omega, by (try dsimp only); exact zfdA (zfd_e F14 F22 F30 F39 F48) (by omega), by (try dsimp only); exact zfdT (zfd_e F14 F22 F30 F39 F48) F48_1⟩, ⟨by rw [ht]; exact hP, hD⟩⟩, hS.F ht⟩) hS.2.2 dX10_feed_74
set_option maxHeartbeats 4000000 in
set_option maxRecDepth 100000 in
theorem g_X10_end (l : Launch) (dC : Nat → ClassId) (dI : Nat → Nat → Nat) (cI cJ : ClassId) (h0 : Nat) (p0 : Int32) (tp : Nat) (h0_courtReader : Value) (h0_lawReader : Value) (h0_draft : Value) (aC : Nat) (h0_laws : Value) (g0 : Nat) (k0 : Nat) (ac : Nat) (sd : Nat) (mi : Nat) (dw : Nat) (rf : Nat) (lc : Int32) (lh : Int32) (br : Int32) (hi : Int32) (tB : Nat) (tl : Int32) (ta : Int32) (sz : Nat) (n_hi : 0 ≤ hi.toInt ∧ hi.toInt ≤ 1) (n_lc : 0 ≤ lc.toInt ∧ lc.toInt ≤ 4) (n_ta : 0 ≤ ta.toInt ∧ ta.toInt ≤ 240) (n_tl : 0 ≤ tl.toInt ∧ tl.toInt ≤ 240)    : Met l yX10_end (.code yX10_end cX10_end 2 (some .boolean) :: wA) ({ frames := 0, cells := 0, slots := 0, locals := 0 }) (zP (dC, dI) [(cI, .int), (cJ, .long)] [.ref h0, .int p0] sz [(h0, .inr (10, [.ref tp, h0_courtReader, h0_lawReader, h0_draft, .ref aC, h0_laws, .ref g0, .ref k0, .ref ac, .ref sd, .ref mi, .ref dw, .ref rf, .int lc, .int lh, .int br, .int hi])), (tp, .inr (9, [.ref tB, .int tl, .int ta]))]) (va_Qi (fun (r : Int32) (u : Int32) => (0 ≤ r.toInt) ∧ (r.toInt ≤ 1) ∧ (0 ≤ u.toInt) ∧ (u.toInt ≤ 240) ∧ ((r.toInt = 1 ∧ 0 ≤ p0.toInt ∧ p0.toInt ≤ tl.toInt ∧ u.toInt = p0.toInt) ∨ (r.toInt = 0 ∧ ¬ (0 ≤ p0.toInt ∧ p0.toInt ≤ tl.toInt) ∧ u.toInt = tl.toInt))) (fun (u : Int32) (t : State) => va_P (dC, dI) vwCl [(h0, .inr (10, [.ref tp, h0_courtReader, h0_lawReader, h0_draft, .ref aC, h0_laws, .ref g0, .ref k0, .ref ac, .ref sd, .ref mi, .ref dw, .ref rf, .int lc, .int lh, .int br, .int hi])), (tp, .inr (9, [.ref tB, .int u, .int ta]))] t.heap ∧ va_D (va_A [(h0, .inr (10, [.ref tp, h0_courtReader, h0_lawReader, h0_draft, .ref aC, h0_laws, .ref g0, .ref k0, .ref ac, .ref sd, .ref mi, .ref dw, .ref rf, .int lc, .int lh, .int br, .int hi])), (tp, .inr (9, [.ref tB, .int tl, .int ta]))] sz) [(h0, .inr (10, [.ref tp, h0_courtReader, h0_lawReader, h0_draft, .ref aC, h0_laws, .ref g0, .ref k0, .ref ac, .ref sd, .ref mi, .ref dw, .ref rf, .int lc, .int lh, .int br, .int hi])), (tp, .inr (9, [.ref tB, .int u, .int ta]))]) (va_A [(h0, .inr (10, [.ref tp, h0_courtReader, h0_lawReader, h0_draft, .ref aC, h0_laws, .ref g0, .ref k0, .ref ac, .ref sd, .ref mi, .ref dw, .ref rf, .int lc, .int lh, .int br, .int hi])), (tp, .inr (9, [.ref tB, .int tl, .int ta]))] sz)) 0 0 (va_A [(h0, .inr (10, [.ref tp, h0_courtReader, h0_lawReader, h0_draft, .ref aC, h0_laws, .ref g0, .ref k0, .ref ac, .ref sd, .ref mi, .ref dw, .ref rf, .int lc, .int lh, .int br, .int hi])), (tp, .inr (9, [.ref tB, .int tl, .int ta]))] sz) := by
  refine Met.ofW (cc := cX10_end) (maxL := 2) (ret := (some .boolean)) (by decide) rfl ?_
  intro p e s m args below meth c s₁ B hml hv
  have y_hi : zHid (0 ≤ hi.toInt ∧ hi.toInt ≤ 1) := n_hi
  have y_lc : zHid (0 ≤ lc.toInt ∧ lc.toInt ≤ 4) := n_lc
  have y_ta : zHid (0 ≤ ta.toInt ∧ ta.toInt ≤ 240) := n_ta
  clear n_hi n_lc n_ta
  obtain ⟨hargs, hsz, hP, hK, hT⟩ := hv
  have hx := B.exec
  have hb := B.bytes
  have hr := B.returns
  have hts : ∀ w ∈ wA, w.before args s = true := fun w h => atoms_spec (ws := .code yX10_end cX10_end 2 (some .boolean) :: wA) B.pre w (List.mem_cons_of_mem _ h)
  have hown : s.vm.findClass RX10 = some m.cls := findClass_of_methodNamed B.named
  have hlocks := B.notSynchronized
  subst hsz
  have hD := hT.self (sz := s.heap.size)
  generalize hAe : va_A [(h0, .inr (10, [.ref tp, h0_courtReader, h0_lawReader, h0_draft, .ref aC, h0_laws, .ref g0, .ref k0, .ref ac, .ref sd, .ref mi, .ref dw, .ref rf, .int lc, .int lh, .int br, .int hi])), (tp, .inr (9, [.ref tB, .int tl, .int ta]))] s.heap.size = A at hD ⊢
  have hA : ∀ q : Nat, s.heap.size ≤ q → A q := fun q h => by rw [← hAe]; exact Or.inr h
  have hl := lv_entry ([.ref h0, .int p0]) (n := 2) (Nat.le_of_ble_eq_true rfl)
  rw [show entryFrame m args 2 = entryFrame m ([.ref h0, .int p0] : List Value).toArray 2 by rw [hargs], lg_entry_eq]
  generalize (lg_sl ([.ref h0, .int p0]) ++ List.replicate (2 - (lg_sl ([.ref h0, .int p0])).length) Slot.unset).toArray = ls at hl ⊢
  have hl : lv_has ls 2 [(0, .ref h0), (1, .int p0)] := hl
  refine zstart (fun H hH => ?_)
  rw [← hH] at hP
  have hS : va_S A s.heap H [] := by rw [hH]; exact va_S.rf
  generalize ([] : List Loc) = locs at hS ⊢
  refine zgen (fun R Q hR hQ => ?_)
  refine lv_iload_n hx hb dX10_end_0 rfl (lv_at hl 1 rfl) ?_
  refine lv_if_lt (tgt := 15) hx hb dX10_end_1 (by decide) (fun c1 => ?_) (fun c1 => ?_)
  · have c1 : p0.toInt < 0 := z1 rfl (by decide) c1
    refine lv_iconst (v := 0) hx hb dX10_end_15 (by decide) ?_
    have zr0 : (0 : Int32).toInt = 0 := by decide
    rw [hQ]
    exact W.zret (v := 0) (ty := .boolean) hx hb hr rfl (fun t ht hW => ⟨⟨0, tl, rfl, ⟨by (try dsimp only); omega, by (try dsimp only); omega, by (try dsimp only); omega, by (try dsimp only); omega, by (try dsimp only); omega⟩, ⟨by rw [ht]; exact hP, hD⟩⟩, hS.F ht⟩) hS.2.2 dX10_end_16
  · have c1 : 0 ≤ p0.toInt := z2 rfl (by decide) c1
    refine lv_iload_n hx hb dX10_end_4 rfl (lv_at hl 1 rfl) ?_
    refine lv_aload_n hx hb dX10_end_5 rfl (lv_at hl 0 rfl) ?_
    refine va_get (D := (dC, dI)) (ci := 10) (v := .ref tp) (C := RX10) (T := TX10) (N := 17) hx hb hts iX10 hown hK hP 0 rfl rfl 0 (by decide) (hts _ qw356) (fun _ h9 => h9) rfl dX10_end_6 ?_
    refine va_get (D := (dC, dI)) (ci := 9) (v := .int tl) (C := RX9) (T := TX9) (N := 3) hx hb hts iX9 hown hK hP 1 rfl rfl 1 (by decide) (hts _ qw133) (fun _ h9 => h9) rfl dX10_end_9 ?_
    refine lv_icmp_le (tgt := 17) hx hb dX10_end_12 (by decide) (fun c12 => ?_) (fun c12 => ?_)
    · have c12 : p0.toInt ≤ tl.toInt := z3 rfl rfl c12
      refine lv_aload_n hx hb dX10_end_17 rfl (lv_at hl 0 rfl) ?_
      refine va_get (D := (dC, dI)) (ci := 10) (v := .ref tp) (C := RX10) (T := TX10) (N := 17) hx hb hts iX10 hown hK hP 0 rfl rfl 0 (by decide) (hts _ qw356) (fun _ h9 => h9) rfl dX10_end_18 ?_
      refine lv_iload_n hx hb dX10_end_21 rfl (lv_at hl 1 rfl) ?_
      refine va_put (D := (dC, dI)) (ci := 9) (v := .int p0) (ty := .int) (C := RX9) (T := TX9) (N := 3) hx hb hts iX9 tyX9 tyX9_ok nmX9 hown hK hP hD hS 1 rfl rfl 1 (by decide) (hts _ qw133) (fun _ h9 => h9) rfl (by decide +kernel) rfl rfl (Nat.le_of_ble_eq_true rfl) dX10_end_22 (fun H locs hP9 hD9 hS9 => ?_)
      clear hP hD hS
      obtain ⟨hP, hD⟩ := zst (wX := [(h0, .inr (10, [.ref tp, h0_courtReader, h0_lawReader, h0_draft, .ref aC, h0_laws, .ref g0, .ref k0, .ref ac, .ref sd, .ref mi, .ref dw, .ref rf, .int lc, .int lh, .int br, .int hi])), (tp, .inr (9, [.ref tB, .int p0, .int ta]))]) hP9 hD9 rfl
      have hS := hS9
      clear hP9 hD9 hS9
      refine lv_iconst (v := 1) hx hb dX10_end_25 (by decide) ?_
      have zr0 : (1 : Int32).toInt = 1 := by decide
      rw [hQ]
      exact W.zret (v := 1) (ty := .boolean) hx hb hr rfl (fun t ht hW => ⟨⟨1, p0, rfl, ⟨by (try dsimp only); omega, by (try dsimp only); omega, by (try dsimp only); omega, by (try dsimp only); omega, by (try dsimp only); omega⟩, ⟨by rw [ht]; exact hP, hD⟩⟩, hS.F ht⟩) hS.2.2 dX10_end_26
    · have c12 : tl.toInt < p0.toInt := z4 rfl rfl c12
      refine lv_iconst (v := 0) hx hb dX10_end_15 (by decide) ?_
      have zr0 : (0 : Int32).toInt = 0 := by decide
      rw [hQ]
      exact W.zret (v := 0) (ty := .boolean) hx hb hr rfl (fun t ht hW => ⟨⟨0, tl, rfl, ⟨by (try dsimp only); omega, by (try dsimp only); omega, by (try dsimp only); omega, by (try dsimp only); omega, by (try dsimp only); omega⟩, ⟨by rw [ht]; exact hP, hD⟩⟩, hS.F ht⟩) hS.2.2 dX10_end_16
set_option maxHeartbeats 4000000 in
set_option maxRecDepth 100000 in
theorem g_X10_rule (l : Launch) (dC : Nat → ClassId) (dI : Nat → Nat → Nat) (cI cJ : ClassId) (h0 : Nat) (p0 : Int32) (tp : Nat) (h0_courtReader : Value) (h0_lawReader : Value) (h0_draft : Value) (aC : Nat) (h0_laws : Value) (g0 : Nat) (k0 : Nat) (ac : Nat) (sd : Nat) (mi : Nat) (dw : Nat) (rf : Nat) (lc : Int32) (lh : Int32) (br : Int32) (hi : Int32) (aR : Nat) (aB : Nat) (aP : Nat) (nb : Int32) (np : Int32) (fr : Nat → Int32) (gY : Nat) (gF : Nat) (gP : Nat) (gpn : Int32) (glt : Int32) (gsh : Int32) (gwd : Int32) (gpu : Int32) (gmo : Int32) (sz : Nat) (n_gpn : 0 ≤ gpn.toInt ∧ gpn.toInt ≤ 20) (n_gwd : (-1) ≤ gwd.toInt ∧ gwd.toInt ≤ 5) (n_hi : 0 ≤ hi.toInt ∧ hi.toInt ≤ 1) (n_lc : 0 ≤ lc.toInt ∧ lc.toInt ≤ 4) (n_nb : 0 ≤ nb.toInt ∧ nb.toInt ≤ 6) (n_np : 0 ≤ np.toInt ∧ np.toInt ≤ 5)    : Met l yX10_rule (.code yX10_rule cX10_rule 2 (some .int) :: wA) ({ frames := 1, cells := 0, slots := 0, locals := 20 }) (zP (dC, dI) [(cI, .int), (cJ, .long)] [.ref h0, .int p0] sz [(h0, .inr (10, [.ref tp, h0_courtReader, h0_lawReader, h0_draft, .ref aC, h0_laws, .ref g0, .ref k0, .ref ac, .ref sd, .ref mi, .ref dw, .ref rf, .int lc, .int lh, .int br, .int hi])), (aC, .inr (1, [.ref aR, .ref aB, .ref aP, .int nb, .int np])), (aR, .inl (cI, 3, .inl fr)), (g0, .inr (7, [.ref gY, .ref gF, .ref gP, .int gpn, .int glt, .int gsh, .int gwd, .int gpu, .int gmo]))]) (va_Qi (fun (r : Int32) (u : Unit) => (∀ (kc : zK3) (kT : zT) (q_fb : Nat → Int32) (q_fp : Nat → Int32) (q_gfY : Nat → Int32) (q_gfF : Nat → Int32) (q_gfP : Nat → Int32) (q_fR : Nat → Int32) (q_pl : Int32) (q_cn : Int32) (q_frf : Nat → Int32), zCn fr q_fb q_fp nb.toInt np.toInt kc → zKo nb.toInt np.toInt kc kT → zTc nb.toInt np.toInt kT q_gfY q_gfF q_gfP gpn glt gsh gwd gpu gmo q_fR q_pl q_cn q_frf → r = sV_rul nb.toInt kc kT.1 p0)) (fun (_ : Unit) (_ : State) => True) (va_A [] sz)) 0 0 (va_A [] sz) := by
  refine Met.ofW (cc := cX10_rule) (maxL := 2) (ret := (some .int)) (by decide) rfl ?_
  intro p e s m args below meth c s₁ B hml hv
  have y_gpn : zHid (0 ≤ gpn.toInt ∧ gpn.toInt ≤ 20) := n_gpn
  have y_gwd : zHid ((-1) ≤ gwd.toInt ∧ gwd.toInt ≤ 5) := n_gwd
  have y_hi : zHid (0 ≤ hi.toInt ∧ hi.toInt ≤ 1) := n_hi
  have y_lc : zHid (0 ≤ lc.toInt ∧ lc.toInt ≤ 4) := n_lc
  clear n_gpn n_gwd n_hi n_lc
  obtain ⟨hargs, hsz, hP, hK, hT⟩ := hv
  have hx := B.exec
  have hb := B.bytes
  have hr := B.returns
  have hts : ∀ w ∈ wA, w.before args s = true := fun w h => atoms_spec (ws := .code yX10_rule cX10_rule 2 (some .int) :: wA) B.pre w (List.mem_cons_of_mem _ h)
  have hown : s.vm.findClass RX10 = some m.cls := findClass_of_methodNamed B.named
  have hlocks := B.notSynchronized
  subst hsz
  have hD : va_D (va_A [] s.heap.size) [] := zD0
  generalize hAe : va_A [] s.heap.size = A at hD ⊢
  have hA : ∀ q : Nat, s.heap.size ≤ q → A q := fun q h => by rw [← hAe]; exact Or.inr h
  have hl := lv_entry ([.ref h0, .int p0]) (n := 2) (Nat.le_of_ble_eq_true rfl)
  rw [show entryFrame m args 2 = entryFrame m ([.ref h0, .int p0] : List Value).toArray 2 by rw [hargs], lg_entry_eq]
  generalize (lg_sl ([.ref h0, .int p0]) ++ List.replicate (2 - (lg_sl ([.ref h0, .int p0])).length) Slot.unset).toArray = ls at hl ⊢
  have hl : lv_has ls 2 [(0, .ref h0), (1, .int p0)] := hl
  refine zstart (fun H hH => ?_)
  rw [← hH] at hP
  have hS : va_S A s.heap H [] := by rw [hH]; exact va_S.rf
  generalize ([] : List Loc) = locs at hS ⊢
  refine zgen (fun R Q hR hQ => ?_)
  refine lv_aload_n hx hb dX10_rule_0 rfl (lv_at hl 0 rfl) ?_
  obtain ⟨hPc, hDc⟩ := zc2 (wc := [(h0, .inr (10, [.ref tp, h0_courtReader, h0_lawReader, h0_draft, .ref aC, h0_laws, .ref g0, .ref k0, .ref ac, .ref sd, .ref mi, .ref dw, .ref rf, .int lc, .int lh, .int br, .int hi])), (aC, .inr (1, [.ref aR, .ref aB, .ref aP, .int nb, .int np]))]) hP hT [0, 1] (by decide +kernel) rfl
  have hFc := zfr hS hA
  refine va_calli (va_runV (As := []) (rest := []) ⟨hx, hb, hml, hown, hts⟩ (g_X10_hasCourt l dC dI cI cJ h0 (.ref tp) h0_courtReader h0_lawReader h0_draft aC h0_laws (.ref g0) (.ref k0) (.ref ac) (.ref sd) (.ref mi) (.ref dw) (.ref rf) (.int lc) (.int lh) (.int br) (.int hi) aR aB aP nb np H.size) (cwV 0 hts (zgV qw584 qw586 qw10 qw98 qw587) rfl rfl rfl hd_X10_hasCourt ⟨by rw [hR]; exact Nat.le_of_ble_eq_true rfl, by rw [hR]; exact Nat.le_of_ble_eq_true rfl⟩) (zPV hPc hK hDc (va_recv (q := (RX10, TX10, 17)) hK hP (ci := 10) (q0 := 0) rfl rfl)) rfl rfl hl.1 rfl (lv_room (Nat.le_of_ble_eq_true rfl)) dX10_rule_1 ⟨Nat.zero_le _, Nat.zero_le _⟩) hS (fun q _ h => hFc q h) hFc (fun v1 u1 t H locs ht hvm hw hB hz1 hk1 hS9 => ?_)
  replace hP := zkeep hP hk1
  replace hS := hS9
  clear hPc hDc hFc hk1 hz1 hvm hS9
  obtain ⟨f1_0, f1_1, f1_2, f1_3⟩ : (0 ≤ v1.toInt) ∧ (v1.toInt ≤ 1) ∧ (¬ v1.toInt = 0 → 0 < nb.toInt) ∧ (v1.toInt = 0 → nb.toInt ≤ 0) := hw
  refine lv_if_ne (tgt := 9) hx hb dX10_rule_4 (by decide) (fun c4 => ?_) (fun c4 => ?_)
  · have c4 : ¬ v1.toInt = 0 := z6 rfl (by decide) c4
    refine lv_iload_n hx hb dX10_rule_9 rfl (lv_at hl 1 rfl) ?_
    rcases (show (p0.toInt < 0 ∨ 2 < p0.toInt) ∨ p0.toInt = 0 ∨ p0.toInt = 1 ∨ p0.toInt = 2 by omega) with c10 | c10 | c10 | c10
    · refine lv_tableOut (tgt := 60) hx hb dX10_rule_10 c10 (by decide) ?_
      refine lv_iconst (v := (-1)) hx hb dX10_rule_60 (by decide) ?_
      have zr0 : ((-1) : Int32).toInt = (-1) := by decide
      rw [hQ]
      exact W.iret (v := ((-1))) hx hb hr (fun t ht hW => ⟨⟨(-1), (), rfl, (fun kc kT q_fb q_fp q_gfY q_gfF q_gfP q_fR q_pl q_cn q_frf hc hb h => by unfold sV_rul; rw [if_neg (by omega), if_neg (by omega), if_neg (by omega), if_neg (by omega)]; ), trivial⟩, hS.F ht⟩) hS.2.2 dX10_rule_61
    · refine lv_tableIn (off := 26) (tgt := 36) hx hb dX10_rule_10 (by omega) (by omega) (by rw [c10]; rfl) (by decide) ?_
      refine lv_aload_n hx hb dX10_rule_36 rfl (lv_at hl 0 rfl) ?_
      refine va_get (D := (dC, dI)) (ci := 10) (v := .ref g0) (C := RX10) (T := TX10) (N := 17) hx hb hts iX10 hown hK hP 0 rfl rfl 6 (by decide) (hts _ qw362) (fun _ h9 => h9) rfl dX10_rule_37 ?_
      refine va_get (D := (dC, dI)) (ci := 7) (v := .int gpu) (C := RX7) (T := TX7) (N := 9) hx hb hts iX7 hown hK hP 3 rfl rfl 7 (by decide) (hts _ qw239) (fun _ h9 => h9) rfl dX10_rule_40 ?_
      rw [hQ]
      exact W.iret (v := gpu) hx hb hr (fun t ht hW => ⟨⟨gpu, (), rfl, (fun kc kT q_fb q_fp q_gfY q_gfF q_gfP q_fR q_pl q_cn q_frf hc hb h => by unfold sV_rul; rw [if_neg (by omega), if_pos (by omega)]; exact (zSc_pu h.1).symm), trivial⟩, hS.F ht⟩) hS.2.2 dX10_rule_43
    · refine lv_tableIn (off := 34) (tgt := 44) hx hb dX10_rule_10 (by omega) (by omega) (by rw [c10]; rfl) (by decide) ?_
      refine lv_aload_n hx hb dX10_rule_44 rfl (lv_at hl 0 rfl) ?_
      refine va_get (D := (dC, dI)) (ci := 10) (v := .ref aC) (C := RX10) (T := TX10) (N := 17) hx hb hts iX10 hown hK hP 0 rfl rfl 4 (by decide) (hts _ qw360) (fun _ h9 => h9) rfl dX10_rule_45 ?_
      obtain ⟨hPc, hDc⟩ := zc2 (wc := [(aC, .inr (1, [.ref aR, .ref aB, .ref aP, .int nb, .int np])), (aR, .inl (cI, 3, .inl fr))]) hP hT [1, 2] (by decide +kernel) rfl
      have hFc := zfr hS hA
      refine va_calli (va_runV (As := []) (rest := []) ⟨hx, hb, hml, hown, hts⟩ (g_X1_wantOfFace l dC dI cI cJ aC aR aB aP nb np fr H.size) (cwV 0 hts (zgV qw588 qw589 qw590 qw102 qw591) rfl rfl rfl hd_X1_wantOfFace ⟨by rw [hR]; exact Nat.le_of_ble_eq_true rfl, by rw [hR]; exact Nat.le_of_ble_eq_true rfl⟩) (zPV hPc hK hDc (va_recv (q := (RX1, TX1, 5)) hK hP (ci := 1) (q0 := 1) rfl rfl)) rfl rfl hl.1 rfl (lv_room (Nat.le_of_ble_eq_true rfl)) dX10_rule_48 ⟨Nat.zero_le _, Nat.zero_le _⟩) hS (fun q _ h => hFc q h) hFc (fun v48 u48 t H locs ht hvm hw hB hz1 hk1 hS9 => ?_)
      replace hP := zkeep hP hk1
      replace hS := hS9
      clear hPc hDc hFc hk1 hz1 hvm hS9
      have f48_0 : (v48 = fr 1) := hw
      have F48 := f48_0
      rw [hQ]
      exact W.iret (v := v48) hx hb hr (fun t ht hW => ⟨⟨v48, (), rfl, (fun kc kT q_fb q_fp q_gfY q_gfF q_gfP q_fR q_pl q_cn q_frf hc hb h => by unfold sV_rul; rw [if_neg (by omega), if_neg (by omega), if_pos (by omega)]; exact F48.trans (hc.1 1 (by decide))), trivial⟩, hS.F ht⟩) hS.2.2 dX10_rule_51
    · refine lv_tableIn (off := 42) (tgt := 52) hx hb dX10_rule_10 (by omega) (by omega) (by rw [c10]; rfl) (by decide) ?_
      refine lv_aload_n hx hb dX10_rule_52 rfl (lv_at hl 0 rfl) ?_
      refine va_get (D := (dC, dI)) (ci := 10) (v := .ref aC) (C := RX10) (T := TX10) (N := 17) hx hb hts iX10 hown hK hP 0 rfl rfl 4 (by decide) (hts _ qw360) (fun _ h9 => h9) rfl dX10_rule_53 ?_
      obtain ⟨hPc, hDc⟩ := zc2 (wc := [(aC, .inr (1, [.ref aR, .ref aB, .ref aP, .int nb, .int np])), (aR, .inl (cI, 3, .inl fr))]) hP hT [1, 2] (by decide +kernel) rfl
      have hFc := zfr hS hA
      refine va_calli (va_runV (As := []) (rest := []) ⟨hx, hb, hml, hown, hts⟩ (g_X1_wantOfDowry l dC dI cI cJ aC aR aB aP nb np fr H.size) (cwV 0 hts (zgV qw592 qw593 qw594 qw102 qw595) rfl rfl rfl hd_X1_wantOfDowry ⟨by rw [hR]; exact Nat.le_of_ble_eq_true rfl, by rw [hR]; exact Nat.le_of_ble_eq_true rfl⟩) (zPV hPc hK hDc (va_recv (q := (RX1, TX1, 5)) hK hP (ci := 1) (q0 := 1) rfl rfl)) rfl rfl hl.1 rfl (lv_room (Nat.le_of_ble_eq_true rfl)) dX10_rule_56 ⟨Nat.zero_le _, Nat.zero_le _⟩) hS (fun q _ h => hFc q h) hFc (fun v56 u56 t H locs ht hvm hw hB hz1 hk1 hS9 => ?_)
      replace hP := zkeep hP hk1
      replace hS := hS9
      clear hPc hDc hFc hk1 hz1 hvm hS9
      have f56_0 : (v56 = fr 2) := hw
      have F56 := f56_0
      rw [hQ]
      exact W.iret (v := v56) hx hb hr (fun t ht hW => ⟨⟨v56, (), rfl, (fun kc kT q_fb q_fp q_gfY q_gfF q_gfP q_fR q_pl q_cn q_frf hc hb h => by unfold sV_rul; rw [if_neg (by omega), if_neg (by omega), if_neg (by omega), if_pos (by omega)]; exact F56.trans (hc.1 2 (by decide))), trivial⟩, hS.F ht⟩) hS.2.2 dX10_rule_59
  · have c4 : v1.toInt = 0 := z5 rfl (by decide) c4
    refine lv_iconst (v := (-1)) hx hb dX10_rule_7 (by decide) ?_
    have zr0 : ((-1) : Int32).toInt = (-1) := by decide
    rw [hQ]
    exact W.iret (v := ((-1))) hx hb hr (fun t ht hW => ⟨⟨(-1), (), rfl, (fun kc kT q_fb q_fp q_gfY q_gfF q_gfP q_fR q_pl q_cn q_frf hc hb h => by unfold sV_rul; rw [if_pos (by omega)]; ), trivial⟩, hS.F ht⟩) hS.2.2 dX10_rule_8
set_option maxHeartbeats 4000000 in
set_option maxRecDepth 100000 in
theorem g_X10_painter (l : Launch) (dC : Nat → ClassId) (dI : Nat → Nat → Nat) (cI cJ : ClassId) (h0 : Nat) (p0 : Int32) (p1 : Int32) (tp : Nat) (h0_courtReader : Value) (h0_lawReader : Value) (h0_draft : Value) (aC : Nat) (h0_laws : Value) (g0 : Nat) (k0 : Nat) (ac : Nat) (sd : Nat) (mi : Nat) (dw : Nat) (rf : Nat) (lc : Int32) (lh : Int32) (br : Int32) (hi : Int32) (aR : Nat) (aB : Nat) (aP : Nat) (nb : Int32) (np : Int32) (fp : Nat → Int32) (gY : Nat) (gF : Nat) (gP : Nat) (gpn : Int32) (glt : Int32) (gsh : Int32) (gwd : Int32) (gpu : Int32) (gmo : Int32) (gfF : Nat → Int32) (sz : Nat) (n_gpn : 0 ≤ gpn.toInt ∧ gpn.toInt ≤ 20) (n_gwd : (-1) ≤ gwd.toInt ∧ gwd.toInt ≤ 5) (n_hi : 0 ≤ hi.toInt ∧ hi.toInt ≤ 1) (n_lc : 0 ≤ lc.toInt ∧ lc.toInt ≤ 4) (n_nb : 0 ≤ nb.toInt ∧ nb.toInt ≤ 6) (n_np : 0 ≤ np.toInt ∧ np.toInt ≤ 5)    : Met l yX10_painter (.code yX10_painter cX10_painter 3 (some .int) :: wA) ({ frames := 2, cells := 0, slots := 0, locals := 43 }) (zP (dC, dI) [(cI, .int), (cJ, .long)] [.ref h0, .int p0, .int p1] sz [(h0, .inr (10, [.ref tp, h0_courtReader, h0_lawReader, h0_draft, .ref aC, h0_laws, .ref g0, .ref k0, .ref ac, .ref sd, .ref mi, .ref dw, .ref rf, .int lc, .int lh, .int br, .int hi])), (aC, .inr (1, [.ref aR, .ref aB, .ref aP, .int nb, .int np])), (aP, .inl (cI, 20, .inl fp)), (g0, .inr (7, [.ref gY, .ref gF, .ref gP, .int gpn, .int glt, .int gsh, .int gwd, .int gpu, .int gmo])), (gF, .inl (cI, 5, .inl gfF))]) (va_Qi (fun (r : Int32) (u : Unit) => (∀ (kc : zK3) (kT : zT) (q_fr : Nat → Int32) (q_fb : Nat → Int32) (q_gfY : Nat → Int32) (q_gfP : Nat → Int32) (q_fR : Nat → Int32) (q_pl : Int32) (q_cn : Int32) (q_frf : Nat → Int32), zCn q_fr q_fb fp nb.toInt np.toInt kc → zKo nb.toInt np.toInt kc kT → zTc nb.toInt np.toInt kT q_gfY gfF q_gfP gpn glt gsh gwd gpu gmo q_fR q_pl q_cn q_frf → r = sV_pai np.toInt kc kT.1 p0 p1)) (fun (_ : Unit) (_ : State) => True) (va_A [] sz)) 0 0 (va_A [] sz) := by
  refine Met.ofW (cc := cX10_painter) (maxL := 3) (ret := (some .int)) (by decide) rfl ?_
  intro p e s m args below meth c s₁ B hml hv
  have y_gpn : zHid (0 ≤ gpn.toInt ∧ gpn.toInt ≤ 20) := n_gpn
  have y_gwd : zHid ((-1) ≤ gwd.toInt ∧ gwd.toInt ≤ 5) := n_gwd
  have y_hi : zHid (0 ≤ hi.toInt ∧ hi.toInt ≤ 1) := n_hi
  have y_lc : zHid (0 ≤ lc.toInt ∧ lc.toInt ≤ 4) := n_lc
  clear n_gpn n_gwd n_hi n_lc
  obtain ⟨hargs, hsz, hP, hK, hT⟩ := hv
  have hx := B.exec
  have hb := B.bytes
  have hr := B.returns
  have hts : ∀ w ∈ wA, w.before args s = true := fun w h => atoms_spec (ws := .code yX10_painter cX10_painter 3 (some .int) :: wA) B.pre w (List.mem_cons_of_mem _ h)
  have hown : s.vm.findClass RX10 = some m.cls := findClass_of_methodNamed B.named
  have hlocks := B.notSynchronized
  subst hsz
  have hD : va_D (va_A [] s.heap.size) [] := zD0
  generalize hAe : va_A [] s.heap.size = A at hD ⊢
  have hA : ∀ q : Nat, s.heap.size ≤ q → A q := fun q h => by rw [← hAe]; exact Or.inr h
  have hl := lv_entry ([.ref h0, .int p0, .int p1]) (n := 3) (Nat.le_of_ble_eq_true rfl)
  rw [show entryFrame m args 3 = entryFrame m ([.ref h0, .int p0, .int p1] : List Value).toArray 3 by rw [hargs], lg_entry_eq]
  generalize (lg_sl ([.ref h0, .int p0, .int p1]) ++ List.replicate (3 - (lg_sl ([.ref h0, .int p0, .int p1])).length) Slot.unset).toArray = ls at hl ⊢
  have hl : lv_has ls 3 [(0, .ref h0), (1, .int p0), (2, .int p1)] := hl
  refine zstart (fun H hH => ?_)
  rw [← hH] at hP
  have hS : va_S A s.heap H [] := by rw [hH]; exact va_S.rf
  generalize ([] : List Loc) = locs at hS ⊢
  refine zgen (fun R Q hR hQ => ?_)
  refine lv_aload_n hx hb dX10_painter_0 rfl (lv_at hl 0 rfl) ?_
  refine lv_iload_n hx hb dX10_painter_1 rfl (lv_at hl 1 rfl) ?_
  obtain ⟨hPc, hDc⟩ := zc2 (wc := [(h0, .inr (10, [.ref tp, h0_courtReader, h0_lawReader, h0_draft, .ref aC, h0_laws, .ref g0, .ref k0, .ref ac, .ref sd, .ref mi, .ref dw, .ref rf, .int lc, .int lh, .int br, .int hi])), (aC, .inr (1, [.ref aR, .ref aB, .ref aP, .int nb, .int np]))]) hP hT [0, 1] (by decide +kernel) rfl
  have hFc := zfr hS hA
  refine va_calli (va_runV (As := [.int p0]) (rest := []) ⟨hx, hb, hml, hown, hts⟩ (g_X10_isPainter l dC dI cI cJ h0 p0 (.ref tp) h0_courtReader h0_lawReader h0_draft aC h0_laws (.ref g0) (.ref k0) (.ref ac) (.ref sd) (.ref mi) (.ref dw) (.ref rf) (.int lc) (.int lh) (.int br) (.int hi) aR aB aP nb np H.size n_np) (cwV 1 hts (zgV qw600 qw602 qw11 qw98 qw603) rfl rfl rfl hd_X10_isPainter ⟨by rw [hR]; exact Nat.le_of_ble_eq_true rfl, by rw [hR]; exact Nat.le_of_ble_eq_true rfl⟩) (zPV hPc hK hDc (va_recv (q := (RX10, TX10, 17)) hK hP (ci := 10) (q0 := 0) rfl rfl)) rfl rfl hl.1 rfl (lv_room (Nat.le_of_ble_eq_true rfl)) dX10_painter_2 ⟨Nat.zero_le _, Nat.zero_le _⟩) hS (fun q _ h => hFc q h) hFc (fun v2 u2 t H locs ht hvm hw hB hz1 hk1 hS9 => ?_)
  replace hP := zkeep hP hk1
  replace hS := hS9
  clear hPc hDc hFc hk1 hz1 hvm hS9
  obtain ⟨f2_0, f2_1, f2_2, f2_3⟩ : (0 ≤ v2.toInt) ∧ (v2.toInt ≤ 1) ∧ (¬ v2.toInt = 0 → (0 ≤ p0.toInt ∧ p0.toInt < np.toInt)) ∧ (v2.toInt = 0 → ¬ (0 ≤ p0.toInt ∧ p0.toInt < np.toInt)) := hw
  refine lv_if_ne (tgt := 10) hx hb dX10_painter_5 (by decide) (fun c5 => ?_) (fun c5 => ?_)
  · have c5 : ¬ v2.toInt = 0 := z6 rfl (by decide) c5
    refine lv_iload_n hx hb dX10_painter_10 rfl (lv_at hl 2 rfl) ?_
    rcases (show (p1.toInt < 0 ∨ 3 < p1.toInt) ∨ p1.toInt = 0 ∨ p1.toInt = 1 ∨ p1.toInt = 2 ∨ p1.toInt = 3 by omega) with c11 | c11 | c11 | c11 | c11
    · refine lv_tableOut (tgt := 77) hx hb dX10_painter_11 c11 (by decide) ?_
      refine lv_iconst (v := (-1)) hx hb dX10_painter_77 (by decide) ?_
      have zr0 : ((-1) : Int32).toInt = (-1) := by decide
      rw [hQ]
      exact W.iret (v := ((-1))) hx hb hr (fun t ht hW => ⟨⟨(-1), (), rfl, (fun kc kT q_fr q_fb q_gfY q_gfP q_fR q_pl q_cn q_frf hc hb h => by unfold sV_pai; rw [if_neg (by omega), if_neg (by omega), if_neg (by omega), if_neg (by omega), if_neg (by omega)]; ), trivial⟩, hS.F ht⟩) hS.2.2 dX10_painter_78
    · refine lv_tableIn (off := 29) (tgt := 40) hx hb dX10_painter_11 (by omega) (by omega) (by rw [c11]; rfl) (by decide) ?_
      refine lv_aload_n hx hb dX10_painter_40 rfl (lv_at hl 0 rfl) ?_
      refine va_get (D := (dC, dI)) (ci := 10) (v := .ref aC) (C := RX10) (T := TX10) (N := 17) hx hb hts iX10 hown hK hP 0 rfl rfl 4 (by decide) (hts _ qw360) (fun _ h9 => h9) rfl dX10_painter_41 ?_
      refine lv_iload_n hx hb dX10_painter_44 rfl (lv_at hl 1 rfl) ?_
      obtain ⟨hPc, hDc⟩ := zc2 (wc := [(aC, .inr (1, [.ref aR, .ref aB, .ref aP, .int nb, .int np])), (aP, .inl (cI, 20, .inl fp))]) hP hT [1, 2] (by decide +kernel) rfl
      have hFc := zfr hS hA
      refine va_calli (va_runV (As := [.int p0]) (rest := []) ⟨hx, hb, hml, hown, hts⟩ (g_X1_skillOf l dC dI cI cJ aC p0 aR aB aP nb np fp H.size (by omega)) (cwV 1 hts (zgV qw604 qw605 qw606 qw102 qw607) rfl rfl rfl hd_X1_skillOf ⟨by rw [hR]; exact Nat.le_of_ble_eq_true rfl, by rw [hR]; exact Nat.le_of_ble_eq_true rfl⟩) (zPV hPc hK hDc (va_recv (q := (RX1, TX1, 5)) hK hP (ci := 1) (q0 := 1) rfl rfl)) rfl rfl hl.1 rfl (lv_room (Nat.le_of_ble_eq_true rfl)) dX10_painter_45 ⟨Nat.zero_le _, Nat.zero_le _⟩) hS (fun q _ h => hFc q h) hFc (fun v45 u45 t H locs ht hvm hw hB hz1 hk1 hS9 => ?_)
      replace hP := zkeep hP hk1
      replace hS := hS9
      clear hPc hDc hFc hk1 hz1 hvm hS9
      have f45_0 : (v45 = fp (4 * p0.toInt.toNat)) := hw
      have F45 := f45_0
      rw [hQ]
      exact W.iret (v := v45) hx hb hr (fun t ht hW => ⟨⟨v45, (), rfl, (fun kc kT q_fr q_fb q_gfY q_gfP q_fR q_pl q_cn q_frf hc hb h => by have y45 : v45 = kc.2.2 (4 * p0.toInt.toNat) := F45.trans (hc.2.2 _ (by omega)); unfold sV_pai; rw [if_neg (by omega), if_pos (by omega)]; exact y45), trivial⟩, hS.F ht⟩) hS.2.2 dX10_painter_48
    · refine lv_tableIn (off := 38) (tgt := 49) hx hb dX10_painter_11 (by omega) (by omega) (by rw [c11]; rfl) (by decide) ?_
      refine lv_aload_n hx hb dX10_painter_49 rfl (lv_at hl 0 rfl) ?_
      refine va_get (D := (dC, dI)) (ci := 10) (v := .ref aC) (C := RX10) (T := TX10) (N := 17) hx hb hts iX10 hown hK hP 0 rfl rfl 4 (by decide) (hts _ qw360) (fun _ h9 => h9) rfl dX10_painter_50 ?_
      refine lv_iload_n hx hb dX10_painter_53 rfl (lv_at hl 1 rfl) ?_
      obtain ⟨hPc, hDc⟩ := zc2 (wc := [(aC, .inr (1, [.ref aR, .ref aB, .ref aP, .int nb, .int np])), (aP, .inl (cI, 20, .inl fp))]) hP hT [1, 2] (by decide +kernel) rfl
      have hFc := zfr hS hA
      refine va_calli (va_runV (As := [.int p0]) (rest := []) ⟨hx, hb, hml, hown, hts⟩ (g_X1_feeOf l dC dI cI cJ aC p0 aR aB aP nb np fp H.size (by omega)) (cwV 1 hts (zgV qw609 qw610 qw611 qw102 qw612) rfl rfl rfl hd_X1_feeOf ⟨by rw [hR]; exact Nat.le_of_ble_eq_true rfl, by rw [hR]; exact Nat.le_of_ble_eq_true rfl⟩) (zPV hPc hK hDc (va_recv (q := (RX1, TX1, 5)) hK hP (ci := 1) (q0 := 1) rfl rfl)) rfl rfl hl.1 rfl (lv_room (Nat.le_of_ble_eq_true rfl)) dX10_painter_54 ⟨Nat.zero_le _, Nat.zero_le _⟩) hS (fun q _ h => hFc q h) hFc (fun v54 u54 t H locs ht hvm hw hB hz1 hk1 hS9 => ?_)
      replace hP := zkeep hP hk1
      replace hS := hS9
      clear hPc hDc hFc hk1 hz1 hvm hS9
      have f54_0 : (v54 = fp (4 * p0.toInt.toNat + 1)) := hw
      have F54 := f54_0
      rw [hQ]
      exact W.iret (v := v54) hx hb hr (fun t ht hW => ⟨⟨v54, (), rfl, (fun kc kT q_fr q_fb q_gfY q_gfP q_fR q_pl q_cn q_frf hc hb h => by have y54 : v54 = kc.2.2 (4 * p0.toInt.toNat + 1) := F54.trans (hc.2.2 _ (by omega)); unfold sV_pai; rw [if_neg (by omega), if_neg (by omega), if_pos (by omega)]; exact y54), trivial⟩, hS.F ht⟩) hS.2.2 dX10_painter_57
    · refine lv_tableIn (off := 47) (tgt := 58) hx hb dX10_painter_11 (by omega) (by omega) (by rw [c11]; rfl) (by decide) ?_
      refine lv_aload_n hx hb dX10_painter_58 rfl (lv_at hl 0 rfl) ?_
      refine va_get (D := (dC, dI)) (ci := 10) (v := .ref g0) (C := RX10) (T := TX10) (N := 17) hx hb hts iX10 hown hK hP 0 rfl rfl 6 (by decide) (hts _ qw362) (fun _ h9 => h9) rfl dX10_painter_59 ?_
      refine va_get (D := (dC, dI)) (ci := 7) (v := .ref gF) (C := RX7) (T := TX7) (N := 9) hx hb hts iX7 hown hK hP 3 rfl rfl 1 (by decide) (hts _ qw225) (fun _ h9 => h9) rfl dX10_painter_62 ?_
      refine lv_iload_n hx hb dX10_painter_65 rfl (lv_at hl 1 rfl) ?_
      refine va_iald hx hb hK hP 4 0 rfl rfl (vp_in_iff.mpr ⟨by omega, by omega⟩) dX10_painter_66 ?_
      refine lv_topi (fun v66 e66 => ?_)
      rw [hQ]
      exact W.iret (v := v66) hx hb hr (fun t ht hW => ⟨⟨v66, (), rfl, (fun kc kT q_fr q_fb q_gfY q_gfP q_fR q_pl q_cn q_frf hc hb h => by have y66 : v66 = kT.1.2.1 p0.toInt.toNat := (zIxN (n := p0.toInt.toNat) e66 (by omega)).trans (h.1.2.1 _ (by omega)); unfold sV_pai; rw [if_neg (by omega), if_neg (by omega), if_neg (by omega), if_pos (by omega)]; exact y66), trivial⟩, hS.F ht⟩) hS.2.2 dX10_painter_67
    · refine lv_tableIn (off := 57) (tgt := 68) hx hb dX10_painter_11 (by omega) (by omega) (by rw [c11]; rfl) (by decide) ?_
      refine lv_aload_n hx hb dX10_painter_68 rfl (lv_at hl 0 rfl) ?_
      refine va_get (D := (dC, dI)) (ci := 10) (v := .ref aC) (C := RX10) (T := TX10) (N := 17) hx hb hts iX10 hown hK hP 0 rfl rfl 4 (by decide) (hts _ qw360) (fun _ h9 => h9) rfl dX10_painter_69 ?_
      refine lv_iload_n hx hb dX10_painter_72 rfl (lv_at hl 1 rfl) ?_
      obtain ⟨hPc, hDc⟩ := zc2 (wc := [(aC, .inr (1, [.ref aR, .ref aB, .ref aP, .int nb, .int np])), (aP, .inl (cI, 20, .inl fp))]) hP hT [1, 2] (by decide +kernel) rfl
      have hFc := zfr hS hA
      refine va_calli (va_runV (As := [.int p0]) (rest := []) ⟨hx, hb, hml, hown, hts⟩ (g_X1_kindOf l dC dI cI cJ aC p0 aR aB aP nb np fp H.size (by omega)) (cwV 1 hts (zgV qw613 qw614 qw615 qw102 qw616) rfl rfl rfl hd_X1_kindOf ⟨by rw [hR]; exact Nat.le_of_ble_eq_true rfl, by rw [hR]; exact Nat.le_of_ble_eq_true rfl⟩) (zPV hPc hK hDc (va_recv (q := (RX1, TX1, 5)) hK hP (ci := 1) (q0 := 1) rfl rfl)) rfl rfl hl.1 rfl (lv_room (Nat.le_of_ble_eq_true rfl)) dX10_painter_73 ⟨Nat.zero_le _, Nat.zero_le _⟩) hS (fun q _ h => hFc q h) hFc (fun v73 u73 t H locs ht hvm hw hB hz1 hk1 hS9 => ?_)
      replace hP := zkeep hP hk1
      replace hS := hS9
      clear hPc hDc hFc hk1 hz1 hvm hS9
      have f73_0 : (v73 = fp (4 * p0.toInt.toNat + 3)) := hw
      have F73 := f73_0
      rw [hQ]
      exact W.iret (v := v73) hx hb hr (fun t ht hW => ⟨⟨v73, (), rfl, (fun kc kT q_fr q_fb q_gfY q_gfP q_fR q_pl q_cn q_frf hc hb h => by have y73 : v73 = kc.2.2 (4 * p0.toInt.toNat + 3) := F73.trans (hc.2.2 _ (by omega)); unfold sV_pai; rw [if_neg (by omega), if_neg (by omega), if_neg (by omega), if_neg (by omega), if_pos (by omega)]; exact y73), trivial⟩, hS.F ht⟩) hS.2.2 dX10_painter_76
  · have c5 : v2.toInt = 0 := z5 rfl (by decide) c5
    refine lv_iconst (v := (-1)) hx hb dX10_painter_8 (by decide) ?_
    have zr0 : ((-1) : Int32).toInt = (-1) := by decide
    rw [hQ]
    exact W.iret (v := ((-1))) hx hb hr (fun t ht hW => ⟨⟨(-1), (), rfl, (fun kc kT q_fr q_fb q_gfY q_gfP q_fR q_pl q_cn q_frf hc hb h => by unfold sV_pai; rw [if_pos (by omega)]; ), trivial⟩, hS.F ht⟩) hS.2.2 dX10_painter_9
set_option maxHeartbeats 4000000 in
set_option maxRecDepth 100000 in
theorem g_X10_flattery (l : Launch) (dC : Nat → ClassId) (dI : Nat → Nat → Nat) (cI cJ : ClassId) (h0 : Nat) (p0 : Int32) (p1 : Int32) (tp : Nat) (h0_courtReader : Value) (h0_lawReader : Value) (h0_draft : Value) (aC : Nat) (h0_laws : Value) (g0 : Nat) (k0 : Nat) (ac : Nat) (sd : Nat) (mi : Nat) (dw : Nat) (rf : Nat) (lc : Int32) (lh : Int32) (br : Int32) (hi : Int32) (aR : Nat) (aB : Nat) (aP : Nat) (nb : Int32) (np : Int32) (gY : Nat) (gF : Nat) (gP : Nat) (gpn : Int32) (glt : Int32) (gsh : Int32) (gwd : Int32) (gpu : Int32) (gmo : Int32) (gfY : Nat → Int32) (gfF : Nat → Int32) (w1 : Nat) (w2 : Nat) (aL : Nat) (aK : Nat) (sz : Nat) (n_gpn : 0 ≤ gpn.toInt ∧ gpn.toInt ≤ 20) (n_gwd : (-1) ≤ gwd.toInt ∧ gwd.toInt ≤ 5) (n_hi : 0 ≤ hi.toInt ∧ hi.toInt ≤ 1) (n_lc : 0 ≤ lc.toInt ∧ lc.toInt ≤ 4) (n_nb : 0 ≤ nb.toInt ∧ nb.toInt ≤ 6) (n_np : 0 ≤ np.toInt ∧ np.toInt ≤ 5)    : Met l yX10_flattery (.code yX10_flattery cX10_flattery 3 (some .int) :: wA) ({ frames := 2, cells := 0, slots := 0, locals := 52 }) (zP (dC, dI) [(cI, .int), (cJ, .long)] [.ref h0, .int p0, .int p1] sz [(h0, .inr (10, [.ref tp, h0_courtReader, h0_lawReader, h0_draft, .ref aC, h0_laws, .ref g0, .ref k0, .ref ac, .ref sd, .ref mi, .ref dw, .ref rf, .int lc, .int lh, .int br, .int hi])), (aC, .inr (1, [.ref aR, .ref aB, .ref aP, .int nb, .int np])), (g0, .inr (7, [.ref gY, .ref gF, .ref gP, .int gpn, .int glt, .int gsh, .int gwd, .int gpu, .int gmo])), (gY, .inl (cI, 6, .inl gfY)), (gF, .inl (cI, 5, .inl gfF)), (sd, .inr (8, [.ref w1, .ref w2, .ref aC, .ref g0, .ref aL, .ref aK, .null]))]) (va_Qi (fun (r : Int32) (u : Unit) => ((-1) ≤ r.toInt) ∧ (∀ (kc : zK3) (kT : zT) (q_fr : Nat → Int32) (q_fb : Nat → Int32) (q_fp : Nat → Int32) (q_gfP : Nat → Int32) (q_fR : Nat → Int32) (q_pl : Int32) (q_cn : Int32) (q_frf : Nat → Int32), zCn q_fr q_fb q_fp nb.toInt np.toInt kc → zKo nb.toInt np.toInt kc kT → zTc nb.toInt np.toInt kT gfY gfF q_gfP gpn glt gsh gwd gpu gmo q_fR q_pl q_cn q_frf → r = sV_fla nb.toInt np.toInt kT.1 p0 p1)) (fun (_ : Unit) (_ : State) => True) (va_A [] sz)) 0 0 (va_A [] sz) := by
  refine Met.ofW (cc := cX10_flattery) (maxL := 3) (ret := (some .int)) (by decide) rfl ?_
  intro p e s m args below meth c s₁ B hml hv
  have y_gpn : zHid (0 ≤ gpn.toInt ∧ gpn.toInt ≤ 20) := n_gpn
  have y_gwd : zHid ((-1) ≤ gwd.toInt ∧ gwd.toInt ≤ 5) := n_gwd
  have y_hi : zHid (0 ≤ hi.toInt ∧ hi.toInt ≤ 1) := n_hi
  have y_lc : zHid (0 ≤ lc.toInt ∧ lc.toInt ≤ 4) := n_lc
  clear n_gpn n_gwd n_hi n_lc
  obtain ⟨hargs, hsz, hP, hK, hT⟩ := hv
  have hx := B.exec
  have hb := B.bytes
  have hr := B.returns
  have hts : ∀ w ∈ wA, w.before args s = true := fun w h => atoms_spec (ws := .code yX10_flattery cX10_flattery 3 (some .int) :: wA) B.pre w (List.mem_cons_of_mem _ h)
  have hown : s.vm.findClass RX10 = some m.cls := findClass_of_methodNamed B.named
  have hlocks := B.notSynchronized
  subst hsz
  have hD : va_D (va_A [] s.heap.size) [] := zD0
  generalize hAe : va_A [] s.heap.size = A at hD ⊢
  have hA : ∀ q : Nat, s.heap.size ≤ q → A q := fun q h => by rw [← hAe]; exact Or.inr h
  have hl := lv_entry ([.ref h0, .int p0, .int p1]) (n := 3) (Nat.le_of_ble_eq_true rfl)
  rw [show entryFrame m args 3 = entryFrame m ([.ref h0, .int p0, .int p1] : List Value).toArray 3 by rw [hargs], lg_entry_eq]
  generalize (lg_sl ([.ref h0, .int p0, .int p1]) ++ List.replicate (3 - (lg_sl ([.ref h0, .int p0, .int p1])).length) Slot.unset).toArray = ls at hl ⊢
  have hl : lv_has ls 3 [(0, .ref h0), (1, .int p0), (2, .int p1)] := hl
  refine zstart (fun H hH => ?_)
  rw [← hH] at hP
  have hS : va_S A s.heap H [] := by rw [hH]; exact va_S.rf
  generalize ([] : List Loc) = locs at hS ⊢
  refine zgen (fun R Q hR hQ => ?_)
  refine lv_aload_n hx hb dX10_flattery_0 rfl (lv_at hl 0 rfl) ?_
  refine lv_iload_n hx hb dX10_flattery_1 rfl (lv_at hl 1 rfl) ?_
  obtain ⟨hPc, hDc⟩ := zc2 (wc := [(h0, .inr (10, [.ref tp, h0_courtReader, h0_lawReader, h0_draft, .ref aC, h0_laws, .ref g0, .ref k0, .ref ac, .ref sd, .ref mi, .ref dw, .ref rf, .int lc, .int lh, .int br, .int hi])), (aC, .inr (1, [.ref aR, .ref aB, .ref aP, .int nb, .int np]))]) hP hT [0, 1] (by decide +kernel) rfl
  have hFc := zfr hS hA
  refine va_calli (va_runV (As := [.int p0]) (rest := []) ⟨hx, hb, hml, hown, hts⟩ (g_X10_isPainter l dC dI cI cJ h0 p0 (.ref tp) h0_courtReader h0_lawReader h0_draft aC h0_laws (.ref g0) (.ref k0) (.ref ac) (.ref sd) (.ref mi) (.ref dw) (.ref rf) (.int lc) (.int lh) (.int br) (.int hi) aR aB aP nb np H.size n_np) (cwV 1 hts (zgV qw600 qw602 qw11 qw98 qw603) rfl rfl rfl hd_X10_isPainter ⟨by rw [hR]; exact Nat.le_of_ble_eq_true rfl, by rw [hR]; exact Nat.le_of_ble_eq_true rfl⟩) (zPV hPc hK hDc (va_recv (q := (RX10, TX10, 17)) hK hP (ci := 10) (q0 := 0) rfl rfl)) rfl rfl hl.1 rfl (lv_room (Nat.le_of_ble_eq_true rfl)) dX10_flattery_2 ⟨Nat.zero_le _, Nat.zero_le _⟩) hS (fun q _ h => hFc q h) hFc (fun v2 u2 t H locs ht hvm hw hB hz1 hk1 hS9 => ?_)
  replace hP := zkeep hP hk1
  replace hS := hS9
  clear hPc hDc hFc hk1 hz1 hvm hS9
  obtain ⟨f2_0, f2_1, f2_2, f2_3⟩ : (0 ≤ v2.toInt) ∧ (v2.toInt ≤ 1) ∧ (¬ v2.toInt = 0 → (0 ≤ p0.toInt ∧ p0.toInt < np.toInt)) ∧ (v2.toInt = 0 → ¬ (0 ≤ p0.toInt ∧ p0.toInt < np.toInt)) := hw
  refine lv_if_eq (tgt := 16) hx hb dX10_flattery_5 (by decide) (fun c5 => ?_) (fun c5 => ?_)
  · have c5 : v2.toInt = 0 := z5 rfl (by decide) c5
    refine lv_iconst (v := (-1)) hx hb dX10_flattery_16 (by decide) ?_
    have zr0 : ((-1) : Int32).toInt = (-1) := by decide
    rw [hQ]
    exact W.iret (v := ((-1))) hx hb hr (fun t ht hW => ⟨⟨(-1), (), rfl, ⟨by (try dsimp only); omega, fun kc kT q_fr q_fb q_fp q_gfP q_fR q_pl q_cn q_frf hc hb h => by unfold sV_fla; rw [if_neg (by omega)]; ⟩, trivial⟩, hS.F ht⟩) hS.2.2 dX10_flattery_17
  · have c5 : ¬ v2.toInt = 0 := z6 rfl (by decide) c5
    refine lv_aload_n hx hb dX10_flattery_8 rfl (lv_at hl 0 rfl) ?_
    refine lv_iload_n hx hb dX10_flattery_9 rfl (lv_at hl 2 rfl) ?_
    obtain ⟨hPc, hDc⟩ := zc2 (wc := [(h0, .inr (10, [.ref tp, h0_courtReader, h0_lawReader, h0_draft, .ref aC, h0_laws, .ref g0, .ref k0, .ref ac, .ref sd, .ref mi, .ref dw, .ref rf, .int lc, .int lh, .int br, .int hi])), (aC, .inr (1, [.ref aR, .ref aB, .ref aP, .int nb, .int np]))]) hP hT [0, 1] (by decide +kernel) rfl
    have hFc := zfr hS hA
    refine va_calli (va_runV (As := [.int p1]) (rest := []) ⟨hx, hb, hml, hown, hts⟩ (g_X10_isBride l dC dI cI cJ h0 p1 (.ref tp) h0_courtReader h0_lawReader h0_draft aC h0_laws (.ref g0) (.ref k0) (.ref ac) (.ref sd) (.ref mi) (.ref dw) (.ref rf) (.int lc) (.int lh) (.int br) (.int hi) aR aB aP nb np H.size n_nb) (cwV 1 hts (zgV qw625 qw627 qw12 qw98 qw628) rfl rfl rfl hd_X10_isBride ⟨by rw [hR]; exact Nat.le_of_ble_eq_true rfl, by rw [hR]; exact Nat.le_of_ble_eq_true rfl⟩) (zPV hPc hK hDc (va_recv (q := (RX10, TX10, 17)) hK hP (ci := 10) (q0 := 0) rfl rfl)) rfl rfl hl.1 rfl (lv_room (Nat.le_of_ble_eq_true rfl)) dX10_flattery_10 ⟨Nat.zero_le _, Nat.zero_le _⟩) hS (fun q _ h => hFc q h) hFc (fun v10 u10 t H locs ht hvm hw hB hz1 hk1 hS9 => ?_)
    replace hP := zkeep hP hk1
    replace hS := hS9
    clear hPc hDc hFc hk1 hz1 hvm hS9
    obtain ⟨f10_0, f10_1, f10_2, f10_3⟩ : (0 ≤ v10.toInt) ∧ (v10.toInt ≤ 1) ∧ (¬ v10.toInt = 0 → (0 ≤ p1.toInt ∧ p1.toInt < nb.toInt)) ∧ (v10.toInt = 0 → ¬ (0 ≤ p1.toInt ∧ p1.toInt < nb.toInt)) := hw
    refine lv_if_ne (tgt := 18) hx hb dX10_flattery_13 (by decide) (fun c13 => ?_) (fun c13 => ?_)
    · have c13 : ¬ v10.toInt = 0 := z6 rfl (by decide) c13
      refine lv_aload_n hx hb dX10_flattery_18 rfl (lv_at hl 0 rfl) ?_
      refine va_get (D := (dC, dI)) (ci := 10) (v := .ref sd) (C := RX10) (T := TX10) (N := 17) hx hb hts iX10 hown hK hP 0 rfl rfl 9 (by decide) (hts _ qw365) (fun _ h9 => h9) rfl dX10_flattery_19 ?_
      refine lv_iload_n hx hb dX10_flattery_22 rfl (lv_at hl 1 rfl) ?_
      refine lv_aload_n hx hb dX10_flattery_23 rfl (lv_at hl 0 rfl) ?_
      refine va_get (D := (dC, dI)) (ci := 10) (v := .ref g0) (C := RX10) (T := TX10) (N := 17) hx hb hts iX10 hown hK hP 0 rfl rfl 6 (by decide) (hts _ qw362) (fun _ h9 => h9) rfl dX10_flattery_24 ?_
      refine va_get (D := (dC, dI)) (ci := 7) (v := .ref gY) (C := RX7) (T := TX7) (N := 9) hx hb hts iX7 hown hK hP 2 rfl rfl 0 (by decide) (hts _ qw222) (fun _ h9 => h9) rfl dX10_flattery_27 ?_
      refine lv_iload_n hx hb dX10_flattery_30 rfl (lv_at hl 2 rfl) ?_
      refine va_iald hx hb hK hP 3 0 rfl rfl (vp_in_iff.mpr ⟨by omega, by omega⟩) dX10_flattery_31 ?_
      refine lv_topi (fun v31 e31 => ?_)
      obtain ⟨hPc, hDc⟩ := zc2 (wc := [(sd, .inr (8, [.ref w1, .ref w2, .ref aC, .ref g0, .ref aL, .ref aK, .null])), (g0, .inr (7, [.ref gY, .ref gF, .ref gP, .int gpn, .int glt, .int gsh, .int gwd, .int gpu, .int gmo])), (gF, .inl (cI, 5, .inl gfF))]) hP hT [5, 2, 4] (by decide +kernel) rfl
      have hFc := zfr hS hA
      refine va_calli (va_runV (As := [.int p0, .int v31]) (rest := []) ⟨hx, hb, hml, hown, hts⟩ (g_X8_flatteryFor l dC dI cI cJ sd p0 v31 (.ref w1) (.ref w2) (.ref aC) g0 (.ref aL) (.ref aK) (.null) gY gF gP gpn glt gsh gwd gpu gmo gfF H.size (by omega)) (cwV 2 hts (zgV qw629 qw630 qw631 qw105 qw632) rfl rfl rfl hd_X8_flatteryFor ⟨by rw [hR]; exact Nat.le_of_ble_eq_true rfl, by rw [hR]; exact Nat.le_of_ble_eq_true rfl⟩) (zPV hPc hK hDc (va_recv (q := (RX8, TX8, 7)) hK hP (ci := 8) (q0 := 5) rfl rfl)) rfl rfl hl.1 rfl (lv_room (Nat.le_of_ble_eq_true rfl)) dX10_flattery_32 ⟨Nat.zero_le _, Nat.zero_le _⟩) hS (fun q _ h => hFc q h) hFc (fun v32 u32 t H locs ht hvm hw hB hz1 hk1 hS9 => ?_)
      replace hP := zkeep hP hk1
      replace hS := hS9
      clear hPc hDc hFc hk1 hz1 hvm hS9
      obtain ⟨f32_0, f32_1⟩ : (0 ≤ v32.toInt) ∧ (v32 = zFl (gfF p0.toInt.toNat) v31) := hw
      have F32 := f32_1
      rw [hQ]
      exact W.iret (v := v32) hx hb hr (fun t ht hW => ⟨⟨v32, (), rfl, ⟨by (try dsimp only); omega, fun kc kT q_fr q_fb q_fp q_gfP q_fR q_pl q_cn q_frf hc hb h => by have y31 : v31 = kT.1.1 p1.toInt.toNat := (zIxN (n := p1.toInt.toNat) e31 (by omega)).trans (h.1.1 _ (by omega)); unfold sV_fla; rw [if_pos (by omega)]; rw [F32, y31, h.1.2.1 _ (by omega)]⟩, trivial⟩, hS.F ht⟩) hS.2.2 dX10_flattery_35
    · have c13 : v10.toInt = 0 := z5 rfl (by decide) c13
      refine lv_iconst (v := (-1)) hx hb dX10_flattery_16 (by decide) ?_
      have zr0 : ((-1) : Int32).toInt = (-1) := by decide
      rw [hQ]
      exact W.iret (v := ((-1))) hx hb hr (fun t ht hW => ⟨⟨(-1), (), rfl, ⟨by (try dsimp only); omega, fun kc kT q_fr q_fb q_fp q_gfP q_fR q_pl q_cn q_frf hc hb h => by unfold sV_fla; rw [if_neg (by omega)]; ⟩, trivial⟩, hS.F ht⟩) hS.2.2 dX10_flattery_17
set_option maxHeartbeats 4000000 in
set_option maxRecDepth 100000 in
theorem g_X10_canPlay (l : Launch) (dC : Nat → ClassId) (dI : Nat → Nat → Nat) (cI cJ : ClassId) (h0 : Nat) (p0 : Int32) (p1 : Int32) (p2 : Int32) (tp : Nat) (h0_courtReader : Value) (h0_lawReader : Value) (h0_draft : Value) (aC : Nat) (h0_laws : Value) (g0 : Nat) (k0 : Nat) (ac : Nat) (sd : Nat) (mi : Nat) (dw : Nat) (rf : Nat) (lc : Int32) (lh : Int32) (br : Int32) (hi : Int32) (aR : Nat) (aB : Nat) (aP : Nat) (nb : Int32) (np : Int32) (sz : Nat) (n_hi : 0 ≤ hi.toInt ∧ hi.toInt ≤ 1) (n_lc : 0 ≤ lc.toInt ∧ lc.toInt ≤ 4) (n_nb : 0 ≤ nb.toInt ∧ nb.toInt ≤ 6) (n_np : 0 ≤ np.toInt ∧ np.toInt ≤ 5)    : Met l yX10_canPlay (.code yX10_canPlay cX10_canPlay 4 (some .boolean) :: wA) ({ frames := 1, cells := 0, slots := 0, locals := 21 }) (zP (dC, dI) [(cI, .int), (cJ, .long)] [.ref h0, .int p0, .int p1, .int p2] sz [(h0, .inr (10, [.ref tp, h0_courtReader, h0_lawReader, h0_draft, .ref aC, h0_laws, .ref g0, .ref k0, .ref ac, .ref sd, .ref mi, .ref dw, .ref rf, .int lc, .int lh, .int br, .int hi])), (aC, .inr (1, [.ref aR, .ref aB, .ref aP, .int nb, .int np]))]) (va_Qi (fun (r : Int32) (u : Unit) => (0 ≤ r.toInt) ∧ (r.toInt ≤ 1) ∧ (¬ r.toInt = 0 → (0 ≤ p0.toInt ∧ p0.toInt < nb.toInt ∧ 0 ≤ p1.toInt ∧ p1.toInt < nb.toInt ∧ 0 ≤ p2.toInt ∧ p2.toInt < np.toInt)) ∧ (¬ r.toInt = 0 → ¬ p0.toInt = p1.toInt) ∧ (r.toInt = 0 → ¬ ((0 ≤ p0.toInt ∧ p0.toInt < nb.toInt) ∧ (0 ≤ p1.toInt ∧ p1.toInt < nb.toInt) ∧ ¬ p0.toInt = p1.toInt ∧ 0 ≤ p2.toInt ∧ p2.toInt < np.toInt))) (fun (_ : Unit) (_ : State) => True) (va_A [] sz)) 0 0 (va_A [] sz) := by
  refine Met.ofW (cc := cX10_canPlay) (maxL := 4) (ret := (some .boolean)) (by decide) rfl ?_
  intro p e s m args below meth c s₁ B hml hv
  have y_hi : zHid (0 ≤ hi.toInt ∧ hi.toInt ≤ 1) := n_hi
  have y_lc : zHid (0 ≤ lc.toInt ∧ lc.toInt ≤ 4) := n_lc
  clear n_hi n_lc
  obtain ⟨hargs, hsz, hP, hK, hT⟩ := hv
  have hx := B.exec
  have hb := B.bytes
  have hr := B.returns
  have hts : ∀ w ∈ wA, w.before args s = true := fun w h => atoms_spec (ws := .code yX10_canPlay cX10_canPlay 4 (some .boolean) :: wA) B.pre w (List.mem_cons_of_mem _ h)
  have hown : s.vm.findClass RX10 = some m.cls := findClass_of_methodNamed B.named
  have hlocks := B.notSynchronized
  subst hsz
  have hD : va_D (va_A [] s.heap.size) [] := zD0
  generalize hAe : va_A [] s.heap.size = A at hD ⊢
  have hA : ∀ q : Nat, s.heap.size ≤ q → A q := fun q h => by rw [← hAe]; exact Or.inr h
  have hl := lv_entry ([.ref h0, .int p0, .int p1, .int p2]) (n := 4) (Nat.le_of_ble_eq_true rfl)
  rw [show entryFrame m args 4 = entryFrame m ([.ref h0, .int p0, .int p1, .int p2] : List Value).toArray 4 by rw [hargs], lg_entry_eq]
  generalize (lg_sl ([.ref h0, .int p0, .int p1, .int p2]) ++ List.replicate (4 - (lg_sl ([.ref h0, .int p0, .int p1, .int p2])).length) Slot.unset).toArray = ls at hl ⊢
  have hl : lv_has ls 4 [(0, .ref h0), (1, .int p0), (2, .int p1), (3, .int p2)] := hl
  refine zstart (fun H hH => ?_)
  rw [← hH] at hP
  have hS : va_S A s.heap H [] := by rw [hH]; exact va_S.rf
  generalize ([] : List Loc) = locs at hS ⊢
  refine zgen (fun R Q hR hQ => ?_)
  refine lv_aload_n hx hb dX10_canPlay_0 rfl (lv_at hl 0 rfl) ?_
  refine lv_iload_n hx hb dX10_canPlay_1 rfl (lv_at hl 1 rfl) ?_
  obtain ⟨hPc, hDc⟩ := zc2 (wc := [(h0, .inr (10, [.ref tp, h0_courtReader, h0_lawReader, h0_draft, .ref aC, h0_laws, .ref g0, .ref k0, .ref ac, .ref sd, .ref mi, .ref dw, .ref rf, .int lc, .int lh, .int br, .int hi])), (aC, .inr (1, [.ref aR, .ref aB, .ref aP, .int nb, .int np]))]) hP hT [0, 1] (by decide +kernel) rfl
  have hFc := zfr hS hA
  refine va_calli (va_runV (As := [.int p0]) (rest := []) ⟨hx, hb, hml, hown, hts⟩ (g_X10_isBride l dC dI cI cJ h0 p0 (.ref tp) h0_courtReader h0_lawReader h0_draft aC h0_laws (.ref g0) (.ref k0) (.ref ac) (.ref sd) (.ref mi) (.ref dw) (.ref rf) (.int lc) (.int lh) (.int br) (.int hi) aR aB aP nb np H.size n_nb) (cwV 1 hts (zgV qw625 qw627 qw12 qw98 qw628) rfl rfl rfl hd_X10_isBride ⟨by rw [hR]; exact Nat.le_of_ble_eq_true rfl, by rw [hR]; exact Nat.le_of_ble_eq_true rfl⟩) (zPV hPc hK hDc (va_recv (q := (RX10, TX10, 17)) hK hP (ci := 10) (q0 := 0) rfl rfl)) rfl rfl hl.1 rfl (lv_room (Nat.le_of_ble_eq_true rfl)) dX10_canPlay_2 ⟨Nat.zero_le _, Nat.zero_le _⟩) hS (fun q _ h => hFc q h) hFc (fun v2 u2 t H locs ht hvm hw hB hz1 hk1 hS9 => ?_)
  replace hP := zkeep hP hk1
  replace hS := hS9
  clear hPc hDc hFc hk1 hz1 hvm hS9
  obtain ⟨f2_0, f2_1, f2_2, f2_3⟩ : (0 ≤ v2.toInt) ∧ (v2.toInt ≤ 1) ∧ (¬ v2.toInt = 0 → (0 ≤ p0.toInt ∧ p0.toInt < nb.toInt)) ∧ (v2.toInt = 0 → ¬ (0 ≤ p0.toInt ∧ p0.toInt < nb.toInt)) := hw
  refine lv_if_eq (tgt := 33) hx hb dX10_canPlay_5 (by decide) (fun c5 => ?_) (fun c5 => ?_)
  · have c5 : v2.toInt = 0 := z5 rfl (by decide) c5
    refine lv_iconst (v := 0) hx hb dX10_canPlay_33 (by decide) ?_
    have zr0 : (0 : Int32).toInt = 0 := by decide
    rw [hQ]
    exact W.zret (v := 0) (ty := .boolean) hx hb hr rfl (fun t ht hW => ⟨⟨0, (), rfl, ⟨by (try dsimp only); omega, by (try dsimp only); omega, by (try dsimp only); omega, by (try dsimp only); omega, by (try dsimp only); omega⟩, trivial⟩, hS.F ht⟩) hS.2.2 dX10_canPlay_34
  · have c5 : ¬ v2.toInt = 0 := z6 rfl (by decide) c5
    refine lv_aload_n hx hb dX10_canPlay_8 rfl (lv_at hl 0 rfl) ?_
    refine lv_iload_n hx hb dX10_canPlay_9 rfl (lv_at hl 2 rfl) ?_
    obtain ⟨hPc, hDc⟩ := zc2 (wc := [(h0, .inr (10, [.ref tp, h0_courtReader, h0_lawReader, h0_draft, .ref aC, h0_laws, .ref g0, .ref k0, .ref ac, .ref sd, .ref mi, .ref dw, .ref rf, .int lc, .int lh, .int br, .int hi])), (aC, .inr (1, [.ref aR, .ref aB, .ref aP, .int nb, .int np]))]) hP hT [0, 1] (by decide +kernel) rfl
    have hFc := zfr hS hA
    refine va_calli (va_runV (As := [.int p1]) (rest := []) ⟨hx, hb, hml, hown, hts⟩ (g_X10_isBride l dC dI cI cJ h0 p1 (.ref tp) h0_courtReader h0_lawReader h0_draft aC h0_laws (.ref g0) (.ref k0) (.ref ac) (.ref sd) (.ref mi) (.ref dw) (.ref rf) (.int lc) (.int lh) (.int br) (.int hi) aR aB aP nb np H.size n_nb) (cwV 1 hts (zgV qw625 qw627 qw12 qw98 qw628) rfl rfl rfl hd_X10_isBride ⟨by rw [hR]; exact Nat.le_of_ble_eq_true rfl, by rw [hR]; exact Nat.le_of_ble_eq_true rfl⟩) (zPV hPc hK hDc (va_recv (q := (RX10, TX10, 17)) hK hP (ci := 10) (q0 := 0) rfl rfl)) rfl rfl hl.1 rfl (lv_room (Nat.le_of_ble_eq_true rfl)) dX10_canPlay_10 ⟨Nat.zero_le _, Nat.zero_le _⟩) hS (fun q _ h => hFc q h) hFc (fun v10 u10 t H locs ht hvm hw hB hz1 hk1 hS9 => ?_)
    replace hP := zkeep hP hk1
    replace hS := hS9
    clear hPc hDc hFc hk1 hz1 hvm hS9
    obtain ⟨f10_0, f10_1, f10_2, f10_3⟩ : (0 ≤ v10.toInt) ∧ (v10.toInt ≤ 1) ∧ (¬ v10.toInt = 0 → (0 ≤ p1.toInt ∧ p1.toInt < nb.toInt)) ∧ (v10.toInt = 0 → ¬ (0 ≤ p1.toInt ∧ p1.toInt < nb.toInt)) := hw
    refine lv_if_eq (tgt := 33) hx hb dX10_canPlay_13 (by decide) (fun c13 => ?_) (fun c13 => ?_)
    · have c13 : v10.toInt = 0 := z5 rfl (by decide) c13
      refine lv_iconst (v := 0) hx hb dX10_canPlay_33 (by decide) ?_
      have zr0 : (0 : Int32).toInt = 0 := by decide
      rw [hQ]
      exact W.zret (v := 0) (ty := .boolean) hx hb hr rfl (fun t ht hW => ⟨⟨0, (), rfl, ⟨by (try dsimp only); omega, by (try dsimp only); omega, by (try dsimp only); omega, by (try dsimp only); omega, by (try dsimp only); omega⟩, trivial⟩, hS.F ht⟩) hS.2.2 dX10_canPlay_34
    · have c13 : ¬ v10.toInt = 0 := z6 rfl (by decide) c13
      refine lv_iload_n hx hb dX10_canPlay_16 rfl (lv_at hl 1 rfl) ?_
      refine lv_iload_n hx hb dX10_canPlay_17 rfl (lv_at hl 2 rfl) ?_
      refine lv_icmp_eq (tgt := 33) hx hb dX10_canPlay_18 (by decide) (fun c18 => ?_) (fun c18 => ?_)
      · have c18 : p0.toInt = p1.toInt := z5 rfl rfl c18
        refine lv_iconst (v := 0) hx hb dX10_canPlay_33 (by decide) ?_
        have zr0 : (0 : Int32).toInt = 0 := by decide
        rw [hQ]
        exact W.zret (v := 0) (ty := .boolean) hx hb hr rfl (fun t ht hW => ⟨⟨0, (), rfl, ⟨by (try dsimp only); omega, by (try dsimp only); omega, by (try dsimp only); omega, by (try dsimp only); omega, by (try dsimp only); omega⟩, trivial⟩, hS.F ht⟩) hS.2.2 dX10_canPlay_34
      · have c18 : ¬ p0.toInt = p1.toInt := z6 rfl rfl c18
        refine lv_aload_n hx hb dX10_canPlay_21 rfl (lv_at hl 0 rfl) ?_
        refine lv_iload_n hx hb dX10_canPlay_22 rfl (lv_at hl 3 rfl) ?_
        obtain ⟨hPc, hDc⟩ := zc2 (wc := [(h0, .inr (10, [.ref tp, h0_courtReader, h0_lawReader, h0_draft, .ref aC, h0_laws, .ref g0, .ref k0, .ref ac, .ref sd, .ref mi, .ref dw, .ref rf, .int lc, .int lh, .int br, .int hi])), (aC, .inr (1, [.ref aR, .ref aB, .ref aP, .int nb, .int np]))]) hP hT [0, 1] (by decide +kernel) rfl
        have hFc := zfr hS hA
        refine va_calli (va_runV (As := [.int p2]) (rest := []) ⟨hx, hb, hml, hown, hts⟩ (g_X10_isPainter l dC dI cI cJ h0 p2 (.ref tp) h0_courtReader h0_lawReader h0_draft aC h0_laws (.ref g0) (.ref k0) (.ref ac) (.ref sd) (.ref mi) (.ref dw) (.ref rf) (.int lc) (.int lh) (.int br) (.int hi) aR aB aP nb np H.size n_np) (cwV 1 hts (zgV qw600 qw602 qw11 qw98 qw603) rfl rfl rfl hd_X10_isPainter ⟨by rw [hR]; exact Nat.le_of_ble_eq_true rfl, by rw [hR]; exact Nat.le_of_ble_eq_true rfl⟩) (zPV hPc hK hDc (va_recv (q := (RX10, TX10, 17)) hK hP (ci := 10) (q0 := 0) rfl rfl)) rfl rfl hl.1 rfl (lv_room (Nat.le_of_ble_eq_true rfl)) dX10_canPlay_23 ⟨Nat.zero_le _, Nat.zero_le _⟩) hS (fun q _ h => hFc q h) hFc (fun v23 u23 t H locs ht hvm hw hB hz1 hk1 hS9 => ?_)
        replace hP := zkeep hP hk1
        replace hS := hS9
        clear hPc hDc hFc hk1 hz1 hvm hS9
        obtain ⟨f23_0, f23_1, f23_2, f23_3⟩ : (0 ≤ v23.toInt) ∧ (v23.toInt ≤ 1) ∧ (¬ v23.toInt = 0 → (0 ≤ p2.toInt ∧ p2.toInt < np.toInt)) ∧ (v23.toInt = 0 → ¬ (0 ≤ p2.toInt ∧ p2.toInt < np.toInt)) := hw
        refine lv_if_eq (tgt := 33) hx hb dX10_canPlay_26 (by decide) (fun c26 => ?_) (fun c26 => ?_)
        · have c26 : v23.toInt = 0 := z5 rfl (by decide) c26
          refine lv_iconst (v := 0) hx hb dX10_canPlay_33 (by decide) ?_
          have zr0 : (0 : Int32).toInt = 0 := by decide
          rw [hQ]
          exact W.zret (v := 0) (ty := .boolean) hx hb hr rfl (fun t ht hW => ⟨⟨0, (), rfl, ⟨by (try dsimp only); omega, by (try dsimp only); omega, by (try dsimp only); omega, by (try dsimp only); omega, by (try dsimp only); omega⟩, trivial⟩, hS.F ht⟩) hS.2.2 dX10_canPlay_34
        · have c26 : ¬ v23.toInt = 0 := z6 rfl (by decide) c26
          refine lv_iconst (v := 1) hx hb dX10_canPlay_29 (by decide) ?_
          refine lv_goto (tgt := 34) hx hb dX10_canPlay_30 (by decide) ?_
          have zr0 : (1 : Int32).toInt = 1 := by decide
          rw [hQ]
          exact W.zret (v := 1) (ty := .boolean) hx hb hr rfl (fun t ht hW => ⟨⟨1, (), rfl, ⟨by (try dsimp only); omega, by (try dsimp only); omega, by (try dsimp only); omega, by (try dsimp only); omega, by (try dsimp only); omega⟩, trivial⟩, hS.F ht⟩) hS.2.2 dX10_canPlay_34
set_option maxHeartbeats 4000000 in
set_option maxRecDepth 100000 in
theorem g_X10_pay (l : Launch) (dC : Nat → ClassId) (dI : Nat → Nat → Nat) (cI cJ : ClassId) (h0 : Nat) (p0 : Int32) (p1 : Int32) (tp : Nat) (h0_courtReader : Value) (h0_lawReader : Value) (h0_draft : Value) (aC : Nat) (h0_laws : Value) (g0 : Nat) (k0 : Nat) (ac : Nat) (sd : Nat) (mi : Nat) (dw : Nat) (rf : Nat) (lc : Int32) (lh : Int32) (br : Int32) (hi : Int32) (aR : Nat) (aB : Nat) (aP : Nat) (nb : Int32) (np : Int32) (gY : Nat) (gF : Nat) (gP : Nat) (gpn : Int32) (glt : Int32) (gsh : Int32) (gwd : Int32) (gpu : Int32) (gmo : Int32) (gfY : Nat → Int32) (gfF : Nat → Int32) (aW : Nat) (pl : Int32) (cn : Int32) (fR : Nat → Int32) (frf : Nat → Int32) (sz : Nat) (n_cn : 0 ≤ cn.toInt ∧ cn.toInt ≤ 40) (n_gpn : 0 ≤ gpn.toInt ∧ gpn.toInt ≤ 20) (n_gwd : (-1) ≤ gwd.toInt ∧ gwd.toInt ≤ 5) (n_hi : 0 ≤ hi.toInt ∧ hi.toInt ≤ 1) (n_lc : 0 ≤ lc.toInt ∧ lc.toInt ≤ 4) (n_nb : 0 ≤ nb.toInt ∧ nb.toInt ≤ 6) (n_np : 0 ≤ np.toInt ∧ np.toInt ≤ 5) (n_pl : 0 ≤ pl.toInt ∧ pl.toInt ≤ 39)  (ci_fR_zRw : zRw fR)  : Met l yX10_pay (.code yX10_pay cX10_pay 3 (some .int) :: wA) ({ frames := 3, cells := 0, slots := 0, locals := 104 }) (zP (dC, dI) [(cI, .int), (cJ, .long)] [.ref h0, .int p0, .int p1] sz [(h0, .inr (10, [.ref tp, h0_courtReader, h0_lawReader, h0_draft, .ref aC, h0_laws, .ref g0, .ref k0, .ref ac, .ref sd, .ref mi, .ref dw, .ref rf, .int lc, .int lh, .int br, .int hi])), (aC, .inr (1, [.ref aR, .ref aB, .ref aP, .int nb, .int np])), (g0, .inr (7, [.ref gY, .ref gF, .ref gP, .int gpn, .int glt, .int gsh, .int gwd, .int gpu, .int gmo])), (gY, .inl (cI, 6, .inl gfY)), (gF, .inl (cI, 5, .inl gfF)), (ac, .inr (0, [.ref aW, .int pl, .int cn])), (aW, .inl (cI, 680, .inl fR)), (rf, .inl (cI, 5, .inl frf))]) (va_Qi (fun (r : Int32) (u : (Nat → Int32) × Int32 × Int32 × (Nat → Int32) × (Nat → Int32)) => (0 ≤ u.2.1.toInt) ∧ (u.2.1.toInt ≤ 39) ∧ (0 ≤ u.2.2.1.toInt) ∧ (u.2.2.1.toInt ≤ 40) ∧ (∀ (kc : zK3) (kT : zT) (q_fr : Nat → Int32) (q_fb : Nat → Int32) (q_fp : Nat → Int32) (q_gfP : Nat → Int32), zCn q_fr q_fb q_fp nb.toInt np.toInt kc → zKo nb.toInt np.toInt kc kT → zTc nb.toInt np.toInt kT gfY gfF q_gfP gpn glt gsh gwd gpu gmo fR pl cn frf → r = sA (sW_pay nb.toInt kT.1 p0 p1) (kT.1.1 p0.toInt.toNat + p1) ∧ zTc nb.toInt np.toInt (sDo (sW_pay nb.toInt kT.1 p0 p1) kT (sSetY kT.1 p0.toInt.toNat (kT.1.1 p0.toInt.toNat + p1))) u.1 gfF q_gfP gpn glt gsh gwd gpu gmo u.2.2.2.1 u.2.1 u.2.2.1 u.2.2.2.2) ∧ (zRw u.2.2.2.1)) (fun (u : (Nat → Int32) × Int32 × Int32 × (Nat → Int32) × (Nat → Int32)) (t : State) => va_P (dC, dI) vwCl [(h0, .inr (10, [.ref tp, h0_courtReader, h0_lawReader, h0_draft, .ref aC, h0_laws, .ref g0, .ref k0, .ref ac, .ref sd, .ref mi, .ref dw, .ref rf, .int lc, .int lh, .int br, .int hi])), (aC, .inr (1, [.ref aR, .ref aB, .ref aP, .int nb, .int np])), (g0, .inr (7, [.ref gY, .ref gF, .ref gP, .int gpn, .int glt, .int gsh, .int gwd, .int gpu, .int gmo])), (gY, .inl (cI, 6, .inl u.1)), (gF, .inl (cI, 5, .inl gfF)), (ac, .inr (0, [.ref aW, .int u.2.1, .int u.2.2.1])), (aW, .inl (cI, 680, .inl u.2.2.2.1)), (rf, .inl (cI, 5, .inl u.2.2.2.2))] t.heap ∧ va_D (va_A [(h0, .inr (10, [.ref tp, h0_courtReader, h0_lawReader, h0_draft, .ref aC, h0_laws, .ref g0, .ref k0, .ref ac, .ref sd, .ref mi, .ref dw, .ref rf, .int lc, .int lh, .int br, .int hi])), (aC, .inr (1, [.ref aR, .ref aB, .ref aP, .int nb, .int np])), (g0, .inr (7, [.ref gY, .ref gF, .ref gP, .int gpn, .int glt, .int gsh, .int gwd, .int gpu, .int gmo])), (gY, .inl (cI, 6, .inl gfY)), (gF, .inl (cI, 5, .inl gfF)), (ac, .inr (0, [.ref aW, .int pl, .int cn])), (aW, .inl (cI, 680, .inl fR)), (rf, .inl (cI, 5, .inl frf))] sz) [(h0, .inr (10, [.ref tp, h0_courtReader, h0_lawReader, h0_draft, .ref aC, h0_laws, .ref g0, .ref k0, .ref ac, .ref sd, .ref mi, .ref dw, .ref rf, .int lc, .int lh, .int br, .int hi])), (aC, .inr (1, [.ref aR, .ref aB, .ref aP, .int nb, .int np])), (g0, .inr (7, [.ref gY, .ref gF, .ref gP, .int gpn, .int glt, .int gsh, .int gwd, .int gpu, .int gmo])), (gY, .inl (cI, 6, .inl u.1)), (gF, .inl (cI, 5, .inl gfF)), (ac, .inr (0, [.ref aW, .int u.2.1, .int u.2.2.1])), (aW, .inl (cI, 680, .inl u.2.2.2.1)), (rf, .inl (cI, 5, .inl u.2.2.2.2))]) (va_A [(h0, .inr (10, [.ref tp, h0_courtReader, h0_lawReader, h0_draft, .ref aC, h0_laws, .ref g0, .ref k0, .ref ac, .ref sd, .ref mi, .ref dw, .ref rf, .int lc, .int lh, .int br, .int hi])), (aC, .inr (1, [.ref aR, .ref aB, .ref aP, .int nb, .int np])), (g0, .inr (7, [.ref gY, .ref gF, .ref gP, .int gpn, .int glt, .int gsh, .int gwd, .int gpu, .int gmo])), (gY, .inl (cI, 6, .inl gfY)), (gF, .inl (cI, 5, .inl gfF)), (ac, .inr (0, [.ref aW, .int pl, .int cn])), (aW, .inl (cI, 680, .inl fR)), (rf, .inl (cI, 5, .inl frf))] sz)) 0 0 (va_A [(h0, .inr (10, [.ref tp, h0_courtReader, h0_lawReader, h0_draft, .ref aC, h0_laws, .ref g0, .ref k0, .ref ac, .ref sd, .ref mi, .ref dw, .ref rf, .int lc, .int lh, .int br, .int hi])), (aC, .inr (1, [.ref aR, .ref aB, .ref aP, .int nb, .int np])), (g0, .inr (7, [.ref gY, .ref gF, .ref gP, .int gpn, .int glt, .int gsh, .int gwd, .int gpu, .int gmo])), (gY, .inl (cI, 6, .inl gfY)), (gF, .inl (cI, 5, .inl gfF)), (ac, .inr (0, [.ref aW, .int pl, .int cn])), (aW, .inl (cI, 680, .inl fR)), (rf, .inl (cI, 5, .inl frf))] sz) := by
  refine Met.ofW (cc := cX10_pay) (maxL := 3) (ret := (some .int)) (by decide) rfl ?_
  intro p e s m args below meth c s₁ B hml hv
  have y_gpn : zHid (0 ≤ gpn.toInt ∧ gpn.toInt ≤ 20) := n_gpn
  have y_gwd : zHid ((-1) ≤ gwd.toInt ∧ gwd.toInt ≤ 5) := n_gwd
  have y_hi : zHid (0 ≤ hi.toInt ∧ hi.toInt ≤ 1) := n_hi
  have y_lc : zHid (0 ≤ lc.toInt ∧ lc.toInt ≤ 4) := n_lc
  clear n_gpn n_gwd n_hi n_lc
  obtain ⟨hargs, hsz, hP, hK, hT⟩ := hv
  have hx := B.exec
  have hb := B.bytes
  have hr := B.returns
  have hts : ∀ w ∈ wA, w.before args s = true := fun w h => atoms_spec (ws := .code yX10_pay cX10_pay 3 (some .int) :: wA) B.pre w (List.mem_cons_of_mem _ h)
  have hown : s.vm.findClass RX10 = some m.cls := findClass_of_methodNamed B.named
  have hlocks := B.notSynchronized
  subst hsz
  have hD := hT.self (sz := s.heap.size)
  generalize hAe : va_A [(h0, .inr (10, [.ref tp, h0_courtReader, h0_lawReader, h0_draft, .ref aC, h0_laws, .ref g0, .ref k0, .ref ac, .ref sd, .ref mi, .ref dw, .ref rf, .int lc, .int lh, .int br, .int hi])), (aC, .inr (1, [.ref aR, .ref aB, .ref aP, .int nb, .int np])), (g0, .inr (7, [.ref gY, .ref gF, .ref gP, .int gpn, .int glt, .int gsh, .int gwd, .int gpu, .int gmo])), (gY, .inl (cI, 6, .inl gfY)), (gF, .inl (cI, 5, .inl gfF)), (ac, .inr (0, [.ref aW, .int pl, .int cn])), (aW, .inl (cI, 680, .inl fR)), (rf, .inl (cI, 5, .inl frf))] s.heap.size = A at hD ⊢
  have hA : ∀ q : Nat, s.heap.size ≤ q → A q := fun q h => by rw [← hAe]; exact Or.inr h
  have hl := lv_entry ([.ref h0, .int p0, .int p1]) (n := 3) (Nat.le_of_ble_eq_true rfl)
  rw [show entryFrame m args 3 = entryFrame m ([.ref h0, .int p0, .int p1] : List Value).toArray 3 by rw [hargs], lg_entry_eq]
  generalize (lg_sl ([.ref h0, .int p0, .int p1]) ++ List.replicate (3 - (lg_sl ([.ref h0, .int p0, .int p1])).length) Slot.unset).toArray = ls at hl ⊢
  have hl : lv_has ls 3 [(0, .ref h0), (1, .int p0), (2, .int p1)] := hl
  refine zstart (fun H hH => ?_)
  rw [← hH] at hP
  have hS : va_S A s.heap H [] := by rw [hH]; exact va_S.rf
  generalize ([] : List Loc) = locs at hS ⊢
  refine zgen (fun R Q hR hQ => ?_)
  refine lv_aload_n hx hb dX10_pay_0 rfl (lv_at hl 0 rfl) ?_
  refine lv_iload_n hx hb dX10_pay_1 rfl (lv_at hl 1 rfl) ?_
  obtain ⟨hPc, hDc⟩ := zc2 (wc := [(h0, .inr (10, [.ref tp, h0_courtReader, h0_lawReader, h0_draft, .ref aC, h0_laws, .ref g0, .ref k0, .ref ac, .ref sd, .ref mi, .ref dw, .ref rf, .int lc, .int lh, .int br, .int hi])), (aC, .inr (1, [.ref aR, .ref aB, .ref aP, .int nb, .int np]))]) hP hD [0, 1] (by decide +kernel) rfl
  have hFc := zfr hS hA
  refine va_calli (va_runV (As := [.int p0]) (rest := []) ⟨hx, hb, hml, hown, hts⟩ (g_X10_isBride l dC dI cI cJ h0 p0 (.ref tp) h0_courtReader h0_lawReader h0_draft aC h0_laws (.ref g0) (.ref k0) (.ref ac) (.ref sd) (.ref mi) (.ref dw) (.ref rf) (.int lc) (.int lh) (.int br) (.int hi) aR aB aP nb np H.size n_nb) (cwV 1 hts (zgV qw625 qw627 qw12 qw98 qw628) rfl rfl rfl hd_X10_isBride ⟨by rw [hR]; exact Nat.le_of_ble_eq_true rfl, by rw [hR]; exact Nat.le_of_ble_eq_true rfl⟩) (zPV hPc hK hDc (va_recv (q := (RX10, TX10, 17)) hK hP (ci := 10) (q0 := 0) rfl rfl)) rfl rfl hl.1 rfl (lv_room (Nat.le_of_ble_eq_true rfl)) dX10_pay_2 ⟨Nat.zero_le _, Nat.zero_le _⟩) hS (fun q _ h => hFc q h) hFc (fun v2 u2 t H locs ht hvm hw hB hz1 hk1 hS9 => ?_)
  replace hP := zkeep hP hk1
  replace hS := hS9
  clear hPc hDc hFc hk1 hz1 hvm hS9
  obtain ⟨f2_0, f2_1, f2_2, f2_3⟩ : (0 ≤ v2.toInt) ∧ (v2.toInt ≤ 1) ∧ (¬ v2.toInt = 0 → (0 ≤ p0.toInt ∧ p0.toInt < nb.toInt)) ∧ (v2.toInt = 0 → ¬ (0 ≤ p0.toInt ∧ p0.toInt < nb.toInt)) := hw
  refine lv_if_ne (tgt := 14) hx hb dX10_pay_5 (by decide) (fun c5 => ?_) (fun c5 => ?_)
  · have c5 : ¬ v2.toInt = 0 := z6 rfl (by decide) c5
    refine lv_iload_n hx hb dX10_pay_14 rfl (lv_at hl 2 rfl) ?_
    refine lv_bipush (v := (-9)) hx hb dX10_pay_15 (by decide) ?_
    refine lv_icmp_lt (tgt := 47) hx hb dX10_pay_17 (by decide) (fun c17 => ?_) (fun c17 => ?_)
    · have c17 : p1.toInt < (-9) := z1 rfl (by decide) c17
      refine lv_aload_n hx hb dX10_pay_47 rfl (lv_at hl 0 rfl) ?_
      refine lv_iconst (v := 1) hx hb dX10_pay_48 (by decide) ?_
      obtain ⟨hPc, hDc, hFc⟩ := zc3 (wc := [(h0, .inr (10, [.ref tp, h0_courtReader, h0_lawReader, h0_draft, .ref aC, h0_laws, .ref g0, .ref k0, .ref ac, .ref sd, .ref mi, .ref dw, .ref rf, .int lc, .int lh, .int br, .int hi])), (rf, .inl (cI, 5, .inl frf))]) hP hD hS hA [0, 7] (by decide +kernel) rfl
      refine va_calli (va_runV (As := [.int 1]) (rest := []) ⟨hx, hb, hml, hown, hts⟩ (g_X10_refuse l dC dI cI cJ h0 1 tp h0_courtReader h0_lawReader h0_draft aC h0_laws g0 k0 ac sd mi dw rf lc lh br hi frf H.size y_hi y_lc (by decide)) (cwV 1 hts (zgV qw684 qw686 qw13 qw98 qw687) rfl rfl rfl hd_X10_refuse ⟨by rw [hR]; exact Nat.le_of_ble_eq_true rfl, by rw [hR]; exact Nat.le_of_ble_eq_true rfl⟩) (zPV hPc hK hDc (va_recv (q := (RX10, TX10, 17)) hK hP (ci := 10) (q0 := 0) rfl rfl)) rfl rfl hl.1 rfl (lv_room (Nat.le_of_ble_eq_true rfl)) dX10_pay_49 ⟨Nat.zero_le _, Nat.zero_le _⟩) hS (fun q _ h => hFc q h) hFc (fun v49 u49 t H locs ht hvm hw hB hz1 hk1 hS9 => ?_)
      obtain ⟨u49_0, rfl⟩ : ∃ z, z = u49 := ⟨_, rfl⟩
      obtain ⟨hP9, hD9⟩ := zj2 (wX := [(h0, .inr (10, [.ref tp, h0_courtReader, h0_lawReader, h0_draft, .ref aC, h0_laws, .ref g0, .ref k0, .ref ac, .ref sd, .ref mi, .ref dw, .ref rf, .int lc, .int lh, .int br, .int hi])), (aC, .inr (1, [.ref aR, .ref aB, .ref aP, .int nb, .int np])), (g0, .inr (7, [.ref gY, .ref gF, .ref gP, .int gpn, .int glt, .int gsh, .int gwd, .int gpu, .int gmo])), (gY, .inl (cI, 6, .inl gfY)), (gF, .inl (cI, 5, .inl gfF)), (ac, .inr (0, [.ref aW, .int pl, .int cn])), (aW, .inl (cI, 680, .inl fR)), (rf, .inl (cI, 5, .inl u49_0))]) hP hD hk1 hFc ht hB [0, 7] [(true, 0), (false, 1), (false, 2), (false, 3), (false, 4), (false, 5), (false, 6), (true, 1)] rfl (by decide +kernel) (by decide +kernel) rfl
      clear hP hD hS hPc hDc hFc hB hk1 hz1 hvm
      have hP := hP9
      have hD := hD9
      have hS := hS9
      clear hP9 hD9 hS9
      obtain ⟨hwc, hw⟩ := hw
      have hwc : v49 = (-1) := hwc
      subst hwc
      have zn49_1 : (1 : Int32).toInt = 1 := by decide
      have f49_0 : (zRf frf u49_0 (1 : Int32).toInt) := hw
      have F49 := f49_0
      have zr0 : ((-1) : Int32).toInt = (-1) := by decide
      rw [hQ]
      exact W.iret (v := ((-1))) hx hb hr (fun t ht hW => ⟨⟨(-1), (gfY, pl, cn, fR, u49_0), rfl, ⟨by (try dsimp only); omega, by (try dsimp only); omega, by (try dsimp only); omega, by (try dsimp only); omega, by (try dsimp only); exact fun kc kT q_fr q_fb q_fp q_gfP hc hb h => by exact zActR (x := (1 : Int32).toInt) (by unfold sW_pay; exact ((if_neg (by omega)).trans (if_pos (by omega))).trans (by omega)) (by omega) h F49, ci_fR_zRw⟩, ⟨by rw [ht]; exact hP, hD⟩⟩, hS.F ht⟩) hS.2.2 dX10_pay_52
    · have c17 : (-9) ≤ p1.toInt := z2 rfl (by decide) c17
      refine lv_iload_n hx hb dX10_pay_20 rfl (lv_at hl 2 rfl) ?_
      refine lv_bipush (v := 9) hx hb dX10_pay_21 (by decide) ?_
      refine lv_icmp_gt (tgt := 47) hx hb dX10_pay_23 (by decide) (fun c23 => ?_) (fun c23 => ?_)
      · have c23 : 9 < p1.toInt := z1 (by decide) rfl c23
        refine lv_aload_n hx hb dX10_pay_47 rfl (lv_at hl 0 rfl) ?_
        refine lv_iconst (v := 1) hx hb dX10_pay_48 (by decide) ?_
        obtain ⟨hPc, hDc, hFc⟩ := zc3 (wc := [(h0, .inr (10, [.ref tp, h0_courtReader, h0_lawReader, h0_draft, .ref aC, h0_laws, .ref g0, .ref k0, .ref ac, .ref sd, .ref mi, .ref dw, .ref rf, .int lc, .int lh, .int br, .int hi])), (rf, .inl (cI, 5, .inl frf))]) hP hD hS hA [0, 7] (by decide +kernel) rfl
        refine va_calli (va_runV (As := [.int 1]) (rest := []) ⟨hx, hb, hml, hown, hts⟩ (g_X10_refuse l dC dI cI cJ h0 1 tp h0_courtReader h0_lawReader h0_draft aC h0_laws g0 k0 ac sd mi dw rf lc lh br hi frf H.size y_hi y_lc (by decide)) (cwV 1 hts (zgV qw684 qw686 qw13 qw98 qw687) rfl rfl rfl hd_X10_refuse ⟨by rw [hR]; exact Nat.le_of_ble_eq_true rfl, by rw [hR]; exact Nat.le_of_ble_eq_true rfl⟩) (zPV hPc hK hDc (va_recv (q := (RX10, TX10, 17)) hK hP (ci := 10) (q0 := 0) rfl rfl)) rfl rfl hl.1 rfl (lv_room (Nat.le_of_ble_eq_true rfl)) dX10_pay_49 ⟨Nat.zero_le _, Nat.zero_le _⟩) hS (fun q _ h => hFc q h) hFc (fun v49 u49 t H locs ht hvm hw hB hz1 hk1 hS9 => ?_)
        obtain ⟨u49_0, rfl⟩ : ∃ z, z = u49 := ⟨_, rfl⟩
        obtain ⟨hP9, hD9⟩ := zj2 (wX := [(h0, .inr (10, [.ref tp, h0_courtReader, h0_lawReader, h0_draft, .ref aC, h0_laws, .ref g0, .ref k0, .ref ac, .ref sd, .ref mi, .ref dw, .ref rf, .int lc, .int lh, .int br, .int hi])), (aC, .inr (1, [.ref aR, .ref aB, .ref aP, .int nb, .int np])), (g0, .inr (7, [.ref gY, .ref gF, .ref gP, .int gpn, .int glt, .int gsh, .int gwd, .int gpu, .int gmo])), (gY, .inl (cI, 6, .inl gfY)), (gF, .inl (cI, 5, .inl gfF)), (ac, .inr (0, [.ref aW, .int pl, .int cn])), (aW, .inl (cI, 680, .inl fR)), (rf, .inl (cI, 5, .inl u49_0))]) hP hD hk1 hFc ht hB [0, 7] [(true, 0), (false, 1), (false, 2), (false, 3), (false, 4), (false, 5), (false, 6), (true, 1)] rfl (by decide +kernel) (by decide +kernel) rfl
        clear hP hD hS hPc hDc hFc hB hk1 hz1 hvm
        have hP := hP9
        have hD := hD9
        have hS := hS9
        clear hP9 hD9 hS9
        obtain ⟨hwc, hw⟩ := hw
        have hwc : v49 = (-1) := hwc
        subst hwc
        have zn49_1 : (1 : Int32).toInt = 1 := by decide
        have f49_0 : (zRf frf u49_0 (1 : Int32).toInt) := hw
        have F49 := f49_0
        have zr0 : ((-1) : Int32).toInt = (-1) := by decide
        rw [hQ]
        exact W.iret (v := ((-1))) hx hb hr (fun t ht hW => ⟨⟨(-1), (gfY, pl, cn, fR, u49_0), rfl, ⟨by (try dsimp only); omega, by (try dsimp only); omega, by (try dsimp only); omega, by (try dsimp only); omega, by (try dsimp only); exact fun kc kT q_fr q_fb q_fp q_gfP hc hb h => by exact zActR (x := (1 : Int32).toInt) (by unfold sW_pay; exact ((if_neg (by omega)).trans (if_pos (by omega))).trans (by omega)) (by omega) h F49, ci_fR_zRw⟩, ⟨by rw [ht]; exact hP, hD⟩⟩, hS.F ht⟩) hS.2.2 dX10_pay_52
      · have c23 : p1.toInt ≤ 9 := z2 (by decide) rfl c23
        refine lv_iload_n hx hb dX10_pay_26 rfl (lv_at hl 2 rfl) ?_
        refine lv_if_eq (tgt := 47) hx hb dX10_pay_27 (by decide) (fun c27 => ?_) (fun c27 => ?_)
        · have c27 : p1.toInt = 0 := z5 rfl (by decide) c27
          refine lv_aload_n hx hb dX10_pay_47 rfl (lv_at hl 0 rfl) ?_
          refine lv_iconst (v := 1) hx hb dX10_pay_48 (by decide) ?_
          obtain ⟨hPc, hDc, hFc⟩ := zc3 (wc := [(h0, .inr (10, [.ref tp, h0_courtReader, h0_lawReader, h0_draft, .ref aC, h0_laws, .ref g0, .ref k0, .ref ac, .ref sd, .ref mi, .ref dw, .ref rf, .int lc, .int lh, .int br, .int hi])), (rf, .inl (cI, 5, .inl frf))]) hP hD hS hA [0, 7] (by decide +kernel) rfl
          refine va_calli (va_runV (As := [.int 1]) (rest := []) ⟨hx, hb, hml, hown, hts⟩ (g_X10_refuse l dC dI cI cJ h0 1 tp h0_courtReader h0_lawReader h0_draft aC h0_laws g0 k0 ac sd mi dw rf lc lh br hi frf H.size y_hi y_lc (by decide)) (cwV 1 hts (zgV qw684 qw686 qw13 qw98 qw687) rfl rfl rfl hd_X10_refuse ⟨by rw [hR]; exact Nat.le_of_ble_eq_true rfl, by rw [hR]; exact Nat.le_of_ble_eq_true rfl⟩) (zPV hPc hK hDc (va_recv (q := (RX10, TX10, 17)) hK hP (ci := 10) (q0 := 0) rfl rfl)) rfl rfl hl.1 rfl (lv_room (Nat.le_of_ble_eq_true rfl)) dX10_pay_49 ⟨Nat.zero_le _, Nat.zero_le _⟩) hS (fun q _ h => hFc q h) hFc (fun v49 u49 t H locs ht hvm hw hB hz1 hk1 hS9 => ?_)
          obtain ⟨u49_0, rfl⟩ : ∃ z, z = u49 := ⟨_, rfl⟩
          obtain ⟨hP9, hD9⟩ := zj2 (wX := [(h0, .inr (10, [.ref tp, h0_courtReader, h0_lawReader, h0_draft, .ref aC, h0_laws, .ref g0, .ref k0, .ref ac, .ref sd, .ref mi, .ref dw, .ref rf, .int lc, .int lh, .int br, .int hi])), (aC, .inr (1, [.ref aR, .ref aB, .ref aP, .int nb, .int np])), (g0, .inr (7, [.ref gY, .ref gF, .ref gP, .int gpn, .int glt, .int gsh, .int gwd, .int gpu, .int gmo])), (gY, .inl (cI, 6, .inl gfY)), (gF, .inl (cI, 5, .inl gfF)), (ac, .inr (0, [.ref aW, .int pl, .int cn])), (aW, .inl (cI, 680, .inl fR)), (rf, .inl (cI, 5, .inl u49_0))]) hP hD hk1 hFc ht hB [0, 7] [(true, 0), (false, 1), (false, 2), (false, 3), (false, 4), (false, 5), (false, 6), (true, 1)] rfl (by decide +kernel) (by decide +kernel) rfl
          clear hP hD hS hPc hDc hFc hB hk1 hz1 hvm
          have hP := hP9
          have hD := hD9
          have hS := hS9
          clear hP9 hD9 hS9
          obtain ⟨hwc, hw⟩ := hw
          have hwc : v49 = (-1) := hwc
          subst hwc
          have zn49_1 : (1 : Int32).toInt = 1 := by decide
          have f49_0 : (zRf frf u49_0 (1 : Int32).toInt) := hw
          have F49 := f49_0
          have zr0 : ((-1) : Int32).toInt = (-1) := by decide
          rw [hQ]
          exact W.iret (v := ((-1))) hx hb hr (fun t ht hW => ⟨⟨(-1), (gfY, pl, cn, fR, u49_0), rfl, ⟨by (try dsimp only); omega, by (try dsimp only); omega, by (try dsimp only); omega, by (try dsimp only); omega, by (try dsimp only); exact fun kc kT q_fr q_fb q_fp q_gfP hc hb h => by exact zActR (x := (1 : Int32).toInt) (by unfold sW_pay; exact ((if_neg (by omega)).trans (if_pos (by omega))).trans (by omega)) (by omega) h F49, ci_fR_zRw⟩, ⟨by rw [ht]; exact hP, hD⟩⟩, hS.F ht⟩) hS.2.2 dX10_pay_52
        · have c27 : ¬ p1.toInt = 0 := z6 rfl (by decide) c27
          refine lv_aload_n hx hb dX10_pay_30 rfl (lv_at hl 0 rfl) ?_
          refine va_get (D := (dC, dI)) (ci := 10) (v := .ref g0) (C := RX10) (T := TX10) (N := 17) hx hb hts iX10 hown hK hP 0 rfl rfl 6 (by decide) (hts _ qw362) (fun _ h9 => h9) rfl dX10_pay_31 ?_
          refine va_get (D := (dC, dI)) (ci := 7) (v := .ref gY) (C := RX7) (T := TX7) (N := 9) hx hb hts iX7 hown hK hP 2 rfl rfl 0 (by decide) (hts _ qw222) (fun _ h9 => h9) rfl dX10_pay_34 ?_
          refine lv_iload_n hx hb dX10_pay_37 rfl (lv_at hl 1 rfl) ?_
          refine va_iald hx hb hK hP 3 0 rfl rfl (vp_in_iff.mpr ⟨by omega, by omega⟩) dX10_pay_38 ?_
          refine lv_topi (fun v38 e38 => ?_)
          refine lv_iload_n hx hb dX10_pay_39 rfl (lv_at hl 2 rfl) ?_
          refine lv_iadd hx hb dX10_pay_40 ?_
          refine lv_topi (fun v40 e40 => ?_)
          have hPc : va_P (dC, dI) vwCl [] H := zP0
          have hDc : va_D (fun _ => True) [] := zD0
          have hFc := zfr hS hA
          refine va_calli (va_runS (As := [.int v40]) (rest := []) ⟨hx, hb, hml, hown, hts⟩ (g_X10_isDigit l dC dI cI cJ v40 H.size) (cwS 1 hts (zgS qw714 qw715 qw98 qw716) rfl rfl rfl hd_X10_isDigit ⟨by rw [hR]; exact Nat.le_of_ble_eq_true rfl, by rw [hR]; exact Nat.le_of_ble_eq_true rfl⟩) (zPS hPc hK hDc) rfl rfl hl.1 rfl (lv_room (Nat.le_of_ble_eq_true rfl)) dX10_pay_41 ⟨Nat.zero_le _, Nat.zero_le _⟩) hS (fun q _ h => hFc q h) hFc (fun v41 u41 t H locs ht hvm hw hB hz1 hk1 hS9 => ?_)
          replace hP := zkeep hP hk1
          replace hS := hS9
          clear hPc hDc hFc hk1 hz1 hvm hS9
          obtain ⟨f41_0, f41_1, f41_2, f41_3⟩ : (0 ≤ v41.toInt) ∧ (v41.toInt ≤ 1) ∧ (¬ v41.toInt = 0 → (0 ≤ v40.toInt ∧ v40.toInt ≤ 9)) ∧ (v41.toInt = 0 → ¬ (0 ≤ v40.toInt ∧ v40.toInt ≤ 9)) := hw
          refine lv_if_ne (tgt := 53) hx hb dX10_pay_44 (by decide) (fun c44 => ?_) (fun c44 => ?_)
          · have c44 : ¬ v41.toInt = 0 := z6 rfl (by decide) c44
            refine lv_aload_n hx hb dX10_pay_53 rfl (lv_at hl 0 rfl) ?_
            refine va_get (D := (dC, dI)) (ci := 10) (v := .ref ac) (C := RX10) (T := TX10) (N := 17) hx hb hts iX10 hown hK hP 0 rfl rfl 8 (by decide) (hts _ qw364) (fun _ h9 => h9) rfl dX10_pay_54 ?_
            refine lv_aload_n hx hb dX10_pay_57 rfl (lv_at hl 0 rfl) ?_
            refine va_get (D := (dC, dI)) (ci := 10) (v := .ref g0) (C := RX10) (T := TX10) (N := 17) hx hb hts iX10 hown hK hP 0 rfl rfl 6 (by decide) (hts _ qw362) (fun _ h9 => h9) rfl dX10_pay_58 ?_
            obtain ⟨hPc, hDc, hFc⟩ := zc3 (wc := [(ac, .inr (0, [.ref aW, .int pl, .int cn])), (aW, .inl (cI, 680, .inl fR)), (g0, .inr (7, [.ref gY, .ref gF, .ref gP, .int gpn, .int glt, .int gsh, .int gwd, .int gpu, .int gmo])), (gY, .inl (cI, 6, .inl gfY)), (gF, .inl (cI, 5, .inl gfF))]) hP hD hS hA [5, 6, 2, 3, 4] (by decide +kernel) rfl
            refine va_callv (va_runV (As := [.ref g0]) (rest := []) ⟨hx, hb, hml, hown, hts⟩ (g_X0_keep l dC dI cI cJ ac g0 aW pl cn fR gY gF gP gpn glt gsh gwd gpu gmo gfY gfF H.size n_cn y_gpn y_gwd n_pl ci_fR_zRw) (cwV 1 hts (zgV qw688 qw689 qw690 qw104 qw691) rfl rfl rfl hd_X0_keep ⟨by rw [hR]; exact Nat.le_of_ble_eq_true rfl, by rw [hR]; exact Nat.le_of_ble_eq_true rfl⟩) (zPV hPc hK hDc (va_recv (q := (RX0, TX0, 3)) hK hP (ci := 0) (q0 := 5) rfl rfl)) rfl rfl hl.1 rfl (lv_room (Nat.le_of_ble_eq_true rfl)) dX10_pay_61 ⟨Nat.zero_le _, Nat.zero_le _⟩) hS (fun q _ h => hFc q h) hFc (fun u61 t H locs ht hvm hw hB hz1 hk1 hS9 => ?_)
            obtain ⟨u61_0, u61_1, u61_2⟩ := u61
            obtain ⟨hP9, hD9⟩ := zj2 (wX := [(h0, .inr (10, [.ref tp, h0_courtReader, h0_lawReader, h0_draft, .ref aC, h0_laws, .ref g0, .ref k0, .ref ac, .ref sd, .ref mi, .ref dw, .ref rf, .int lc, .int lh, .int br, .int hi])), (aC, .inr (1, [.ref aR, .ref aB, .ref aP, .int nb, .int np])), (g0, .inr (7, [.ref gY, .ref gF, .ref gP, .int gpn, .int glt, .int gsh, .int gwd, .int gpu, .int gmo])), (gY, .inl (cI, 6, .inl gfY)), (gF, .inl (cI, 5, .inl gfF)), (ac, .inr (0, [.ref aW, .int u61_0, .int u61_1])), (aW, .inl (cI, 680, .inl u61_2)), (rf, .inl (cI, 5, .inl frf))]) hP hD hk1 hFc ht hB [5, 6, 2, 3, 4] [(false, 0), (false, 1), (true, 2), (true, 3), (true, 4), (true, 0), (true, 1), (false, 7)] rfl (by decide +kernel) (by decide +kernel) rfl
            clear hP hD hS hPc hDc hFc hB hk1 hz1 hvm
            have hP := hP9
            have hD := hD9
            have hS := hS9
            clear hP9 hD9 hS9
            obtain ⟨f61_0, f61_1, f61_2, f61_3, f61_4, f61_5⟩ : (0 ≤ u61_0.toInt) ∧ (u61_0.toInt ≤ 39) ∧ (1 ≤ u61_1.toInt) ∧ (u61_1.toInt ≤ 40) ∧ (∀ (nbI npI : Int) (S : zS) (Ks : List zS) (P : Nat → Int32), nbI ≤ 6 → npI ≤ 5 → zSc nbI npI S gfY gfF P gpn glt gsh gwd gpu gmo → zKc nbI npI Ks P fR pl cn → zKc nbI npI (sKeep S Ks) P u61_2 u61_0 u61_1) ∧ (zRw u61_2) := hw
            have F61 := f61_4
            refine lv_aload_n hx hb dX10_pay_64 rfl (lv_at hl 0 rfl) ?_
            refine va_get (D := (dC, dI)) (ci := 10) (v := .ref g0) (C := RX10) (T := TX10) (N := 17) hx hb hts iX10 hown hK hP 0 rfl rfl 6 (by decide) (hts _ qw362) (fun _ h9 => h9) rfl dX10_pay_65 ?_
            refine va_get (D := (dC, dI)) (ci := 7) (v := .ref gY) (C := RX7) (T := TX7) (N := 9) hx hb hts iX7 hown hK hP 2 rfl rfl 0 (by decide) (hts _ qw222) (fun _ h9 => h9) rfl dX10_pay_68 ?_
            refine lv_iload_n hx hb dX10_pay_71 rfl (lv_at hl 1 rfl) ?_
            refine lv_dup2_11 hx hb dX10_pay_72 rfl rfl ?_
            refine va_iald hx hb hK hP 3 0 rfl rfl (vp_in_iff.mpr ⟨by omega, by omega⟩) dX10_pay_73 ?_
            refine lv_topi (fun v73 e73 => ?_)
            refine lv_iload_n hx hb dX10_pay_74 rfl (lv_at hl 2 rfl) ?_
            refine lv_iadd hx hb dX10_pay_75 ?_
            refine lv_topi (fun v75 e75 => ?_)
            refine va_iast hx hb hK hP hD hS 3 0 rfl rfl (vp_in_iff.mpr ⟨by omega, by omega⟩) dX10_pay_76 (fun H locs hP9 hD9 hS9 => ?_)
            clear hP hD hS
            obtain ⟨v76_f, e76⟩ : ∃ g : Nat → Int32, g = upd gfY (p0).toNatClampNeg v75 := ⟨_, rfl⟩
            rw [← e76] at hP9 hD9
            obtain ⟨hP, hD⟩ := zst (wX := [(h0, .inr (10, [.ref tp, h0_courtReader, h0_lawReader, h0_draft, .ref aC, h0_laws, .ref g0, .ref k0, .ref ac, .ref sd, .ref mi, .ref dw, .ref rf, .int lc, .int lh, .int br, .int hi])), (aC, .inr (1, [.ref aR, .ref aB, .ref aP, .int nb, .int np])), (g0, .inr (7, [.ref gY, .ref gF, .ref gP, .int gpn, .int glt, .int gsh, .int gwd, .int gpu, .int gmo])), (gY, .inl (cI, 6, .inl v76_f)), (gF, .inl (cI, 5, .inl gfF)), (ac, .inr (0, [.ref aW, .int u61_0, .int u61_1])), (aW, .inl (cI, 680, .inl u61_2)), (rf, .inl (cI, 5, .inl frf))]) hP9 hD9 rfl
            have hS := hS9
            clear hP9 hD9 hS9
            refine lv_aload_n hx hb dX10_pay_77 rfl (lv_at hl 0 rfl) ?_
            refine va_get (D := (dC, dI)) (ci := 10) (v := .ref g0) (C := RX10) (T := TX10) (N := 17) hx hb hts iX10 hown hK hP 0 rfl rfl 6 (by decide) (hts _ qw362) (fun _ h9 => h9) rfl dX10_pay_78 ?_
            refine va_get (D := (dC, dI)) (ci := 7) (v := .ref gY) (C := RX7) (T := TX7) (N := 9) hx hb hts iX7 hown hK hP 2 rfl rfl 0 (by decide) (hts _ qw222) (fun _ h9 => h9) rfl dX10_pay_81 ?_
            refine lv_iload_n hx hb dX10_pay_84 rfl (lv_at hl 1 rfl) ?_
            refine va_iald hx hb hK hP 3 0 rfl rfl (vp_in_iff.mpr ⟨by omega, by omega⟩) dX10_pay_85 ?_
            refine lv_topi (fun v85 e85 => ?_)
            rw [hQ]
            exact W.iret (v := v85) hx hb hr (fun t ht hW => ⟨⟨v85, (v76_f, u61_0, u61_1, u61_2, frf), rfl, ⟨by (try dsimp only); omega, by (try dsimp only); omega, by (try dsimp only); omega, by (try dsimp only); omega, by (try dsimp only); exact fun kc kT q_fr q_fb q_fp q_gfP hc hb h => by have y38 : v38 = kT.1.1 p0.toInt.toNat := (zIxN (n := p0.toInt.toNat) e38 (by omega)).trans (h.1.1 _ (by omega)); have yb := hb.2.2.2.1.1 p0.toInt.toNat (by omega); have z40 : v40.toInt = (kT.1.1 p0.toInt.toNat).toInt + p1.toInt := zadd e40 (congrArg Int32.toInt y38) rfl (by omega) (by omega); have y73 : v73 = kT.1.1 p0.toInt.toNat := (zIxN (n := p0.toInt.toNat) e73 (by omega)).trans (h.1.1 _ (by omega)); have y75 : v75 = kT.1.1 p0.toInt.toNat + p1 := (by rw [e75, y73]); exact zActA (by unfold sW_pay; exact (if_neg (by omega)).trans (if_neg (by omega))) hb.2 h (F61 _ _ kT.1 kT.2.1 _ hb.2.1.2 hb.2.2.1.2 h.1 h.2.1) (by rw [← y75]; exact zSc_Y h.1 e76) (fun _ _ => rfl) (by rw [e85, e76, pk_us, y75]), f61_5⟩, ⟨by rw [ht]; exact hP, hD⟩⟩, hS.F ht⟩) hS.2.2 dX10_pay_86
          · have c44 : v41.toInt = 0 := z5 rfl (by decide) c44
            refine lv_aload_n hx hb dX10_pay_47 rfl (lv_at hl 0 rfl) ?_
            refine lv_iconst (v := 1) hx hb dX10_pay_48 (by decide) ?_
            obtain ⟨hPc, hDc, hFc⟩ := zc3 (wc := [(h0, .inr (10, [.ref tp, h0_courtReader, h0_lawReader, h0_draft, .ref aC, h0_laws, .ref g0, .ref k0, .ref ac, .ref sd, .ref mi, .ref dw, .ref rf, .int lc, .int lh, .int br, .int hi])), (rf, .inl (cI, 5, .inl frf))]) hP hD hS hA [0, 7] (by decide +kernel) rfl
            refine va_calli (va_runV (As := [.int 1]) (rest := []) ⟨hx, hb, hml, hown, hts⟩ (g_X10_refuse l dC dI cI cJ h0 1 tp h0_courtReader h0_lawReader h0_draft aC h0_laws g0 k0 ac sd mi dw rf lc lh br hi frf H.size y_hi y_lc (by decide)) (cwV 1 hts (zgV qw684 qw686 qw13 qw98 qw687) rfl rfl rfl hd_X10_refuse ⟨by rw [hR]; exact Nat.le_of_ble_eq_true rfl, by rw [hR]; exact Nat.le_of_ble_eq_true rfl⟩) (zPV hPc hK hDc (va_recv (q := (RX10, TX10, 17)) hK hP (ci := 10) (q0 := 0) rfl rfl)) rfl rfl hl.1 rfl (lv_room (Nat.le_of_ble_eq_true rfl)) dX10_pay_49 ⟨Nat.zero_le _, Nat.zero_le _⟩) hS (fun q _ h => hFc q h) hFc (fun v49 u49 t H locs ht hvm hw hB hz1 hk1 hS9 => ?_)
            obtain ⟨u49_0, rfl⟩ : ∃ z, z = u49 := ⟨_, rfl⟩
            obtain ⟨hP9, hD9⟩ := zj2 (wX := [(h0, .inr (10, [.ref tp, h0_courtReader, h0_lawReader, h0_draft, .ref aC, h0_laws, .ref g0, .ref k0, .ref ac, .ref sd, .ref mi, .ref dw, .ref rf, .int lc, .int lh, .int br, .int hi])), (aC, .inr (1, [.ref aR, .ref aB, .ref aP, .int nb, .int np])), (g0, .inr (7, [.ref gY, .ref gF, .ref gP, .int gpn, .int glt, .int gsh, .int gwd, .int gpu, .int gmo])), (gY, .inl (cI, 6, .inl gfY)), (gF, .inl (cI, 5, .inl gfF)), (ac, .inr (0, [.ref aW, .int pl, .int cn])), (aW, .inl (cI, 680, .inl fR)), (rf, .inl (cI, 5, .inl u49_0))]) hP hD hk1 hFc ht hB [0, 7] [(true, 0), (false, 1), (false, 2), (false, 3), (false, 4), (false, 5), (false, 6), (true, 1)] rfl (by decide +kernel) (by decide +kernel) rfl
            clear hP hD hS hPc hDc hFc hB hk1 hz1 hvm
            have hP := hP9
            have hD := hD9
            have hS := hS9
            clear hP9 hD9 hS9
            obtain ⟨hwc, hw⟩ := hw
            have hwc : v49 = (-1) := hwc
            subst hwc
            have zn49_1 : (1 : Int32).toInt = 1 := by decide
            have f49_0 : (zRf frf u49_0 (1 : Int32).toInt) := hw
            have F49 := f49_0
            have zr0 : ((-1) : Int32).toInt = (-1) := by decide
            rw [hQ]
            exact W.iret (v := ((-1))) hx hb hr (fun t ht hW => ⟨⟨(-1), (gfY, pl, cn, fR, u49_0), rfl, ⟨by (try dsimp only); omega, by (try dsimp only); omega, by (try dsimp only); omega, by (try dsimp only); omega, by (try dsimp only); exact fun kc kT q_fr q_fb q_fp q_gfP hc hb h => by have y38 : v38 = kT.1.1 p0.toInt.toNat := (zIxN (n := p0.toInt.toNat) e38 (by omega)).trans (h.1.1 _ (by omega)); have yb := hb.2.2.2.1.1 p0.toInt.toNat (by omega); have z40 : v40.toInt = (kT.1.1 p0.toInt.toNat).toInt + p1.toInt := zadd e40 (congrArg Int32.toInt y38) rfl (by omega) (by omega); exact zActR (x := (1 : Int32).toInt) (by unfold sW_pay; exact ((if_neg (by omega)).trans (if_pos (by omega))).trans (by omega)) (by omega) h F49, ci_fR_zRw⟩, ⟨by rw [ht]; exact hP, hD⟩⟩, hS.F ht⟩) hS.2.2 dX10_pay_52
  · have c5 : v2.toInt = 0 := z5 rfl (by decide) c5
    refine lv_aload_n hx hb dX10_pay_8 rfl (lv_at hl 0 rfl) ?_
    refine lv_iconst (v := 0) hx hb dX10_pay_9 (by decide) ?_
    obtain ⟨hPc, hDc, hFc⟩ := zc3 (wc := [(h0, .inr (10, [.ref tp, h0_courtReader, h0_lawReader, h0_draft, .ref aC, h0_laws, .ref g0, .ref k0, .ref ac, .ref sd, .ref mi, .ref dw, .ref rf, .int lc, .int lh, .int br, .int hi])), (rf, .inl (cI, 5, .inl frf))]) hP hD hS hA [0, 7] (by decide +kernel) rfl
    refine va_calli (va_runV (As := [.int 0]) (rest := []) ⟨hx, hb, hml, hown, hts⟩ (g_X10_refuse l dC dI cI cJ h0 0 tp h0_courtReader h0_lawReader h0_draft aC h0_laws g0 k0 ac sd mi dw rf lc lh br hi frf H.size y_hi y_lc (by decide)) (cwV 1 hts (zgV qw684 qw686 qw13 qw98 qw687) rfl rfl rfl hd_X10_refuse ⟨by rw [hR]; exact Nat.le_of_ble_eq_true rfl, by rw [hR]; exact Nat.le_of_ble_eq_true rfl⟩) (zPV hPc hK hDc (va_recv (q := (RX10, TX10, 17)) hK hP (ci := 10) (q0 := 0) rfl rfl)) rfl rfl hl.1 rfl (lv_room (Nat.le_of_ble_eq_true rfl)) dX10_pay_10 ⟨Nat.zero_le _, Nat.zero_le _⟩) hS (fun q _ h => hFc q h) hFc (fun v10 u10 t H locs ht hvm hw hB hz1 hk1 hS9 => ?_)
    obtain ⟨u10_0, rfl⟩ : ∃ z, z = u10 := ⟨_, rfl⟩
    obtain ⟨hP9, hD9⟩ := zj2 (wX := [(h0, .inr (10, [.ref tp, h0_courtReader, h0_lawReader, h0_draft, .ref aC, h0_laws, .ref g0, .ref k0, .ref ac, .ref sd, .ref mi, .ref dw, .ref rf, .int lc, .int lh, .int br, .int hi])), (aC, .inr (1, [.ref aR, .ref aB, .ref aP, .int nb, .int np])), (g0, .inr (7, [.ref gY, .ref gF, .ref gP, .int gpn, .int glt, .int gsh, .int gwd, .int gpu, .int gmo])), (gY, .inl (cI, 6, .inl gfY)), (gF, .inl (cI, 5, .inl gfF)), (ac, .inr (0, [.ref aW, .int pl, .int cn])), (aW, .inl (cI, 680, .inl fR)), (rf, .inl (cI, 5, .inl u10_0))]) hP hD hk1 hFc ht hB [0, 7] [(true, 0), (false, 1), (false, 2), (false, 3), (false, 4), (false, 5), (false, 6), (true, 1)] rfl (by decide +kernel) (by decide +kernel) rfl
    clear hP hD hS hPc hDc hFc hB hk1 hz1 hvm
    have hP := hP9
    have hD := hD9
    have hS := hS9
    clear hP9 hD9 hS9
    obtain ⟨hwc, hw⟩ := hw
    have hwc : v10 = (-1) := hwc
    subst hwc
    have zn10_0 : (0 : Int32).toInt = 0 := by decide
    have f10_0 : (zRf frf u10_0 (0 : Int32).toInt) := hw
    have F10 := f10_0
    have zr0 : ((-1) : Int32).toInt = (-1) := by decide
    rw [hQ]
    exact W.iret (v := ((-1))) hx hb hr (fun t ht hW => ⟨⟨(-1), (gfY, pl, cn, fR, u10_0), rfl, ⟨by (try dsimp only); omega, by (try dsimp only); omega, by (try dsimp only); omega, by (try dsimp only); omega, by (try dsimp only); exact fun kc kT q_fr q_fb q_fp q_gfP hc hb h => zActR (x := (0 : Int32).toInt) (by unfold sW_pay; exact (if_pos (by omega)).trans (by omega)) (by omega) h F10, ci_fR_zRw⟩, ⟨by rw [ht]; exact hP, hD⟩⟩, hS.F ht⟩) hS.2.2 dX10_pay_13
set_option maxHeartbeats 4000000 in
set_option maxRecDepth 100000 in
theorem g_X10_threaten (l : Launch) (dC : Nat → ClassId) (dI : Nat → Nat → Nat) (cI cJ : ClassId) (h0 : Nat) (p0 : Int32) (tp : Nat) (h0_courtReader : Value) (h0_lawReader : Value) (h0_draft : Value) (aC : Nat) (h0_laws : Value) (g0 : Nat) (k0 : Nat) (ac : Nat) (sd : Nat) (mi : Nat) (dw : Nat) (rf : Nat) (lc : Int32) (lh : Int32) (br : Int32) (hi : Int32) (aR : Nat) (aB : Nat) (aP : Nat) (nb : Int32) (np : Int32) (gY : Nat) (gF : Nat) (gP : Nat) (gpn : Int32) (glt : Int32) (gsh : Int32) (gwd : Int32) (gpu : Int32) (gmo : Int32) (gfY : Nat → Int32) (gfF : Nat → Int32) (aW : Nat) (pl : Int32) (cn : Int32) (fR : Nat → Int32) (frf : Nat → Int32) (sz : Nat) (n_cn : 0 ≤ cn.toInt ∧ cn.toInt ≤ 40) (n_gpn : 0 ≤ gpn.toInt ∧ gpn.toInt ≤ 20) (n_gwd : (-1) ≤ gwd.toInt ∧ gwd.toInt ≤ 5) (n_hi : 0 ≤ hi.toInt ∧ hi.toInt ≤ 1) (n_lc : 0 ≤ lc.toInt ∧ lc.toInt ≤ 4) (n_nb : 0 ≤ nb.toInt ∧ nb.toInt ≤ 6) (n_np : 0 ≤ np.toInt ∧ np.toInt ≤ 5) (n_pl : 0 ≤ pl.toInt ∧ pl.toInt ≤ 39)  (ci_fR_zRw : zRw fR)  : Met l yX10_threaten (.code yX10_threaten cX10_threaten 2 (some .int) :: wA) ({ frames := 3, cells := 0, slots := 0, locals := 104 }) (zP (dC, dI) [(cI, .int), (cJ, .long)] [.ref h0, .int p0] sz [(h0, .inr (10, [.ref tp, h0_courtReader, h0_lawReader, h0_draft, .ref aC, h0_laws, .ref g0, .ref k0, .ref ac, .ref sd, .ref mi, .ref dw, .ref rf, .int lc, .int lh, .int br, .int hi])), (aC, .inr (1, [.ref aR, .ref aB, .ref aP, .int nb, .int np])), (g0, .inr (7, [.ref gY, .ref gF, .ref gP, .int gpn, .int glt, .int gsh, .int gwd, .int gpu, .int gmo])), (gY, .inl (cI, 6, .inl gfY)), (gF, .inl (cI, 5, .inl gfF)), (ac, .inr (0, [.ref aW, .int pl, .int cn])), (aW, .inl (cI, 680, .inl fR)), (rf, .inl (cI, 5, .inl frf))]) (va_Qi (fun (r : Int32) (u : (Nat → Int32) × Int32 × Int32 × (Nat → Int32) × (Nat → Int32)) => (0 ≤ u.2.1.toInt) ∧ (u.2.1.toInt ≤ 39) ∧ (0 ≤ u.2.2.1.toInt) ∧ (u.2.2.1.toInt ≤ 40) ∧ (∀ (kc : zK3) (kT : zT) (q_fr : Nat → Int32) (q_fb : Nat → Int32) (q_fp : Nat → Int32) (q_gfP : Nat → Int32), zCn q_fr q_fb q_fp nb.toInt np.toInt kc → zKo nb.toInt np.toInt kc kT → zTc nb.toInt np.toInt kT gfY gfF q_gfP gpn glt gsh gwd gpu gmo fR pl cn frf → r = sA (sW_thr np.toInt kT.1 p0) (kT.1.2.1 p0.toInt.toNat + 1) ∧ zTc nb.toInt np.toInt (sDo (sW_thr np.toInt kT.1 p0) kT (sSetF kT.1 p0.toInt.toNat (kT.1.2.1 p0.toInt.toNat + 1))) gfY u.1 q_gfP gpn glt gsh gwd gpu gmo u.2.2.2.1 u.2.1 u.2.2.1 u.2.2.2.2) ∧ (zRw u.2.2.2.1)) (fun (u : (Nat → Int32) × Int32 × Int32 × (Nat → Int32) × (Nat → Int32)) (t : State) => va_P (dC, dI) vwCl [(h0, .inr (10, [.ref tp, h0_courtReader, h0_lawReader, h0_draft, .ref aC, h0_laws, .ref g0, .ref k0, .ref ac, .ref sd, .ref mi, .ref dw, .ref rf, .int lc, .int lh, .int br, .int hi])), (aC, .inr (1, [.ref aR, .ref aB, .ref aP, .int nb, .int np])), (g0, .inr (7, [.ref gY, .ref gF, .ref gP, .int gpn, .int glt, .int gsh, .int gwd, .int gpu, .int gmo])), (gY, .inl (cI, 6, .inl gfY)), (gF, .inl (cI, 5, .inl u.1)), (ac, .inr (0, [.ref aW, .int u.2.1, .int u.2.2.1])), (aW, .inl (cI, 680, .inl u.2.2.2.1)), (rf, .inl (cI, 5, .inl u.2.2.2.2))] t.heap ∧ va_D (va_A [(h0, .inr (10, [.ref tp, h0_courtReader, h0_lawReader, h0_draft, .ref aC, h0_laws, .ref g0, .ref k0, .ref ac, .ref sd, .ref mi, .ref dw, .ref rf, .int lc, .int lh, .int br, .int hi])), (aC, .inr (1, [.ref aR, .ref aB, .ref aP, .int nb, .int np])), (g0, .inr (7, [.ref gY, .ref gF, .ref gP, .int gpn, .int glt, .int gsh, .int gwd, .int gpu, .int gmo])), (gY, .inl (cI, 6, .inl gfY)), (gF, .inl (cI, 5, .inl gfF)), (ac, .inr (0, [.ref aW, .int pl, .int cn])), (aW, .inl (cI, 680, .inl fR)), (rf, .inl (cI, 5, .inl frf))] sz) [(h0, .inr (10, [.ref tp, h0_courtReader, h0_lawReader, h0_draft, .ref aC, h0_laws, .ref g0, .ref k0, .ref ac, .ref sd, .ref mi, .ref dw, .ref rf, .int lc, .int lh, .int br, .int hi])), (aC, .inr (1, [.ref aR, .ref aB, .ref aP, .int nb, .int np])), (g0, .inr (7, [.ref gY, .ref gF, .ref gP, .int gpn, .int glt, .int gsh, .int gwd, .int gpu, .int gmo])), (gY, .inl (cI, 6, .inl gfY)), (gF, .inl (cI, 5, .inl u.1)), (ac, .inr (0, [.ref aW, .int u.2.1, .int u.2.2.1])), (aW, .inl (cI, 680, .inl u.2.2.2.1)), (rf, .inl (cI, 5, .inl u.2.2.2.2))]) (va_A [(h0, .inr (10, [.ref tp, h0_courtReader, h0_lawReader, h0_draft, .ref aC, h0_laws, .ref g0, .ref k0, .ref ac, .ref sd, .ref mi, .ref dw, .ref rf, .int lc, .int lh, .int br, .int hi])), (aC, .inr (1, [.ref aR, .ref aB, .ref aP, .int nb, .int np])), (g0, .inr (7, [.ref gY, .ref gF, .ref gP, .int gpn, .int glt, .int gsh, .int gwd, .int gpu, .int gmo])), (gY, .inl (cI, 6, .inl gfY)), (gF, .inl (cI, 5, .inl gfF)), (ac, .inr (0, [.ref aW, .int pl, .int cn])), (aW, .inl (cI, 680, .inl fR)), (rf, .inl (cI, 5, .inl frf))] sz)) 0 0 (va_A [(h0, .inr (10, [.ref tp, h0_courtReader, h0_lawReader, h0_draft, .ref aC, h0_laws, .ref g0, .ref k0, .ref ac, .ref sd, .ref mi, .ref dw, .ref rf, .int lc, .int lh, .int br, .int hi])), (aC, .inr (1, [.ref aR, .ref aB, .ref aP, .int nb, .int np])), (g0, .inr (7, [.ref gY, .ref gF, .ref gP, .int gpn, .int glt, .int gsh, .int gwd, .int gpu, .int gmo])), (gY, .inl (cI, 6, .inl gfY)), (gF, .inl (cI, 5, .inl gfF)), (ac, .inr (0, [.ref aW, .int pl, .int cn])), (aW, .inl (cI, 680, .inl fR)), (rf, .inl (cI, 5, .inl frf))] sz) := by
  refine Met.ofW (cc := cX10_threaten) (maxL := 2) (ret := (some .int)) (by decide) rfl ?_
  intro p e s m args below meth c s₁ B hml hv
  have y_gpn : zHid (0 ≤ gpn.toInt ∧ gpn.toInt ≤ 20) := n_gpn
  have y_gwd : zHid ((-1) ≤ gwd.toInt ∧ gwd.toInt ≤ 5) := n_gwd
  have y_hi : zHid (0 ≤ hi.toInt ∧ hi.toInt ≤ 1) := n_hi
  have y_lc : zHid (0 ≤ lc.toInt ∧ lc.toInt ≤ 4) := n_lc
  clear n_gpn n_gwd n_hi n_lc
  obtain ⟨hargs, hsz, hP, hK, hT⟩ := hv
  have hx := B.exec
  have hb := B.bytes
  have hr := B.returns
  have hts : ∀ w ∈ wA, w.before args s = true := fun w h => atoms_spec (ws := .code yX10_threaten cX10_threaten 2 (some .int) :: wA) B.pre w (List.mem_cons_of_mem _ h)
  have hown : s.vm.findClass RX10 = some m.cls := findClass_of_methodNamed B.named
  have hlocks := B.notSynchronized
  subst hsz
  have hD := hT.self (sz := s.heap.size)
  generalize hAe : va_A [(h0, .inr (10, [.ref tp, h0_courtReader, h0_lawReader, h0_draft, .ref aC, h0_laws, .ref g0, .ref k0, .ref ac, .ref sd, .ref mi, .ref dw, .ref rf, .int lc, .int lh, .int br, .int hi])), (aC, .inr (1, [.ref aR, .ref aB, .ref aP, .int nb, .int np])), (g0, .inr (7, [.ref gY, .ref gF, .ref gP, .int gpn, .int glt, .int gsh, .int gwd, .int gpu, .int gmo])), (gY, .inl (cI, 6, .inl gfY)), (gF, .inl (cI, 5, .inl gfF)), (ac, .inr (0, [.ref aW, .int pl, .int cn])), (aW, .inl (cI, 680, .inl fR)), (rf, .inl (cI, 5, .inl frf))] s.heap.size = A at hD ⊢
  have hA : ∀ q : Nat, s.heap.size ≤ q → A q := fun q h => by rw [← hAe]; exact Or.inr h
  have hl := lv_entry ([.ref h0, .int p0]) (n := 2) (Nat.le_of_ble_eq_true rfl)
  rw [show entryFrame m args 2 = entryFrame m ([.ref h0, .int p0] : List Value).toArray 2 by rw [hargs], lg_entry_eq]
  generalize (lg_sl ([.ref h0, .int p0]) ++ List.replicate (2 - (lg_sl ([.ref h0, .int p0])).length) Slot.unset).toArray = ls at hl ⊢
  have hl : lv_has ls 2 [(0, .ref h0), (1, .int p0)] := hl
  refine zstart (fun H hH => ?_)
  rw [← hH] at hP
  have hS : va_S A s.heap H [] := by rw [hH]; exact va_S.rf
  generalize ([] : List Loc) = locs at hS ⊢
  refine zgen (fun R Q hR hQ => ?_)
  refine lv_aload_n hx hb dX10_threaten_0 rfl (lv_at hl 0 rfl) ?_
  refine lv_iload_n hx hb dX10_threaten_1 rfl (lv_at hl 1 rfl) ?_
  obtain ⟨hPc, hDc⟩ := zc2 (wc := [(h0, .inr (10, [.ref tp, h0_courtReader, h0_lawReader, h0_draft, .ref aC, h0_laws, .ref g0, .ref k0, .ref ac, .ref sd, .ref mi, .ref dw, .ref rf, .int lc, .int lh, .int br, .int hi])), (aC, .inr (1, [.ref aR, .ref aB, .ref aP, .int nb, .int np]))]) hP hD [0, 1] (by decide +kernel) rfl
  have hFc := zfr hS hA
  refine va_calli (va_runV (As := [.int p0]) (rest := []) ⟨hx, hb, hml, hown, hts⟩ (g_X10_isPainter l dC dI cI cJ h0 p0 (.ref tp) h0_courtReader h0_lawReader h0_draft aC h0_laws (.ref g0) (.ref k0) (.ref ac) (.ref sd) (.ref mi) (.ref dw) (.ref rf) (.int lc) (.int lh) (.int br) (.int hi) aR aB aP nb np H.size n_np) (cwV 1 hts (zgV qw600 qw602 qw11 qw98 qw603) rfl rfl rfl hd_X10_isPainter ⟨by rw [hR]; exact Nat.le_of_ble_eq_true rfl, by rw [hR]; exact Nat.le_of_ble_eq_true rfl⟩) (zPV hPc hK hDc (va_recv (q := (RX10, TX10, 17)) hK hP (ci := 10) (q0 := 0) rfl rfl)) rfl rfl hl.1 rfl (lv_room (Nat.le_of_ble_eq_true rfl)) dX10_threaten_2 ⟨Nat.zero_le _, Nat.zero_le _⟩) hS (fun q _ h => hFc q h) hFc (fun v2 u2 t H locs ht hvm hw hB hz1 hk1 hS9 => ?_)
  replace hP := zkeep hP hk1
  replace hS := hS9
  clear hPc hDc hFc hk1 hz1 hvm hS9
  obtain ⟨f2_0, f2_1, f2_2, f2_3⟩ : (0 ≤ v2.toInt) ∧ (v2.toInt ≤ 1) ∧ (¬ v2.toInt = 0 → (0 ≤ p0.toInt ∧ p0.toInt < np.toInt)) ∧ (v2.toInt = 0 → ¬ (0 ≤ p0.toInt ∧ p0.toInt < np.toInt)) := hw
  refine lv_if_ne (tgt := 14) hx hb dX10_threaten_5 (by decide) (fun c5 => ?_) (fun c5 => ?_)
  · have c5 : ¬ v2.toInt = 0 := z6 rfl (by decide) c5
    refine lv_aload_n hx hb dX10_threaten_14 rfl (lv_at hl 0 rfl) ?_
    refine va_get (D := (dC, dI)) (ci := 10) (v := .ref g0) (C := RX10) (T := TX10) (N := 17) hx hb hts iX10 hown hK hP 0 rfl rfl 6 (by decide) (hts _ qw362) (fun _ h9 => h9) rfl dX10_threaten_15 ?_
    refine va_get (D := (dC, dI)) (ci := 7) (v := .ref gF) (C := RX7) (T := TX7) (N := 9) hx hb hts iX7 hown hK hP 2 rfl rfl 1 (by decide) (hts _ qw225) (fun _ h9 => h9) rfl dX10_threaten_18 ?_
    refine lv_iload_n hx hb dX10_threaten_21 rfl (lv_at hl 1 rfl) ?_
    refine va_iald hx hb hK hP 4 0 rfl rfl (vp_in_iff.mpr ⟨by omega, by omega⟩) dX10_threaten_22 ?_
    refine lv_topi (fun v22 e22 => ?_)
    refine lv_bipush (v := 9) hx hb dX10_threaten_23 (by decide) ?_
    refine lv_icmp_lt (tgt := 34) hx hb dX10_threaten_25 (by decide) (fun c25 => ?_) (fun c25 => ?_)
    · have c25 : v22.toInt < 9 := z1 rfl (by decide) c25
      refine lv_aload_n hx hb dX10_threaten_34 rfl (lv_at hl 0 rfl) ?_
      refine va_get (D := (dC, dI)) (ci := 10) (v := .ref ac) (C := RX10) (T := TX10) (N := 17) hx hb hts iX10 hown hK hP 0 rfl rfl 8 (by decide) (hts _ qw364) (fun _ h9 => h9) rfl dX10_threaten_35 ?_
      refine lv_aload_n hx hb dX10_threaten_38 rfl (lv_at hl 0 rfl) ?_
      refine va_get (D := (dC, dI)) (ci := 10) (v := .ref g0) (C := RX10) (T := TX10) (N := 17) hx hb hts iX10 hown hK hP 0 rfl rfl 6 (by decide) (hts _ qw362) (fun _ h9 => h9) rfl dX10_threaten_39 ?_
      obtain ⟨hPc, hDc, hFc⟩ := zc3 (wc := [(ac, .inr (0, [.ref aW, .int pl, .int cn])), (aW, .inl (cI, 680, .inl fR)), (g0, .inr (7, [.ref gY, .ref gF, .ref gP, .int gpn, .int glt, .int gsh, .int gwd, .int gpu, .int gmo])), (gY, .inl (cI, 6, .inl gfY)), (gF, .inl (cI, 5, .inl gfF))]) hP hD hS hA [5, 6, 2, 3, 4] (by decide +kernel) rfl
      refine va_callv (va_runV (As := [.ref g0]) (rest := []) ⟨hx, hb, hml, hown, hts⟩ (g_X0_keep l dC dI cI cJ ac g0 aW pl cn fR gY gF gP gpn glt gsh gwd gpu gmo gfY gfF H.size n_cn y_gpn y_gwd n_pl ci_fR_zRw) (cwV 1 hts (zgV qw688 qw689 qw690 qw104 qw691) rfl rfl rfl hd_X0_keep ⟨by rw [hR]; exact Nat.le_of_ble_eq_true rfl, by rw [hR]; exact Nat.le_of_ble_eq_true rfl⟩) (zPV hPc hK hDc (va_recv (q := (RX0, TX0, 3)) hK hP (ci := 0) (q0 := 5) rfl rfl)) rfl rfl hl.1 rfl (lv_room (Nat.le_of_ble_eq_true rfl)) dX10_threaten_42 ⟨Nat.zero_le _, Nat.zero_le _⟩) hS (fun q _ h => hFc q h) hFc (fun u42 t H locs ht hvm hw hB hz1 hk1 hS9 => ?_)
      obtain ⟨u42_0, u42_1, u42_2⟩ := u42
      obtain ⟨hP9, hD9⟩ := zj2 (wX := [(h0, .inr (10, [.ref tp, h0_courtReader, h0_lawReader, h0_draft, .ref aC, h0_laws, .ref g0, .ref k0, .ref ac, .ref sd, .ref mi, .ref dw, .ref rf, .int lc, .int lh, .int br, .int hi])), (aC, .inr (1, [.ref aR, .ref aB, .ref aP, .int nb, .int np])), (g0, .inr (7, [.ref gY, .ref gF, .ref gP, .int gpn, .int glt, .int gsh, .int gwd, .int gpu, .int gmo])), (gY, .inl (cI, 6, .inl gfY)), (gF, .inl (cI, 5, .inl gfF)), (ac, .inr (0, [.ref aW, .int u42_0, .int u42_1])), (aW, .inl (cI, 680, .inl u42_2)), (rf, .inl (cI, 5, .inl frf))]) hP hD hk1 hFc ht hB [5, 6, 2, 3, 4] [(false, 0), (false, 1), (true, 2), (true, 3), (true, 4), (true, 0), (true, 1), (false, 7)] rfl (by decide +kernel) (by decide +kernel) rfl
      clear hP hD hS hPc hDc hFc hB hk1 hz1 hvm
      have hP := hP9
      have hD := hD9
      have hS := hS9
      clear hP9 hD9 hS9
      obtain ⟨f42_0, f42_1, f42_2, f42_3, f42_4, f42_5⟩ : (0 ≤ u42_0.toInt) ∧ (u42_0.toInt ≤ 39) ∧ (1 ≤ u42_1.toInt) ∧ (u42_1.toInt ≤ 40) ∧ (∀ (nbI npI : Int) (S : zS) (Ks : List zS) (P : Nat → Int32), nbI ≤ 6 → npI ≤ 5 → zSc nbI npI S gfY gfF P gpn glt gsh gwd gpu gmo → zKc nbI npI Ks P fR pl cn → zKc nbI npI (sKeep S Ks) P u42_2 u42_0 u42_1) ∧ (zRw u42_2) := hw
      have F42 := f42_4
      refine lv_aload_n hx hb dX10_threaten_45 rfl (lv_at hl 0 rfl) ?_
      refine va_get (D := (dC, dI)) (ci := 10) (v := .ref g0) (C := RX10) (T := TX10) (N := 17) hx hb hts iX10 hown hK hP 0 rfl rfl 6 (by decide) (hts _ qw362) (fun _ h9 => h9) rfl dX10_threaten_46 ?_
      refine va_get (D := (dC, dI)) (ci := 7) (v := .ref gF) (C := RX7) (T := TX7) (N := 9) hx hb hts iX7 hown hK hP 2 rfl rfl 1 (by decide) (hts _ qw225) (fun _ h9 => h9) rfl dX10_threaten_49 ?_
      refine lv_iload_n hx hb dX10_threaten_52 rfl (lv_at hl 1 rfl) ?_
      refine lv_dup2_11 hx hb dX10_threaten_53 rfl rfl ?_
      refine va_iald hx hb hK hP 4 0 rfl rfl (vp_in_iff.mpr ⟨by omega, by omega⟩) dX10_threaten_54 ?_
      refine lv_topi (fun v54 e54 => ?_)
      refine lv_iconst (v := 1) hx hb dX10_threaten_55 (by decide) ?_
      refine lv_iadd hx hb dX10_threaten_56 ?_
      refine lv_topi (fun v56 e56 => ?_)
      refine va_iast hx hb hK hP hD hS 4 0 rfl rfl (vp_in_iff.mpr ⟨by omega, by omega⟩) dX10_threaten_57 (fun H locs hP9 hD9 hS9 => ?_)
      clear hP hD hS
      obtain ⟨v57_f, e57⟩ : ∃ g : Nat → Int32, g = upd gfF (p0).toNatClampNeg v56 := ⟨_, rfl⟩
      rw [← e57] at hP9 hD9
      obtain ⟨hP, hD⟩ := zst (wX := [(h0, .inr (10, [.ref tp, h0_courtReader, h0_lawReader, h0_draft, .ref aC, h0_laws, .ref g0, .ref k0, .ref ac, .ref sd, .ref mi, .ref dw, .ref rf, .int lc, .int lh, .int br, .int hi])), (aC, .inr (1, [.ref aR, .ref aB, .ref aP, .int nb, .int np])), (g0, .inr (7, [.ref gY, .ref gF, .ref gP, .int gpn, .int glt, .int gsh, .int gwd, .int gpu, .int gmo])), (gY, .inl (cI, 6, .inl gfY)), (gF, .inl (cI, 5, .inl v57_f)), (ac, .inr (0, [.ref aW, .int u42_0, .int u42_1])), (aW, .inl (cI, 680, .inl u42_2)), (rf, .inl (cI, 5, .inl frf))]) hP9 hD9 rfl
      have hS := hS9
      clear hP9 hD9 hS9
      refine lv_aload_n hx hb dX10_threaten_58 rfl (lv_at hl 0 rfl) ?_
      refine va_get (D := (dC, dI)) (ci := 10) (v := .ref g0) (C := RX10) (T := TX10) (N := 17) hx hb hts iX10 hown hK hP 0 rfl rfl 6 (by decide) (hts _ qw362) (fun _ h9 => h9) rfl dX10_threaten_59 ?_
      refine va_get (D := (dC, dI)) (ci := 7) (v := .ref gF) (C := RX7) (T := TX7) (N := 9) hx hb hts iX7 hown hK hP 2 rfl rfl 1 (by decide) (hts _ qw225) (fun _ h9 => h9) rfl dX10_threaten_62 ?_
      refine lv_iload_n hx hb dX10_threaten_65 rfl (lv_at hl 1 rfl) ?_
      refine va_iald hx hb hK hP 4 0 rfl rfl (vp_in_iff.mpr ⟨by omega, by omega⟩) dX10_threaten_66 ?_
      refine lv_topi (fun v66 e66 => ?_)
      rw [hQ]
      exact W.iret (v := v66) hx hb hr (fun t ht hW => ⟨⟨v66, (v57_f, u42_0, u42_1, u42_2, frf), rfl, ⟨by (try dsimp only); omega, by (try dsimp only); omega, by (try dsimp only); omega, by (try dsimp only); omega, by (try dsimp only); exact fun kc kT q_fr q_fb q_fp q_gfP hc hb h => by have y22 : v22 = kT.1.2.1 p0.toInt.toNat := (zIxN (n := p0.toInt.toNat) e22 (by omega)).trans (h.1.2.1 _ (by omega)); have y54 : v54 = kT.1.2.1 p0.toInt.toNat := (zIxN (n := p0.toInt.toNat) e54 (by omega)).trans (h.1.2.1 _ (by omega)); have y56 : v56 = kT.1.2.1 p0.toInt.toNat + 1 := (by rw [e56, y54]); exact zActA (by unfold sW_thr; exact (if_neg (by omega)).trans (if_neg (by rw [← y22]; omega))) hb.2 h (F42 _ _ kT.1 kT.2.1 _ hb.2.1.2 hb.2.2.1.2 h.1 h.2.1) (by rw [← y56]; exact zSc_F h.1 e57) (fun _ _ => rfl) (by rw [e66, e57, pk_us, y56]), f42_5⟩, ⟨by rw [ht]; exact hP, hD⟩⟩, hS.F ht⟩) hS.2.2 dX10_threaten_67
    · have c25 : 9 ≤ v22.toInt := z2 rfl (by decide) c25
      refine lv_aload_n hx hb dX10_threaten_28 rfl (lv_at hl 0 rfl) ?_
      refine lv_iconst (v := 1) hx hb dX10_threaten_29 (by decide) ?_
      obtain ⟨hPc, hDc, hFc⟩ := zc3 (wc := [(h0, .inr (10, [.ref tp, h0_courtReader, h0_lawReader, h0_draft, .ref aC, h0_laws, .ref g0, .ref k0, .ref ac, .ref sd, .ref mi, .ref dw, .ref rf, .int lc, .int lh, .int br, .int hi])), (rf, .inl (cI, 5, .inl frf))]) hP hD hS hA [0, 7] (by decide +kernel) rfl
      refine va_calli (va_runV (As := [.int 1]) (rest := []) ⟨hx, hb, hml, hown, hts⟩ (g_X10_refuse l dC dI cI cJ h0 1 tp h0_courtReader h0_lawReader h0_draft aC h0_laws g0 k0 ac sd mi dw rf lc lh br hi frf H.size y_hi y_lc (by decide)) (cwV 1 hts (zgV qw684 qw686 qw13 qw98 qw687) rfl rfl rfl hd_X10_refuse ⟨by rw [hR]; exact Nat.le_of_ble_eq_true rfl, by rw [hR]; exact Nat.le_of_ble_eq_true rfl⟩) (zPV hPc hK hDc (va_recv (q := (RX10, TX10, 17)) hK hP (ci := 10) (q0 := 0) rfl rfl)) rfl rfl hl.1 rfl (lv_room (Nat.le_of_ble_eq_true rfl)) dX10_threaten_30 ⟨Nat.zero_le _, Nat.zero_le _⟩) hS (fun q _ h => hFc q h) hFc (fun v30 u30 t H locs ht hvm hw hB hz1 hk1 hS9 => ?_)
      obtain ⟨u30_0, rfl⟩ : ∃ z, z = u30 := ⟨_, rfl⟩
      obtain ⟨hP9, hD9⟩ := zj2 (wX := [(h0, .inr (10, [.ref tp, h0_courtReader, h0_lawReader, h0_draft, .ref aC, h0_laws, .ref g0, .ref k0, .ref ac, .ref sd, .ref mi, .ref dw, .ref rf, .int lc, .int lh, .int br, .int hi])), (aC, .inr (1, [.ref aR, .ref aB, .ref aP, .int nb, .int np])), (g0, .inr (7, [.ref gY, .ref gF, .ref gP, .int gpn, .int glt, .int gsh, .int gwd, .int gpu, .int gmo])), (gY, .inl (cI, 6, .inl gfY)), (gF, .inl (cI, 5, .inl gfF)), (ac, .inr (0, [.ref aW, .int pl, .int cn])), (aW, .inl (cI, 680, .inl fR)), (rf, .inl (cI, 5, .inl u30_0))]) hP hD hk1 hFc ht hB [0, 7] [(true, 0), (false, 1), (false, 2), (false, 3), (false, 4), (false, 5), (false, 6), (true, 1)] rfl (by decide +kernel) (by decide +kernel) rfl
      clear hP hD hS hPc hDc hFc hB hk1 hz1 hvm
      have hP := hP9
      have hD := hD9
      have hS := hS9
      clear hP9 hD9 hS9
      obtain ⟨hwc, hw⟩ := hw
      have hwc : v30 = (-1) := hwc
      subst hwc
      have zn30_1 : (1 : Int32).toInt = 1 := by decide
      have f30_0 : (zRf frf u30_0 (1 : Int32).toInt) := hw
      have F30 := f30_0
      have zr0 : ((-1) : Int32).toInt = (-1) := by decide
      rw [hQ]
      exact W.iret (v := ((-1))) hx hb hr (fun t ht hW => ⟨⟨(-1), (gfF, pl, cn, fR, u30_0), rfl, ⟨by (try dsimp only); omega, by (try dsimp only); omega, by (try dsimp only); omega, by (try dsimp only); omega, by (try dsimp only); exact fun kc kT q_fr q_fb q_fp q_gfP hc hb h => by have y22 : v22 = kT.1.2.1 p0.toInt.toNat := (zIxN (n := p0.toInt.toNat) e22 (by omega)).trans (h.1.2.1 _ (by omega)); exact zActR (x := (1 : Int32).toInt) (by unfold sW_thr; exact ((if_neg (by omega)).trans (if_pos (by rw [← y22]; omega))).trans (by omega)) (by omega) h F30, ci_fR_zRw⟩, ⟨by rw [ht]; exact hP, hD⟩⟩, hS.F ht⟩) hS.2.2 dX10_threaten_33
  · have c5 : v2.toInt = 0 := z5 rfl (by decide) c5
    refine lv_aload_n hx hb dX10_threaten_8 rfl (lv_at hl 0 rfl) ?_
    refine lv_iconst (v := 0) hx hb dX10_threaten_9 (by decide) ?_
    obtain ⟨hPc, hDc, hFc⟩ := zc3 (wc := [(h0, .inr (10, [.ref tp, h0_courtReader, h0_lawReader, h0_draft, .ref aC, h0_laws, .ref g0, .ref k0, .ref ac, .ref sd, .ref mi, .ref dw, .ref rf, .int lc, .int lh, .int br, .int hi])), (rf, .inl (cI, 5, .inl frf))]) hP hD hS hA [0, 7] (by decide +kernel) rfl
    refine va_calli (va_runV (As := [.int 0]) (rest := []) ⟨hx, hb, hml, hown, hts⟩ (g_X10_refuse l dC dI cI cJ h0 0 tp h0_courtReader h0_lawReader h0_draft aC h0_laws g0 k0 ac sd mi dw rf lc lh br hi frf H.size y_hi y_lc (by decide)) (cwV 1 hts (zgV qw684 qw686 qw13 qw98 qw687) rfl rfl rfl hd_X10_refuse ⟨by rw [hR]; exact Nat.le_of_ble_eq_true rfl, by rw [hR]; exact Nat.le_of_ble_eq_true rfl⟩) (zPV hPc hK hDc (va_recv (q := (RX10, TX10, 17)) hK hP (ci := 10) (q0 := 0) rfl rfl)) rfl rfl hl.1 rfl (lv_room (Nat.le_of_ble_eq_true rfl)) dX10_threaten_10 ⟨Nat.zero_le _, Nat.zero_le _⟩) hS (fun q _ h => hFc q h) hFc (fun v10 u10 t H locs ht hvm hw hB hz1 hk1 hS9 => ?_)
    obtain ⟨u10_0, rfl⟩ : ∃ z, z = u10 := ⟨_, rfl⟩
    obtain ⟨hP9, hD9⟩ := zj2 (wX := [(h0, .inr (10, [.ref tp, h0_courtReader, h0_lawReader, h0_draft, .ref aC, h0_laws, .ref g0, .ref k0, .ref ac, .ref sd, .ref mi, .ref dw, .ref rf, .int lc, .int lh, .int br, .int hi])), (aC, .inr (1, [.ref aR, .ref aB, .ref aP, .int nb, .int np])), (g0, .inr (7, [.ref gY, .ref gF, .ref gP, .int gpn, .int glt, .int gsh, .int gwd, .int gpu, .int gmo])), (gY, .inl (cI, 6, .inl gfY)), (gF, .inl (cI, 5, .inl gfF)), (ac, .inr (0, [.ref aW, .int pl, .int cn])), (aW, .inl (cI, 680, .inl fR)), (rf, .inl (cI, 5, .inl u10_0))]) hP hD hk1 hFc ht hB [0, 7] [(true, 0), (false, 1), (false, 2), (false, 3), (false, 4), (false, 5), (false, 6), (true, 1)] rfl (by decide +kernel) (by decide +kernel) rfl
    clear hP hD hS hPc hDc hFc hB hk1 hz1 hvm
    have hP := hP9
    have hD := hD9
    have hS := hS9
    clear hP9 hD9 hS9
    obtain ⟨hwc, hw⟩ := hw
    have hwc : v10 = (-1) := hwc
    subst hwc
    have zn10_0 : (0 : Int32).toInt = 0 := by decide
    have f10_0 : (zRf frf u10_0 (0 : Int32).toInt) := hw
    have F10 := f10_0
    have zr0 : ((-1) : Int32).toInt = (-1) := by decide
    rw [hQ]
    exact W.iret (v := ((-1))) hx hb hr (fun t ht hW => ⟨⟨(-1), (gfF, pl, cn, fR, u10_0), rfl, ⟨by (try dsimp only); omega, by (try dsimp only); omega, by (try dsimp only); omega, by (try dsimp only); omega, by (try dsimp only); exact fun kc kT q_fr q_fb q_fp q_gfP hc hb h => zActR (x := (0 : Int32).toInt) (by unfold sW_thr; exact (if_pos (by omega)).trans (by omega)) (by omega) h F10, ci_fR_zRw⟩, ⟨by rw [ht]; exact hP, hD⟩⟩, hS.F ht⟩) hS.2.2 dX10_threaten_13
set_option maxHeartbeats 4000000 in
set_option maxRecDepth 100000 in
theorem g_X10_paysToHear (l : Launch) (dC : Nat → ClassId) (dI : Nat → Nat → Nat) (cI cJ : ClassId) (h0 : Nat) (p0 : Int32) (p1 : Int32) (p2 : Int32) (tp : Nat) (h0_courtReader : Value) (h0_lawReader : Value) (h0_draft : Value) (aC : Nat) (h0_laws : Value) (g0 : Nat) (k0 : Nat) (ac : Nat) (sd : Nat) (mi : Nat) (dw : Nat) (rf : Nat) (lc : Int32) (lh : Int32) (br : Int32) (hi : Int32) (aR : Nat) (aB : Nat) (aP : Nat) (nb : Int32) (np : Int32) (gY : Nat) (gF : Nat) (gP : Nat) (gpn : Int32) (glt : Int32) (gsh : Int32) (gwd : Int32) (gpu : Int32) (gmo : Int32) (gfY : Nat → Int32) (gfF : Nat → Int32) (aW : Nat) (pl : Int32) (cn : Int32) (fR : Nat → Int32) (frf : Nat → Int32) (sz : Nat) (n_cn : 0 ≤ cn.toInt ∧ cn.toInt ≤ 40) (n_gpn : 0 ≤ gpn.toInt ∧ gpn.toInt ≤ 20) (n_gwd : (-1) ≤ gwd.toInt ∧ gwd.toInt ≤ 5) (n_hi : 0 ≤ hi.toInt ∧ hi.toInt ≤ 1) (n_lc : 0 ≤ lc.toInt ∧ lc.toInt ≤ 4) (n_nb : 0 ≤ nb.toInt ∧ nb.toInt ≤ 6) (n_np : 0 ≤ np.toInt ∧ np.toInt ≤ 5) (n_pl : 0 ≤ pl.toInt ∧ pl.toInt ≤ 39)  (ci_fR_zRw : zRw fR)  : Met l yX10_paysToHear (.code yX10_paysToHear cX10_paysToHear 5 (some .boolean) :: wA) ({ frames := 3, cells := 0, slots := 0, locals := 104 }) (zP (dC, dI) [(cI, .int), (cJ, .long)] [.ref h0, .int p0, .int p1, .int p2] sz [(h0, .inr (10, [.ref tp, h0_courtReader, h0_lawReader, h0_draft, .ref aC, h0_laws, .ref g0, .ref k0, .ref ac, .ref sd, .ref mi, .ref dw, .ref rf, .int lc, .int lh, .int br, .int hi])), (aC, .inr (1, [.ref aR, .ref aB, .ref aP, .int nb, .int np])), (g0, .inr (7, [.ref gY, .ref gF, .ref gP, .int gpn, .int glt, .int gsh, .int gwd, .int gpu, .int gmo])), (gY, .inl (cI, 6, .inl gfY)), (gF, .inl (cI, 5, .inl gfF)), (ac, .inr (0, [.ref aW, .int pl, .int cn])), (aW, .inl (cI, 680, .inl fR)), (rf, .inl (cI, 5, .inl frf))]) (va_Qi (fun (r : Int32) (u : Int32 × Int32 × Int32 × (Nat → Int32) × (Nat → Int32)) => (0 ≤ r.toInt) ∧ (r.toInt ≤ 1) ∧ (0 ≤ u.2.1.toInt) ∧ (u.2.1.toInt ≤ 39) ∧ (0 ≤ u.2.2.1.toInt) ∧ (u.2.2.1.toInt ≤ 40) ∧ (¬ r.toInt = 0 → (0 ≤ p0.toInt ∧ p0.toInt < nb.toInt)) ∧ (∀ (kc : zK3) (kT : zT) (q_fr : Nat → Int32) (q_fb : Nat → Int32) (q_fp : Nat → Int32) (q_gfP : Nat → Int32), zCn q_fr q_fb q_fp nb.toInt np.toInt kc → zKo nb.toInt np.toInt kc kT → zTc nb.toInt np.toInt kT gfY gfF q_gfP gpn glt gsh gwd gpu gmo fR pl cn frf → (r.toInt = 0 ∧ ¬ sW_tld nb.toInt kT.1 p1 p0 p2.toInt = -1 ∧ zTc nb.toInt np.toInt (sRef kT (sW_tld nb.toInt kT.1 p1 p0 p2.toInt)) gfY gfF q_gfP gpn glt gsh gwd u.1 gmo u.2.2.2.1 u.2.1 u.2.2.1 u.2.2.2.2) ∨ (r.toInt = 1 ∧ sW_tld nb.toInt kT.1 p1 p0 p2.toInt = -1 ∧ zKc nb.toInt np.toInt (sKeep kT.1 kT.2.1) q_gfP u.2.2.2.1 u.2.1 u.2.2.1 ∧ u.1 = gpu - p2 ∧ u.2.2.2.2 = frf)) ∧ (zRw u.2.2.2.1)) (fun (u : Int32 × Int32 × Int32 × (Nat → Int32) × (Nat → Int32)) (t : State) => va_P (dC, dI) vwCl [(h0, .inr (10, [.ref tp, h0_courtReader, h0_lawReader, h0_draft, .ref aC, h0_laws, .ref g0, .ref k0, .ref ac, .ref sd, .ref mi, .ref dw, .ref rf, .int lc, .int lh, .int br, .int hi])), (aC, .inr (1, [.ref aR, .ref aB, .ref aP, .int nb, .int np])), (g0, .inr (7, [.ref gY, .ref gF, .ref gP, .int gpn, .int glt, .int gsh, .int gwd, .int u.1, .int gmo])), (gY, .inl (cI, 6, .inl gfY)), (gF, .inl (cI, 5, .inl gfF)), (ac, .inr (0, [.ref aW, .int u.2.1, .int u.2.2.1])), (aW, .inl (cI, 680, .inl u.2.2.2.1)), (rf, .inl (cI, 5, .inl u.2.2.2.2))] t.heap ∧ va_D (va_A [(h0, .inr (10, [.ref tp, h0_courtReader, h0_lawReader, h0_draft, .ref aC, h0_laws, .ref g0, .ref k0, .ref ac, .ref sd, .ref mi, .ref dw, .ref rf, .int lc, .int lh, .int br, .int hi])), (aC, .inr (1, [.ref aR, .ref aB, .ref aP, .int nb, .int np])), (g0, .inr (7, [.ref gY, .ref gF, .ref gP, .int gpn, .int glt, .int gsh, .int gwd, .int gpu, .int gmo])), (gY, .inl (cI, 6, .inl gfY)), (gF, .inl (cI, 5, .inl gfF)), (ac, .inr (0, [.ref aW, .int pl, .int cn])), (aW, .inl (cI, 680, .inl fR)), (rf, .inl (cI, 5, .inl frf))] sz) [(h0, .inr (10, [.ref tp, h0_courtReader, h0_lawReader, h0_draft, .ref aC, h0_laws, .ref g0, .ref k0, .ref ac, .ref sd, .ref mi, .ref dw, .ref rf, .int lc, .int lh, .int br, .int hi])), (aC, .inr (1, [.ref aR, .ref aB, .ref aP, .int nb, .int np])), (g0, .inr (7, [.ref gY, .ref gF, .ref gP, .int gpn, .int glt, .int gsh, .int gwd, .int u.1, .int gmo])), (gY, .inl (cI, 6, .inl gfY)), (gF, .inl (cI, 5, .inl gfF)), (ac, .inr (0, [.ref aW, .int u.2.1, .int u.2.2.1])), (aW, .inl (cI, 680, .inl u.2.2.2.1)), (rf, .inl (cI, 5, .inl u.2.2.2.2))]) (va_A [(h0, .inr (10, [.ref tp, h0_courtReader, h0_lawReader, h0_draft, .ref aC, h0_laws, .ref g0, .ref k0, .ref ac, .ref sd, .ref mi, .ref dw, .ref rf, .int lc, .int lh, .int br, .int hi])), (aC, .inr (1, [.ref aR, .ref aB, .ref aP, .int nb, .int np])), (g0, .inr (7, [.ref gY, .ref gF, .ref gP, .int gpn, .int glt, .int gsh, .int gwd, .int gpu, .int gmo])), (gY, .inl (cI, 6, .inl gfY)), (gF, .inl (cI, 5, .inl gfF)), (ac, .inr (0, [.ref aW, .int pl, .int cn])), (aW, .inl (cI, 680, .inl fR)), (rf, .inl (cI, 5, .inl frf))] sz)) 0 0 (va_A [(h0, .inr (10, [.ref tp, h0_courtReader, h0_lawReader, h0_draft, .ref aC, h0_laws, .ref g0, .ref k0, .ref ac, .ref sd, .ref mi, .ref dw, .ref rf, .int lc, .int lh, .int br, .int hi])), (aC, .inr (1, [.ref aR, .ref aB, .ref aP, .int nb, .int np])), (g0, .inr (7, [.ref gY, .ref gF, .ref gP, .int gpn, .int glt, .int gsh, .int gwd, .int gpu, .int gmo])), (gY, .inl (cI, 6, .inl gfY)), (gF, .inl (cI, 5, .inl gfF)), (ac, .inr (0, [.ref aW, .int pl, .int cn])), (aW, .inl (cI, 680, .inl fR)), (rf, .inl (cI, 5, .inl frf))] sz) := by
  refine Met.ofW (cc := cX10_paysToHear) (maxL := 5) (ret := (some .boolean)) (by decide) rfl ?_
  intro p e s m args below meth c s₁ B hml hv
  have y_gpn : zHid (0 ≤ gpn.toInt ∧ gpn.toInt ≤ 20) := n_gpn
  have y_gwd : zHid ((-1) ≤ gwd.toInt ∧ gwd.toInt ≤ 5) := n_gwd
  have y_hi : zHid (0 ≤ hi.toInt ∧ hi.toInt ≤ 1) := n_hi
  have y_lc : zHid (0 ≤ lc.toInt ∧ lc.toInt ≤ 4) := n_lc
  clear n_gpn n_gwd n_hi n_lc
  obtain ⟨hargs, hsz, hP, hK, hT⟩ := hv
  have hx := B.exec
  have hb := B.bytes
  have hr := B.returns
  have hts : ∀ w ∈ wA, w.before args s = true := fun w h => atoms_spec (ws := .code yX10_paysToHear cX10_paysToHear 5 (some .boolean) :: wA) B.pre w (List.mem_cons_of_mem _ h)
  have hown : s.vm.findClass RX10 = some m.cls := findClass_of_methodNamed B.named
  have hlocks := B.notSynchronized
  subst hsz
  have hD := hT.self (sz := s.heap.size)
  generalize hAe : va_A [(h0, .inr (10, [.ref tp, h0_courtReader, h0_lawReader, h0_draft, .ref aC, h0_laws, .ref g0, .ref k0, .ref ac, .ref sd, .ref mi, .ref dw, .ref rf, .int lc, .int lh, .int br, .int hi])), (aC, .inr (1, [.ref aR, .ref aB, .ref aP, .int nb, .int np])), (g0, .inr (7, [.ref gY, .ref gF, .ref gP, .int gpn, .int glt, .int gsh, .int gwd, .int gpu, .int gmo])), (gY, .inl (cI, 6, .inl gfY)), (gF, .inl (cI, 5, .inl gfF)), (ac, .inr (0, [.ref aW, .int pl, .int cn])), (aW, .inl (cI, 680, .inl fR)), (rf, .inl (cI, 5, .inl frf))] s.heap.size = A at hD ⊢
  have hA : ∀ q : Nat, s.heap.size ≤ q → A q := fun q h => by rw [← hAe]; exact Or.inr h
  have hl := lv_entry ([.ref h0, .int p0, .int p1, .int p2]) (n := 5) (Nat.le_of_ble_eq_true rfl)
  rw [show entryFrame m args 5 = entryFrame m ([.ref h0, .int p0, .int p1, .int p2] : List Value).toArray 5 by rw [hargs], lg_entry_eq]
  generalize (lg_sl ([.ref h0, .int p0, .int p1, .int p2]) ++ List.replicate (5 - (lg_sl ([.ref h0, .int p0, .int p1, .int p2])).length) Slot.unset).toArray = ls at hl ⊢
  have hl : lv_has ls 5 [(0, .ref h0), (1, .int p0), (2, .int p1), (3, .int p2)] := hl
  refine zstart (fun H hH => ?_)
  rw [← hH] at hP
  have hS : va_S A s.heap H [] := by rw [hH]; exact va_S.rf
  generalize ([] : List Loc) = locs at hS ⊢
  refine zgen (fun R Q hR hQ => ?_)
  refine lv_iconst (v := (-1)) hx hb dX10_paysToHear_0 (by decide) ?_
  refine lv_istore (lv' := [(4, .int (-1)), (0, .ref h0), (1, .int p0), (2, .int p1), (3, .int p2)]) hx hb dX10_paysToHear_1 hl (by decide) rfl (fun ls hl => ?_)
  refine lv_aload_n hx hb dX10_paysToHear_3 rfl (lv_at hl 1 rfl) ?_
  refine lv_iload_n hx hb dX10_paysToHear_4 rfl (lv_at hl 2 rfl) ?_
  obtain ⟨hPc, hDc⟩ := zc2 (wc := [(h0, .inr (10, [.ref tp, h0_courtReader, h0_lawReader, h0_draft, .ref aC, h0_laws, .ref g0, .ref k0, .ref ac, .ref sd, .ref mi, .ref dw, .ref rf, .int lc, .int lh, .int br, .int hi])), (aC, .inr (1, [.ref aR, .ref aB, .ref aP, .int nb, .int np]))]) hP hD [0, 1] (by decide +kernel) rfl
  have hFc := zfr hS hA
  refine va_calli (va_runV (As := [.int p0]) (rest := []) ⟨hx, hb, hml, hown, hts⟩ (g_X10_isBride l dC dI cI cJ h0 p0 (.ref tp) h0_courtReader h0_lawReader h0_draft aC h0_laws (.ref g0) (.ref k0) (.ref ac) (.ref sd) (.ref mi) (.ref dw) (.ref rf) (.int lc) (.int lh) (.int br) (.int hi) aR aB aP nb np H.size n_nb) (cwV 1 hts (zgV qw625 qw627 qw12 qw98 qw628) rfl rfl rfl hd_X10_isBride ⟨by rw [hR]; exact Nat.le_of_ble_eq_true rfl, by rw [hR]; exact Nat.le_of_ble_eq_true rfl⟩) (zPV hPc hK hDc (va_recv (q := (RX10, TX10, 17)) hK hP (ci := 10) (q0 := 0) rfl rfl)) rfl rfl hl.1 rfl (lv_room (Nat.le_of_ble_eq_true rfl)) dX10_paysToHear_5 ⟨Nat.zero_le _, Nat.zero_le _⟩) hS (fun q _ h => hFc q h) hFc (fun v5 u5 t H locs ht hvm hw hB hz1 hk1 hS9 => ?_)
  replace hP := zkeep hP hk1
  replace hS := hS9
  clear hPc hDc hFc hk1 hz1 hvm hS9
  obtain ⟨f5_0, f5_1, f5_2, f5_3⟩ : (0 ≤ v5.toInt) ∧ (v5.toInt ≤ 1) ∧ (¬ v5.toInt = 0 → (0 ≤ p0.toInt ∧ p0.toInt < nb.toInt)) ∧ (v5.toInt = 0 → ¬ (0 ≤ p0.toInt ∧ p0.toInt < nb.toInt)) := hw
  refine lv_if_ne (tgt := 17) hx hb dX10_paysToHear_8 (by decide) (fun c8 => ?_) (fun c8 => ?_)
  · have c8 : ¬ v5.toInt = 0 := z6 rfl (by decide) c8
    refine lv_iload_n hx hb dX10_paysToHear_17 rfl (lv_at hl 3 rfl) ?_
    refine lv_iload_n hx hb dX10_paysToHear_18 rfl (lv_at hl 2 rfl) ?_
    have hPc : va_P (dC, dI) vwCl [] H := zP0
    have hDc : va_D (fun _ => True) [] := zD0
    have hFc := zfr hS hA
    refine va_calli (va_runS (As := [.int p1, .int p0]) (rest := []) ⟨hx, hb, hml, hown, hts⟩ (g_X10_bit l dC dI cI cJ p1 p0 H.size) (cwS 2 hts (zgS qw729 qw453 qw98 qw454) rfl rfl rfl hd_X10_bit ⟨by rw [hR]; exact Nat.le_of_ble_eq_true rfl, by rw [hR]; exact Nat.le_of_ble_eq_true rfl⟩) (zPS hPc hK hDc) rfl rfl hl.1 rfl (lv_room (Nat.le_of_ble_eq_true rfl)) dX10_paysToHear_19 ⟨Nat.zero_le _, Nat.zero_le _⟩) hS (fun q _ h => hFc q h) hFc (fun v19 u19 t H locs ht hvm hw hB hz1 hk1 hS9 => ?_)
    replace hP := zkeep hP hk1
    replace hS := hS9
    clear hPc hDc hFc hk1 hz1 hvm hS9
    obtain ⟨f19_0, f19_1, f19_2⟩ : (0 ≤ v19.toInt) ∧ (v19.toInt ≤ 1) ∧ (v19 = cBt p1 p0) := hw
    have F19 := f19_2
    refine lv_iconst (v := 1) hx hb dX10_paysToHear_22 (by decide) ?_
    refine lv_icmp_ne (tgt := 32) hx hb dX10_paysToHear_23 (by decide) (fun c23 => ?_) (fun c23 => ?_)
    · have c23 : ¬ v19.toInt = 1 := z6 rfl (by decide) c23
      refine lv_aload_n hx hb dX10_paysToHear_32 rfl (lv_at hl 1 rfl) ?_
      refine va_get (D := (dC, dI)) (ci := 10) (v := .ref g0) (C := RX10) (T := TX10) (N := 17) hx hb hts iX10 hown hK hP 0 rfl rfl 6 (by decide) (hts _ qw362) (fun _ h9 => h9) rfl dX10_paysToHear_33 ?_
      refine va_get (D := (dC, dI)) (ci := 7) (v := .int gpu) (C := RX7) (T := TX7) (N := 9) hx hb hts iX7 hown hK hP 2 rfl rfl 7 (by decide) (hts _ qw239) (fun _ h9 => h9) rfl dX10_paysToHear_36 ?_
      refine lv_iload_n hx hb dX10_paysToHear_39 rfl (lv_at hl 4 rfl) ?_
      refine lv_icmp_ge (tgt := 46) hx hb dX10_paysToHear_40 (by decide) (fun c40 => ?_) (fun c40 => ?_)
      · have c40 : p2.toInt ≤ gpu.toInt := z3 rfl rfl c40
        refine lv_iload hx hb dX10_paysToHear_46 (lv_at hl 0 rfl) ?_
        refine lv_iconst (v := (-1)) hx hb dX10_paysToHear_48 (by decide) ?_
        refine lv_icmp_eq (tgt := 61) hx hb dX10_paysToHear_49 (by decide) (fun _ => ?_) (fun c => absurd (by decide) c)
        refine lv_aload_n hx hb dX10_paysToHear_61 rfl (lv_at hl 1 rfl) ?_
        refine va_get (D := (dC, dI)) (ci := 10) (v := .ref ac) (C := RX10) (T := TX10) (N := 17) hx hb hts iX10 hown hK hP 0 rfl rfl 8 (by decide) (hts _ qw364) (fun _ h9 => h9) rfl dX10_paysToHear_62 ?_
        refine lv_aload_n hx hb dX10_paysToHear_65 rfl (lv_at hl 1 rfl) ?_
        refine va_get (D := (dC, dI)) (ci := 10) (v := .ref g0) (C := RX10) (T := TX10) (N := 17) hx hb hts iX10 hown hK hP 0 rfl rfl 6 (by decide) (hts _ qw362) (fun _ h9 => h9) rfl dX10_paysToHear_66 ?_
        obtain ⟨hPc, hDc, hFc⟩ := zc3 (wc := [(ac, .inr (0, [.ref aW, .int pl, .int cn])), (aW, .inl (cI, 680, .inl fR)), (g0, .inr (7, [.ref gY, .ref gF, .ref gP, .int gpn, .int glt, .int gsh, .int gwd, .int gpu, .int gmo])), (gY, .inl (cI, 6, .inl gfY)), (gF, .inl (cI, 5, .inl gfF))]) hP hD hS hA [5, 6, 2, 3, 4] (by decide +kernel) rfl
        refine va_callv (va_runV (As := [.ref g0]) (rest := []) ⟨hx, hb, hml, hown, hts⟩ (g_X0_keep l dC dI cI cJ ac g0 aW pl cn fR gY gF gP gpn glt gsh gwd gpu gmo gfY gfF H.size n_cn y_gpn y_gwd n_pl ci_fR_zRw) (cwV 1 hts (zgV qw688 qw689 qw690 qw104 qw691) rfl rfl rfl hd_X0_keep ⟨by rw [hR]; exact Nat.le_of_ble_eq_true rfl, by rw [hR]; exact Nat.le_of_ble_eq_true rfl⟩) (zPV hPc hK hDc (va_recv (q := (RX0, TX0, 3)) hK hP (ci := 0) (q0 := 5) rfl rfl)) rfl rfl hl.1 rfl (lv_room (Nat.le_of_ble_eq_true rfl)) dX10_paysToHear_69 ⟨Nat.zero_le _, Nat.zero_le _⟩) hS (fun q _ h => hFc q h) hFc (fun u69 t H locs ht hvm hw hB hz1 hk1 hS9 => ?_)
        obtain ⟨u69_0, u69_1, u69_2⟩ := u69
        obtain ⟨hP9, hD9⟩ := zj2 (wX := [(h0, .inr (10, [.ref tp, h0_courtReader, h0_lawReader, h0_draft, .ref aC, h0_laws, .ref g0, .ref k0, .ref ac, .ref sd, .ref mi, .ref dw, .ref rf, .int lc, .int lh, .int br, .int hi])), (aC, .inr (1, [.ref aR, .ref aB, .ref aP, .int nb, .int np])), (g0, .inr (7, [.ref gY, .ref gF, .ref gP, .int gpn, .int glt, .int gsh, .int gwd, .int gpu, .int gmo])), (gY, .inl (cI, 6, .inl gfY)), (gF, .inl (cI, 5, .inl gfF)), (ac, .inr (0, [.ref aW, .int u69_0, .int u69_1])), (aW, .inl (cI, 680, .inl u69_2)), (rf, .inl (cI, 5, .inl frf))]) hP hD hk1 hFc ht hB [5, 6, 2, 3, 4] [(false, 0), (false, 1), (true, 2), (true, 3), (true, 4), (true, 0), (true, 1), (false, 7)] rfl (by decide +kernel) (by decide +kernel) rfl
        clear hP hD hS hPc hDc hFc hB hk1 hz1 hvm
        have hP := hP9
        have hD := hD9
        have hS := hS9
        clear hP9 hD9 hS9
        obtain ⟨f69_0, f69_1, f69_2, f69_3, f69_4, f69_5⟩ : (0 ≤ u69_0.toInt) ∧ (u69_0.toInt ≤ 39) ∧ (1 ≤ u69_1.toInt) ∧ (u69_1.toInt ≤ 40) ∧ (∀ (nbI npI : Int) (S : zS) (Ks : List zS) (P : Nat → Int32), nbI ≤ 6 → npI ≤ 5 → zSc nbI npI S gfY gfF P gpn glt gsh gwd gpu gmo → zKc nbI npI Ks P fR pl cn → zKc nbI npI (sKeep S Ks) P u69_2 u69_0 u69_1) ∧ (zRw u69_2) := hw
        have F69 := f69_4
        refine lv_aload_n hx hb dX10_paysToHear_72 rfl (lv_at hl 1 rfl) ?_
        refine va_get (D := (dC, dI)) (ci := 10) (v := .ref g0) (C := RX10) (T := TX10) (N := 17) hx hb hts iX10 hown hK hP 0 rfl rfl 6 (by decide) (hts _ qw362) (fun _ h9 => h9) rfl dX10_paysToHear_73 ?_
        refine lv_dup hx hb dX10_paysToHear_76 rfl ?_
        refine va_get (D := (dC, dI)) (ci := 7) (v := .int gpu) (C := RX7) (T := TX7) (N := 9) hx hb hts iX7 hown hK hP 2 rfl rfl 7 (by decide) (hts _ qw239) (fun _ h9 => h9) rfl dX10_paysToHear_77 ?_
        refine lv_iload_n hx hb dX10_paysToHear_80 rfl (lv_at hl 4 rfl) ?_
        refine lv_isub hx hb dX10_paysToHear_81 ?_
        refine lv_topi (fun v81 e81 => ?_)
        refine va_put (D := (dC, dI)) (ci := 7) (v := .int v81) (ty := .int) (C := RX7) (T := TX7) (N := 9) hx hb hts iX7 tyX7 tyX7_ok nmX7 hown hK hP hD hS 2 rfl rfl 7 (by decide) (hts _ qw239) (fun _ h9 => h9) rfl (by decide +kernel) rfl rfl (Nat.le_of_ble_eq_true rfl) dX10_paysToHear_82 (fun H locs hP9 hD9 hS9 => ?_)
        clear hP hD hS
        obtain ⟨hP, hD⟩ := zst (wX := [(h0, .inr (10, [.ref tp, h0_courtReader, h0_lawReader, h0_draft, .ref aC, h0_laws, .ref g0, .ref k0, .ref ac, .ref sd, .ref mi, .ref dw, .ref rf, .int lc, .int lh, .int br, .int hi])), (aC, .inr (1, [.ref aR, .ref aB, .ref aP, .int nb, .int np])), (g0, .inr (7, [.ref gY, .ref gF, .ref gP, .int gpn, .int glt, .int gsh, .int gwd, .int v81, .int gmo])), (gY, .inl (cI, 6, .inl gfY)), (gF, .inl (cI, 5, .inl gfF)), (ac, .inr (0, [.ref aW, .int u69_0, .int u69_1])), (aW, .inl (cI, 680, .inl u69_2)), (rf, .inl (cI, 5, .inl frf))]) hP9 hD9 rfl
        have hS := hS9
        clear hP9 hD9 hS9
        refine lv_iconst (v := 1) hx hb dX10_paysToHear_85 (by decide) ?_
        have zr0 : (1 : Int32).toInt = 1 := by decide
        rw [hQ]
        exact W.zret (v := 1) (ty := .boolean) hx hb hr rfl (fun t ht hW => ⟨⟨1, (v81, u69_0, u69_1, u69_2, frf), rfl, ⟨by (try dsimp only); omega, by (try dsimp only); omega, by (try dsimp only); omega, by (try dsimp only); omega, by (try dsimp only); omega, by (try dsimp only); omega, by (try dsimp only); omega, by (try dsimp only); exact fun kc kT q_fr q_fb q_fp q_gfP hc hb h => by have y19 := congrArg Int32.toInt F19; have zp := congrArg Int32.toInt (zSc_pu h.1); exact Or.inr ⟨rfl, by unfold sW_tld; exact (if_neg (by omega)).trans ((if_neg (by rw [← y19]; omega)).trans (if_neg (by omega))), (F69 _ _ kT.1 kT.2.1 _ hb.2.1.2 hb.2.2.1.2 h.1 h.2.1), e81, rfl⟩, f69_5⟩, ⟨by rw [ht]; exact hP, hD⟩⟩, hS.F ht⟩) hS.2.2 dX10_paysToHear_86
      · have c40 : gpu.toInt < p2.toInt := z4 rfl rfl c40
        refine lv_iconst (v := 2) hx hb dX10_paysToHear_43 (by decide) ?_
        refine lv_istore (lv' := [(4, .int 2), (0, .ref h0), (1, .int p0), (2, .int p1), (3, .int p2)]) hx hb dX10_paysToHear_44 hl (by decide) rfl (fun ls hl => ?_)
        refine lv_iload hx hb dX10_paysToHear_46 (lv_at hl 0 rfl) ?_
        refine lv_iconst (v := (-1)) hx hb dX10_paysToHear_48 (by decide) ?_
        refine lv_icmp_eq (tgt := 61) hx hb dX10_paysToHear_49 (by decide) (fun c => absurd c (by decide)) (fun _ => ?_)
        refine lv_aload_n hx hb dX10_paysToHear_52 rfl (lv_at hl 1 rfl) ?_
        refine lv_iload hx hb dX10_paysToHear_53 (lv_at hl 0 rfl) ?_
        obtain ⟨hPc, hDc, hFc⟩ := zc3 (wc := [(h0, .inr (10, [.ref tp, h0_courtReader, h0_lawReader, h0_draft, .ref aC, h0_laws, .ref g0, .ref k0, .ref ac, .ref sd, .ref mi, .ref dw, .ref rf, .int lc, .int lh, .int br, .int hi])), (rf, .inl (cI, 5, .inl frf))]) hP hD hS hA [0, 7] (by decide +kernel) rfl
        refine va_calli (va_runV (As := [.int 2]) (rest := []) ⟨hx, hb, hml, hown, hts⟩ (g_X10_refuse l dC dI cI cJ h0 2 tp h0_courtReader h0_lawReader h0_draft aC h0_laws g0 k0 ac sd mi dw rf lc lh br hi frf H.size y_hi y_lc (by decide)) (cwV 1 hts (zgV qw684 qw686 qw13 qw98 qw687) rfl rfl rfl hd_X10_refuse ⟨by rw [hR]; exact Nat.le_of_ble_eq_true rfl, by rw [hR]; exact Nat.le_of_ble_eq_true rfl⟩) (zPV hPc hK hDc (va_recv (q := (RX10, TX10, 17)) hK hP (ci := 10) (q0 := 0) rfl rfl)) rfl rfl hl.1 rfl (lv_room (Nat.le_of_ble_eq_true rfl)) dX10_paysToHear_55 ⟨Nat.zero_le _, Nat.zero_le _⟩) hS (fun q _ h => hFc q h) hFc (fun v55 u55 t H locs ht hvm hw hB hz1 hk1 hS9 => ?_)
        obtain ⟨u55_0, rfl⟩ : ∃ z, z = u55 := ⟨_, rfl⟩
        obtain ⟨hP9, hD9⟩ := zj2 (wX := [(h0, .inr (10, [.ref tp, h0_courtReader, h0_lawReader, h0_draft, .ref aC, h0_laws, .ref g0, .ref k0, .ref ac, .ref sd, .ref mi, .ref dw, .ref rf, .int lc, .int lh, .int br, .int hi])), (aC, .inr (1, [.ref aR, .ref aB, .ref aP, .int nb, .int np])), (g0, .inr (7, [.ref gY, .ref gF, .ref gP, .int gpn, .int glt, .int gsh, .int gwd, .int gpu, .int gmo])), (gY, .inl (cI, 6, .inl gfY)), (gF, .inl (cI, 5, .inl gfF)), (ac, .inr (0, [.ref aW, .int pl, .int cn])), (aW, .inl (cI, 680, .inl fR)), (rf, .inl (cI, 5, .inl u55_0))]) hP hD hk1 hFc ht hB [0, 7] [(true, 0), (false, 1), (false, 2), (false, 3), (false, 4), (false, 5), (false, 6), (true, 1)] rfl (by decide +kernel) (by decide +kernel) rfl
        clear hP hD hS hPc hDc hFc hB hk1 hz1 hvm
        have hP := hP9
        have hD := hD9
        have hS := hS9
        clear hP9 hD9 hS9
        obtain ⟨hwc, hw⟩ := hw
        have hwc : v55 = (-1) := hwc
        subst hwc
        have zn55_2 : (2 : Int32).toInt = 2 := by decide
        have f55_0 : (zRf frf u55_0 (2 : Int32).toInt) := hw
        have F55 := f55_0
        refine lv_pop hx hb dX10_paysToHear_58 rfl ?_
        refine lv_iconst (v := 0) hx hb dX10_paysToHear_59 (by decide) ?_
        have zr0 : (0 : Int32).toInt = 0 := by decide
        rw [hQ]
        exact W.zret (v := 0) (ty := .boolean) hx hb hr rfl (fun t ht hW => ⟨⟨0, (gpu, pl, cn, fR, u55_0), rfl, ⟨by (try dsimp only); omega, by (try dsimp only); omega, by (try dsimp only); omega, by (try dsimp only); omega, by (try dsimp only); omega, by (try dsimp only); omega, by (try dsimp only); omega, by (try dsimp only); exact fun kc kT q_fr q_fb q_fp q_gfP hc hb h => by have zp := congrArg Int32.toInt (zSc_pu h.1); have q : sW_tld nb.toInt kT.1 p1 p0 p2.toInt = (2 : Int32).toInt := (by unfold sW_tld; exact (if_neg (by omega)).trans ((if_neg (by rw [← F19]; omega)).trans ((if_pos (by omega)).trans (by omega)))); exact Or.inl ⟨rfl, by omega, zTc_ref q h F55⟩, ci_fR_zRw⟩, ⟨by rw [ht]; exact hP, hD⟩⟩, hS.F ht⟩) hS.2.2 dX10_paysToHear_60
    · have c23 : v19.toInt = 1 := z5 rfl (by decide) c23
      refine lv_iconst (v := 1) hx hb dX10_paysToHear_26 (by decide) ?_
      refine lv_istore (lv' := [(4, .int 1), (0, .ref h0), (1, .int p0), (2, .int p1), (3, .int p2)]) hx hb dX10_paysToHear_27 hl (by decide) rfl (fun ls hl => ?_)
      refine lv_goto (tgt := 46) hx hb dX10_paysToHear_29 (by decide) ?_
      refine lv_iload hx hb dX10_paysToHear_46 (lv_at hl 0 rfl) ?_
      refine lv_iconst (v := (-1)) hx hb dX10_paysToHear_48 (by decide) ?_
      refine lv_icmp_eq (tgt := 61) hx hb dX10_paysToHear_49 (by decide) (fun c => absurd c (by decide)) (fun _ => ?_)
      refine lv_aload_n hx hb dX10_paysToHear_52 rfl (lv_at hl 1 rfl) ?_
      refine lv_iload hx hb dX10_paysToHear_53 (lv_at hl 0 rfl) ?_
      obtain ⟨hPc, hDc, hFc⟩ := zc3 (wc := [(h0, .inr (10, [.ref tp, h0_courtReader, h0_lawReader, h0_draft, .ref aC, h0_laws, .ref g0, .ref k0, .ref ac, .ref sd, .ref mi, .ref dw, .ref rf, .int lc, .int lh, .int br, .int hi])), (rf, .inl (cI, 5, .inl frf))]) hP hD hS hA [0, 7] (by decide +kernel) rfl
      refine va_calli (va_runV (As := [.int 1]) (rest := []) ⟨hx, hb, hml, hown, hts⟩ (g_X10_refuse l dC dI cI cJ h0 1 tp h0_courtReader h0_lawReader h0_draft aC h0_laws g0 k0 ac sd mi dw rf lc lh br hi frf H.size y_hi y_lc (by decide)) (cwV 1 hts (zgV qw684 qw686 qw13 qw98 qw687) rfl rfl rfl hd_X10_refuse ⟨by rw [hR]; exact Nat.le_of_ble_eq_true rfl, by rw [hR]; exact Nat.le_of_ble_eq_true rfl⟩) (zPV hPc hK hDc (va_recv (q := (RX10, TX10, 17)) hK hP (ci := 10) (q0 := 0) rfl rfl)) rfl rfl hl.1 rfl (lv_room (Nat.le_of_ble_eq_true rfl)) dX10_paysToHear_55 ⟨Nat.zero_le _, Nat.zero_le _⟩) hS (fun q _ h => hFc q h) hFc (fun v55 u55 t H locs ht hvm hw hB hz1 hk1 hS9 => ?_)
      obtain ⟨u55_0, rfl⟩ : ∃ z, z = u55 := ⟨_, rfl⟩
      obtain ⟨hP9, hD9⟩ := zj2 (wX := [(h0, .inr (10, [.ref tp, h0_courtReader, h0_lawReader, h0_draft, .ref aC, h0_laws, .ref g0, .ref k0, .ref ac, .ref sd, .ref mi, .ref dw, .ref rf, .int lc, .int lh, .int br, .int hi])), (aC, .inr (1, [.ref aR, .ref aB, .ref aP, .int nb, .int np])), (g0, .inr (7, [.ref gY, .ref gF, .ref gP, .int gpn, .int glt, .int gsh, .int gwd, .int gpu, .int gmo])), (gY, .inl (cI, 6, .inl gfY)), (gF, .inl (cI, 5, .inl gfF)), (ac, .inr (0, [.ref aW, .int pl, .int cn])), (aW, .inl (cI, 680, .inl fR)), (rf, .inl (cI, 5, .inl u55_0))]) hP hD hk1 hFc ht hB [0, 7] [(true, 0), (false, 1), (false, 2), (false, 3), (false, 4), (false, 5), (false, 6), (true, 1)] rfl (by decide +kernel) (by decide +kernel) rfl
      clear hP hD hS hPc hDc hFc hB hk1 hz1 hvm
      have hP := hP9
      have hD := hD9
      have hS := hS9
      clear hP9 hD9 hS9
      obtain ⟨hwc, hw⟩ := hw
      have hwc : v55 = (-1) := hwc
      subst hwc
      have zn55_1 : (1 : Int32).toInt = 1 := by decide
      have f55_0 : (zRf frf u55_0 (1 : Int32).toInt) := hw
      have F55 := f55_0
      refine lv_pop hx hb dX10_paysToHear_58 rfl ?_
      refine lv_iconst (v := 0) hx hb dX10_paysToHear_59 (by decide) ?_
      have zr0 : (0 : Int32).toInt = 0 := by decide
      rw [hQ]
      exact W.zret (v := 0) (ty := .boolean) hx hb hr rfl (fun t ht hW => ⟨⟨0, (gpu, pl, cn, fR, u55_0), rfl, ⟨by (try dsimp only); omega, by (try dsimp only); omega, by (try dsimp only); omega, by (try dsimp only); omega, by (try dsimp only); omega, by (try dsimp only); omega, by (try dsimp only); omega, by (try dsimp only); exact fun kc kT q_fr q_fb q_fp q_gfP hc hb h => by have zp := congrArg Int32.toInt (zSc_pu h.1); have q : sW_tld nb.toInt kT.1 p1 p0 p2.toInt = (1 : Int32).toInt := (by unfold sW_tld; exact (if_neg (by omega)).trans ((if_pos (by rw [← F19]; omega)).trans (by omega))); exact Or.inl ⟨rfl, by omega, zTc_ref q h F55⟩, ci_fR_zRw⟩, ⟨by rw [ht]; exact hP, hD⟩⟩, hS.F ht⟩) hS.2.2 dX10_paysToHear_60
  · have c8 : v5.toInt = 0 := z5 rfl (by decide) c8
    refine lv_iconst (v := 0) hx hb dX10_paysToHear_11 (by decide) ?_
    refine lv_istore (lv' := [(4, .int 0), (0, .ref h0), (1, .int p0), (2, .int p1), (3, .int p2)]) hx hb dX10_paysToHear_12 hl (by decide) rfl (fun ls hl => ?_)
    refine lv_goto (tgt := 46) hx hb dX10_paysToHear_14 (by decide) ?_
    refine lv_iload hx hb dX10_paysToHear_46 (lv_at hl 0 rfl) ?_
    refine lv_iconst (v := (-1)) hx hb dX10_paysToHear_48 (by decide) ?_
    refine lv_icmp_eq (tgt := 61) hx hb dX10_paysToHear_49 (by decide) (fun c => absurd c (by decide)) (fun _ => ?_)
    refine lv_aload_n hx hb dX10_paysToHear_52 rfl (lv_at hl 1 rfl) ?_
    refine lv_iload hx hb dX10_paysToHear_53 (lv_at hl 0 rfl) ?_
    obtain ⟨hPc, hDc, hFc⟩ := zc3 (wc := [(h0, .inr (10, [.ref tp, h0_courtReader, h0_lawReader, h0_draft, .ref aC, h0_laws, .ref g0, .ref k0, .ref ac, .ref sd, .ref mi, .ref dw, .ref rf, .int lc, .int lh, .int br, .int hi])), (rf, .inl (cI, 5, .inl frf))]) hP hD hS hA [0, 7] (by decide +kernel) rfl
    refine va_calli (va_runV (As := [.int 0]) (rest := []) ⟨hx, hb, hml, hown, hts⟩ (g_X10_refuse l dC dI cI cJ h0 0 tp h0_courtReader h0_lawReader h0_draft aC h0_laws g0 k0 ac sd mi dw rf lc lh br hi frf H.size y_hi y_lc (by decide)) (cwV 1 hts (zgV qw684 qw686 qw13 qw98 qw687) rfl rfl rfl hd_X10_refuse ⟨by rw [hR]; exact Nat.le_of_ble_eq_true rfl, by rw [hR]; exact Nat.le_of_ble_eq_true rfl⟩) (zPV hPc hK hDc (va_recv (q := (RX10, TX10, 17)) hK hP (ci := 10) (q0 := 0) rfl rfl)) rfl rfl hl.1 rfl (lv_room (Nat.le_of_ble_eq_true rfl)) dX10_paysToHear_55 ⟨Nat.zero_le _, Nat.zero_le _⟩) hS (fun q _ h => hFc q h) hFc (fun v55 u55 t H locs ht hvm hw hB hz1 hk1 hS9 => ?_)
    obtain ⟨u55_0, rfl⟩ : ∃ z, z = u55 := ⟨_, rfl⟩
    obtain ⟨hP9, hD9⟩ := zj2 (wX := [(h0, .inr (10, [.ref tp, h0_courtReader, h0_lawReader, h0_draft, .ref aC, h0_laws, .ref g0, .ref k0, .ref ac, .ref sd, .ref mi, .ref dw, .ref rf, .int lc, .int lh, .int br, .int hi])), (aC, .inr (1, [.ref aR, .ref aB, .ref aP, .int nb, .int np])), (g0, .inr (7, [.ref gY, .ref gF, .ref gP, .int gpn, .int glt, .int gsh, .int gwd, .int gpu, .int gmo])), (gY, .inl (cI, 6, .inl gfY)), (gF, .inl (cI, 5, .inl gfF)), (ac, .inr (0, [.ref aW, .int pl, .int cn])), (aW, .inl (cI, 680, .inl fR)), (rf, .inl (cI, 5, .inl u55_0))]) hP hD hk1 hFc ht hB [0, 7] [(true, 0), (false, 1), (false, 2), (false, 3), (false, 4), (false, 5), (false, 6), (true, 1)] rfl (by decide +kernel) (by decide +kernel) rfl
    clear hP hD hS hPc hDc hFc hB hk1 hz1 hvm
    have hP := hP9
    have hD := hD9
    have hS := hS9
    clear hP9 hD9 hS9
    obtain ⟨hwc, hw⟩ := hw
    have hwc : v55 = (-1) := hwc
    subst hwc
    have zn55_0 : (0 : Int32).toInt = 0 := by decide
    have f55_0 : (zRf frf u55_0 (0 : Int32).toInt) := hw
    have F55 := f55_0
    refine lv_pop hx hb dX10_paysToHear_58 rfl ?_
    refine lv_iconst (v := 0) hx hb dX10_paysToHear_59 (by decide) ?_
    have zr0 : (0 : Int32).toInt = 0 := by decide
    rw [hQ]
    exact W.zret (v := 0) (ty := .boolean) hx hb hr rfl (fun t ht hW => ⟨⟨0, (gpu, pl, cn, fR, u55_0), rfl, ⟨by (try dsimp only); omega, by (try dsimp only); omega, by (try dsimp only); omega, by (try dsimp only); omega, by (try dsimp only); omega, by (try dsimp only); omega, by (try dsimp only); omega, by (try dsimp only); exact fun kc kT q_fr q_fb q_fp q_gfP hc hb h => by have zp := congrArg Int32.toInt (zSc_pu h.1); have q : sW_tld nb.toInt kT.1 p1 p0 p2.toInt = (0 : Int32).toInt := (by unfold sW_tld; exact (if_pos (by omega)).trans (by omega)); exact Or.inl ⟨rfl, by omega, zTc_ref q h F55⟩, ci_fR_zRw⟩, ⟨by rw [ht]; exact hP, hD⟩⟩, hS.F ht⟩) hS.2.2 dX10_paysToHear_60
set_option maxHeartbeats 4000000 in
set_option maxRecDepth 100000 in
theorem g_X10_letter (l : Launch) (dC : Nat → ClassId) (dI : Nat → Nat → Nat) (cI cJ : ClassId) (h0 : Nat) (p0 : Int32) (tp : Nat) (h0_courtReader : Value) (h0_lawReader : Value) (h0_draft : Value) (aC : Nat) (h0_laws : Value) (g0 : Nat) (k0 : Nat) (ac : Nat) (sd : Nat) (mi : Nat) (dw : Nat) (rf : Nat) (lc : Int32) (lh : Int32) (br : Int32) (hi : Int32) (aR : Nat) (aB : Nat) (aP : Nat) (nb : Int32) (np : Int32) (fb : Nat → Int32) (gY : Nat) (gF : Nat) (gP : Nat) (gpn : Int32) (glt : Int32) (gsh : Int32) (gwd : Int32) (gpu : Int32) (gmo : Int32) (gfY : Nat → Int32) (gfF : Nat → Int32) (aW : Nat) (pl : Int32) (cn : Int32) (fR : Nat → Int32) (frf : Nat → Int32) (sz : Nat) (n_cn : 0 ≤ cn.toInt ∧ cn.toInt ≤ 40) (n_gpn : 0 ≤ gpn.toInt ∧ gpn.toInt ≤ 20) (n_gwd : (-1) ≤ gwd.toInt ∧ gwd.toInt ≤ 5) (n_hi : 0 ≤ hi.toInt ∧ hi.toInt ≤ 1) (n_lc : 0 ≤ lc.toInt ∧ lc.toInt ≤ 4) (n_nb : 0 ≤ nb.toInt ∧ nb.toInt ≤ 6) (n_np : 0 ≤ np.toInt ∧ np.toInt ≤ 5) (n_pl : 0 ≤ pl.toInt ∧ pl.toInt ≤ 39)  (ci_fR_zRw : zRw fR)  : Met l yX10_letter (.code yX10_letter cX10_letter 2 (some .int) :: wA) ({ frames := 4, cells := 0, slots := 0, locals := 128 }) (zP (dC, dI) [(cI, .int), (cJ, .long)] [.ref h0, .int p0] sz [(h0, .inr (10, [.ref tp, h0_courtReader, h0_lawReader, h0_draft, .ref aC, h0_laws, .ref g0, .ref k0, .ref ac, .ref sd, .ref mi, .ref dw, .ref rf, .int lc, .int lh, .int br, .int hi])), (aC, .inr (1, [.ref aR, .ref aB, .ref aP, .int nb, .int np])), (aB, .inl (cI, 24, .inl fb)), (g0, .inr (7, [.ref gY, .ref gF, .ref gP, .int gpn, .int glt, .int gsh, .int gwd, .int gpu, .int gmo])), (gY, .inl (cI, 6, .inl gfY)), (gF, .inl (cI, 5, .inl gfF)), (ac, .inr (0, [.ref aW, .int pl, .int cn])), (aW, .inl (cI, 680, .inl fR)), (rf, .inl (cI, 5, .inl frf))]) (va_Qi (fun (r : Int32) (u : Int32 × Int32 × Int32 × Int32 × (Nat → Int32) × (Nat → Int32)) => ((-1) ≤ r.toInt) ∧ (r.toInt ≤ 1) ∧ (0 ≤ u.2.2.1.toInt) ∧ (u.2.2.1.toInt ≤ 39) ∧ (0 ≤ u.2.2.2.1.toInt) ∧ (u.2.2.2.1.toInt ≤ 40) ∧ (∀ (kc : zK3) (kT : zT) (q_fr : Nat → Int32) (q_fp : Nat → Int32) (q_gfP : Nat → Int32), zCn q_fr fb q_fp nb.toInt np.toInt kc → zKo nb.toInt np.toInt kc kT → zTc nb.toInt np.toInt kT gfY gfF q_gfP gpn glt gsh gwd gpu gmo fR pl cn frf → r = sA (sW_tld nb.toInt kT.1 kT.1.2.2.1.1 p0 2) (if 5 ≤ (kc.2.1 (4 * p0.toInt.toNat)).toInt then 1 else 0) ∧ zTc nb.toInt np.toInt (sDo (sW_tld nb.toInt kT.1 kT.1.2.2.1.1 p0 2) kT (sN_ltr kT.1 p0)) gfY gfF q_gfP gpn u.1 gsh gwd u.2.1 gmo u.2.2.2.2.1 u.2.2.1 u.2.2.2.1 u.2.2.2.2.2) ∧ (zRw u.2.2.2.2.1)) (fun (u : Int32 × Int32 × Int32 × Int32 × (Nat → Int32) × (Nat → Int32)) (t : State) => va_P (dC, dI) vwCl [(h0, .inr (10, [.ref tp, h0_courtReader, h0_lawReader, h0_draft, .ref aC, h0_laws, .ref g0, .ref k0, .ref ac, .ref sd, .ref mi, .ref dw, .ref rf, .int lc, .int lh, .int br, .int hi])), (aC, .inr (1, [.ref aR, .ref aB, .ref aP, .int nb, .int np])), (aB, .inl (cI, 24, .inl fb)), (g0, .inr (7, [.ref gY, .ref gF, .ref gP, .int gpn, .int u.1, .int gsh, .int gwd, .int u.2.1, .int gmo])), (gY, .inl (cI, 6, .inl gfY)), (gF, .inl (cI, 5, .inl gfF)), (ac, .inr (0, [.ref aW, .int u.2.2.1, .int u.2.2.2.1])), (aW, .inl (cI, 680, .inl u.2.2.2.2.1)), (rf, .inl (cI, 5, .inl u.2.2.2.2.2))] t.heap ∧ va_D (va_A [(h0, .inr (10, [.ref tp, h0_courtReader, h0_lawReader, h0_draft, .ref aC, h0_laws, .ref g0, .ref k0, .ref ac, .ref sd, .ref mi, .ref dw, .ref rf, .int lc, .int lh, .int br, .int hi])), (aC, .inr (1, [.ref aR, .ref aB, .ref aP, .int nb, .int np])), (aB, .inl (cI, 24, .inl fb)), (g0, .inr (7, [.ref gY, .ref gF, .ref gP, .int gpn, .int glt, .int gsh, .int gwd, .int gpu, .int gmo])), (gY, .inl (cI, 6, .inl gfY)), (gF, .inl (cI, 5, .inl gfF)), (ac, .inr (0, [.ref aW, .int pl, .int cn])), (aW, .inl (cI, 680, .inl fR)), (rf, .inl (cI, 5, .inl frf))] sz) [(h0, .inr (10, [.ref tp, h0_courtReader, h0_lawReader, h0_draft, .ref aC, h0_laws, .ref g0, .ref k0, .ref ac, .ref sd, .ref mi, .ref dw, .ref rf, .int lc, .int lh, .int br, .int hi])), (aC, .inr (1, [.ref aR, .ref aB, .ref aP, .int nb, .int np])), (aB, .inl (cI, 24, .inl fb)), (g0, .inr (7, [.ref gY, .ref gF, .ref gP, .int gpn, .int u.1, .int gsh, .int gwd, .int u.2.1, .int gmo])), (gY, .inl (cI, 6, .inl gfY)), (gF, .inl (cI, 5, .inl gfF)), (ac, .inr (0, [.ref aW, .int u.2.2.1, .int u.2.2.2.1])), (aW, .inl (cI, 680, .inl u.2.2.2.2.1)), (rf, .inl (cI, 5, .inl u.2.2.2.2.2))]) (va_A [(h0, .inr (10, [.ref tp, h0_courtReader, h0_lawReader, h0_draft, .ref aC, h0_laws, .ref g0, .ref k0, .ref ac, .ref sd, .ref mi, .ref dw, .ref rf, .int lc, .int lh, .int br, .int hi])), (aC, .inr (1, [.ref aR, .ref aB, .ref aP, .int nb, .int np])), (aB, .inl (cI, 24, .inl fb)), (g0, .inr (7, [.ref gY, .ref gF, .ref gP, .int gpn, .int glt, .int gsh, .int gwd, .int gpu, .int gmo])), (gY, .inl (cI, 6, .inl gfY)), (gF, .inl (cI, 5, .inl gfF)), (ac, .inr (0, [.ref aW, .int pl, .int cn])), (aW, .inl (cI, 680, .inl fR)), (rf, .inl (cI, 5, .inl frf))] sz)) 0 0 (va_A [(h0, .inr (10, [.ref tp, h0_courtReader, h0_lawReader, h0_draft, .ref aC, h0_laws, .ref g0, .ref k0, .ref ac, .ref sd, .ref mi, .ref dw, .ref rf, .int lc, .int lh, .int br, .int hi])), (aC, .inr (1, [.ref aR, .ref aB, .ref aP, .int nb, .int np])), (aB, .inl (cI, 24, .inl fb)), (g0, .inr (7, [.ref gY, .ref gF, .ref gP, .int gpn, .int glt, .int gsh, .int gwd, .int gpu, .int gmo])), (gY, .inl (cI, 6, .inl gfY)), (gF, .inl (cI, 5, .inl gfF)), (ac, .inr (0, [.ref aW, .int pl, .int cn])), (aW, .inl (cI, 680, .inl fR)), (rf, .inl (cI, 5, .inl frf))] sz) := by
  refine Met.ofW (cc := cX10_letter) (maxL := 2) (ret := (some .int)) (by decide) rfl ?_
  intro p e s m args below meth c s₁ B hml hv
  have y_cn : zHid (0 ≤ cn.toInt ∧ cn.toInt ≤ 40) := n_cn
  have y_gpn : zHid (0 ≤ gpn.toInt ∧ gpn.toInt ≤ 20) := n_gpn
  have y_gwd : zHid ((-1) ≤ gwd.toInt ∧ gwd.toInt ≤ 5) := n_gwd
  have y_hi : zHid (0 ≤ hi.toInt ∧ hi.toInt ≤ 1) := n_hi
  have y_lc : zHid (0 ≤ lc.toInt ∧ lc.toInt ≤ 4) := n_lc
  have y_pl : zHid (0 ≤ pl.toInt ∧ pl.toInt ≤ 39) := n_pl
  clear n_cn n_gpn n_gwd n_hi n_lc n_pl
  obtain ⟨hargs, hsz, hP, hK, hT⟩ := hv
  have hx := B.exec
  have hb := B.bytes
  have hr := B.returns
  have hts : ∀ w ∈ wA, w.before args s = true := fun w h => atoms_spec (ws := .code yX10_letter cX10_letter 2 (some .int) :: wA) B.pre w (List.mem_cons_of_mem _ h)
  have hown : s.vm.findClass RX10 = some m.cls := findClass_of_methodNamed B.named
  have hlocks := B.notSynchronized
  subst hsz
  have hD := hT.self (sz := s.heap.size)
  generalize hAe : va_A [(h0, .inr (10, [.ref tp, h0_courtReader, h0_lawReader, h0_draft, .ref aC, h0_laws, .ref g0, .ref k0, .ref ac, .ref sd, .ref mi, .ref dw, .ref rf, .int lc, .int lh, .int br, .int hi])), (aC, .inr (1, [.ref aR, .ref aB, .ref aP, .int nb, .int np])), (aB, .inl (cI, 24, .inl fb)), (g0, .inr (7, [.ref gY, .ref gF, .ref gP, .int gpn, .int glt, .int gsh, .int gwd, .int gpu, .int gmo])), (gY, .inl (cI, 6, .inl gfY)), (gF, .inl (cI, 5, .inl gfF)), (ac, .inr (0, [.ref aW, .int pl, .int cn])), (aW, .inl (cI, 680, .inl fR)), (rf, .inl (cI, 5, .inl frf))] s.heap.size = A at hD ⊢
  have hA : ∀ q : Nat, s.heap.size ≤ q → A q := fun q h => by rw [← hAe]; exact Or.inr h
  have hl := lv_entry ([.ref h0, .int p0]) (n := 2) (Nat.le_of_ble_eq_true rfl)
  rw [show entryFrame m args 2 = entryFrame m ([.ref h0, .int p0] : List Value).toArray 2 by rw [hargs], lg_entry_eq]
  generalize (lg_sl ([.ref h0, .int p0]) ++ List.replicate (2 - (lg_sl ([.ref h0, .int p0])).length) Slot.unset).toArray = ls at hl ⊢
  have hl : lv_has ls 2 [(0, .ref h0), (1, .int p0)] := hl
  refine zstart (fun H hH => ?_)
  rw [← hH] at hP
  have hS : va_S A s.heap H [] := by rw [hH]; exact va_S.rf
  generalize ([] : List Loc) = locs at hS ⊢
  refine zgen (fun R Q hR hQ => ?_)
  refine lv_aload_n hx hb dX10_letter_0 rfl (lv_at hl 0 rfl) ?_
  refine lv_iload_n hx hb dX10_letter_1 rfl (lv_at hl 1 rfl) ?_
  refine lv_aload_n hx hb dX10_letter_2 rfl (lv_at hl 0 rfl) ?_
  refine va_get (D := (dC, dI)) (ci := 10) (v := .ref g0) (C := RX10) (T := TX10) (N := 17) hx hb hts iX10 hown hK hP 0 rfl rfl 6 (by decide) (hts _ qw362) (fun _ h9 => h9) rfl dX10_letter_3 ?_
  refine va_get (D := (dC, dI)) (ci := 7) (v := .int glt) (C := RX7) (T := TX7) (N := 9) hx hb hts iX7 hown hK hP 3 rfl rfl 4 (by decide) (hts _ qw232) (fun _ h9 => h9) rfl dX10_letter_6 ?_
  refine lv_iconst (v := 2) hx hb dX10_letter_9 (by decide) ?_
  obtain ⟨hPc, hDc, hFc⟩ := zc3 (wc := [(h0, .inr (10, [.ref tp, h0_courtReader, h0_lawReader, h0_draft, .ref aC, h0_laws, .ref g0, .ref k0, .ref ac, .ref sd, .ref mi, .ref dw, .ref rf, .int lc, .int lh, .int br, .int hi])), (aC, .inr (1, [.ref aR, .ref aB, .ref aP, .int nb, .int np])), (g0, .inr (7, [.ref gY, .ref gF, .ref gP, .int gpn, .int glt, .int gsh, .int gwd, .int gpu, .int gmo])), (gY, .inl (cI, 6, .inl gfY)), (gF, .inl (cI, 5, .inl gfF)), (ac, .inr (0, [.ref aW, .int pl, .int cn])), (aW, .inl (cI, 680, .inl fR)), (rf, .inl (cI, 5, .inl frf))]) hP hD hS hA [0, 1, 3, 4, 5, 6, 7, 8] (by decide +kernel) rfl
  refine va_calli (va_runV (As := [.int p0, .int glt, .int 2]) (rest := []) ⟨hx, hb, hml, hown, hts⟩ (g_X10_paysToHear l dC dI cI cJ h0 p0 glt 2 tp h0_courtReader h0_lawReader h0_draft aC h0_laws g0 k0 ac sd mi dw rf lc lh br hi aR aB aP nb np gY gF gP gpn glt gsh gwd gpu gmo gfY gfF aW pl cn fR frf H.size y_cn y_gpn y_gwd y_hi y_lc n_nb n_np y_pl ci_fR_zRw) (cwV 3 hts (zgV qw725 qw727 qw15 qw98 qw728) rfl rfl rfl hd_X10_paysToHear ⟨by rw [hR]; exact Nat.le_of_ble_eq_true rfl, by rw [hR]; exact Nat.le_of_ble_eq_true rfl⟩) (zPV hPc hK hDc (va_recv (q := (RX10, TX10, 17)) hK hP (ci := 10) (q0 := 0) rfl rfl)) rfl rfl hl.1 rfl (lv_room (Nat.le_of_ble_eq_true rfl)) dX10_letter_10 ⟨Nat.zero_le _, Nat.zero_le _⟩) hS (fun q _ h => hFc q h) hFc (fun v10 u10 t H locs ht hvm hw hB hz1 hk1 hS9 => ?_)
  obtain ⟨u10_0, u10_1, u10_2, u10_3, u10_4⟩ := u10
  obtain ⟨hP9, hD9⟩ := zj2 (wX := [(h0, .inr (10, [.ref tp, h0_courtReader, h0_lawReader, h0_draft, .ref aC, h0_laws, .ref g0, .ref k0, .ref ac, .ref sd, .ref mi, .ref dw, .ref rf, .int lc, .int lh, .int br, .int hi])), (aC, .inr (1, [.ref aR, .ref aB, .ref aP, .int nb, .int np])), (aB, .inl (cI, 24, .inl fb)), (g0, .inr (7, [.ref gY, .ref gF, .ref gP, .int gpn, .int glt, .int gsh, .int gwd, .int u10_0, .int gmo])), (gY, .inl (cI, 6, .inl gfY)), (gF, .inl (cI, 5, .inl gfF)), (ac, .inr (0, [.ref aW, .int u10_1, .int u10_2])), (aW, .inl (cI, 680, .inl u10_3)), (rf, .inl (cI, 5, .inl u10_4))]) hP hD hk1 hFc ht hB [0, 1, 3, 4, 5, 6, 7, 8] [(true, 0), (true, 1), (false, 2), (true, 2), (true, 3), (true, 4), (true, 5), (true, 6), (true, 7)] rfl (by decide +kernel) (by decide +kernel) rfl
  clear hP hD hS hPc hDc hFc hB hk1 hz1 hvm
  have hP := hP9
  have hD := hD9
  have hS := hS9
  clear hP9 hD9 hS9
  have zn10_2 : (2 : Int32).toInt = 2 := by decide
  obtain ⟨f10_0, f10_1, f10_2, f10_3, f10_4, f10_5, f10_6, f10_7, f10_8⟩ : (0 ≤ v10.toInt) ∧ (v10.toInt ≤ 1) ∧ (0 ≤ u10_1.toInt) ∧ (u10_1.toInt ≤ 39) ∧ (0 ≤ u10_2.toInt) ∧ (u10_2.toInt ≤ 40) ∧ (¬ v10.toInt = 0 → (0 ≤ p0.toInt ∧ p0.toInt < nb.toInt)) ∧ (∀ (kc : zK3) (kT : zT) (q_fr : Nat → Int32) (q_fb : Nat → Int32) (q_fp : Nat → Int32) (q_gfP : Nat → Int32), zCn q_fr q_fb q_fp nb.toInt np.toInt kc → zKo nb.toInt np.toInt kc kT → zTc nb.toInt np.toInt kT gfY gfF q_gfP gpn glt gsh gwd gpu gmo fR pl cn frf → (v10.toInt = 0 ∧ ¬ sW_tld nb.toInt kT.1 glt p0 (2 : Int32).toInt = -1 ∧ zTc nb.toInt np.toInt (sRef kT (sW_tld nb.toInt kT.1 glt p0 (2 : Int32).toInt)) gfY gfF q_gfP gpn glt gsh gwd u10_0 gmo u10_3 u10_1 u10_2 u10_4) ∨ (v10.toInt = 1 ∧ sW_tld nb.toInt kT.1 glt p0 (2 : Int32).toInt = -1 ∧ zKc nb.toInt np.toInt (sKeep kT.1 kT.2.1) q_gfP u10_3 u10_1 u10_2 ∧ u10_0 = gpu - 2 ∧ u10_4 = frf)) ∧ (zRw u10_3) := hw
  have F10 := f10_7
  refine lv_if_ne (tgt := 18) hx hb dX10_letter_13 (by decide) (fun c13 => ?_) (fun c13 => ?_)
  · have c13 : ¬ v10.toInt = 0 := z6 rfl (by decide) c13
    refine lv_aload_n hx hb dX10_letter_18 rfl (lv_at hl 0 rfl) ?_
    refine va_get (D := (dC, dI)) (ci := 10) (v := .ref g0) (C := RX10) (T := TX10) (N := 17) hx hb hts iX10 hown hK hP 0 rfl rfl 6 (by decide) (hts _ qw362) (fun _ h9 => h9) rfl dX10_letter_19 ?_
    refine lv_dup hx hb dX10_letter_22 rfl ?_
    refine va_get (D := (dC, dI)) (ci := 7) (v := .int glt) (C := RX7) (T := TX7) (N := 9) hx hb hts iX7 hown hK hP 3 rfl rfl 4 (by decide) (hts _ qw232) (fun _ h9 => h9) rfl dX10_letter_23 ?_
    refine lv_iconst (v := 1) hx hb dX10_letter_26 (by decide) ?_
    refine lv_iload_n hx hb dX10_letter_27 rfl (lv_at hl 1 rfl) ?_
    refine lv_ishl hx hb dX10_letter_28 ?_
    refine lv_topi (fun v28 e28 => ?_)
    have i28 : 1 ≤ v28.toInt ∧ v28.toInt ≤ 32 := zshl1 e28 (by omega) (by omega)
    refine lv_ior hx hb dX10_letter_29 ?_
    refine lv_topi (fun v29 e29 => ?_)
    refine va_put (D := (dC, dI)) (ci := 7) (v := .int v29) (ty := .int) (C := RX7) (T := TX7) (N := 9) hx hb hts iX7 tyX7 tyX7_ok nmX7 hown hK hP hD hS 3 rfl rfl 4 (by decide) (hts _ qw232) (fun _ h9 => h9) rfl (by decide +kernel) rfl rfl (Nat.le_of_ble_eq_true rfl) dX10_letter_30 (fun H locs hP9 hD9 hS9 => ?_)
    clear hP hD hS
    obtain ⟨hP, hD⟩ := zst (wX := [(h0, .inr (10, [.ref tp, h0_courtReader, h0_lawReader, h0_draft, .ref aC, h0_laws, .ref g0, .ref k0, .ref ac, .ref sd, .ref mi, .ref dw, .ref rf, .int lc, .int lh, .int br, .int hi])), (aC, .inr (1, [.ref aR, .ref aB, .ref aP, .int nb, .int np])), (aB, .inl (cI, 24, .inl fb)), (g0, .inr (7, [.ref gY, .ref gF, .ref gP, .int gpn, .int v29, .int gsh, .int gwd, .int u10_0, .int gmo])), (gY, .inl (cI, 6, .inl gfY)), (gF, .inl (cI, 5, .inl gfF)), (ac, .inr (0, [.ref aW, .int u10_1, .int u10_2])), (aW, .inl (cI, 680, .inl u10_3)), (rf, .inl (cI, 5, .inl u10_4))]) hP9 hD9 rfl
    have hS := hS9
    clear hP9 hD9 hS9
    refine lv_aload_n hx hb dX10_letter_33 rfl (lv_at hl 0 rfl) ?_
    refine va_get (D := (dC, dI)) (ci := 10) (v := .ref aC) (C := RX10) (T := TX10) (N := 17) hx hb hts iX10 hown hK hP 0 rfl rfl 4 (by decide) (hts _ qw360) (fun _ h9 => h9) rfl dX10_letter_34 ?_
    refine lv_iload_n hx hb dX10_letter_37 rfl (lv_at hl 1 rfl) ?_
    obtain ⟨hPc, hDc⟩ := zc2 (wc := [(aC, .inr (1, [.ref aR, .ref aB, .ref aP, .int nb, .int np])), (aB, .inl (cI, 24, .inl fb))]) hP hD [1, 2] (by decide +kernel) rfl
    have hFc := zfr hS hA
    refine va_calli (va_runV (As := [.int p0]) (rest := []) ⟨hx, hb, hml, hown, hts⟩ (g_X1_faceOf l dC dI cI cJ aC p0 aR aB aP nb np fb H.size (by omega)) (cwV 1 hts (zgV qw702 qw703 qw704 qw102 qw705) rfl rfl rfl hd_X1_faceOf ⟨by rw [hR]; exact Nat.le_of_ble_eq_true rfl, by rw [hR]; exact Nat.le_of_ble_eq_true rfl⟩) (zPV hPc hK hDc (va_recv (q := (RX1, TX1, 5)) hK hP (ci := 1) (q0 := 1) rfl rfl)) rfl rfl hl.1 rfl (lv_room (Nat.le_of_ble_eq_true rfl)) dX10_letter_38 ⟨Nat.zero_le _, Nat.zero_le _⟩) hS (fun q _ h => hFc q h) hFc (fun v38 u38 t H locs ht hvm hw hB hz1 hk1 hS9 => ?_)
    replace hP := zkeep hP hk1
    replace hS := hS9
    clear hPc hDc hFc hk1 hz1 hvm hS9
    have f38_0 : (v38 = fb (4 * p0.toInt.toNat)) := hw
    have F38 := f38_0
    refine lv_iconst (v := 5) hx hb dX10_letter_41 (by decide) ?_
    refine lv_icmp_lt (tgt := 49) hx hb dX10_letter_42 (by decide) (fun c42 => ?_) (fun c42 => ?_)
    · have c42 : v38.toInt < 5 := z1 rfl (by decide) c42
      refine lv_iconst (v := 0) hx hb dX10_letter_49 (by decide) ?_
      have zr0 : (0 : Int32).toInt = 0 := by decide
      rw [hQ]
      exact W.iret (v := 0) hx hb hr (fun t ht hW => ⟨⟨0, (v29, u10_0, u10_1, u10_2, u10_3, u10_4), rfl, ⟨by (try dsimp only); omega, by (try dsimp only); omega, by (try dsimp only); omega, by (try dsimp only); omega, by (try dsimp only); omega, by (try dsimp only); omega, by (try dsimp only); exact fun kc kT q_fr q_fp q_gfP hc hb h => by rw [sW_tld_e (b := p0) (k := 2) (k' := (2 : Int32).toInt) (zSc_lt h.1) (by decide)]; have z := F10 kc kT _ _ _ _ hc hb h; rcases z with z | z; (exfalso; have z1 := z.1; omega); obtain ⟨-, z1, z2, z3, z4⟩ := z; have y38 : v38 = kc.2.1 (4 * p0.toInt.toNat) := F38.trans (hc.2.1 _ (by omega)); exact zActB z1 hb.2 h z2 (zSc_L h.1 (e29.trans (by rw [e28])) z3) (fun _ _ => rfl) z4 (by rw [← y38]; exact (if_neg (by omega)).symm), f10_8⟩, ⟨by rw [ht]; exact hP, hD⟩⟩, hS.F ht⟩) hS.2.2 dX10_letter_50
    · have c42 : 5 ≤ v38.toInt := z2 rfl (by decide) c42
      refine lv_iconst (v := 1) hx hb dX10_letter_45 (by decide) ?_
      refine lv_goto (tgt := 50) hx hb dX10_letter_46 (by decide) ?_
      have zr0 : (1 : Int32).toInt = 1 := by decide
      rw [hQ]
      exact W.iret (v := 1) hx hb hr (fun t ht hW => ⟨⟨1, (v29, u10_0, u10_1, u10_2, u10_3, u10_4), rfl, ⟨by (try dsimp only); omega, by (try dsimp only); omega, by (try dsimp only); omega, by (try dsimp only); omega, by (try dsimp only); omega, by (try dsimp only); omega, by (try dsimp only); exact fun kc kT q_fr q_fp q_gfP hc hb h => by rw [sW_tld_e (b := p0) (k := 2) (k' := (2 : Int32).toInt) (zSc_lt h.1) (by decide)]; have z := F10 kc kT _ _ _ _ hc hb h; rcases z with z | z; (exfalso; have z1 := z.1; omega); obtain ⟨-, z1, z2, z3, z4⟩ := z; have y38 : v38 = kc.2.1 (4 * p0.toInt.toNat) := F38.trans (hc.2.1 _ (by omega)); exact zActB z1 hb.2 h z2 (zSc_L h.1 (e29.trans (by rw [e28])) z3) (fun _ _ => rfl) z4 (by rw [← y38]; exact (if_pos (by omega)).symm), f10_8⟩, ⟨by rw [ht]; exact hP, hD⟩⟩, hS.F ht⟩) hS.2.2 dX10_letter_50
  · have c13 : v10.toInt = 0 := z5 rfl (by decide) c13
    refine lv_iconst (v := (-1)) hx hb dX10_letter_16 (by decide) ?_
    have zr0 : ((-1) : Int32).toInt = (-1) := by decide
    rw [hQ]
    exact W.iret (v := ((-1))) hx hb hr (fun t ht hW => ⟨⟨(-1), (glt, u10_0, u10_1, u10_2, u10_3, u10_4), rfl, ⟨by (try dsimp only); omega, by (try dsimp only); omega, by (try dsimp only); omega, by (try dsimp only); omega, by (try dsimp only); omega, by (try dsimp only); omega, by (try dsimp only); exact fun kc kT q_fr q_fp q_gfP hc hb h => by rw [sW_tld_e (b := p0) (k := 2) (k' := (2 : Int32).toInt) (zSc_lt h.1) (by decide)]; have z := F10 kc kT _ _ _ _ hc hb h; rcases z with z | z; exact zActR2 z.2.1 z.2.2; (exfalso; have z1 := z.1; omega), f10_8⟩, ⟨by rw [ht]; exact hP, hD⟩⟩, hS.F ht⟩) hS.2.2 dX10_letter_17
set_option maxHeartbeats 4000000 in
set_option maxRecDepth 100000 in
theorem g_X10_shoe (l : Launch) (dC : Nat → ClassId) (dI : Nat → Nat → Nat) (cI cJ : ClassId) (h0 : Nat) (p0 : Int32) (tp : Nat) (h0_courtReader : Value) (h0_lawReader : Value) (h0_draft : Value) (aC : Nat) (h0_laws : Value) (g0 : Nat) (k0 : Nat) (ac : Nat) (sd : Nat) (mi : Nat) (dw : Nat) (rf : Nat) (lc : Int32) (lh : Int32) (br : Int32) (hi : Int32) (aR : Nat) (aB : Nat) (aP : Nat) (nb : Int32) (np : Int32) (fb : Nat → Int32) (gY : Nat) (gF : Nat) (gP : Nat) (gpn : Int32) (glt : Int32) (gsh : Int32) (gwd : Int32) (gpu : Int32) (gmo : Int32) (gfY : Nat → Int32) (gfF : Nat → Int32) (aW : Nat) (pl : Int32) (cn : Int32) (fR : Nat → Int32) (frf : Nat → Int32) (sz : Nat) (n_cn : 0 ≤ cn.toInt ∧ cn.toInt ≤ 40) (n_gpn : 0 ≤ gpn.toInt ∧ gpn.toInt ≤ 20) (n_gwd : (-1) ≤ gwd.toInt ∧ gwd.toInt ≤ 5) (n_hi : 0 ≤ hi.toInt ∧ hi.toInt ≤ 1) (n_lc : 0 ≤ lc.toInt ∧ lc.toInt ≤ 4) (n_nb : 0 ≤ nb.toInt ∧ nb.toInt ≤ 6) (n_np : 0 ≤ np.toInt ∧ np.toInt ≤ 5) (n_pl : 0 ≤ pl.toInt ∧ pl.toInt ≤ 39)  (ci_fR_zRw : zRw fR)  : Met l yX10_shoe (.code yX10_shoe cX10_shoe 2 (some .int) :: wA) ({ frames := 4, cells := 0, slots := 0, locals := 128 }) (zP (dC, dI) [(cI, .int), (cJ, .long)] [.ref h0, .int p0] sz [(h0, .inr (10, [.ref tp, h0_courtReader, h0_lawReader, h0_draft, .ref aC, h0_laws, .ref g0, .ref k0, .ref ac, .ref sd, .ref mi, .ref dw, .ref rf, .int lc, .int lh, .int br, .int hi])), (aC, .inr (1, [.ref aR, .ref aB, .ref aP, .int nb, .int np])), (aB, .inl (cI, 24, .inl fb)), (g0, .inr (7, [.ref gY, .ref gF, .ref gP, .int gpn, .int glt, .int gsh, .int gwd, .int gpu, .int gmo])), (gY, .inl (cI, 6, .inl gfY)), (gF, .inl (cI, 5, .inl gfF)), (ac, .inr (0, [.ref aW, .int pl, .int cn])), (aW, .inl (cI, 680, .inl fR)), (rf, .inl (cI, 5, .inl frf))]) (va_Qi (fun (r : Int32) (u : Int32 × Int32 × Int32 × Int32 × (Nat → Int32) × (Nat → Int32)) => (0 ≤ u.2.2.1.toInt) ∧ (u.2.2.1.toInt ≤ 39) ∧ (0 ≤ u.2.2.2.1.toInt) ∧ (u.2.2.2.1.toInt ≤ 40) ∧ (∀ (kc : zK3) (kT : zT) (q_fr : Nat → Int32) (q_fp : Nat → Int32) (q_gfP : Nat → Int32), zCn q_fr fb q_fp nb.toInt np.toInt kc → zKo nb.toInt np.toInt kc kT → zTc nb.toInt np.toInt kT gfY gfF q_gfP gpn glt gsh gwd gpu gmo fR pl cn frf → r = sA (sW_tld nb.toInt kT.1 kT.1.2.2.1.2.1 p0 1) (kc.2.1 (4 * p0.toInt.toNat) - kc.2.1 (4 * p0.toInt.toNat) / 2 * 2) ∧ zTc nb.toInt np.toInt (sDo (sW_tld nb.toInt kT.1 kT.1.2.2.1.2.1 p0 1) kT (sN_sho kT.1 p0)) gfY gfF q_gfP gpn glt u.1 gwd u.2.1 gmo u.2.2.2.2.1 u.2.2.1 u.2.2.2.1 u.2.2.2.2.2) ∧ (zRw u.2.2.2.2.1)) (fun (u : Int32 × Int32 × Int32 × Int32 × (Nat → Int32) × (Nat → Int32)) (t : State) => va_P (dC, dI) vwCl [(h0, .inr (10, [.ref tp, h0_courtReader, h0_lawReader, h0_draft, .ref aC, h0_laws, .ref g0, .ref k0, .ref ac, .ref sd, .ref mi, .ref dw, .ref rf, .int lc, .int lh, .int br, .int hi])), (aC, .inr (1, [.ref aR, .ref aB, .ref aP, .int nb, .int np])), (aB, .inl (cI, 24, .inl fb)), (g0, .inr (7, [.ref gY, .ref gF, .ref gP, .int gpn, .int glt, .int u.1, .int gwd, .int u.2.1, .int gmo])), (gY, .inl (cI, 6, .inl gfY)), (gF, .inl (cI, 5, .inl gfF)), (ac, .inr (0, [.ref aW, .int u.2.2.1, .int u.2.2.2.1])), (aW, .inl (cI, 680, .inl u.2.2.2.2.1)), (rf, .inl (cI, 5, .inl u.2.2.2.2.2))] t.heap ∧ va_D (va_A [(h0, .inr (10, [.ref tp, h0_courtReader, h0_lawReader, h0_draft, .ref aC, h0_laws, .ref g0, .ref k0, .ref ac, .ref sd, .ref mi, .ref dw, .ref rf, .int lc, .int lh, .int br, .int hi])), (aC, .inr (1, [.ref aR, .ref aB, .ref aP, .int nb, .int np])), (aB, .inl (cI, 24, .inl fb)), (g0, .inr (7, [.ref gY, .ref gF, .ref gP, .int gpn, .int glt, .int gsh, .int gwd, .int gpu, .int gmo])), (gY, .inl (cI, 6, .inl gfY)), (gF, .inl (cI, 5, .inl gfF)), (ac, .inr (0, [.ref aW, .int pl, .int cn])), (aW, .inl (cI, 680, .inl fR)), (rf, .inl (cI, 5, .inl frf))] sz) [(h0, .inr (10, [.ref tp, h0_courtReader, h0_lawReader, h0_draft, .ref aC, h0_laws, .ref g0, .ref k0, .ref ac, .ref sd, .ref mi, .ref dw, .ref rf, .int lc, .int lh, .int br, .int hi])), (aC, .inr (1, [.ref aR, .ref aB, .ref aP, .int nb, .int np])), (aB, .inl (cI, 24, .inl fb)), (g0, .inr (7, [.ref gY, .ref gF, .ref gP, .int gpn, .int glt, .int u.1, .int gwd, .int u.2.1, .int gmo])), (gY, .inl (cI, 6, .inl gfY)), (gF, .inl (cI, 5, .inl gfF)), (ac, .inr (0, [.ref aW, .int u.2.2.1, .int u.2.2.2.1])), (aW, .inl (cI, 680, .inl u.2.2.2.2.1)), (rf, .inl (cI, 5, .inl u.2.2.2.2.2))]) (va_A [(h0, .inr (10, [.ref tp, h0_courtReader, h0_lawReader, h0_draft, .ref aC, h0_laws, .ref g0, .ref k0, .ref ac, .ref sd, .ref mi, .ref dw, .ref rf, .int lc, .int lh, .int br, .int hi])), (aC, .inr (1, [.ref aR, .ref aB, .ref aP, .int nb, .int np])), (aB, .inl (cI, 24, .inl fb)), (g0, .inr (7, [.ref gY, .ref gF, .ref gP, .int gpn, .int glt, .int gsh, .int gwd, .int gpu, .int gmo])), (gY, .inl (cI, 6, .inl gfY)), (gF, .inl (cI, 5, .inl gfF)), (ac, .inr (0, [.ref aW, .int pl, .int cn])), (aW, .inl (cI, 680, .inl fR)), (rf, .inl (cI, 5, .inl frf))] sz)) 0 0 (va_A [(h0, .inr (10, [.ref tp, h0_courtReader, h0_lawReader, h0_draft, .ref aC, h0_laws, .ref g0, .ref k0, .ref ac, .ref sd, .ref mi, .ref dw, .ref rf, .int lc, .int lh, .int br, .int hi])), (aC, .inr (1, [.ref aR, .ref aB, .ref aP, .int nb, .int np])), (aB, .inl (cI, 24, .inl fb)), (g0, .inr (7, [.ref gY, .ref gF, .ref gP, .int gpn, .int glt, .int gsh, .int gwd, .int gpu, .int gmo])), (gY, .inl (cI, 6, .inl gfY)), (gF, .inl (cI, 5, .inl gfF)), (ac, .inr (0, [.ref aW, .int pl, .int cn])), (aW, .inl (cI, 680, .inl fR)), (rf, .inl (cI, 5, .inl frf))] sz) := by
  refine Met.ofW (cc := cX10_shoe) (maxL := 2) (ret := (some .int)) (by decide) rfl ?_
  intro p e s m args below meth c s₁ B hml hv
  have y_cn : zHid (0 ≤ cn.toInt ∧ cn.toInt ≤ 40) := n_cn
  have y_gpn : zHid (0 ≤ gpn.toInt ∧ gpn.toInt ≤ 20) := n_gpn
  have y_gwd : zHid ((-1) ≤ gwd.toInt ∧ gwd.toInt ≤ 5) := n_gwd
  have y_hi : zHid (0 ≤ hi.toInt ∧ hi.toInt ≤ 1) := n_hi
  have y_lc : zHid (0 ≤ lc.toInt ∧ lc.toInt ≤ 4) := n_lc
  have y_pl : zHid (0 ≤ pl.toInt ∧ pl.toInt ≤ 39) := n_pl
  clear n_cn n_gpn n_gwd n_hi n_lc n_pl
  obtain ⟨hargs, hsz, hP, hK, hT⟩ := hv
  have hx := B.exec
  have hb := B.bytes
  have hr := B.returns
  have hts : ∀ w ∈ wA, w.before args s = true := fun w h => atoms_spec (ws := .code yX10_shoe cX10_shoe 2 (some .int) :: wA) B.pre w (List.mem_cons_of_mem _ h)
  have hown : s.vm.findClass RX10 = some m.cls := findClass_of_methodNamed B.named
  have hlocks := B.notSynchronized
  subst hsz
  have hD := hT.self (sz := s.heap.size)
  generalize hAe : va_A [(h0, .inr (10, [.ref tp, h0_courtReader, h0_lawReader, h0_draft, .ref aC, h0_laws, .ref g0, .ref k0, .ref ac, .ref sd, .ref mi, .ref dw, .ref rf, .int lc, .int lh, .int br, .int hi])), (aC, .inr (1, [.ref aR, .ref aB, .ref aP, .int nb, .int np])), (aB, .inl (cI, 24, .inl fb)), (g0, .inr (7, [.ref gY, .ref gF, .ref gP, .int gpn, .int glt, .int gsh, .int gwd, .int gpu, .int gmo])), (gY, .inl (cI, 6, .inl gfY)), (gF, .inl (cI, 5, .inl gfF)), (ac, .inr (0, [.ref aW, .int pl, .int cn])), (aW, .inl (cI, 680, .inl fR)), (rf, .inl (cI, 5, .inl frf))] s.heap.size = A at hD ⊢
  have hA : ∀ q : Nat, s.heap.size ≤ q → A q := fun q h => by rw [← hAe]; exact Or.inr h
  have hl := lv_entry ([.ref h0, .int p0]) (n := 2) (Nat.le_of_ble_eq_true rfl)
  rw [show entryFrame m args 2 = entryFrame m ([.ref h0, .int p0] : List Value).toArray 2 by rw [hargs], lg_entry_eq]
  generalize (lg_sl ([.ref h0, .int p0]) ++ List.replicate (2 - (lg_sl ([.ref h0, .int p0])).length) Slot.unset).toArray = ls at hl ⊢
  have hl : lv_has ls 2 [(0, .ref h0), (1, .int p0)] := hl
  refine zstart (fun H hH => ?_)
  rw [← hH] at hP
  have hS : va_S A s.heap H [] := by rw [hH]; exact va_S.rf
  generalize ([] : List Loc) = locs at hS ⊢
  refine zgen (fun R Q hR hQ => ?_)
  refine lv_aload_n hx hb dX10_shoe_0 rfl (lv_at hl 0 rfl) ?_
  refine lv_iload_n hx hb dX10_shoe_1 rfl (lv_at hl 1 rfl) ?_
  refine lv_aload_n hx hb dX10_shoe_2 rfl (lv_at hl 0 rfl) ?_
  refine va_get (D := (dC, dI)) (ci := 10) (v := .ref g0) (C := RX10) (T := TX10) (N := 17) hx hb hts iX10 hown hK hP 0 rfl rfl 6 (by decide) (hts _ qw362) (fun _ h9 => h9) rfl dX10_shoe_3 ?_
  refine va_get (D := (dC, dI)) (ci := 7) (v := .int gsh) (C := RX7) (T := TX7) (N := 9) hx hb hts iX7 hown hK hP 3 rfl rfl 5 (by decide) (hts _ qw235) (fun _ h9 => h9) rfl dX10_shoe_6 ?_
  refine lv_iconst (v := 1) hx hb dX10_shoe_9 (by decide) ?_
  obtain ⟨hPc, hDc, hFc⟩ := zc3 (wc := [(h0, .inr (10, [.ref tp, h0_courtReader, h0_lawReader, h0_draft, .ref aC, h0_laws, .ref g0, .ref k0, .ref ac, .ref sd, .ref mi, .ref dw, .ref rf, .int lc, .int lh, .int br, .int hi])), (aC, .inr (1, [.ref aR, .ref aB, .ref aP, .int nb, .int np])), (g0, .inr (7, [.ref gY, .ref gF, .ref gP, .int gpn, .int glt, .int gsh, .int gwd, .int gpu, .int gmo])), (gY, .inl (cI, 6, .inl gfY)), (gF, .inl (cI, 5, .inl gfF)), (ac, .inr (0, [.ref aW, .int pl, .int cn])), (aW, .inl (cI, 680, .inl fR)), (rf, .inl (cI, 5, .inl frf))]) hP hD hS hA [0, 1, 3, 4, 5, 6, 7, 8] (by decide +kernel) rfl
  refine va_calli (va_runV (As := [.int p0, .int gsh, .int 1]) (rest := []) ⟨hx, hb, hml, hown, hts⟩ (g_X10_paysToHear l dC dI cI cJ h0 p0 gsh 1 tp h0_courtReader h0_lawReader h0_draft aC h0_laws g0 k0 ac sd mi dw rf lc lh br hi aR aB aP nb np gY gF gP gpn glt gsh gwd gpu gmo gfY gfF aW pl cn fR frf H.size y_cn y_gpn y_gwd y_hi y_lc n_nb n_np y_pl ci_fR_zRw) (cwV 3 hts (zgV qw725 qw727 qw15 qw98 qw728) rfl rfl rfl hd_X10_paysToHear ⟨by rw [hR]; exact Nat.le_of_ble_eq_true rfl, by rw [hR]; exact Nat.le_of_ble_eq_true rfl⟩) (zPV hPc hK hDc (va_recv (q := (RX10, TX10, 17)) hK hP (ci := 10) (q0 := 0) rfl rfl)) rfl rfl hl.1 rfl (lv_room (Nat.le_of_ble_eq_true rfl)) dX10_shoe_10 ⟨Nat.zero_le _, Nat.zero_le _⟩) hS (fun q _ h => hFc q h) hFc (fun v10 u10 t H locs ht hvm hw hB hz1 hk1 hS9 => ?_)
  obtain ⟨u10_0, u10_1, u10_2, u10_3, u10_4⟩ := u10
  obtain ⟨hP9, hD9⟩ := zj2 (wX := [(h0, .inr (10, [.ref tp, h0_courtReader, h0_lawReader, h0_draft, .ref aC, h0_laws, .ref g0, .ref k0, .ref ac, .ref sd, .ref mi, .ref dw, .ref rf, .int lc, .int lh, .int br, .int hi])), (aC, .inr (1, [.ref aR, .ref aB, .ref aP, .int nb, .int np])), (aB, .inl (cI, 24, .inl fb)), (g0, .inr (7, [.ref gY, .ref gF, .ref gP, .int gpn, .int glt, .int gsh, .int gwd, .int u10_0, .int gmo])), (gY, .inl (cI, 6, .inl gfY)), (gF, .inl (cI, 5, .inl gfF)), (ac, .inr (0, [.ref aW, .int u10_1, .int u10_2])), (aW, .inl (cI, 680, .inl u10_3)), (rf, .inl (cI, 5, .inl u10_4))]) hP hD hk1 hFc ht hB [0, 1, 3, 4, 5, 6, 7, 8] [(true, 0), (true, 1), (false, 2), (true, 2), (true, 3), (true, 4), (true, 5), (true, 6), (true, 7)] rfl (by decide +kernel) (by decide +kernel) rfl
  clear hP hD hS hPc hDc hFc hB hk1 hz1 hvm
  have hP := hP9
  have hD := hD9
  have hS := hS9
  clear hP9 hD9 hS9
  have zn10_1 : (1 : Int32).toInt = 1 := by decide
  obtain ⟨f10_0, f10_1, f10_2, f10_3, f10_4, f10_5, f10_6, f10_7, f10_8⟩ : (0 ≤ v10.toInt) ∧ (v10.toInt ≤ 1) ∧ (0 ≤ u10_1.toInt) ∧ (u10_1.toInt ≤ 39) ∧ (0 ≤ u10_2.toInt) ∧ (u10_2.toInt ≤ 40) ∧ (¬ v10.toInt = 0 → (0 ≤ p0.toInt ∧ p0.toInt < nb.toInt)) ∧ (∀ (kc : zK3) (kT : zT) (q_fr : Nat → Int32) (q_fb : Nat → Int32) (q_fp : Nat → Int32) (q_gfP : Nat → Int32), zCn q_fr q_fb q_fp nb.toInt np.toInt kc → zKo nb.toInt np.toInt kc kT → zTc nb.toInt np.toInt kT gfY gfF q_gfP gpn glt gsh gwd gpu gmo fR pl cn frf → (v10.toInt = 0 ∧ ¬ sW_tld nb.toInt kT.1 gsh p0 (1 : Int32).toInt = -1 ∧ zTc nb.toInt np.toInt (sRef kT (sW_tld nb.toInt kT.1 gsh p0 (1 : Int32).toInt)) gfY gfF q_gfP gpn glt gsh gwd u10_0 gmo u10_3 u10_1 u10_2 u10_4) ∨ (v10.toInt = 1 ∧ sW_tld nb.toInt kT.1 gsh p0 (1 : Int32).toInt = -1 ∧ zKc nb.toInt np.toInt (sKeep kT.1 kT.2.1) q_gfP u10_3 u10_1 u10_2 ∧ u10_0 = gpu - 1 ∧ u10_4 = frf)) ∧ (zRw u10_3) := hw
  have F10 := f10_7
  refine lv_if_ne (tgt := 18) hx hb dX10_shoe_13 (by decide) (fun c13 => ?_) (fun c13 => ?_)
  · have c13 : ¬ v10.toInt = 0 := z6 rfl (by decide) c13
    refine lv_aload_n hx hb dX10_shoe_18 rfl (lv_at hl 0 rfl) ?_
    refine va_get (D := (dC, dI)) (ci := 10) (v := .ref g0) (C := RX10) (T := TX10) (N := 17) hx hb hts iX10 hown hK hP 0 rfl rfl 6 (by decide) (hts _ qw362) (fun _ h9 => h9) rfl dX10_shoe_19 ?_
    refine lv_dup hx hb dX10_shoe_22 rfl ?_
    refine va_get (D := (dC, dI)) (ci := 7) (v := .int gsh) (C := RX7) (T := TX7) (N := 9) hx hb hts iX7 hown hK hP 3 rfl rfl 5 (by decide) (hts _ qw235) (fun _ h9 => h9) rfl dX10_shoe_23 ?_
    refine lv_iconst (v := 1) hx hb dX10_shoe_26 (by decide) ?_
    refine lv_iload_n hx hb dX10_shoe_27 rfl (lv_at hl 1 rfl) ?_
    refine lv_ishl hx hb dX10_shoe_28 ?_
    refine lv_topi (fun v28 e28 => ?_)
    have i28 : 1 ≤ v28.toInt ∧ v28.toInt ≤ 32 := zshl1 e28 (by omega) (by omega)
    refine lv_ior hx hb dX10_shoe_29 ?_
    refine lv_topi (fun v29 e29 => ?_)
    refine va_put (D := (dC, dI)) (ci := 7) (v := .int v29) (ty := .int) (C := RX7) (T := TX7) (N := 9) hx hb hts iX7 tyX7 tyX7_ok nmX7 hown hK hP hD hS 3 rfl rfl 5 (by decide) (hts _ qw235) (fun _ h9 => h9) rfl (by decide +kernel) rfl rfl (Nat.le_of_ble_eq_true rfl) dX10_shoe_30 (fun H locs hP9 hD9 hS9 => ?_)
    clear hP hD hS
    obtain ⟨hP, hD⟩ := zst (wX := [(h0, .inr (10, [.ref tp, h0_courtReader, h0_lawReader, h0_draft, .ref aC, h0_laws, .ref g0, .ref k0, .ref ac, .ref sd, .ref mi, .ref dw, .ref rf, .int lc, .int lh, .int br, .int hi])), (aC, .inr (1, [.ref aR, .ref aB, .ref aP, .int nb, .int np])), (aB, .inl (cI, 24, .inl fb)), (g0, .inr (7, [.ref gY, .ref gF, .ref gP, .int gpn, .int glt, .int v29, .int gwd, .int u10_0, .int gmo])), (gY, .inl (cI, 6, .inl gfY)), (gF, .inl (cI, 5, .inl gfF)), (ac, .inr (0, [.ref aW, .int u10_1, .int u10_2])), (aW, .inl (cI, 680, .inl u10_3)), (rf, .inl (cI, 5, .inl u10_4))]) hP9 hD9 rfl
    have hS := hS9
    clear hP9 hD9 hS9
    refine lv_aload_n hx hb dX10_shoe_33 rfl (lv_at hl 0 rfl) ?_
    refine va_get (D := (dC, dI)) (ci := 10) (v := .ref aC) (C := RX10) (T := TX10) (N := 17) hx hb hts iX10 hown hK hP 0 rfl rfl 4 (by decide) (hts _ qw360) (fun _ h9 => h9) rfl dX10_shoe_34 ?_
    refine lv_iload_n hx hb dX10_shoe_37 rfl (lv_at hl 1 rfl) ?_
    obtain ⟨hPc, hDc⟩ := zc2 (wc := [(aC, .inr (1, [.ref aR, .ref aB, .ref aP, .int nb, .int np])), (aB, .inl (cI, 24, .inl fb))]) hP hD [1, 2] (by decide +kernel) rfl
    have hFc := zfr hS hA
    refine va_calli (va_runV (As := [.int p0]) (rest := []) ⟨hx, hb, hml, hown, hts⟩ (g_X1_faceOf l dC dI cI cJ aC p0 aR aB aP nb np fb H.size (by omega)) (cwV 1 hts (zgV qw702 qw703 qw704 qw102 qw705) rfl rfl rfl hd_X1_faceOf ⟨by rw [hR]; exact Nat.le_of_ble_eq_true rfl, by rw [hR]; exact Nat.le_of_ble_eq_true rfl⟩) (zPV hPc hK hDc (va_recv (q := (RX1, TX1, 5)) hK hP (ci := 1) (q0 := 1) rfl rfl)) rfl rfl hl.1 rfl (lv_room (Nat.le_of_ble_eq_true rfl)) dX10_shoe_38 ⟨Nat.zero_le _, Nat.zero_le _⟩) hS (fun q _ h => hFc q h) hFc (fun v38 u38 t H locs ht hvm hw hB hz1 hk1 hS9 => ?_)
    replace hP := zkeep hP hk1
    replace hS := hS9
    clear hPc hDc hFc hk1 hz1 hvm hS9
    have f38_0 : (v38 = fb (4 * p0.toInt.toNat)) := hw
    have F38 := f38_0
    refine lv_iconst (v := 2) hx hb dX10_shoe_41 (by decide) ?_
    refine lv_irem hx hb dX10_shoe_42 (by decide) ?_
    refine lv_topi (fun v42 e42 => ?_)
    rw [hQ]
    exact W.iret (v := v42) hx hb hr (fun t ht hW => ⟨⟨v42, (v29, u10_0, u10_1, u10_2, u10_3, u10_4), rfl, ⟨by (try dsimp only); omega, by (try dsimp only); omega, by (try dsimp only); omega, by (try dsimp only); omega, by (try dsimp only); exact fun kc kT q_fr q_fp q_gfP hc hb h => by rw [sW_tld_e (b := p0) (k := 1) (k' := (1 : Int32).toInt) (zSc_sh h.1) (by decide)]; have z := F10 kc kT _ _ _ _ hc hb h; rcases z with z | z; (exfalso; have z1 := z.1; omega); obtain ⟨-, z1, z2, z3, z4⟩ := z; have y38 : v38 = kc.2.1 (4 * p0.toInt.toNat) := F38.trans (hc.2.1 _ (by omega)); exact zActB z1 hb.2 h z2 (zSc_S h.1 (e29.trans (by rw [e28])) z3) (fun _ _ => rfl) z4 (by rw [← y38]; exact e42), f10_8⟩, ⟨by rw [ht]; exact hP, hD⟩⟩, hS.F ht⟩) hS.2.2 dX10_shoe_43
  · have c13 : v10.toInt = 0 := z5 rfl (by decide) c13
    refine lv_iconst (v := (-1)) hx hb dX10_shoe_16 (by decide) ?_
    have zr0 : ((-1) : Int32).toInt = (-1) := by decide
    rw [hQ]
    exact W.iret (v := ((-1))) hx hb hr (fun t ht hW => ⟨⟨(-1), (gsh, u10_0, u10_1, u10_2, u10_3, u10_4), rfl, ⟨by (try dsimp only); omega, by (try dsimp only); omega, by (try dsimp only); omega, by (try dsimp only); omega, by (try dsimp only); exact fun kc kT q_fr q_fp q_gfP hc hb h => by rw [sW_tld_e (b := p0) (k := 1) (k' := (1 : Int32).toInt) (zSc_sh h.1) (by decide)]; have z := F10 kc kT _ _ _ _ hc hb h; rcases z with z | z; exact zActR2 z.2.1 z.2.2; (exfalso; have z1 := z.1; omega), f10_8⟩, ⟨by rw [ht]; exact hP, hD⟩⟩, hS.F ht⟩) hS.2.2 dX10_shoe_17
set_option maxHeartbeats 4000000 in
set_option maxRecDepth 100000 in
theorem g_X10_wed (l : Launch) (dC : Nat → ClassId) (dI : Nat → Nat → Nat) (cI cJ : ClassId) (h0 : Nat) (p0 : Int32) (tp : Nat) (h0_courtReader : Value) (h0_lawReader : Value) (h0_draft : Value) (aC : Nat) (h0_laws : Value) (g0 : Nat) (k0 : Nat) (ac : Nat) (sd : Nat) (mi : Nat) (dw : Nat) (rf : Nat) (lc : Int32) (lh : Int32) (br : Int32) (hi : Int32) (aR : Nat) (aB : Nat) (aP : Nat) (nb : Int32) (np : Int32) (fb : Nat → Int32) (gY : Nat) (gF : Nat) (gP : Nat) (gpn : Int32) (glt : Int32) (gsh : Int32) (gwd : Int32) (gpu : Int32) (gmo : Int32) (gfY : Nat → Int32) (gfF : Nat → Int32) (aW : Nat) (pl : Int32) (cn : Int32) (fR : Nat → Int32) (frf : Nat → Int32) (sz : Nat) (n_cn : 0 ≤ cn.toInt ∧ cn.toInt ≤ 40) (n_gpn : 0 ≤ gpn.toInt ∧ gpn.toInt ≤ 20) (n_gwd : (-1) ≤ gwd.toInt ∧ gwd.toInt ≤ 5) (n_hi : 0 ≤ hi.toInt ∧ hi.toInt ≤ 1) (n_lc : 0 ≤ lc.toInt ∧ lc.toInt ≤ 4) (n_nb : 0 ≤ nb.toInt ∧ nb.toInt ≤ 6) (n_np : 0 ≤ np.toInt ∧ np.toInt ≤ 5) (n_pl : 0 ≤ pl.toInt ∧ pl.toInt ≤ 39)  (ci_fR_zRw : zRw fR)  : Met l yX10_wed (.code yX10_wed cX10_wed 2 (some .int) :: wA) ({ frames := 3, cells := 0, slots := 0, locals := 104 }) (zP (dC, dI) [(cI, .int), (cJ, .long)] [.ref h0, .int p0] sz [(h0, .inr (10, [.ref tp, h0_courtReader, h0_lawReader, h0_draft, .ref aC, h0_laws, .ref g0, .ref k0, .ref ac, .ref sd, .ref mi, .ref dw, .ref rf, .int lc, .int lh, .int br, .int hi])), (aC, .inr (1, [.ref aR, .ref aB, .ref aP, .int nb, .int np])), (aB, .inl (cI, 24, .inl fb)), (g0, .inr (7, [.ref gY, .ref gF, .ref gP, .int gpn, .int glt, .int gsh, .int gwd, .int gpu, .int gmo])), (gY, .inl (cI, 6, .inl gfY)), (gF, .inl (cI, 5, .inl gfF)), (ac, .inr (0, [.ref aW, .int pl, .int cn])), (aW, .inl (cI, 680, .inl fR)), (rf, .inl (cI, 5, .inl frf))]) (va_Qi (fun (r : Int32) (u : Int32 × Int32 × Int32 × Int32 × (Nat → Int32) × (Nat → Int32)) => (r.toInt ≤ 999) ∧ ((-1) ≤ u.1.toInt) ∧ (u.1.toInt ≤ 5) ∧ (0 ≤ u.2.2.1.toInt) ∧ (u.2.2.1.toInt ≤ 39) ∧ (0 ≤ u.2.2.2.1.toInt) ∧ (u.2.2.2.1.toInt ≤ 40) ∧ (∀ (kc : zK3) (kT : zT) (q_fr : Nat → Int32) (q_fp : Nat → Int32) (q_gfP : Nat → Int32), zCn q_fr fb q_fp nb.toInt np.toInt kc → zKo nb.toInt np.toInt kc kT → zTc nb.toInt np.toInt kT gfY gfF q_gfP gpn glt gsh gwd gpu gmo fR pl cn frf → r = sA (sW_wed nb.toInt kT.1 p0) (sMin 999 (kT.1.2.2.2.1.1 + kc.2.1 (4 * p0.toInt.toNat + 1) / 10)) ∧ zTc nb.toInt np.toInt (sDo (sW_wed nb.toInt kT.1 p0) kT (sN_wed kc kT.1 p0)) gfY gfF q_gfP gpn glt gsh u.1 u.2.1 gmo u.2.2.2.2.1 u.2.2.1 u.2.2.2.1 u.2.2.2.2.2) ∧ (zRw u.2.2.2.2.1)) (fun (u : Int32 × Int32 × Int32 × Int32 × (Nat → Int32) × (Nat → Int32)) (t : State) => va_P (dC, dI) vwCl [(h0, .inr (10, [.ref tp, h0_courtReader, h0_lawReader, h0_draft, .ref aC, h0_laws, .ref g0, .ref k0, .ref ac, .ref sd, .ref mi, .ref dw, .ref rf, .int lc, .int lh, .int br, .int hi])), (aC, .inr (1, [.ref aR, .ref aB, .ref aP, .int nb, .int np])), (aB, .inl (cI, 24, .inl fb)), (g0, .inr (7, [.ref gY, .ref gF, .ref gP, .int gpn, .int glt, .int gsh, .int u.1, .int u.2.1, .int gmo])), (gY, .inl (cI, 6, .inl gfY)), (gF, .inl (cI, 5, .inl gfF)), (ac, .inr (0, [.ref aW, .int u.2.2.1, .int u.2.2.2.1])), (aW, .inl (cI, 680, .inl u.2.2.2.2.1)), (rf, .inl (cI, 5, .inl u.2.2.2.2.2))] t.heap ∧ va_D (va_A [(h0, .inr (10, [.ref tp, h0_courtReader, h0_lawReader, h0_draft, .ref aC, h0_laws, .ref g0, .ref k0, .ref ac, .ref sd, .ref mi, .ref dw, .ref rf, .int lc, .int lh, .int br, .int hi])), (aC, .inr (1, [.ref aR, .ref aB, .ref aP, .int nb, .int np])), (aB, .inl (cI, 24, .inl fb)), (g0, .inr (7, [.ref gY, .ref gF, .ref gP, .int gpn, .int glt, .int gsh, .int gwd, .int gpu, .int gmo])), (gY, .inl (cI, 6, .inl gfY)), (gF, .inl (cI, 5, .inl gfF)), (ac, .inr (0, [.ref aW, .int pl, .int cn])), (aW, .inl (cI, 680, .inl fR)), (rf, .inl (cI, 5, .inl frf))] sz) [(h0, .inr (10, [.ref tp, h0_courtReader, h0_lawReader, h0_draft, .ref aC, h0_laws, .ref g0, .ref k0, .ref ac, .ref sd, .ref mi, .ref dw, .ref rf, .int lc, .int lh, .int br, .int hi])), (aC, .inr (1, [.ref aR, .ref aB, .ref aP, .int nb, .int np])), (aB, .inl (cI, 24, .inl fb)), (g0, .inr (7, [.ref gY, .ref gF, .ref gP, .int gpn, .int glt, .int gsh, .int u.1, .int u.2.1, .int gmo])), (gY, .inl (cI, 6, .inl gfY)), (gF, .inl (cI, 5, .inl gfF)), (ac, .inr (0, [.ref aW, .int u.2.2.1, .int u.2.2.2.1])), (aW, .inl (cI, 680, .inl u.2.2.2.2.1)), (rf, .inl (cI, 5, .inl u.2.2.2.2.2))]) (va_A [(h0, .inr (10, [.ref tp, h0_courtReader, h0_lawReader, h0_draft, .ref aC, h0_laws, .ref g0, .ref k0, .ref ac, .ref sd, .ref mi, .ref dw, .ref rf, .int lc, .int lh, .int br, .int hi])), (aC, .inr (1, [.ref aR, .ref aB, .ref aP, .int nb, .int np])), (aB, .inl (cI, 24, .inl fb)), (g0, .inr (7, [.ref gY, .ref gF, .ref gP, .int gpn, .int glt, .int gsh, .int gwd, .int gpu, .int gmo])), (gY, .inl (cI, 6, .inl gfY)), (gF, .inl (cI, 5, .inl gfF)), (ac, .inr (0, [.ref aW, .int pl, .int cn])), (aW, .inl (cI, 680, .inl fR)), (rf, .inl (cI, 5, .inl frf))] sz)) 0 0 (va_A [(h0, .inr (10, [.ref tp, h0_courtReader, h0_lawReader, h0_draft, .ref aC, h0_laws, .ref g0, .ref k0, .ref ac, .ref sd, .ref mi, .ref dw, .ref rf, .int lc, .int lh, .int br, .int hi])), (aC, .inr (1, [.ref aR, .ref aB, .ref aP, .int nb, .int np])), (aB, .inl (cI, 24, .inl fb)), (g0, .inr (7, [.ref gY, .ref gF, .ref gP, .int gpn, .int glt, .int gsh, .int gwd, .int gpu, .int gmo])), (gY, .inl (cI, 6, .inl gfY)), (gF, .inl (cI, 5, .inl gfF)), (ac, .inr (0, [.ref aW, .int pl, .int cn])), (aW, .inl (cI, 680, .inl fR)), (rf, .inl (cI, 5, .inl frf))] sz) := by
  refine Met.ofW (cc := cX10_wed) (maxL := 2) (ret := (some .int)) (by decide) rfl ?_
  intro p e s m args below meth c s₁ B hml hv
  have y_gpn : zHid (0 ≤ gpn.toInt ∧ gpn.toInt ≤ 20) := n_gpn
  have y_hi : zHid (0 ≤ hi.toInt ∧ hi.toInt ≤ 1) := n_hi
  have y_lc : zHid (0 ≤ lc.toInt ∧ lc.toInt ≤ 4) := n_lc
  clear n_gpn n_hi n_lc
  obtain ⟨hargs, hsz, hP, hK, hT⟩ := hv
  have hx := B.exec
  have hb := B.bytes
  have hr := B.returns
  have hts : ∀ w ∈ wA, w.before args s = true := fun w h => atoms_spec (ws := .code yX10_wed cX10_wed 2 (some .int) :: wA) B.pre w (List.mem_cons_of_mem _ h)
  have hown : s.vm.findClass RX10 = some m.cls := findClass_of_methodNamed B.named
  have hlocks := B.notSynchronized
  subst hsz
  have hD := hT.self (sz := s.heap.size)
  generalize hAe : va_A [(h0, .inr (10, [.ref tp, h0_courtReader, h0_lawReader, h0_draft, .ref aC, h0_laws, .ref g0, .ref k0, .ref ac, .ref sd, .ref mi, .ref dw, .ref rf, .int lc, .int lh, .int br, .int hi])), (aC, .inr (1, [.ref aR, .ref aB, .ref aP, .int nb, .int np])), (aB, .inl (cI, 24, .inl fb)), (g0, .inr (7, [.ref gY, .ref gF, .ref gP, .int gpn, .int glt, .int gsh, .int gwd, .int gpu, .int gmo])), (gY, .inl (cI, 6, .inl gfY)), (gF, .inl (cI, 5, .inl gfF)), (ac, .inr (0, [.ref aW, .int pl, .int cn])), (aW, .inl (cI, 680, .inl fR)), (rf, .inl (cI, 5, .inl frf))] s.heap.size = A at hD ⊢
  have hA : ∀ q : Nat, s.heap.size ≤ q → A q := fun q h => by rw [← hAe]; exact Or.inr h
  have hl := lv_entry ([.ref h0, .int p0]) (n := 2) (Nat.le_of_ble_eq_true rfl)
  rw [show entryFrame m args 2 = entryFrame m ([.ref h0, .int p0] : List Value).toArray 2 by rw [hargs], lg_entry_eq]
  generalize (lg_sl ([.ref h0, .int p0]) ++ List.replicate (2 - (lg_sl ([.ref h0, .int p0])).length) Slot.unset).toArray = ls at hl ⊢
  have hl : lv_has ls 2 [(0, .ref h0), (1, .int p0)] := hl
  refine zstart (fun H hH => ?_)
  rw [← hH] at hP
  have hS : va_S A s.heap H [] := by rw [hH]; exact va_S.rf
  generalize ([] : List Loc) = locs at hS ⊢
  refine zgen (fun R Q hR hQ => ?_)
  refine lv_aload_n hx hb dX10_wed_0 rfl (lv_at hl 0 rfl) ?_
  refine lv_iload_n hx hb dX10_wed_1 rfl (lv_at hl 1 rfl) ?_
  obtain ⟨hPc, hDc⟩ := zc2 (wc := [(h0, .inr (10, [.ref tp, h0_courtReader, h0_lawReader, h0_draft, .ref aC, h0_laws, .ref g0, .ref k0, .ref ac, .ref sd, .ref mi, .ref dw, .ref rf, .int lc, .int lh, .int br, .int hi])), (aC, .inr (1, [.ref aR, .ref aB, .ref aP, .int nb, .int np]))]) hP hD [0, 1] (by decide +kernel) rfl
  have hFc := zfr hS hA
  refine va_calli (va_runV (As := [.int p0]) (rest := []) ⟨hx, hb, hml, hown, hts⟩ (g_X10_isBride l dC dI cI cJ h0 p0 (.ref tp) h0_courtReader h0_lawReader h0_draft aC h0_laws (.ref g0) (.ref k0) (.ref ac) (.ref sd) (.ref mi) (.ref dw) (.ref rf) (.int lc) (.int lh) (.int br) (.int hi) aR aB aP nb np H.size n_nb) (cwV 1 hts (zgV qw625 qw627 qw12 qw98 qw628) rfl rfl rfl hd_X10_isBride ⟨by rw [hR]; exact Nat.le_of_ble_eq_true rfl, by rw [hR]; exact Nat.le_of_ble_eq_true rfl⟩) (zPV hPc hK hDc (va_recv (q := (RX10, TX10, 17)) hK hP (ci := 10) (q0 := 0) rfl rfl)) rfl rfl hl.1 rfl (lv_room (Nat.le_of_ble_eq_true rfl)) dX10_wed_2 ⟨Nat.zero_le _, Nat.zero_le _⟩) hS (fun q _ h => hFc q h) hFc (fun v2 u2 t H locs ht hvm hw hB hz1 hk1 hS9 => ?_)
  replace hP := zkeep hP hk1
  replace hS := hS9
  clear hPc hDc hFc hk1 hz1 hvm hS9
  obtain ⟨f2_0, f2_1, f2_2, f2_3⟩ : (0 ≤ v2.toInt) ∧ (v2.toInt ≤ 1) ∧ (¬ v2.toInt = 0 → (0 ≤ p0.toInt ∧ p0.toInt < nb.toInt)) ∧ (v2.toInt = 0 → ¬ (0 ≤ p0.toInt ∧ p0.toInt < nb.toInt)) := hw
  refine lv_if_ne (tgt := 14) hx hb dX10_wed_5 (by decide) (fun c5 => ?_) (fun c5 => ?_)
  · have c5 : ¬ v2.toInt = 0 := z6 rfl (by decide) c5
    refine lv_aload_n hx hb dX10_wed_14 rfl (lv_at hl 0 rfl) ?_
    refine va_get (D := (dC, dI)) (ci := 10) (v := .ref g0) (C := RX10) (T := TX10) (N := 17) hx hb hts iX10 hown hK hP 0 rfl rfl 6 (by decide) (hts _ qw362) (fun _ h9 => h9) rfl dX10_wed_15 ?_
    refine va_get (D := (dC, dI)) (ci := 7) (v := .int gwd) (C := RX7) (T := TX7) (N := 9) hx hb hts iX7 hown hK hP 3 rfl rfl 6 (by decide) (hts _ qw237) (fun _ h9 => h9) rfl dX10_wed_18 ?_
    refine lv_iconst (v := (-1)) hx hb dX10_wed_21 (by decide) ?_
    refine lv_icmp_eq (tgt := 31) hx hb dX10_wed_22 (by decide) (fun c22 => ?_) (fun c22 => ?_)
    · have c22 : gwd.toInt = (-1) := z5 rfl (by decide) c22
      refine lv_aload_n hx hb dX10_wed_31 rfl (lv_at hl 0 rfl) ?_
      refine va_get (D := (dC, dI)) (ci := 10) (v := .ref ac) (C := RX10) (T := TX10) (N := 17) hx hb hts iX10 hown hK hP 0 rfl rfl 8 (by decide) (hts _ qw364) (fun _ h9 => h9) rfl dX10_wed_32 ?_
      refine lv_aload_n hx hb dX10_wed_35 rfl (lv_at hl 0 rfl) ?_
      refine va_get (D := (dC, dI)) (ci := 10) (v := .ref g0) (C := RX10) (T := TX10) (N := 17) hx hb hts iX10 hown hK hP 0 rfl rfl 6 (by decide) (hts _ qw362) (fun _ h9 => h9) rfl dX10_wed_36 ?_
      obtain ⟨hPc, hDc, hFc⟩ := zc3 (wc := [(ac, .inr (0, [.ref aW, .int pl, .int cn])), (aW, .inl (cI, 680, .inl fR)), (g0, .inr (7, [.ref gY, .ref gF, .ref gP, .int gpn, .int glt, .int gsh, .int gwd, .int gpu, .int gmo])), (gY, .inl (cI, 6, .inl gfY)), (gF, .inl (cI, 5, .inl gfF))]) hP hD hS hA [6, 7, 3, 4, 5] (by decide +kernel) rfl
      refine va_callv (va_runV (As := [.ref g0]) (rest := []) ⟨hx, hb, hml, hown, hts⟩ (g_X0_keep l dC dI cI cJ ac g0 aW pl cn fR gY gF gP gpn glt gsh gwd gpu gmo gfY gfF H.size n_cn y_gpn n_gwd n_pl ci_fR_zRw) (cwV 1 hts (zgV qw688 qw689 qw690 qw104 qw691) rfl rfl rfl hd_X0_keep ⟨by rw [hR]; exact Nat.le_of_ble_eq_true rfl, by rw [hR]; exact Nat.le_of_ble_eq_true rfl⟩) (zPV hPc hK hDc (va_recv (q := (RX0, TX0, 3)) hK hP (ci := 0) (q0 := 6) rfl rfl)) rfl rfl hl.1 rfl (lv_room (Nat.le_of_ble_eq_true rfl)) dX10_wed_39 ⟨Nat.zero_le _, Nat.zero_le _⟩) hS (fun q _ h => hFc q h) hFc (fun u39 t H locs ht hvm hw hB hz1 hk1 hS9 => ?_)
      obtain ⟨u39_0, u39_1, u39_2⟩ := u39
      obtain ⟨hP9, hD9⟩ := zj2 (wX := [(h0, .inr (10, [.ref tp, h0_courtReader, h0_lawReader, h0_draft, .ref aC, h0_laws, .ref g0, .ref k0, .ref ac, .ref sd, .ref mi, .ref dw, .ref rf, .int lc, .int lh, .int br, .int hi])), (aC, .inr (1, [.ref aR, .ref aB, .ref aP, .int nb, .int np])), (aB, .inl (cI, 24, .inl fb)), (g0, .inr (7, [.ref gY, .ref gF, .ref gP, .int gpn, .int glt, .int gsh, .int gwd, .int gpu, .int gmo])), (gY, .inl (cI, 6, .inl gfY)), (gF, .inl (cI, 5, .inl gfF)), (ac, .inr (0, [.ref aW, .int u39_0, .int u39_1])), (aW, .inl (cI, 680, .inl u39_2)), (rf, .inl (cI, 5, .inl frf))]) hP hD hk1 hFc ht hB [6, 7, 3, 4, 5] [(false, 0), (false, 1), (false, 2), (true, 2), (true, 3), (true, 4), (true, 0), (true, 1), (false, 8)] rfl (by decide +kernel) (by decide +kernel) rfl
      clear hP hD hS hPc hDc hFc hB hk1 hz1 hvm
      have hP := hP9
      have hD := hD9
      have hS := hS9
      clear hP9 hD9 hS9
      obtain ⟨f39_0, f39_1, f39_2, f39_3, f39_4, f39_5⟩ : (0 ≤ u39_0.toInt) ∧ (u39_0.toInt ≤ 39) ∧ (1 ≤ u39_1.toInt) ∧ (u39_1.toInt ≤ 40) ∧ (∀ (nbI npI : Int) (S : zS) (Ks : List zS) (P : Nat → Int32), nbI ≤ 6 → npI ≤ 5 → zSc nbI npI S gfY gfF P gpn glt gsh gwd gpu gmo → zKc nbI npI Ks P fR pl cn → zKc nbI npI (sKeep S Ks) P u39_2 u39_0 u39_1) ∧ (zRw u39_2) := hw
      have F39 := f39_4
      refine lv_aload_n hx hb dX10_wed_42 rfl (lv_at hl 0 rfl) ?_
      refine va_get (D := (dC, dI)) (ci := 10) (v := .ref g0) (C := RX10) (T := TX10) (N := 17) hx hb hts iX10 hown hK hP 0 rfl rfl 6 (by decide) (hts _ qw362) (fun _ h9 => h9) rfl dX10_wed_43 ?_
      refine lv_iload_n hx hb dX10_wed_46 rfl (lv_at hl 1 rfl) ?_
      refine va_put (D := (dC, dI)) (ci := 7) (v := .int p0) (ty := .int) (C := RX7) (T := TX7) (N := 9) hx hb hts iX7 tyX7 tyX7_ok nmX7 hown hK hP hD hS 3 rfl rfl 6 (by decide) (hts _ qw237) (fun _ h9 => h9) rfl (by decide +kernel) rfl rfl (Nat.le_of_ble_eq_true rfl) dX10_wed_47 (fun H locs hP9 hD9 hS9 => ?_)
      clear hP hD hS
      obtain ⟨hP, hD⟩ := zst (wX := [(h0, .inr (10, [.ref tp, h0_courtReader, h0_lawReader, h0_draft, .ref aC, h0_laws, .ref g0, .ref k0, .ref ac, .ref sd, .ref mi, .ref dw, .ref rf, .int lc, .int lh, .int br, .int hi])), (aC, .inr (1, [.ref aR, .ref aB, .ref aP, .int nb, .int np])), (aB, .inl (cI, 24, .inl fb)), (g0, .inr (7, [.ref gY, .ref gF, .ref gP, .int gpn, .int glt, .int gsh, .int p0, .int gpu, .int gmo])), (gY, .inl (cI, 6, .inl gfY)), (gF, .inl (cI, 5, .inl gfF)), (ac, .inr (0, [.ref aW, .int u39_0, .int u39_1])), (aW, .inl (cI, 680, .inl u39_2)), (rf, .inl (cI, 5, .inl frf))]) hP9 hD9 rfl
      have hS := hS9
      clear hP9 hD9 hS9
      refine lv_aload_n hx hb dX10_wed_50 rfl (lv_at hl 0 rfl) ?_
      refine va_get (D := (dC, dI)) (ci := 10) (v := .ref g0) (C := RX10) (T := TX10) (N := 17) hx hb hts iX10 hown hK hP 0 rfl rfl 6 (by decide) (hts _ qw362) (fun _ h9 => h9) rfl dX10_wed_51 ?_
      refine lv_sipush (v := 999) hx hb dX10_wed_54 (by decide) ?_
      refine lv_aload_n hx hb dX10_wed_57 rfl (lv_at hl 0 rfl) ?_
      refine va_get (D := (dC, dI)) (ci := 10) (v := .ref g0) (C := RX10) (T := TX10) (N := 17) hx hb hts iX10 hown hK hP 0 rfl rfl 6 (by decide) (hts _ qw362) (fun _ h9 => h9) rfl dX10_wed_58 ?_
      refine va_get (D := (dC, dI)) (ci := 7) (v := .int gpu) (C := RX7) (T := TX7) (N := 9) hx hb hts iX7 hown hK hP 3 rfl rfl 7 (by decide) (hts _ qw239) (fun _ h9 => h9) rfl dX10_wed_61 ?_
      refine lv_aload_n hx hb dX10_wed_64 rfl (lv_at hl 0 rfl) ?_
      refine va_get (D := (dC, dI)) (ci := 10) (v := .ref aC) (C := RX10) (T := TX10) (N := 17) hx hb hts iX10 hown hK hP 0 rfl rfl 4 (by decide) (hts _ qw360) (fun _ h9 => h9) rfl dX10_wed_65 ?_
      refine lv_iload_n hx hb dX10_wed_68 rfl (lv_at hl 1 rfl) ?_
      obtain ⟨hPc, hDc⟩ := zc2 (wc := [(aC, .inr (1, [.ref aR, .ref aB, .ref aP, .int nb, .int np])), (aB, .inl (cI, 24, .inl fb))]) hP hD [1, 2] (by decide +kernel) rfl
      have hFc := zfr hS hA
      refine va_calli (va_runV (As := [.int p0]) (rest := [.int gpu, .int 999, .ref g0]) ⟨hx, hb, hml, hown, hts⟩ (g_X1_dowryOf l dC dI cI cJ aC p0 aR aB aP nb np fb H.size (by omega)) (cwV 1 hts (zgV qw738 qw739 qw740 qw102 qw741) rfl rfl rfl hd_X1_dowryOf ⟨by rw [hR]; exact Nat.le_of_ble_eq_true rfl, by rw [hR]; exact Nat.le_of_ble_eq_true rfl⟩) (zPV hPc hK hDc (va_recv (q := (RX1, TX1, 5)) hK hP (ci := 1) (q0 := 1) rfl rfl)) rfl rfl hl.1 rfl (lv_room (Nat.le_of_ble_eq_true rfl)) dX10_wed_69 ⟨Nat.zero_le _, Nat.zero_le _⟩) hS (fun q _ h => hFc q h) hFc (fun v69 u69 t H locs ht hvm hw hB hz1 hk1 hS9 => ?_)
      replace hP := zkeep hP hk1
      replace hS := hS9
      clear hPc hDc hFc hk1 hz1 hvm hS9
      have f69_0 : (v69 = fb (4 * p0.toInt.toNat + 1)) := hw
      have F69 := f69_0
      refine lv_bipush (v := 10) hx hb dX10_wed_72 (by decide) ?_
      refine lv_idiv hx hb dX10_wed_74 (by decide) ?_
      refine lv_topi (fun v74 e74 => ?_)
      refine lv_iadd hx hb dX10_wed_75 ?_
      refine lv_topi (fun v75 e75 => ?_)
      refine va_mmin hx hb (by rw [hml]; exact hl.1.symm) hown (hts _ qw742) (hts _ qw569) (hts _ qw112) (hts _ qw570) (by rw [hR]; exact Nat.le_of_ble_eq_true rfl) (by rw [hR]; exact Nat.le_of_ble_eq_true rfl) (Nat.zero_le _) (Nat.zero_le _) dX10_wed_76 ?_
      refine lv_topi (fun v76 e76 => ?_)
      have zc76_0 : (999 : Int32).toInt = 999 := by decide
      have i76 := zmmin e76
      refine va_put (D := (dC, dI)) (ci := 7) (v := .int v76) (ty := .int) (C := RX7) (T := TX7) (N := 9) hx hb hts iX7 tyX7 tyX7_ok nmX7 hown hK hP hD hS 3 rfl rfl 7 (by decide) (hts _ qw239) (fun _ h9 => h9) rfl (by decide +kernel) rfl rfl (Nat.le_of_ble_eq_true rfl) dX10_wed_79 (fun H locs hP9 hD9 hS9 => ?_)
      clear hP hD hS
      obtain ⟨hP, hD⟩ := zst (wX := [(h0, .inr (10, [.ref tp, h0_courtReader, h0_lawReader, h0_draft, .ref aC, h0_laws, .ref g0, .ref k0, .ref ac, .ref sd, .ref mi, .ref dw, .ref rf, .int lc, .int lh, .int br, .int hi])), (aC, .inr (1, [.ref aR, .ref aB, .ref aP, .int nb, .int np])), (aB, .inl (cI, 24, .inl fb)), (g0, .inr (7, [.ref gY, .ref gF, .ref gP, .int gpn, .int glt, .int gsh, .int p0, .int v76, .int gmo])), (gY, .inl (cI, 6, .inl gfY)), (gF, .inl (cI, 5, .inl gfF)), (ac, .inr (0, [.ref aW, .int u39_0, .int u39_1])), (aW, .inl (cI, 680, .inl u39_2)), (rf, .inl (cI, 5, .inl frf))]) hP9 hD9 rfl
      have hS := hS9
      clear hP9 hD9 hS9
      refine lv_aload_n hx hb dX10_wed_82 rfl (lv_at hl 0 rfl) ?_
      refine va_get (D := (dC, dI)) (ci := 10) (v := .ref g0) (C := RX10) (T := TX10) (N := 17) hx hb hts iX10 hown hK hP 0 rfl rfl 6 (by decide) (hts _ qw362) (fun _ h9 => h9) rfl dX10_wed_83 ?_
      refine va_get (D := (dC, dI)) (ci := 7) (v := .int v76) (C := RX7) (T := TX7) (N := 9) hx hb hts iX7 hown hK hP 3 rfl rfl 7 (by decide) (hts _ qw239) (fun _ h9 => h9) rfl dX10_wed_86 ?_
      rw [hQ]
      exact W.iret (v := v76) hx hb hr (fun t ht hW => ⟨⟨v76, (p0, v76, u39_0, u39_1, u39_2, frf), rfl, ⟨by (try dsimp only); omega, by (try dsimp only); omega, by (try dsimp only); omega, by (try dsimp only); omega, by (try dsimp only); omega, by (try dsimp only); omega, by (try dsimp only); omega, by (try dsimp only); exact fun kc kT q_fr q_fp q_gfP hc hb h => by have zw := congrArg Int32.toInt (zSc_wd h.1); have y69 : v69 = kc.2.1 (4 * p0.toInt.toNat + 1) := F69.trans (hc.2.1 _ (by omega)); have y76 : v76 = sMin 999 (gpu + kc.2.1 (4 * p0.toInt.toNat + 1) / 10) := (by unfold sMin; rw [e76, e75, e74, y69]); exact zActA (by unfold sW_wed; exact (if_neg (by omega)).trans (if_neg (by omega))) hb.2 h (F39 _ _ kT.1 kT.2.1 _ hb.2.1.2 hb.2.2.1.2 h.1 h.2.1) (zSc_W h.1 y76) (fun _ _ => rfl) (by rw [zSc_pu h.1]; exact y76), f39_5⟩, ⟨by rw [ht]; exact hP, hD⟩⟩, hS.F ht⟩) hS.2.2 dX10_wed_89
    · have c22 : ¬ gwd.toInt = (-1) := z6 rfl (by decide) c22
      refine lv_aload_n hx hb dX10_wed_25 rfl (lv_at hl 0 rfl) ?_
      refine lv_iconst (v := 3) hx hb dX10_wed_26 (by decide) ?_
      obtain ⟨hPc, hDc, hFc⟩ := zc3 (wc := [(h0, .inr (10, [.ref tp, h0_courtReader, h0_lawReader, h0_draft, .ref aC, h0_laws, .ref g0, .ref k0, .ref ac, .ref sd, .ref mi, .ref dw, .ref rf, .int lc, .int lh, .int br, .int hi])), (rf, .inl (cI, 5, .inl frf))]) hP hD hS hA [0, 8] (by decide +kernel) rfl
      refine va_calli (va_runV (As := [.int 3]) (rest := []) ⟨hx, hb, hml, hown, hts⟩ (g_X10_refuse l dC dI cI cJ h0 3 tp h0_courtReader h0_lawReader h0_draft aC h0_laws g0 k0 ac sd mi dw rf lc lh br hi frf H.size y_hi y_lc (by decide)) (cwV 1 hts (zgV qw684 qw686 qw13 qw98 qw687) rfl rfl rfl hd_X10_refuse ⟨by rw [hR]; exact Nat.le_of_ble_eq_true rfl, by rw [hR]; exact Nat.le_of_ble_eq_true rfl⟩) (zPV hPc hK hDc (va_recv (q := (RX10, TX10, 17)) hK hP (ci := 10) (q0 := 0) rfl rfl)) rfl rfl hl.1 rfl (lv_room (Nat.le_of_ble_eq_true rfl)) dX10_wed_27 ⟨Nat.zero_le _, Nat.zero_le _⟩) hS (fun q _ h => hFc q h) hFc (fun v27 u27 t H locs ht hvm hw hB hz1 hk1 hS9 => ?_)
      obtain ⟨u27_0, rfl⟩ : ∃ z, z = u27 := ⟨_, rfl⟩
      obtain ⟨hP9, hD9⟩ := zj2 (wX := [(h0, .inr (10, [.ref tp, h0_courtReader, h0_lawReader, h0_draft, .ref aC, h0_laws, .ref g0, .ref k0, .ref ac, .ref sd, .ref mi, .ref dw, .ref rf, .int lc, .int lh, .int br, .int hi])), (aC, .inr (1, [.ref aR, .ref aB, .ref aP, .int nb, .int np])), (aB, .inl (cI, 24, .inl fb)), (g0, .inr (7, [.ref gY, .ref gF, .ref gP, .int gpn, .int glt, .int gsh, .int gwd, .int gpu, .int gmo])), (gY, .inl (cI, 6, .inl gfY)), (gF, .inl (cI, 5, .inl gfF)), (ac, .inr (0, [.ref aW, .int pl, .int cn])), (aW, .inl (cI, 680, .inl fR)), (rf, .inl (cI, 5, .inl u27_0))]) hP hD hk1 hFc ht hB [0, 8] [(true, 0), (false, 1), (false, 2), (false, 3), (false, 4), (false, 5), (false, 6), (false, 7), (true, 1)] rfl (by decide +kernel) (by decide +kernel) rfl
      clear hP hD hS hPc hDc hFc hB hk1 hz1 hvm
      have hP := hP9
      have hD := hD9
      have hS := hS9
      clear hP9 hD9 hS9
      obtain ⟨hwc, hw⟩ := hw
      have hwc : v27 = (-1) := hwc
      subst hwc
      have zn27_3 : (3 : Int32).toInt = 3 := by decide
      have f27_0 : (zRf frf u27_0 (3 : Int32).toInt) := hw
      have F27 := f27_0
      have zr0 : ((-1) : Int32).toInt = (-1) := by decide
      rw [hQ]
      exact W.iret (v := ((-1))) hx hb hr (fun t ht hW => ⟨⟨(-1), (gwd, gpu, pl, cn, fR, u27_0), rfl, ⟨by (try dsimp only); omega, by (try dsimp only); omega, by (try dsimp only); omega, by (try dsimp only); omega, by (try dsimp only); omega, by (try dsimp only); omega, by (try dsimp only); omega, by (try dsimp only); exact fun kc kT q_fr q_fp q_gfP hc hb h => by have zw := congrArg Int32.toInt (zSc_wd h.1); exact zActR (x := (3 : Int32).toInt) (by unfold sW_wed; exact ((if_neg (by omega)).trans (if_pos (by omega))).trans (by omega)) (by omega) h F27, ci_fR_zRw⟩, ⟨by rw [ht]; exact hP, hD⟩⟩, hS.F ht⟩) hS.2.2 dX10_wed_30
  · have c5 : v2.toInt = 0 := z5 rfl (by decide) c5
    refine lv_aload_n hx hb dX10_wed_8 rfl (lv_at hl 0 rfl) ?_
    refine lv_iconst (v := 0) hx hb dX10_wed_9 (by decide) ?_
    obtain ⟨hPc, hDc, hFc⟩ := zc3 (wc := [(h0, .inr (10, [.ref tp, h0_courtReader, h0_lawReader, h0_draft, .ref aC, h0_laws, .ref g0, .ref k0, .ref ac, .ref sd, .ref mi, .ref dw, .ref rf, .int lc, .int lh, .int br, .int hi])), (rf, .inl (cI, 5, .inl frf))]) hP hD hS hA [0, 8] (by decide +kernel) rfl
    refine va_calli (va_runV (As := [.int 0]) (rest := []) ⟨hx, hb, hml, hown, hts⟩ (g_X10_refuse l dC dI cI cJ h0 0 tp h0_courtReader h0_lawReader h0_draft aC h0_laws g0 k0 ac sd mi dw rf lc lh br hi frf H.size y_hi y_lc (by decide)) (cwV 1 hts (zgV qw684 qw686 qw13 qw98 qw687) rfl rfl rfl hd_X10_refuse ⟨by rw [hR]; exact Nat.le_of_ble_eq_true rfl, by rw [hR]; exact Nat.le_of_ble_eq_true rfl⟩) (zPV hPc hK hDc (va_recv (q := (RX10, TX10, 17)) hK hP (ci := 10) (q0 := 0) rfl rfl)) rfl rfl hl.1 rfl (lv_room (Nat.le_of_ble_eq_true rfl)) dX10_wed_10 ⟨Nat.zero_le _, Nat.zero_le _⟩) hS (fun q _ h => hFc q h) hFc (fun v10 u10 t H locs ht hvm hw hB hz1 hk1 hS9 => ?_)
    obtain ⟨u10_0, rfl⟩ : ∃ z, z = u10 := ⟨_, rfl⟩
    obtain ⟨hP9, hD9⟩ := zj2 (wX := [(h0, .inr (10, [.ref tp, h0_courtReader, h0_lawReader, h0_draft, .ref aC, h0_laws, .ref g0, .ref k0, .ref ac, .ref sd, .ref mi, .ref dw, .ref rf, .int lc, .int lh, .int br, .int hi])), (aC, .inr (1, [.ref aR, .ref aB, .ref aP, .int nb, .int np])), (aB, .inl (cI, 24, .inl fb)), (g0, .inr (7, [.ref gY, .ref gF, .ref gP, .int gpn, .int glt, .int gsh, .int gwd, .int gpu, .int gmo])), (gY, .inl (cI, 6, .inl gfY)), (gF, .inl (cI, 5, .inl gfF)), (ac, .inr (0, [.ref aW, .int pl, .int cn])), (aW, .inl (cI, 680, .inl fR)), (rf, .inl (cI, 5, .inl u10_0))]) hP hD hk1 hFc ht hB [0, 8] [(true, 0), (false, 1), (false, 2), (false, 3), (false, 4), (false, 5), (false, 6), (false, 7), (true, 1)] rfl (by decide +kernel) (by decide +kernel) rfl
    clear hP hD hS hPc hDc hFc hB hk1 hz1 hvm
    have hP := hP9
    have hD := hD9
    have hS := hS9
    clear hP9 hD9 hS9
    obtain ⟨hwc, hw⟩ := hw
    have hwc : v10 = (-1) := hwc
    subst hwc
    have zn10_0 : (0 : Int32).toInt = 0 := by decide
    have f10_0 : (zRf frf u10_0 (0 : Int32).toInt) := hw
    have F10 := f10_0
    have zr0 : ((-1) : Int32).toInt = (-1) := by decide
    rw [hQ]
    exact W.iret (v := ((-1))) hx hb hr (fun t ht hW => ⟨⟨(-1), (gwd, gpu, pl, cn, fR, u10_0), rfl, ⟨by (try dsimp only); omega, by (try dsimp only); omega, by (try dsimp only); omega, by (try dsimp only); omega, by (try dsimp only); omega, by (try dsimp only); omega, by (try dsimp only); omega, by (try dsimp only); exact fun kc kT q_fr q_fp q_gfP hc hb h => zActR (x := (0 : Int32).toInt) (by unfold sW_wed; exact (if_pos (by omega)).trans (by omega)) (by omega) h F10, ci_fR_zRw⟩, ⟨by rw [ht]; exact hP, hD⟩⟩, hS.F ht⟩) hS.2.2 dX10_wed_13
set_option maxHeartbeats 4000000 in
set_option maxRecDepth 100000 in
theorem g_X10_looked (l : Launch) (dC : Nat → ClassId) (dI : Nat → Nat → Nat) (cI cJ : ClassId) (h0 : Nat) (p0 : Int32) (tp : Nat) (h0_courtReader : Value) (h0_lawReader : Value) (h0_draft : Value) (aC : Nat) (h0_laws : Value) (g0 : Nat) (k0 : Nat) (ac : Nat) (sd : Nat) (mi : Nat) (dw : Nat) (rf : Nat) (lc : Int32) (lh : Int32) (br : Int32) (hi : Int32) (gY : Nat) (gF : Nat) (gP : Nat) (gpn : Int32) (glt : Int32) (gsh : Int32) (gwd : Int32) (gpu : Int32) (gmo : Int32) (gfP : Nat → Int32) (sz : Nat) (n_gpn : 0 ≤ gpn.toInt ∧ gpn.toInt ≤ 20) (n_gwd : (-1) ≤ gwd.toInt ∧ gwd.toInt ≤ 5) (n_hi : 0 ≤ hi.toInt ∧ hi.toInt ≤ 1) (n_lc : 0 ≤ lc.toInt ∧ lc.toInt ≤ 4) (n_p0 : 0 ≤ p0.toInt ∧ p0.toInt ≤ 5)  (ci_gfP_zPo : zPo gfP)  : Met l yX10_looked (.code yX10_looked cX10_looked 3 (some .int) :: wA) ({ frames := 2, cells := 0, slots := 0, locals := 45 }) (zP (dC, dI) [(cI, .int), (cJ, .long)] [.ref h0, .int p0] sz [(h0, .inr (10, [.ref tp, h0_courtReader, h0_lawReader, h0_draft, .ref aC, h0_laws, .ref g0, .ref k0, .ref ac, .ref sd, .ref mi, .ref dw, .ref rf, .int lc, .int lh, .int br, .int hi])), (g0, .inr (7, [.ref gY, .ref gF, .ref gP, .int gpn, .int glt, .int gsh, .int gwd, .int gpu, .int gmo])), (gP, .inl (cI, 80, .inl gfP))]) (va_Qi (fun (r : Int32) (u : Unit) => (r = zLkd gfP p0 gpn.toInt.toNat)) (fun (_ : Unit) (_ : State) => True) (va_A [] sz)) 0 0 (va_A [] sz) := by
  refine Met.ofW (cc := cX10_looked) (maxL := 3) (ret := (some .int)) (by decide) rfl ?_
  intro p e s m args below meth c s₁ B hml hv
  have y_gwd : zHid ((-1) ≤ gwd.toInt ∧ gwd.toInt ≤ 5) := n_gwd
  have y_hi : zHid (0 ≤ hi.toInt ∧ hi.toInt ≤ 1) := n_hi
  have y_lc : zHid (0 ≤ lc.toInt ∧ lc.toInt ≤ 4) := n_lc
  clear n_gwd n_hi n_lc
  obtain ⟨hargs, hsz, hP, hK, hT⟩ := hv
  have hx := B.exec
  have hb := B.bytes
  have hr := B.returns
  have hts : ∀ w ∈ wA, w.before args s = true := fun w h => atoms_spec (ws := .code yX10_looked cX10_looked 3 (some .int) :: wA) B.pre w (List.mem_cons_of_mem _ h)
  have hown : s.vm.findClass RX10 = some m.cls := findClass_of_methodNamed B.named
  have hlocks := B.notSynchronized
  subst hsz
  have hD : va_D (va_A [] s.heap.size) [] := zD0
  generalize hAe : va_A [] s.heap.size = A at hD ⊢
  have hA : ∀ q : Nat, s.heap.size ≤ q → A q := fun q h => by rw [← hAe]; exact Or.inr h
  have hl := lv_entry ([.ref h0, .int p0]) (n := 3) (Nat.le_of_ble_eq_true rfl)
  rw [show entryFrame m args 3 = entryFrame m ([.ref h0, .int p0] : List Value).toArray 3 by rw [hargs], lg_entry_eq]
  generalize (lg_sl ([.ref h0, .int p0]) ++ List.replicate (3 - (lg_sl ([.ref h0, .int p0])).length) Slot.unset).toArray = ls at hl ⊢
  have hl : lv_has ls 3 [(0, .ref h0), (1, .int p0)] := hl
  refine zstart (fun H hH => ?_)
  rw [← hH] at hP
  have hS : va_S A s.heap H [] := by rw [hH]; exact va_S.rf
  generalize ([] : List Loc) = locs at hS ⊢
  refine zgen (fun R Q hR hQ => ?_)
  refine lv_aload_n hx hb dX10_looked_0 rfl (lv_at hl 0 rfl) ?_
  refine va_get (D := (dC, dI)) (ci := 10) (v := .ref g0) (C := RX10) (T := TX10) (N := 17) hx hb hts iX10 hown hK hP 0 rfl rfl 6 (by decide) (hts _ qw362) (fun _ h9 => h9) rfl dX10_looked_1 ?_
  refine lv_iload_n hx hb dX10_looked_4 rfl (lv_at hl 1 rfl) ?_
  obtain ⟨hPc, hDc⟩ := zc2 (wc := [(g0, .inr (7, [.ref gY, .ref gF, .ref gP, .int gpn, .int glt, .int gsh, .int gwd, .int gpu, .int gmo])), (gP, .inl (cI, 80, .inl gfP))]) hP hT [1, 2] (by decide +kernel) rfl
  have hFc := zfr hS hA
  refine va_calli (va_runV (As := [.int p0]) (rest := []) ⟨hx, hb, hml, hown, hts⟩ (g_X7_portraitsOf l dC dI cI cJ g0 p0 gY gF gP gpn glt gsh gwd gpu gmo gfP H.size n_gpn ci_gfP_zPo) (cwV 1 hts (zgV qw751 qw752 qw753 qw103 qw754) rfl rfl rfl hd_X7_portraitsOf ⟨by rw [hR]; exact Nat.le_of_ble_eq_true rfl, by rw [hR]; exact Nat.le_of_ble_eq_true rfl⟩) (zPV hPc hK hDc (va_recv (q := (RX7, TX7, 9)) hK hP (ci := 7) (q0 := 1) rfl rfl)) rfl rfl hl.1 rfl (lv_room (Nat.le_of_ble_eq_true rfl)) dX10_looked_5 ⟨Nat.zero_le _, Nat.zero_le _⟩) hS (fun q _ h => hFc q h) hFc (fun v5 u5 t H locs ht hvm hw hB hz1 hk1 hS9 => ?_)
  replace hP := zkeep hP hk1
  replace hS := hS9
  clear hPc hDc hFc hk1 hz1 hvm hS9
  have f5_0 : (v5 = zCnt gfP p0 gpn.toInt.toNat) := hw
  have F5 := f5_0
  refine lv_istore_n (lv' := [(2, .int v5), (0, .ref h0), (1, .int p0)]) hx hb dX10_looked_8 rfl hl (by decide) rfl (fun ls hl => ?_)
  refine lv_iload_n hx hb dX10_looked_9 rfl (lv_at hl 0 rfl) ?_
  refine lv_if_ne (tgt := 17) hx hb dX10_looked_10 (by decide) (fun c10 => ?_) (fun c10 => ?_)
  · have c10 : ¬ v5.toInt = 0 := z6 rfl (by decide) c10
    refine lv_aload_n hx hb dX10_looked_17 rfl (lv_at hl 1 rfl) ?_
    refine va_get (D := (dC, dI)) (ci := 10) (v := .ref g0) (C := RX10) (T := TX10) (N := 17) hx hb hts iX10 hown hK hP 0 rfl rfl 6 (by decide) (hts _ qw362) (fun _ h9 => h9) rfl dX10_looked_18 ?_
    refine lv_iload_n hx hb dX10_looked_21 rfl (lv_at hl 2 rfl) ?_
    obtain ⟨hPc, hDc⟩ := zc2 (wc := [(g0, .inr (7, [.ref gY, .ref gF, .ref gP, .int gpn, .int glt, .int gsh, .int gwd, .int gpu, .int gmo])), (gP, .inl (cI, 80, .inl gfP))]) hP hT [1, 2] (by decide +kernel) rfl
    have hFc := zfr hS hA
    refine va_calli (va_runV (As := [.int p0]) (rest := []) ⟨hx, hb, hml, hown, hts⟩ (g_X7_shownTogether l dC dI cI cJ g0 p0 gY gF gP gpn glt gsh gwd gpu gmo gfP H.size n_gpn ci_gfP_zPo) (cwV 1 hts (zgV qw755 qw756 qw757 qw103 qw758) rfl rfl rfl hd_X7_shownTogether ⟨by rw [hR]; exact Nat.le_of_ble_eq_true rfl, by rw [hR]; exact Nat.le_of_ble_eq_true rfl⟩) (zPV hPc hK hDc (va_recv (q := (RX7, TX7, 9)) hK hP (ci := 7) (q0 := 1) rfl rfl)) rfl rfl hl.1 rfl (lv_room (Nat.le_of_ble_eq_true rfl)) dX10_looked_22 ⟨Nat.zero_le _, Nat.zero_le _⟩) hS (fun q _ h => hFc q h) hFc (fun v22 u22 t H locs ht hvm hw hB hz1 hk1 hS9 => ?_)
    replace hP := zkeep hP hk1
    replace hS := hS9
    clear hPc hDc hFc hk1 hz1 hvm hS9
    have f22_0 : (v22 = zSum gfP p0 gpn.toInt.toNat) := hw
    have F22 := f22_0
    refine lv_iload_n hx hb dX10_looked_25 rfl (lv_at hl 0 rfl) ?_
    refine lv_idiv hx hb dX10_looked_26 (z0 (by omega)) ?_
    refine lv_topi (fun v26 e26 => ?_)
    rw [hQ]
    exact W.iret (v := v26) hx hb hr (fun t ht hW => ⟨⟨v26, (), rfl, (by unfold zLkd; rw [← F5, ← F22]; exact e26.trans (if_neg (by omega)).symm), trivial⟩, hS.F ht⟩) hS.2.2 dX10_looked_27
  · have c10 : v5.toInt = 0 := z5 rfl (by decide) c10
    refine lv_iconst (v := 0) hx hb dX10_looked_13 (by decide) ?_
    refine lv_goto (tgt := 27) hx hb dX10_looked_14 (by decide) ?_
    have zr0 : (0 : Int32).toInt = 0 := by decide
    rw [hQ]
    exact W.iret (v := 0) hx hb hr (fun t ht hW => ⟨⟨0, (), rfl, (by unfold zLkd; rw [← F5]; exact (if_pos (by omega)).symm), trivial⟩, hS.F ht⟩) hS.2.2 dX10_looked_27
set_option maxHeartbeats 4000000 in
set_option maxRecDepth 100000 in
theorem g_X10_annul (l : Launch) (dC : Nat → ClassId) (dI : Nat → Nat → Nat) (cI cJ : ClassId) (h0 : Nat) (tp : Nat) (h0_courtReader : Value) (h0_lawReader : Value) (h0_draft : Value) (aC : Nat) (h0_laws : Value) (g0 : Nat) (k0 : Nat) (ac : Nat) (sd : Nat) (mi : Nat) (dw : Nat) (rf : Nat) (lc : Int32) (lh : Int32) (br : Int32) (hi : Int32) (aR : Nat) (aB : Nat) (aP : Nat) (nb : Int32) (np : Int32) (fb : Nat → Int32) (gY : Nat) (gF : Nat) (gP : Nat) (gpn : Int32) (glt : Int32) (gsh : Int32) (gwd : Int32) (gpu : Int32) (gmo : Int32) (gfY : Nat → Int32) (gfF : Nat → Int32) (gfP : Nat → Int32) (aW : Nat) (pl : Int32) (cn : Int32) (fR : Nat → Int32) (frf : Nat → Int32) (sz : Nat) (n_cn : 0 ≤ cn.toInt ∧ cn.toInt ≤ 40) (n_gpn : 0 ≤ gpn.toInt ∧ gpn.toInt ≤ 20) (n_gwd : (-1) ≤ gwd.toInt ∧ gwd.toInt ≤ 5) (n_hi : 0 ≤ hi.toInt ∧ hi.toInt ≤ 1) (n_lc : 0 ≤ lc.toInt ∧ lc.toInt ≤ 4) (n_nb : 0 ≤ nb.toInt ∧ nb.toInt ≤ 6) (n_np : 0 ≤ np.toInt ∧ np.toInt ≤ 5) (n_pl : 0 ≤ pl.toInt ∧ pl.toInt ≤ 39)  (ci_fR_zRw : zRw fR) (ci_gfP_zPo : zPo gfP)  : Met l yX10_annul (.code yX10_annul cX10_annul 2 (some .int) :: wA) ({ frames := 3, cells := 0, slots := 0, locals := 104 }) (zP (dC, dI) [(cI, .int), (cJ, .long)] [.ref h0] sz [(h0, .inr (10, [.ref tp, h0_courtReader, h0_lawReader, h0_draft, .ref aC, h0_laws, .ref g0, .ref k0, .ref ac, .ref sd, .ref mi, .ref dw, .ref rf, .int lc, .int lh, .int br, .int hi])), (aC, .inr (1, [.ref aR, .ref aB, .ref aP, .int nb, .int np])), (aB, .inl (cI, 24, .inl fb)), (g0, .inr (7, [.ref gY, .ref gF, .ref gP, .int gpn, .int glt, .int gsh, .int gwd, .int gpu, .int gmo])), (gY, .inl (cI, 6, .inl gfY)), (gF, .inl (cI, 5, .inl gfF)), (gP, .inl (cI, 80, .inl gfP)), (ac, .inr (0, [.ref aW, .int pl, .int cn])), (aW, .inl (cI, 680, .inl fR)), (rf, .inl (cI, 5, .inl frf))]) (va_Qi (fun (r : Int32) (u : Int32 × Int32 × Int32 × (Nat → Int32) × (Nat → Int32)) => ((-1) ≤ r.toInt) ∧ (r.toInt ≤ 5) ∧ ((-1) ≤ u.1.toInt) ∧ (u.1.toInt ≤ 5) ∧ (0 ≤ u.2.1.toInt) ∧ (u.2.1.toInt ≤ 39) ∧ (0 ≤ u.2.2.1.toInt) ∧ (u.2.2.1.toInt ≤ 40) ∧ (∀ (kc : zK3) (kT : zT) (q_fr : Nat → Int32) (q_fp : Nat → Int32), zCn q_fr fb q_fp nb.toInt np.toInt kc → zKo nb.toInt np.toInt kc kT → zTc nb.toInt np.toInt kT gfY gfF gfP gpn glt gsh gwd gpu gmo fR pl cn frf → r = sA (sW_ann nb.toInt kc kT.1) (kT.1.2.2.1.2.2) ∧ zTc nb.toInt np.toInt (sDo (sW_ann nb.toInt kc kT.1) kT (sN_ann kT.1)) gfY gfF gfP gpn glt gsh u.1 gpu gmo u.2.2.2.1 u.2.1 u.2.2.1 u.2.2.2.2) ∧ (zRw u.2.2.2.1)) (fun (u : Int32 × Int32 × Int32 × (Nat → Int32) × (Nat → Int32)) (t : State) => va_P (dC, dI) vwCl [(h0, .inr (10, [.ref tp, h0_courtReader, h0_lawReader, h0_draft, .ref aC, h0_laws, .ref g0, .ref k0, .ref ac, .ref sd, .ref mi, .ref dw, .ref rf, .int lc, .int lh, .int br, .int hi])), (aC, .inr (1, [.ref aR, .ref aB, .ref aP, .int nb, .int np])), (aB, .inl (cI, 24, .inl fb)), (g0, .inr (7, [.ref gY, .ref gF, .ref gP, .int gpn, .int glt, .int gsh, .int u.1, .int gpu, .int gmo])), (gY, .inl (cI, 6, .inl gfY)), (gF, .inl (cI, 5, .inl gfF)), (gP, .inl (cI, 80, .inl gfP)), (ac, .inr (0, [.ref aW, .int u.2.1, .int u.2.2.1])), (aW, .inl (cI, 680, .inl u.2.2.2.1)), (rf, .inl (cI, 5, .inl u.2.2.2.2))] t.heap ∧ va_D (va_A [(h0, .inr (10, [.ref tp, h0_courtReader, h0_lawReader, h0_draft, .ref aC, h0_laws, .ref g0, .ref k0, .ref ac, .ref sd, .ref mi, .ref dw, .ref rf, .int lc, .int lh, .int br, .int hi])), (aC, .inr (1, [.ref aR, .ref aB, .ref aP, .int nb, .int np])), (aB, .inl (cI, 24, .inl fb)), (g0, .inr (7, [.ref gY, .ref gF, .ref gP, .int gpn, .int glt, .int gsh, .int gwd, .int gpu, .int gmo])), (gY, .inl (cI, 6, .inl gfY)), (gF, .inl (cI, 5, .inl gfF)), (gP, .inl (cI, 80, .inl gfP)), (ac, .inr (0, [.ref aW, .int pl, .int cn])), (aW, .inl (cI, 680, .inl fR)), (rf, .inl (cI, 5, .inl frf))] sz) [(h0, .inr (10, [.ref tp, h0_courtReader, h0_lawReader, h0_draft, .ref aC, h0_laws, .ref g0, .ref k0, .ref ac, .ref sd, .ref mi, .ref dw, .ref rf, .int lc, .int lh, .int br, .int hi])), (aC, .inr (1, [.ref aR, .ref aB, .ref aP, .int nb, .int np])), (aB, .inl (cI, 24, .inl fb)), (g0, .inr (7, [.ref gY, .ref gF, .ref gP, .int gpn, .int glt, .int gsh, .int u.1, .int gpu, .int gmo])), (gY, .inl (cI, 6, .inl gfY)), (gF, .inl (cI, 5, .inl gfF)), (gP, .inl (cI, 80, .inl gfP)), (ac, .inr (0, [.ref aW, .int u.2.1, .int u.2.2.1])), (aW, .inl (cI, 680, .inl u.2.2.2.1)), (rf, .inl (cI, 5, .inl u.2.2.2.2))]) (va_A [(h0, .inr (10, [.ref tp, h0_courtReader, h0_lawReader, h0_draft, .ref aC, h0_laws, .ref g0, .ref k0, .ref ac, .ref sd, .ref mi, .ref dw, .ref rf, .int lc, .int lh, .int br, .int hi])), (aC, .inr (1, [.ref aR, .ref aB, .ref aP, .int nb, .int np])), (aB, .inl (cI, 24, .inl fb)), (g0, .inr (7, [.ref gY, .ref gF, .ref gP, .int gpn, .int glt, .int gsh, .int gwd, .int gpu, .int gmo])), (gY, .inl (cI, 6, .inl gfY)), (gF, .inl (cI, 5, .inl gfF)), (gP, .inl (cI, 80, .inl gfP)), (ac, .inr (0, [.ref aW, .int pl, .int cn])), (aW, .inl (cI, 680, .inl fR)), (rf, .inl (cI, 5, .inl frf))] sz)) 0 0 (va_A [(h0, .inr (10, [.ref tp, h0_courtReader, h0_lawReader, h0_draft, .ref aC, h0_laws, .ref g0, .ref k0, .ref ac, .ref sd, .ref mi, .ref dw, .ref rf, .int lc, .int lh, .int br, .int hi])), (aC, .inr (1, [.ref aR, .ref aB, .ref aP, .int nb, .int np])), (aB, .inl (cI, 24, .inl fb)), (g0, .inr (7, [.ref gY, .ref gF, .ref gP, .int gpn, .int glt, .int gsh, .int gwd, .int gpu, .int gmo])), (gY, .inl (cI, 6, .inl gfY)), (gF, .inl (cI, 5, .inl gfF)), (gP, .inl (cI, 80, .inl gfP)), (ac, .inr (0, [.ref aW, .int pl, .int cn])), (aW, .inl (cI, 680, .inl fR)), (rf, .inl (cI, 5, .inl frf))] sz) := by
  refine Met.ofW (cc := cX10_annul) (maxL := 2) (ret := (some .int)) (by decide) rfl ?_
  intro p e s m args below meth c s₁ B hml hv
  have y_hi : zHid (0 ≤ hi.toInt ∧ hi.toInt ≤ 1) := n_hi
  have y_lc : zHid (0 ≤ lc.toInt ∧ lc.toInt ≤ 4) := n_lc
  clear n_hi n_lc
  obtain ⟨hargs, hsz, hP, hK, hT⟩ := hv
  have hx := B.exec
  have hb := B.bytes
  have hr := B.returns
  have hts : ∀ w ∈ wA, w.before args s = true := fun w h => atoms_spec (ws := .code yX10_annul cX10_annul 2 (some .int) :: wA) B.pre w (List.mem_cons_of_mem _ h)
  have hown : s.vm.findClass RX10 = some m.cls := findClass_of_methodNamed B.named
  have hlocks := B.notSynchronized
  subst hsz
  have hD := hT.self (sz := s.heap.size)
  generalize hAe : va_A [(h0, .inr (10, [.ref tp, h0_courtReader, h0_lawReader, h0_draft, .ref aC, h0_laws, .ref g0, .ref k0, .ref ac, .ref sd, .ref mi, .ref dw, .ref rf, .int lc, .int lh, .int br, .int hi])), (aC, .inr (1, [.ref aR, .ref aB, .ref aP, .int nb, .int np])), (aB, .inl (cI, 24, .inl fb)), (g0, .inr (7, [.ref gY, .ref gF, .ref gP, .int gpn, .int glt, .int gsh, .int gwd, .int gpu, .int gmo])), (gY, .inl (cI, 6, .inl gfY)), (gF, .inl (cI, 5, .inl gfF)), (gP, .inl (cI, 80, .inl gfP)), (ac, .inr (0, [.ref aW, .int pl, .int cn])), (aW, .inl (cI, 680, .inl fR)), (rf, .inl (cI, 5, .inl frf))] s.heap.size = A at hD ⊢
  have hA : ∀ q : Nat, s.heap.size ≤ q → A q := fun q h => by rw [← hAe]; exact Or.inr h
  have hl := lv_entry ([.ref h0]) (n := 2) (Nat.le_of_ble_eq_true rfl)
  rw [show entryFrame m args 2 = entryFrame m ([.ref h0] : List Value).toArray 2 by rw [hargs], lg_entry_eq]
  generalize (lg_sl ([.ref h0]) ++ List.replicate (2 - (lg_sl ([.ref h0])).length) Slot.unset).toArray = ls at hl ⊢
  have hl : lv_has ls 2 [(0, .ref h0)] := hl
  refine zstart (fun H hH => ?_)
  rw [← hH] at hP
  have hS : va_S A s.heap H [] := by rw [hH]; exact va_S.rf
  generalize ([] : List Loc) = locs at hS ⊢
  refine zgen (fun R Q hR hQ => ?_)
  refine lv_aload_n hx hb dX10_annul_0 rfl (lv_at hl 0 rfl) ?_
  obtain ⟨hPc, hDc⟩ := zc2 (wc := [(h0, .inr (10, [.ref tp, h0_courtReader, h0_lawReader, h0_draft, .ref aC, h0_laws, .ref g0, .ref k0, .ref ac, .ref sd, .ref mi, .ref dw, .ref rf, .int lc, .int lh, .int br, .int hi])), (aC, .inr (1, [.ref aR, .ref aB, .ref aP, .int nb, .int np]))]) hP hD [0, 1] (by decide +kernel) rfl
  have hFc := zfr hS hA
  refine va_calli (va_runV (As := []) (rest := []) ⟨hx, hb, hml, hown, hts⟩ (g_X10_hasCourt l dC dI cI cJ h0 (.ref tp) h0_courtReader h0_lawReader h0_draft aC h0_laws (.ref g0) (.ref k0) (.ref ac) (.ref sd) (.ref mi) (.ref dw) (.ref rf) (.int lc) (.int lh) (.int br) (.int hi) aR aB aP nb np H.size) (cwV 0 hts (zgV qw584 qw586 qw10 qw98 qw587) rfl rfl rfl hd_X10_hasCourt ⟨by rw [hR]; exact Nat.le_of_ble_eq_true rfl, by rw [hR]; exact Nat.le_of_ble_eq_true rfl⟩) (zPV hPc hK hDc (va_recv (q := (RX10, TX10, 17)) hK hP (ci := 10) (q0 := 0) rfl rfl)) rfl rfl hl.1 rfl (lv_room (Nat.le_of_ble_eq_true rfl)) dX10_annul_1 ⟨Nat.zero_le _, Nat.zero_le _⟩) hS (fun q _ h => hFc q h) hFc (fun v1 u1 t H locs ht hvm hw hB hz1 hk1 hS9 => ?_)
  replace hP := zkeep hP hk1
  replace hS := hS9
  clear hPc hDc hFc hk1 hz1 hvm hS9
  obtain ⟨f1_0, f1_1, f1_2, f1_3⟩ : (0 ≤ v1.toInt) ∧ (v1.toInt ≤ 1) ∧ (¬ v1.toInt = 0 → 0 < nb.toInt) ∧ (v1.toInt = 0 → nb.toInt ≤ 0) := hw
  refine lv_if_ne (tgt := 13) hx hb dX10_annul_4 (by decide) (fun c4 => ?_) (fun c4 => ?_)
  · have c4 : ¬ v1.toInt = 0 := z6 rfl (by decide) c4
    refine lv_aload_n hx hb dX10_annul_13 rfl (lv_at hl 0 rfl) ?_
    refine va_get (D := (dC, dI)) (ci := 10) (v := .ref g0) (C := RX10) (T := TX10) (N := 17) hx hb hts iX10 hown hK hP 0 rfl rfl 6 (by decide) (hts _ qw362) (fun _ h9 => h9) rfl dX10_annul_14 ?_
    refine va_get (D := (dC, dI)) (ci := 7) (v := .int gwd) (C := RX7) (T := TX7) (N := 9) hx hb hts iX7 hown hK hP 3 rfl rfl 6 (by decide) (hts _ qw237) (fun _ h9 => h9) rfl dX10_annul_17 ?_
    refine lv_istore_n (lv' := [(1, .int gwd), (0, .ref h0)]) hx hb dX10_annul_20 rfl hl (by decide) rfl (fun ls hl => ?_)
    refine lv_iload_n hx hb dX10_annul_21 rfl (lv_at hl 0 rfl) ?_
    refine lv_iconst (v := (-1)) hx hb dX10_annul_22 (by decide) ?_
    refine lv_icmp_ne (tgt := 32) hx hb dX10_annul_23 (by decide) (fun c23 => ?_) (fun c23 => ?_)
    · have c23 : ¬ gwd.toInt = (-1) := z6 rfl (by decide) c23
      refine lv_aload_n hx hb dX10_annul_32 rfl (lv_at hl 1 rfl) ?_
      refine lv_iload_n hx hb dX10_annul_33 rfl (lv_at hl 0 rfl) ?_
      obtain ⟨hPc, hDc⟩ := zc2 (wc := [(h0, .inr (10, [.ref tp, h0_courtReader, h0_lawReader, h0_draft, .ref aC, h0_laws, .ref g0, .ref k0, .ref ac, .ref sd, .ref mi, .ref dw, .ref rf, .int lc, .int lh, .int br, .int hi])), (g0, .inr (7, [.ref gY, .ref gF, .ref gP, .int gpn, .int glt, .int gsh, .int gwd, .int gpu, .int gmo])), (gP, .inl (cI, 80, .inl gfP))]) hP hD [0, 3, 6] (by decide +kernel) rfl
      have hFc := zfr hS hA
      refine va_calli (va_runV (As := [.int gwd]) (rest := []) ⟨hx, hb, hml, hown, hts⟩ (g_X10_looked l dC dI cI cJ h0 gwd tp h0_courtReader h0_lawReader h0_draft aC h0_laws g0 k0 ac sd mi dw rf lc lh br hi gY gF gP gpn glt gsh gwd gpu gmo gfP H.size n_gpn n_gwd y_hi y_lc (by omega) ci_gfP_zPo) (cwV 1 hts (zgV qw747 qw749 qw16 qw98 qw750) rfl rfl rfl hd_X10_looked ⟨by rw [hR]; exact Nat.le_of_ble_eq_true rfl, by rw [hR]; exact Nat.le_of_ble_eq_true rfl⟩) (zPV hPc hK hDc (va_recv (q := (RX10, TX10, 17)) hK hP (ci := 10) (q0 := 0) rfl rfl)) rfl rfl hl.1 rfl (lv_room (Nat.le_of_ble_eq_true rfl)) dX10_annul_34 ⟨Nat.zero_le _, Nat.zero_le _⟩) hS (fun q _ h => hFc q h) hFc (fun v34 u34 t H locs ht hvm hw hB hz1 hk1 hS9 => ?_)
      replace hP := zkeep hP hk1
      replace hS := hS9
      clear hPc hDc hFc hk1 hz1 hvm hS9
      have f34_0 : (v34 = zLkd gfP gwd gpn.toInt.toNat) := hw
      have F34 := f34_0
      refine lv_aload_n hx hb dX10_annul_37 rfl (lv_at hl 1 rfl) ?_
      refine va_get (D := (dC, dI)) (ci := 10) (v := .ref aC) (C := RX10) (T := TX10) (N := 17) hx hb hts iX10 hown hK hP 0 rfl rfl 4 (by decide) (hts _ qw360) (fun _ h9 => h9) rfl dX10_annul_38 ?_
      refine lv_iload_n hx hb dX10_annul_41 rfl (lv_at hl 0 rfl) ?_
      obtain ⟨hPc, hDc⟩ := zc2 (wc := [(aC, .inr (1, [.ref aR, .ref aB, .ref aP, .int nb, .int np])), (aB, .inl (cI, 24, .inl fb))]) hP hD [1, 2] (by decide +kernel) rfl
      have hFc := zfr hS hA
      refine va_calli (va_runV (As := [.int gwd]) (rest := [.int v34]) ⟨hx, hb, hml, hown, hts⟩ (g_X1_faceOf l dC dI cI cJ aC gwd aR aB aP nb np fb H.size (by omega)) (cwV 1 hts (zgV qw702 qw703 qw704 qw102 qw705) rfl rfl rfl hd_X1_faceOf ⟨by rw [hR]; exact Nat.le_of_ble_eq_true rfl, by rw [hR]; exact Nat.le_of_ble_eq_true rfl⟩) (zPV hPc hK hDc (va_recv (q := (RX1, TX1, 5)) hK hP (ci := 1) (q0 := 1) rfl rfl)) rfl rfl hl.1 rfl (lv_room (Nat.le_of_ble_eq_true rfl)) dX10_annul_42 ⟨Nat.zero_le _, Nat.zero_le _⟩) hS (fun q _ h => hFc q h) hFc (fun v42 u42 t H locs ht hvm hw hB hz1 hk1 hS9 => ?_)
      replace hP := zkeep hP hk1
      replace hS := hS9
      clear hPc hDc hFc hk1 hz1 hvm hS9
      have f42_0 : (v42 = fb (4 * gwd.toInt.toNat)) := hw
      have F42 := f42_0
      refine lv_isub hx hb dX10_annul_45 ?_
      refine lv_topi (fun v45 e45 => ?_)
      refine lv_iconst (v := 3) hx hb dX10_annul_46 (by decide) ?_
      refine lv_icmp_ge (tgt := 56) hx hb dX10_annul_47 (by decide) (fun c47 => ?_) (fun c47 => ?_)
      · have c47 : 3 ≤ v45.toInt := z3 (by decide) rfl c47
        refine lv_aload_n hx hb dX10_annul_56 rfl (lv_at hl 1 rfl) ?_
        refine va_get (D := (dC, dI)) (ci := 10) (v := .ref ac) (C := RX10) (T := TX10) (N := 17) hx hb hts iX10 hown hK hP 0 rfl rfl 8 (by decide) (hts _ qw364) (fun _ h9 => h9) rfl dX10_annul_57 ?_
        refine lv_aload_n hx hb dX10_annul_60 rfl (lv_at hl 1 rfl) ?_
        refine va_get (D := (dC, dI)) (ci := 10) (v := .ref g0) (C := RX10) (T := TX10) (N := 17) hx hb hts iX10 hown hK hP 0 rfl rfl 6 (by decide) (hts _ qw362) (fun _ h9 => h9) rfl dX10_annul_61 ?_
        obtain ⟨hPc, hDc, hFc⟩ := zc3 (wc := [(ac, .inr (0, [.ref aW, .int pl, .int cn])), (aW, .inl (cI, 680, .inl fR)), (g0, .inr (7, [.ref gY, .ref gF, .ref gP, .int gpn, .int glt, .int gsh, .int gwd, .int gpu, .int gmo])), (gY, .inl (cI, 6, .inl gfY)), (gF, .inl (cI, 5, .inl gfF))]) hP hD hS hA [7, 8, 3, 4, 5] (by decide +kernel) rfl
        refine va_callv (va_runV (As := [.ref g0]) (rest := []) ⟨hx, hb, hml, hown, hts⟩ (g_X0_keep l dC dI cI cJ ac g0 aW pl cn fR gY gF gP gpn glt gsh gwd gpu gmo gfY gfF H.size n_cn n_gpn n_gwd n_pl ci_fR_zRw) (cwV 1 hts (zgV qw688 qw689 qw690 qw104 qw691) rfl rfl rfl hd_X0_keep ⟨by rw [hR]; exact Nat.le_of_ble_eq_true rfl, by rw [hR]; exact Nat.le_of_ble_eq_true rfl⟩) (zPV hPc hK hDc (va_recv (q := (RX0, TX0, 3)) hK hP (ci := 0) (q0 := 7) rfl rfl)) rfl rfl hl.1 rfl (lv_room (Nat.le_of_ble_eq_true rfl)) dX10_annul_64 ⟨Nat.zero_le _, Nat.zero_le _⟩) hS (fun q _ h => hFc q h) hFc (fun u64 t H locs ht hvm hw hB hz1 hk1 hS9 => ?_)
        obtain ⟨u64_0, u64_1, u64_2⟩ := u64
        obtain ⟨hP9, hD9⟩ := zj2 (wX := [(h0, .inr (10, [.ref tp, h0_courtReader, h0_lawReader, h0_draft, .ref aC, h0_laws, .ref g0, .ref k0, .ref ac, .ref sd, .ref mi, .ref dw, .ref rf, .int lc, .int lh, .int br, .int hi])), (aC, .inr (1, [.ref aR, .ref aB, .ref aP, .int nb, .int np])), (aB, .inl (cI, 24, .inl fb)), (g0, .inr (7, [.ref gY, .ref gF, .ref gP, .int gpn, .int glt, .int gsh, .int gwd, .int gpu, .int gmo])), (gY, .inl (cI, 6, .inl gfY)), (gF, .inl (cI, 5, .inl gfF)), (gP, .inl (cI, 80, .inl gfP)), (ac, .inr (0, [.ref aW, .int u64_0, .int u64_1])), (aW, .inl (cI, 680, .inl u64_2)), (rf, .inl (cI, 5, .inl frf))]) hP hD hk1 hFc ht hB [7, 8, 3, 4, 5] [(false, 0), (false, 1), (false, 2), (true, 2), (true, 3), (true, 4), (false, 6), (true, 0), (true, 1), (false, 9)] rfl (by decide +kernel) (by decide +kernel) rfl
        clear hP hD hS hPc hDc hFc hB hk1 hz1 hvm
        have hP := hP9
        have hD := hD9
        have hS := hS9
        clear hP9 hD9 hS9
        obtain ⟨f64_0, f64_1, f64_2, f64_3, f64_4, f64_5⟩ : (0 ≤ u64_0.toInt) ∧ (u64_0.toInt ≤ 39) ∧ (1 ≤ u64_1.toInt) ∧ (u64_1.toInt ≤ 40) ∧ (∀ (nbI npI : Int) (S : zS) (Ks : List zS) (P : Nat → Int32), nbI ≤ 6 → npI ≤ 5 → zSc nbI npI S gfY gfF P gpn glt gsh gwd gpu gmo → zKc nbI npI Ks P fR pl cn → zKc nbI npI (sKeep S Ks) P u64_2 u64_0 u64_1) ∧ (zRw u64_2) := hw
        have F64 := f64_4
        refine lv_aload_n hx hb dX10_annul_67 rfl (lv_at hl 1 rfl) ?_
        refine va_get (D := (dC, dI)) (ci := 10) (v := .ref g0) (C := RX10) (T := TX10) (N := 17) hx hb hts iX10 hown hK hP 0 rfl rfl 6 (by decide) (hts _ qw362) (fun _ h9 => h9) rfl dX10_annul_68 ?_
        refine lv_iconst (v := (-1)) hx hb dX10_annul_71 (by decide) ?_
        refine va_put (D := (dC, dI)) (ci := 7) (v := .int (-1)) (ty := .int) (C := RX7) (T := TX7) (N := 9) hx hb hts iX7 tyX7 tyX7_ok nmX7 hown hK hP hD hS 3 rfl rfl 6 (by decide) (hts _ qw237) (fun _ h9 => h9) rfl (by decide +kernel) rfl rfl (Nat.le_of_ble_eq_true rfl) dX10_annul_72 (fun H locs hP9 hD9 hS9 => ?_)
        clear hP hD hS
        obtain ⟨hP, hD⟩ := zst (wX := [(h0, .inr (10, [.ref tp, h0_courtReader, h0_lawReader, h0_draft, .ref aC, h0_laws, .ref g0, .ref k0, .ref ac, .ref sd, .ref mi, .ref dw, .ref rf, .int lc, .int lh, .int br, .int hi])), (aC, .inr (1, [.ref aR, .ref aB, .ref aP, .int nb, .int np])), (aB, .inl (cI, 24, .inl fb)), (g0, .inr (7, [.ref gY, .ref gF, .ref gP, .int gpn, .int glt, .int gsh, .int (-1), .int gpu, .int gmo])), (gY, .inl (cI, 6, .inl gfY)), (gF, .inl (cI, 5, .inl gfF)), (gP, .inl (cI, 80, .inl gfP)), (ac, .inr (0, [.ref aW, .int u64_0, .int u64_1])), (aW, .inl (cI, 680, .inl u64_2)), (rf, .inl (cI, 5, .inl frf))]) hP9 hD9 rfl
        have hS := hS9
        clear hP9 hD9 hS9
        refine lv_iload_n hx hb dX10_annul_75 rfl (lv_at hl 0 rfl) ?_
        have zr1 : ((-1) : Int32).toInt = (-1) := by decide
        rw [hQ]
        exact W.iret (v := gwd) hx hb hr (fun t ht hW => ⟨⟨gwd, ((-1), u64_0, u64_1, u64_2, frf), rfl, ⟨by (try dsimp only); omega, by (try dsimp only); omega, by (try dsimp only); omega, by (try dsimp only); omega, by (try dsimp only); omega, by (try dsimp only); omega, by (try dsimp only); omega, by (try dsimp only); omega, by (try dsimp only); exact fun kc kT q_fr q_fp hc hb h => by have zw := congrArg Int32.toInt (zSc_wd h.1); have zb := hb.2.2.2.1.2.2.1; have y45 : zLkd kT.1.2.2.2.2 kT.1.2.2.1.2.2 kT.1.2.2.2.1.2.2.toInt.toNat - kc.2.1 (4 * kT.1.2.2.1.2.2.toInt.toNat) = v45 := (by rw [zSc_wd h.1, zSc_pn h.1, ← zLkd_c (zSc_P h.1), ← F34, ← hc.2.1 _ (by omega), ← F42, e45]); exact zActA (by unfold sW_ann; exact (if_neg (by omega)).trans ((if_neg (by omega)).trans (if_neg (by rw [y45]; omega)))) hb.2 h (F64 _ _ kT.1 kT.2.1 _ hb.2.1.2 hb.2.2.1.2 h.1 h.2.1) (zSc_N h.1) (fun _ _ => rfl) (zSc_wd h.1).symm, f64_5⟩, ⟨by rw [ht]; exact hP, hD⟩⟩, hS.F ht⟩) hS.2.2 dX10_annul_76
      · have c47 : v45.toInt < 3 := z4 (by decide) rfl c47
        refine lv_aload_n hx hb dX10_annul_50 rfl (lv_at hl 1 rfl) ?_
        refine lv_iconst (v := 4) hx hb dX10_annul_51 (by decide) ?_
        obtain ⟨hPc, hDc, hFc⟩ := zc3 (wc := [(h0, .inr (10, [.ref tp, h0_courtReader, h0_lawReader, h0_draft, .ref aC, h0_laws, .ref g0, .ref k0, .ref ac, .ref sd, .ref mi, .ref dw, .ref rf, .int lc, .int lh, .int br, .int hi])), (rf, .inl (cI, 5, .inl frf))]) hP hD hS hA [0, 9] (by decide +kernel) rfl
        refine va_calli (va_runV (As := [.int 4]) (rest := []) ⟨hx, hb, hml, hown, hts⟩ (g_X10_refuse l dC dI cI cJ h0 4 tp h0_courtReader h0_lawReader h0_draft aC h0_laws g0 k0 ac sd mi dw rf lc lh br hi frf H.size y_hi y_lc (by decide)) (cwV 1 hts (zgV qw684 qw686 qw13 qw98 qw687) rfl rfl rfl hd_X10_refuse ⟨by rw [hR]; exact Nat.le_of_ble_eq_true rfl, by rw [hR]; exact Nat.le_of_ble_eq_true rfl⟩) (zPV hPc hK hDc (va_recv (q := (RX10, TX10, 17)) hK hP (ci := 10) (q0 := 0) rfl rfl)) rfl rfl hl.1 rfl (lv_room (Nat.le_of_ble_eq_true rfl)) dX10_annul_52 ⟨Nat.zero_le _, Nat.zero_le _⟩) hS (fun q _ h => hFc q h) hFc (fun v52 u52 t H locs ht hvm hw hB hz1 hk1 hS9 => ?_)
        obtain ⟨u52_0, rfl⟩ : ∃ z, z = u52 := ⟨_, rfl⟩
        obtain ⟨hP9, hD9⟩ := zj2 (wX := [(h0, .inr (10, [.ref tp, h0_courtReader, h0_lawReader, h0_draft, .ref aC, h0_laws, .ref g0, .ref k0, .ref ac, .ref sd, .ref mi, .ref dw, .ref rf, .int lc, .int lh, .int br, .int hi])), (aC, .inr (1, [.ref aR, .ref aB, .ref aP, .int nb, .int np])), (aB, .inl (cI, 24, .inl fb)), (g0, .inr (7, [.ref gY, .ref gF, .ref gP, .int gpn, .int glt, .int gsh, .int gwd, .int gpu, .int gmo])), (gY, .inl (cI, 6, .inl gfY)), (gF, .inl (cI, 5, .inl gfF)), (gP, .inl (cI, 80, .inl gfP)), (ac, .inr (0, [.ref aW, .int pl, .int cn])), (aW, .inl (cI, 680, .inl fR)), (rf, .inl (cI, 5, .inl u52_0))]) hP hD hk1 hFc ht hB [0, 9] [(true, 0), (false, 1), (false, 2), (false, 3), (false, 4), (false, 5), (false, 6), (false, 7), (false, 8), (true, 1)] rfl (by decide +kernel) (by decide +kernel) rfl
        clear hP hD hS hPc hDc hFc hB hk1 hz1 hvm
        have hP := hP9
        have hD := hD9
        have hS := hS9
        clear hP9 hD9 hS9
        obtain ⟨hwc, hw⟩ := hw
        have hwc : v52 = (-1) := hwc
        subst hwc
        have zn52_4 : (4 : Int32).toInt = 4 := by decide
        have f52_0 : (zRf frf u52_0 (4 : Int32).toInt) := hw
        have F52 := f52_0
        have zr0 : ((-1) : Int32).toInt = (-1) := by decide
        rw [hQ]
        exact W.iret (v := ((-1))) hx hb hr (fun t ht hW => ⟨⟨(-1), (gwd, pl, cn, fR, u52_0), rfl, ⟨by (try dsimp only); omega, by (try dsimp only); omega, by (try dsimp only); omega, by (try dsimp only); omega, by (try dsimp only); omega, by (try dsimp only); omega, by (try dsimp only); omega, by (try dsimp only); omega, by (try dsimp only); exact fun kc kT q_fr q_fp hc hb h => by have zw := congrArg Int32.toInt (zSc_wd h.1); have zb := hb.2.2.2.1.2.2.1; have y45 : zLkd kT.1.2.2.2.2 kT.1.2.2.1.2.2 kT.1.2.2.2.1.2.2.toInt.toNat - kc.2.1 (4 * kT.1.2.2.1.2.2.toInt.toNat) = v45 := (by rw [zSc_wd h.1, zSc_pn h.1, ← zLkd_c (zSc_P h.1), ← F34, ← hc.2.1 _ (by omega), ← F42, e45]); exact zActR (x := (4 : Int32).toInt) (by unfold sW_ann; exact ((if_neg (by omega)).trans ((if_neg (by omega)).trans (if_pos (by rw [y45]; omega)))).trans (by omega)) (by omega) h F52, ci_fR_zRw⟩, ⟨by rw [ht]; exact hP, hD⟩⟩, hS.F ht⟩) hS.2.2 dX10_annul_55
    · have c23 : gwd.toInt = (-1) := z5 rfl (by decide) c23
      refine lv_aload_n hx hb dX10_annul_26 rfl (lv_at hl 1 rfl) ?_
      refine lv_iconst (v := 3) hx hb dX10_annul_27 (by decide) ?_
      obtain ⟨hPc, hDc, hFc⟩ := zc3 (wc := [(h0, .inr (10, [.ref tp, h0_courtReader, h0_lawReader, h0_draft, .ref aC, h0_laws, .ref g0, .ref k0, .ref ac, .ref sd, .ref mi, .ref dw, .ref rf, .int lc, .int lh, .int br, .int hi])), (rf, .inl (cI, 5, .inl frf))]) hP hD hS hA [0, 9] (by decide +kernel) rfl
      refine va_calli (va_runV (As := [.int 3]) (rest := []) ⟨hx, hb, hml, hown, hts⟩ (g_X10_refuse l dC dI cI cJ h0 3 tp h0_courtReader h0_lawReader h0_draft aC h0_laws g0 k0 ac sd mi dw rf lc lh br hi frf H.size y_hi y_lc (by decide)) (cwV 1 hts (zgV qw684 qw686 qw13 qw98 qw687) rfl rfl rfl hd_X10_refuse ⟨by rw [hR]; exact Nat.le_of_ble_eq_true rfl, by rw [hR]; exact Nat.le_of_ble_eq_true rfl⟩) (zPV hPc hK hDc (va_recv (q := (RX10, TX10, 17)) hK hP (ci := 10) (q0 := 0) rfl rfl)) rfl rfl hl.1 rfl (lv_room (Nat.le_of_ble_eq_true rfl)) dX10_annul_28 ⟨Nat.zero_le _, Nat.zero_le _⟩) hS (fun q _ h => hFc q h) hFc (fun v28 u28 t H locs ht hvm hw hB hz1 hk1 hS9 => ?_)
      obtain ⟨u28_0, rfl⟩ : ∃ z, z = u28 := ⟨_, rfl⟩
      obtain ⟨hP9, hD9⟩ := zj2 (wX := [(h0, .inr (10, [.ref tp, h0_courtReader, h0_lawReader, h0_draft, .ref aC, h0_laws, .ref g0, .ref k0, .ref ac, .ref sd, .ref mi, .ref dw, .ref rf, .int lc, .int lh, .int br, .int hi])), (aC, .inr (1, [.ref aR, .ref aB, .ref aP, .int nb, .int np])), (aB, .inl (cI, 24, .inl fb)), (g0, .inr (7, [.ref gY, .ref gF, .ref gP, .int gpn, .int glt, .int gsh, .int gwd, .int gpu, .int gmo])), (gY, .inl (cI, 6, .inl gfY)), (gF, .inl (cI, 5, .inl gfF)), (gP, .inl (cI, 80, .inl gfP)), (ac, .inr (0, [.ref aW, .int pl, .int cn])), (aW, .inl (cI, 680, .inl fR)), (rf, .inl (cI, 5, .inl u28_0))]) hP hD hk1 hFc ht hB [0, 9] [(true, 0), (false, 1), (false, 2), (false, 3), (false, 4), (false, 5), (false, 6), (false, 7), (false, 8), (true, 1)] rfl (by decide +kernel) (by decide +kernel) rfl
      clear hP hD hS hPc hDc hFc hB hk1 hz1 hvm
      have hP := hP9
      have hD := hD9
      have hS := hS9
      clear hP9 hD9 hS9
      obtain ⟨hwc, hw⟩ := hw
      have hwc : v28 = (-1) := hwc
      subst hwc
      have zn28_3 : (3 : Int32).toInt = 3 := by decide
      have f28_0 : (zRf frf u28_0 (3 : Int32).toInt) := hw
      have F28 := f28_0
      have zr0 : ((-1) : Int32).toInt = (-1) := by decide
      rw [hQ]
      exact W.iret (v := ((-1))) hx hb hr (fun t ht hW => ⟨⟨(-1), (gwd, pl, cn, fR, u28_0), rfl, ⟨by (try dsimp only); omega, by (try dsimp only); omega, by (try dsimp only); omega, by (try dsimp only); omega, by (try dsimp only); omega, by (try dsimp only); omega, by (try dsimp only); omega, by (try dsimp only); omega, by (try dsimp only); exact fun kc kT q_fr q_fp hc hb h => by have zw := congrArg Int32.toInt (zSc_wd h.1); have zb := hb.2.2.2.1.2.2.1; exact zActR (x := (3 : Int32).toInt) (by unfold sW_ann; exact ((if_neg (by omega)).trans (if_pos (by omega))).trans (by omega)) (by omega) h F28, ci_fR_zRw⟩, ⟨by rw [ht]; exact hP, hD⟩⟩, hS.F ht⟩) hS.2.2 dX10_annul_31
  · have c4 : v1.toInt = 0 := z5 rfl (by decide) c4
    refine lv_aload_n hx hb dX10_annul_7 rfl (lv_at hl 0 rfl) ?_
    refine lv_iconst (v := 0) hx hb dX10_annul_8 (by decide) ?_
    obtain ⟨hPc, hDc, hFc⟩ := zc3 (wc := [(h0, .inr (10, [.ref tp, h0_courtReader, h0_lawReader, h0_draft, .ref aC, h0_laws, .ref g0, .ref k0, .ref ac, .ref sd, .ref mi, .ref dw, .ref rf, .int lc, .int lh, .int br, .int hi])), (rf, .inl (cI, 5, .inl frf))]) hP hD hS hA [0, 9] (by decide +kernel) rfl
    refine va_calli (va_runV (As := [.int 0]) (rest := []) ⟨hx, hb, hml, hown, hts⟩ (g_X10_refuse l dC dI cI cJ h0 0 tp h0_courtReader h0_lawReader h0_draft aC h0_laws g0 k0 ac sd mi dw rf lc lh br hi frf H.size y_hi y_lc (by decide)) (cwV 1 hts (zgV qw684 qw686 qw13 qw98 qw687) rfl rfl rfl hd_X10_refuse ⟨by rw [hR]; exact Nat.le_of_ble_eq_true rfl, by rw [hR]; exact Nat.le_of_ble_eq_true rfl⟩) (zPV hPc hK hDc (va_recv (q := (RX10, TX10, 17)) hK hP (ci := 10) (q0 := 0) rfl rfl)) rfl rfl hl.1 rfl (lv_room (Nat.le_of_ble_eq_true rfl)) dX10_annul_9 ⟨Nat.zero_le _, Nat.zero_le _⟩) hS (fun q _ h => hFc q h) hFc (fun v9 u9 t H locs ht hvm hw hB hz1 hk1 hS9 => ?_)
    obtain ⟨u9_0, rfl⟩ : ∃ z, z = u9 := ⟨_, rfl⟩
    obtain ⟨hP9, hD9⟩ := zj2 (wX := [(h0, .inr (10, [.ref tp, h0_courtReader, h0_lawReader, h0_draft, .ref aC, h0_laws, .ref g0, .ref k0, .ref ac, .ref sd, .ref mi, .ref dw, .ref rf, .int lc, .int lh, .int br, .int hi])), (aC, .inr (1, [.ref aR, .ref aB, .ref aP, .int nb, .int np])), (aB, .inl (cI, 24, .inl fb)), (g0, .inr (7, [.ref gY, .ref gF, .ref gP, .int gpn, .int glt, .int gsh, .int gwd, .int gpu, .int gmo])), (gY, .inl (cI, 6, .inl gfY)), (gF, .inl (cI, 5, .inl gfF)), (gP, .inl (cI, 80, .inl gfP)), (ac, .inr (0, [.ref aW, .int pl, .int cn])), (aW, .inl (cI, 680, .inl fR)), (rf, .inl (cI, 5, .inl u9_0))]) hP hD hk1 hFc ht hB [0, 9] [(true, 0), (false, 1), (false, 2), (false, 3), (false, 4), (false, 5), (false, 6), (false, 7), (false, 8), (true, 1)] rfl (by decide +kernel) (by decide +kernel) rfl
    clear hP hD hS hPc hDc hFc hB hk1 hz1 hvm
    have hP := hP9
    have hD := hD9
    have hS := hS9
    clear hP9 hD9 hS9
    obtain ⟨hwc, hw⟩ := hw
    have hwc : v9 = (-1) := hwc
    subst hwc
    have zn9_0 : (0 : Int32).toInt = 0 := by decide
    have f9_0 : (zRf frf u9_0 (0 : Int32).toInt) := hw
    have F9 := f9_0
    have zr0 : ((-1) : Int32).toInt = (-1) := by decide
    rw [hQ]
    exact W.iret (v := ((-1))) hx hb hr (fun t ht hW => ⟨⟨(-1), (gwd, pl, cn, fR, u9_0), rfl, ⟨by (try dsimp only); omega, by (try dsimp only); omega, by (try dsimp only); omega, by (try dsimp only); omega, by (try dsimp only); omega, by (try dsimp only); omega, by (try dsimp only); omega, by (try dsimp only); omega, by (try dsimp only); exact fun kc kT q_fr q_fp hc hb h => zActR (x := (0 : Int32).toInt) (by unfold sW_ann; exact (if_pos (by omega)).trans (by omega)) (by omega) h F9, ci_fR_zRw⟩, ⟨by rw [ht]; exact hP, hD⟩⟩, hS.F ht⟩) hS.2.2 dX10_annul_12
set_option maxHeartbeats 4000000 in
set_option maxRecDepth 100000 in
theorem g_X10_months (l : Launch) (dC : Nat → ClassId) (dI : Nat → Nat → Nat) (cI cJ : ClassId) (h0 : Nat) (p0 : Int32) (tp : Nat) (h0_courtReader : Value) (h0_lawReader : Value) (h0_draft : Value) (aC : Nat) (h0_laws : Value) (g0 : Nat) (k0 : Nat) (ac : Nat) (sd : Nat) (mi : Nat) (dw : Nat) (rf : Nat) (lc : Int32) (lh : Int32) (br : Int32) (hi : Int32) (aR : Nat) (aB : Nat) (aP : Nat) (nb : Int32) (np : Int32) (gY : Nat) (gF : Nat) (gP : Nat) (gpn : Int32) (glt : Int32) (gsh : Int32) (gwd : Int32) (gpu : Int32) (gmo : Int32) (gfY : Nat → Int32) (gfF : Nat → Int32) (aW : Nat) (pl : Int32) (cn : Int32) (fR : Nat → Int32) (frf : Nat → Int32) (sz : Nat) (n_cn : 0 ≤ cn.toInt ∧ cn.toInt ≤ 40) (n_gpn : 0 ≤ gpn.toInt ∧ gpn.toInt ≤ 20) (n_gwd : (-1) ≤ gwd.toInt ∧ gwd.toInt ≤ 5) (n_hi : 0 ≤ hi.toInt ∧ hi.toInt ≤ 1) (n_lc : 0 ≤ lc.toInt ∧ lc.toInt ≤ 4) (n_nb : 0 ≤ nb.toInt ∧ nb.toInt ≤ 6) (n_np : 0 ≤ np.toInt ∧ np.toInt ≤ 5) (n_pl : 0 ≤ pl.toInt ∧ pl.toInt ≤ 39)  (ci_fR_zRw : zRw fR)  : Met l yX10_months (.code yX10_months cX10_months 3 (some .int) :: wA) ({ frames := 3, cells := 0, slots := 0, locals := 104 }) (zP (dC, dI) [(cI, .int), (cJ, .long)] [.ref h0, .int p0] sz [(h0, .inr (10, [.ref tp, h0_courtReader, h0_lawReader, h0_draft, .ref aC, h0_laws, .ref g0, .ref k0, .ref ac, .ref sd, .ref mi, .ref dw, .ref rf, .int lc, .int lh, .int br, .int hi])), (aC, .inr (1, [.ref aR, .ref aB, .ref aP, .int nb, .int np])), (g0, .inr (7, [.ref gY, .ref gF, .ref gP, .int gpn, .int glt, .int gsh, .int gwd, .int gpu, .int gmo])), (gY, .inl (cI, 6, .inl gfY)), (gF, .inl (cI, 5, .inl gfF)), (ac, .inr (0, [.ref aW, .int pl, .int cn])), (aW, .inl (cI, 680, .inl fR)), (rf, .inl (cI, 5, .inl frf))]) (va_Qi (fun (r : Int32) (u : Int32 × Int32 × Int32 × Int32 × (Nat → Int32) × (Nat → Int32)) => (0 ≤ u.2.2.1.toInt) ∧ (u.2.2.1.toInt ≤ 39) ∧ (0 ≤ u.2.2.2.1.toInt) ∧ (u.2.2.2.1.toInt ≤ 40) ∧ (∀ (kc : zK3) (kT : zT) (q_fr : Nat → Int32) (q_fb : Nat → Int32) (q_fp : Nat → Int32) (q_gfP : Nat → Int32), zCn q_fr q_fb q_fp nb.toInt np.toInt kc → zKo nb.toInt np.toInt kc kT → zTc nb.toInt np.toInt kT gfY gfF q_gfP gpn glt gsh gwd gpu gmo fR pl cn frf → r = sA (sW_mon nb.toInt kT.1 p0) (sT_mon nb.toInt kT p0).1.2.2.2.1.2.1 ∧ zTc nb.toInt np.toInt (sT_mon nb.toInt kT p0) gfY gfF q_gfP gpn glt gsh gwd u.1 u.2.1 u.2.2.2.2.1 u.2.2.1 u.2.2.2.1 u.2.2.2.2.2) ∧ (zRw u.2.2.2.2.1)) (fun (u : Int32 × Int32 × Int32 × Int32 × (Nat → Int32) × (Nat → Int32)) (t : State) => va_P (dC, dI) vwCl [(h0, .inr (10, [.ref tp, h0_courtReader, h0_lawReader, h0_draft, .ref aC, h0_laws, .ref g0, .ref k0, .ref ac, .ref sd, .ref mi, .ref dw, .ref rf, .int lc, .int lh, .int br, .int hi])), (aC, .inr (1, [.ref aR, .ref aB, .ref aP, .int nb, .int np])), (g0, .inr (7, [.ref gY, .ref gF, .ref gP, .int gpn, .int glt, .int gsh, .int gwd, .int u.1, .int u.2.1])), (gY, .inl (cI, 6, .inl gfY)), (gF, .inl (cI, 5, .inl gfF)), (ac, .inr (0, [.ref aW, .int u.2.2.1, .int u.2.2.2.1])), (aW, .inl (cI, 680, .inl u.2.2.2.2.1)), (rf, .inl (cI, 5, .inl u.2.2.2.2.2))] t.heap ∧ va_D (va_A [(h0, .inr (10, [.ref tp, h0_courtReader, h0_lawReader, h0_draft, .ref aC, h0_laws, .ref g0, .ref k0, .ref ac, .ref sd, .ref mi, .ref dw, .ref rf, .int lc, .int lh, .int br, .int hi])), (aC, .inr (1, [.ref aR, .ref aB, .ref aP, .int nb, .int np])), (g0, .inr (7, [.ref gY, .ref gF, .ref gP, .int gpn, .int glt, .int gsh, .int gwd, .int gpu, .int gmo])), (gY, .inl (cI, 6, .inl gfY)), (gF, .inl (cI, 5, .inl gfF)), (ac, .inr (0, [.ref aW, .int pl, .int cn])), (aW, .inl (cI, 680, .inl fR)), (rf, .inl (cI, 5, .inl frf))] sz) [(h0, .inr (10, [.ref tp, h0_courtReader, h0_lawReader, h0_draft, .ref aC, h0_laws, .ref g0, .ref k0, .ref ac, .ref sd, .ref mi, .ref dw, .ref rf, .int lc, .int lh, .int br, .int hi])), (aC, .inr (1, [.ref aR, .ref aB, .ref aP, .int nb, .int np])), (g0, .inr (7, [.ref gY, .ref gF, .ref gP, .int gpn, .int glt, .int gsh, .int gwd, .int u.1, .int u.2.1])), (gY, .inl (cI, 6, .inl gfY)), (gF, .inl (cI, 5, .inl gfF)), (ac, .inr (0, [.ref aW, .int u.2.2.1, .int u.2.2.2.1])), (aW, .inl (cI, 680, .inl u.2.2.2.2.1)), (rf, .inl (cI, 5, .inl u.2.2.2.2.2))]) (va_A [(h0, .inr (10, [.ref tp, h0_courtReader, h0_lawReader, h0_draft, .ref aC, h0_laws, .ref g0, .ref k0, .ref ac, .ref sd, .ref mi, .ref dw, .ref rf, .int lc, .int lh, .int br, .int hi])), (aC, .inr (1, [.ref aR, .ref aB, .ref aP, .int nb, .int np])), (g0, .inr (7, [.ref gY, .ref gF, .ref gP, .int gpn, .int glt, .int gsh, .int gwd, .int gpu, .int gmo])), (gY, .inl (cI, 6, .inl gfY)), (gF, .inl (cI, 5, .inl gfF)), (ac, .inr (0, [.ref aW, .int pl, .int cn])), (aW, .inl (cI, 680, .inl fR)), (rf, .inl (cI, 5, .inl frf))] sz)) 0 0 (va_A [(h0, .inr (10, [.ref tp, h0_courtReader, h0_lawReader, h0_draft, .ref aC, h0_laws, .ref g0, .ref k0, .ref ac, .ref sd, .ref mi, .ref dw, .ref rf, .int lc, .int lh, .int br, .int hi])), (aC, .inr (1, [.ref aR, .ref aB, .ref aP, .int nb, .int np])), (g0, .inr (7, [.ref gY, .ref gF, .ref gP, .int gpn, .int glt, .int gsh, .int gwd, .int gpu, .int gmo])), (gY, .inl (cI, 6, .inl gfY)), (gF, .inl (cI, 5, .inl gfF)), (ac, .inr (0, [.ref aW, .int pl, .int cn])), (aW, .inl (cI, 680, .inl fR)), (rf, .inl (cI, 5, .inl frf))] sz) := by
  refine Met.ofW (cc := cX10_months) (maxL := 3) (ret := (some .int)) (by decide) rfl ?_
  intro p e s m args below meth c s₁ B hml hv
  have y_gpn : zHid (0 ≤ gpn.toInt ∧ gpn.toInt ≤ 20) := n_gpn
  have y_gwd : zHid ((-1) ≤ gwd.toInt ∧ gwd.toInt ≤ 5) := n_gwd
  have y_hi : zHid (0 ≤ hi.toInt ∧ hi.toInt ≤ 1) := n_hi
  have y_lc : zHid (0 ≤ lc.toInt ∧ lc.toInt ≤ 4) := n_lc
  clear n_gpn n_gwd n_hi n_lc
  obtain ⟨hargs, hsz, hP, hK, hT⟩ := hv
  have hx := B.exec
  have hb := B.bytes
  have hr := B.returns
  have hts : ∀ w ∈ wA, w.before args s = true := fun w h => atoms_spec (ws := .code yX10_months cX10_months 3 (some .int) :: wA) B.pre w (List.mem_cons_of_mem _ h)
  have hown : s.vm.findClass RX10 = some m.cls := findClass_of_methodNamed B.named
  have hlocks := B.notSynchronized
  subst hsz
  have hD := hT.self (sz := s.heap.size)
  generalize hAe : va_A [(h0, .inr (10, [.ref tp, h0_courtReader, h0_lawReader, h0_draft, .ref aC, h0_laws, .ref g0, .ref k0, .ref ac, .ref sd, .ref mi, .ref dw, .ref rf, .int lc, .int lh, .int br, .int hi])), (aC, .inr (1, [.ref aR, .ref aB, .ref aP, .int nb, .int np])), (g0, .inr (7, [.ref gY, .ref gF, .ref gP, .int gpn, .int glt, .int gsh, .int gwd, .int gpu, .int gmo])), (gY, .inl (cI, 6, .inl gfY)), (gF, .inl (cI, 5, .inl gfF)), (ac, .inr (0, [.ref aW, .int pl, .int cn])), (aW, .inl (cI, 680, .inl fR)), (rf, .inl (cI, 5, .inl frf))] s.heap.size = A at hD ⊢
  have hA : ∀ q : Nat, s.heap.size ≤ q → A q := fun q h => by rw [← hAe]; exact Or.inr h
  have hl := lv_entry ([.ref h0, .int p0]) (n := 3) (Nat.le_of_ble_eq_true rfl)
  rw [show entryFrame m args 3 = entryFrame m ([.ref h0, .int p0] : List Value).toArray 3 by rw [hargs], lg_entry_eq]
  generalize (lg_sl ([.ref h0, .int p0]) ++ List.replicate (3 - (lg_sl ([.ref h0, .int p0])).length) Slot.unset).toArray = ls at hl ⊢
  have hl : lv_has ls 3 [(0, .ref h0), (1, .int p0)] := hl
  refine zstart (fun H hH => ?_)
  rw [← hH] at hP
  have hS : va_S A s.heap H [] := by rw [hH]; exact va_S.rf
  generalize ([] : List Loc) = locs at hS ⊢
  refine zgen (fun R Q hR hQ => ?_)
  refine lv_aload_n hx hb dX10_months_0 rfl (lv_at hl 0 rfl) ?_
  obtain ⟨hPc, hDc⟩ := zc2 (wc := [(h0, .inr (10, [.ref tp, h0_courtReader, h0_lawReader, h0_draft, .ref aC, h0_laws, .ref g0, .ref k0, .ref ac, .ref sd, .ref mi, .ref dw, .ref rf, .int lc, .int lh, .int br, .int hi])), (aC, .inr (1, [.ref aR, .ref aB, .ref aP, .int nb, .int np]))]) hP hD [0, 1] (by decide +kernel) rfl
  have hFc := zfr hS hA
  refine va_calli (va_runV (As := []) (rest := []) ⟨hx, hb, hml, hown, hts⟩ (g_X10_hasCourt l dC dI cI cJ h0 (.ref tp) h0_courtReader h0_lawReader h0_draft aC h0_laws (.ref g0) (.ref k0) (.ref ac) (.ref sd) (.ref mi) (.ref dw) (.ref rf) (.int lc) (.int lh) (.int br) (.int hi) aR aB aP nb np H.size) (cwV 0 hts (zgV qw584 qw586 qw10 qw98 qw587) rfl rfl rfl hd_X10_hasCourt ⟨by rw [hR]; exact Nat.le_of_ble_eq_true rfl, by rw [hR]; exact Nat.le_of_ble_eq_true rfl⟩) (zPV hPc hK hDc (va_recv (q := (RX10, TX10, 17)) hK hP (ci := 10) (q0 := 0) rfl rfl)) rfl rfl hl.1 rfl (lv_room (Nat.le_of_ble_eq_true rfl)) dX10_months_1 ⟨Nat.zero_le _, Nat.zero_le _⟩) hS (fun q _ h => hFc q h) hFc (fun v1 u1 t H locs ht hvm hw hB hz1 hk1 hS9 => ?_)
  replace hP := zkeep hP hk1
  replace hS := hS9
  clear hPc hDc hFc hk1 hz1 hvm hS9
  obtain ⟨f1_0, f1_1, f1_2, f1_3⟩ : (0 ≤ v1.toInt) ∧ (v1.toInt ≤ 1) ∧ (¬ v1.toInt = 0 → 0 < nb.toInt) ∧ (v1.toInt = 0 → nb.toInt ≤ 0) := hw
  refine lv_if_ne (tgt := 13) hx hb dX10_months_4 (by decide) (fun c4 => ?_) (fun c4 => ?_)
  · have c4 : ¬ v1.toInt = 0 := z6 rfl (by decide) c4
    refine lv_iload_n hx hb dX10_months_13 rfl (lv_at hl 1 rfl) ?_
    refine lv_iconst (v := 1) hx hb dX10_months_14 (by decide) ?_
    refine lv_icmp_lt (tgt := 24) hx hb dX10_months_15 (by decide) (fun c15 => ?_) (fun c15 => ?_)
    · have c15 : p0.toInt < 1 := z1 rfl (by decide) c15
      refine lv_aload_n hx hb dX10_months_24 rfl (lv_at hl 0 rfl) ?_
      refine lv_iconst (v := 1) hx hb dX10_months_25 (by decide) ?_
      obtain ⟨hPc, hDc, hFc⟩ := zc3 (wc := [(h0, .inr (10, [.ref tp, h0_courtReader, h0_lawReader, h0_draft, .ref aC, h0_laws, .ref g0, .ref k0, .ref ac, .ref sd, .ref mi, .ref dw, .ref rf, .int lc, .int lh, .int br, .int hi])), (rf, .inl (cI, 5, .inl frf))]) hP hD hS hA [0, 7] (by decide +kernel) rfl
      refine va_calli (va_runV (As := [.int 1]) (rest := []) ⟨hx, hb, hml, hown, hts⟩ (g_X10_refuse l dC dI cI cJ h0 1 tp h0_courtReader h0_lawReader h0_draft aC h0_laws g0 k0 ac sd mi dw rf lc lh br hi frf H.size y_hi y_lc (by decide)) (cwV 1 hts (zgV qw684 qw686 qw13 qw98 qw687) rfl rfl rfl hd_X10_refuse ⟨by rw [hR]; exact Nat.le_of_ble_eq_true rfl, by rw [hR]; exact Nat.le_of_ble_eq_true rfl⟩) (zPV hPc hK hDc (va_recv (q := (RX10, TX10, 17)) hK hP (ci := 10) (q0 := 0) rfl rfl)) rfl rfl hl.1 rfl (lv_room (Nat.le_of_ble_eq_true rfl)) dX10_months_26 ⟨Nat.zero_le _, Nat.zero_le _⟩) hS (fun q _ h => hFc q h) hFc (fun v26 u26 t H locs ht hvm hw hB hz1 hk1 hS9 => ?_)
      obtain ⟨u26_0, rfl⟩ : ∃ z, z = u26 := ⟨_, rfl⟩
      obtain ⟨hP9, hD9⟩ := zj2 (wX := [(h0, .inr (10, [.ref tp, h0_courtReader, h0_lawReader, h0_draft, .ref aC, h0_laws, .ref g0, .ref k0, .ref ac, .ref sd, .ref mi, .ref dw, .ref rf, .int lc, .int lh, .int br, .int hi])), (aC, .inr (1, [.ref aR, .ref aB, .ref aP, .int nb, .int np])), (g0, .inr (7, [.ref gY, .ref gF, .ref gP, .int gpn, .int glt, .int gsh, .int gwd, .int gpu, .int gmo])), (gY, .inl (cI, 6, .inl gfY)), (gF, .inl (cI, 5, .inl gfF)), (ac, .inr (0, [.ref aW, .int pl, .int cn])), (aW, .inl (cI, 680, .inl fR)), (rf, .inl (cI, 5, .inl u26_0))]) hP hD hk1 hFc ht hB [0, 7] [(true, 0), (false, 1), (false, 2), (false, 3), (false, 4), (false, 5), (false, 6), (true, 1)] rfl (by decide +kernel) (by decide +kernel) rfl
      clear hP hD hS hPc hDc hFc hB hk1 hz1 hvm
      have hP := hP9
      have hD := hD9
      have hS := hS9
      clear hP9 hD9 hS9
      obtain ⟨hwc, hw⟩ := hw
      have hwc : v26 = (-1) := hwc
      subst hwc
      have zn26_1 : (1 : Int32).toInt = 1 := by decide
      have f26_0 : (zRf frf u26_0 (1 : Int32).toInt) := hw
      have F26 := f26_0
      have zr0 : ((-1) : Int32).toInt = (-1) := by decide
      rw [hQ]
      exact W.iret (v := ((-1))) hx hb hr (fun t ht hW => ⟨⟨(-1), (gpu, gmo, pl, cn, fR, u26_0), rfl, ⟨by (try dsimp only); omega, by (try dsimp only); omega, by (try dsimp only); omega, by (try dsimp only); omega, by (try dsimp only); exact fun kc kT q_fr q_fb q_fp q_gfP hc hb h => by have q : sW_mon nb.toInt kT.1 p0 = (1 : Int32).toInt := (by have zm := congrArg Int32.toInt (zSc_mo h.1); unfold sW_mon; exact (if_neg (by omega)).trans ((if_pos (by omega)).trans (by omega))); unfold sA sT_mon; rw [if_neg (show ¬ sW_mon nb.toInt kT.1 p0 = -1 by omega), if_neg (show ¬ sW_mon nb.toInt kT.1 p0 = -1 by omega)]; exact ⟨rfl, zTc_ref q h F26⟩, ci_fR_zRw⟩, ⟨by rw [ht]; exact hP, hD⟩⟩, hS.F ht⟩) hS.2.2 dX10_months_29
    · have c15 : 1 ≤ p0.toInt := z2 rfl (by decide) c15
      refine lv_iload_n hx hb dX10_months_18 rfl (lv_at hl 1 rfl) ?_
      refine lv_bipush (v := 60) hx hb dX10_months_19 (by decide) ?_
      refine lv_icmp_le (tgt := 30) hx hb dX10_months_21 (by decide) (fun c21 => ?_) (fun c21 => ?_)
      · have c21 : p0.toInt ≤ 60 := z3 rfl (by decide) c21
        refine lv_aload_n hx hb dX10_months_30 rfl (lv_at hl 0 rfl) ?_
        refine va_get (D := (dC, dI)) (ci := 10) (v := .ref g0) (C := RX10) (T := TX10) (N := 17) hx hb hts iX10 hown hK hP 0 rfl rfl 6 (by decide) (hts _ qw362) (fun _ h9 => h9) rfl dX10_months_31 ?_
        refine va_get (D := (dC, dI)) (ci := 7) (v := .int gmo) (C := RX7) (T := TX7) (N := 9) hx hb hts iX7 hown hK hP 2 rfl rfl 8 (by decide) (hts _ qw242) (fun _ h9 => h9) rfl dX10_months_34 ?_
        refine lv_iload_n hx hb dX10_months_37 rfl (lv_at hl 1 rfl) ?_
        refine lv_iadd hx hb dX10_months_38 ?_
        refine lv_topi (fun v38 e38 => ?_)
        refine lv_sipush (v := 999) hx hb dX10_months_39 (by decide) ?_
        refine lv_icmp_le (tgt := 51) hx hb dX10_months_42 (by decide) (fun c42 => ?_) (fun c42 => ?_)
        · have c42 : v38.toInt ≤ 999 := z3 rfl (by decide) c42
          refine lv_iconst (v := 0) hx hb dX10_months_51 (by decide) ?_
          have J53 : ∀ (n : Nat) (m53_A_aW : Nat → Int32) (m53_F_ac_1 : Int32) (m53_F_ac_2 : Int32) (m53_F_g0_7 : Int32) (m53_F_g0_8 : Int32) (m53_L_2 : Int32), (0 ≤ m53_F_ac_1.toInt ∧ m53_F_ac_1.toInt ≤ 39) → (0 ≤ m53_F_ac_2.toInt ∧ m53_F_ac_2.toInt ≤ 40) → (0 ≤ m53_L_2.toInt ∧ m53_L_2.toInt ≤ 60) → (∀ (kc : zK3) (kT : zT) (q_fr : Nat → Int32) (q_fb : Nat → Int32) (q_fp : Nat → Int32) (q_gfP : Nat → Int32), zCn q_fr q_fb q_fp nb.toInt np.toInt kc → zKo nb.toInt np.toInt kc kT → zTc nb.toInt np.toInt kT gfY gfF q_gfP gpn glt gsh gwd gpu gmo fR pl cn frf → zTc nb.toInt np.toInt (sMon kT m53_L_2.toInt.toNat) gfY gfF q_gfP gpn glt gsh gwd m53_F_g0_7 m53_F_g0_8 m53_A_aW m53_F_ac_1 m53_F_ac_2 frf) → (m53_L_2.toInt ≤ p0.toInt) → (zRw m53_A_aW) → (61 - m53_L_2.toInt).toNat = n → ∀ (H : Heap) (locs : List Loc) (ls : Array Slot), va_P (dC, dI) vwCl [(h0, .inr (10, [.ref tp, h0_courtReader, h0_lawReader, h0_draft, .ref aC, h0_laws, .ref g0, .ref k0, .ref ac, .ref sd, .ref mi, .ref dw, .ref rf, .int lc, .int lh, .int br, .int hi])), (aC, .inr (1, [.ref aR, .ref aB, .ref aP, .int nb, .int np])), (g0, .inr (7, [.ref gY, .ref gF, .ref gP, .int gpn, .int glt, .int gsh, .int gwd, .int m53_F_g0_7, .int m53_F_g0_8])), (gY, .inl (cI, 6, .inl gfY)), (gF, .inl (cI, 5, .inl gfF)), (ac, .inr (0, [.ref aW, .int m53_F_ac_1, .int m53_F_ac_2])), (aW, .inl (cI, 680, .inl m53_A_aW)), (rf, .inl (cI, 5, .inl frf))] H → va_D A [(h0, .inr (10, [.ref tp, h0_courtReader, h0_lawReader, h0_draft, .ref aC, h0_laws, .ref g0, .ref k0, .ref ac, .ref sd, .ref mi, .ref dw, .ref rf, .int lc, .int lh, .int br, .int hi])), (aC, .inr (1, [.ref aR, .ref aB, .ref aP, .int nb, .int np])), (g0, .inr (7, [.ref gY, .ref gF, .ref gP, .int gpn, .int glt, .int gsh, .int gwd, .int m53_F_g0_7, .int m53_F_g0_8])), (gY, .inl (cI, 6, .inl gfY)), (gF, .inl (cI, 5, .inl gfF)), (ac, .inr (0, [.ref aW, .int m53_F_ac_1, .int m53_F_ac_2])), (aW, .inl (cI, 680, .inl m53_A_aW)), (rf, .inl (cI, 5, .inl frf))] → va_S A s.heap H locs → lv_has ls 3 [(2, .int m53_L_2), (0, .ref h0), (1, .int p0)] → W p l e R s m args below meth c H locs 0 0 Q (F0 m 53 ls []) := by
            intro n53
            induction n53 using Nat.strongRecOn with
            | _ n53 ih53 =>
              intro m53_A_aW m53_F_ac_1 m53_F_ac_2 m53_F_g0_7 m53_F_g0_8 m53_L_2 jf53_0 jf53_1 jf53_2 jv53_0 jf53_4 jf53_5 hmu53 H locs ls hP hD hS hl
              refine lv_iload_n hx hb dX10_months_53 rfl (lv_at hl 0 rfl) ?_
              refine lv_iload_n hx hb dX10_months_54 rfl (lv_at hl 2 rfl) ?_
              refine lv_icmp_ge (tgt := 82) hx hb dX10_months_55 (by decide) (fun c55 => ?_) (fun c55 => ?_)
              · have c55 : p0.toInt ≤ m53_L_2.toInt := z3 rfl rfl c55
                refine lv_aload_n hx hb dX10_months_82 rfl (lv_at hl 1 rfl) ?_
                refine va_get (D := (dC, dI)) (ci := 10) (v := .ref g0) (C := RX10) (T := TX10) (N := 17) hx hb hts iX10 hown hK hP 0 rfl rfl 6 (by decide) (hts _ qw362) (fun _ h9 => h9) rfl dX10_months_83 ?_
                refine va_get (D := (dC, dI)) (ci := 7) (v := .int m53_F_g0_8) (C := RX7) (T := TX7) (N := 9) hx hb hts iX7 hown hK hP 2 rfl rfl 8 (by decide) (hts _ qw242) (fun _ h9 => h9) rfl dX10_months_86 ?_
                rw [hQ]
                exact W.iret (v := m53_F_g0_8) hx hb hr (fun t ht hW => ⟨⟨m53_F_g0_8, (m53_F_g0_7, m53_F_g0_8, m53_F_ac_1, m53_F_ac_2, m53_A_aW, frf), rfl, ⟨by (try dsimp only); omega, by (try dsimp only); omega, by (try dsimp only); omega, by (try dsimp only); omega, by (try dsimp only); exact fun kc kT q_fr q_fb q_fp q_gfP hc hb h => by have q : sW_mon nb.toInt kT.1 p0 = -1 := (by unfold sW_mon; exact (if_neg (by omega)).trans ((if_neg (by omega)).trans (if_neg (by rw [zSc_mo h.1, ← e38]; omega)))); have a := jv53_0 kc kT _ _ _ _ hc hb h; rw [show m53_L_2.toInt.toNat = p0.toInt.toNat by omega] at a; unfold sA sT_mon; rw [if_pos q, if_pos q]; exact ⟨(zSc_mo a.1).symm, a⟩, jf53_5⟩, ⟨by rw [ht]; exact hP, hD⟩⟩, hS.F ht⟩) hS.2.2 dX10_months_89
              · have c55 : m53_L_2.toInt < p0.toInt := z4 rfl rfl c55
                refine lv_aload_n hx hb dX10_months_58 rfl (lv_at hl 1 rfl) ?_
                refine va_get (D := (dC, dI)) (ci := 10) (v := .ref ac) (C := RX10) (T := TX10) (N := 17) hx hb hts iX10 hown hK hP 0 rfl rfl 8 (by decide) (hts _ qw364) (fun _ h9 => h9) rfl dX10_months_59 ?_
                refine lv_aload_n hx hb dX10_months_62 rfl (lv_at hl 1 rfl) ?_
                refine va_get (D := (dC, dI)) (ci := 10) (v := .ref g0) (C := RX10) (T := TX10) (N := 17) hx hb hts iX10 hown hK hP 0 rfl rfl 6 (by decide) (hts _ qw362) (fun _ h9 => h9) rfl dX10_months_63 ?_
                obtain ⟨hPc, hDc, hFc⟩ := zc3 (wc := [(ac, .inr (0, [.ref aW, .int m53_F_ac_1, .int m53_F_ac_2])), (aW, .inl (cI, 680, .inl m53_A_aW)), (g0, .inr (7, [.ref gY, .ref gF, .ref gP, .int gpn, .int glt, .int gsh, .int gwd, .int m53_F_g0_7, .int m53_F_g0_8])), (gY, .inl (cI, 6, .inl gfY)), (gF, .inl (cI, 5, .inl gfF))]) hP hD hS hA [5, 6, 2, 3, 4] (by decide +kernel) rfl
                refine va_callv (va_runV (As := [.ref g0]) (rest := []) ⟨hx, hb, hml, hown, hts⟩ (g_X0_keep l dC dI cI cJ ac g0 aW m53_F_ac_1 m53_F_ac_2 m53_A_aW gY gF gP gpn glt gsh gwd m53_F_g0_7 m53_F_g0_8 gfY gfF H.size jf53_1 y_gpn y_gwd jf53_0 jf53_5) (cwV 1 hts (zgV qw688 qw689 qw690 qw104 qw691) rfl rfl rfl hd_X0_keep ⟨by rw [hR]; exact Nat.le_of_ble_eq_true rfl, by rw [hR]; exact Nat.le_of_ble_eq_true rfl⟩) (zPV hPc hK hDc (va_recv (q := (RX0, TX0, 3)) hK hP (ci := 0) (q0 := 5) rfl rfl)) rfl rfl hl.1 rfl (lv_room (Nat.le_of_ble_eq_true rfl)) dX10_months_66 ⟨Nat.zero_le _, Nat.zero_le _⟩) hS (fun q _ h => hFc q h) hFc (fun u66 t H locs ht hvm hw hB hz1 hk1 hS9 => ?_)
                obtain ⟨u66_0, u66_1, u66_2⟩ := u66
                obtain ⟨hP9, hD9⟩ := zj2 (wX := [(h0, .inr (10, [.ref tp, h0_courtReader, h0_lawReader, h0_draft, .ref aC, h0_laws, .ref g0, .ref k0, .ref ac, .ref sd, .ref mi, .ref dw, .ref rf, .int lc, .int lh, .int br, .int hi])), (aC, .inr (1, [.ref aR, .ref aB, .ref aP, .int nb, .int np])), (g0, .inr (7, [.ref gY, .ref gF, .ref gP, .int gpn, .int glt, .int gsh, .int gwd, .int m53_F_g0_7, .int m53_F_g0_8])), (gY, .inl (cI, 6, .inl gfY)), (gF, .inl (cI, 5, .inl gfF)), (ac, .inr (0, [.ref aW, .int u66_0, .int u66_1])), (aW, .inl (cI, 680, .inl u66_2)), (rf, .inl (cI, 5, .inl frf))]) hP hD hk1 hFc ht hB [5, 6, 2, 3, 4] [(false, 0), (false, 1), (true, 2), (true, 3), (true, 4), (true, 0), (true, 1), (false, 7)] rfl (by decide +kernel) (by decide +kernel) rfl
                clear hP hD hS hPc hDc hFc hB hk1 hz1 hvm
                have hP := hP9
                have hD := hD9
                have hS := hS9
                clear hP9 hD9 hS9
                obtain ⟨f66_0, f66_1, f66_2, f66_3, f66_4, f66_5⟩ : (0 ≤ u66_0.toInt) ∧ (u66_0.toInt ≤ 39) ∧ (1 ≤ u66_1.toInt) ∧ (u66_1.toInt ≤ 40) ∧ (∀ (nbI npI : Int) (S : zS) (Ks : List zS) (P : Nat → Int32), nbI ≤ 6 → npI ≤ 5 → zSc nbI npI S gfY gfF P gpn glt gsh gwd m53_F_g0_7 m53_F_g0_8 → zKc nbI npI Ks P m53_A_aW m53_F_ac_1 m53_F_ac_2 → zKc nbI npI (sKeep S Ks) P u66_2 u66_0 u66_1) ∧ (zRw u66_2) := hw
                have F66 := f66_4
                refine lv_aload_n hx hb dX10_months_69 rfl (lv_at hl 1 rfl) ?_
                refine va_get (D := (dC, dI)) (ci := 10) (v := .ref g0) (C := RX10) (T := TX10) (N := 17) hx hb hts iX10 hown hK hP 0 rfl rfl 6 (by decide) (hts _ qw362) (fun _ h9 => h9) rfl dX10_months_70 ?_
                obtain ⟨hPc, hDc, hFc⟩ := zc3 (wc := [(g0, .inr (7, [.ref gY, .ref gF, .ref gP, .int gpn, .int glt, .int gsh, .int gwd, .int m53_F_g0_7, .int m53_F_g0_8]))]) hP hD hS hA [2] (by decide +kernel) rfl
                refine va_callv (va_runV (As := []) (rest := []) ⟨hx, hb, hml, hown, hts⟩ (g_X7_passMonth l dC dI cI cJ g0 gY gF gP gpn glt gsh gwd m53_F_g0_7 m53_F_g0_8 H.size) (cwV 0 hts (zgV qw763 qw764 qw765 qw103 qw766) rfl rfl rfl hd_X7_passMonth ⟨by rw [hR]; exact Nat.le_of_ble_eq_true rfl, by rw [hR]; exact Nat.le_of_ble_eq_true rfl⟩) (zPV hPc hK hDc (va_recv (q := (RX7, TX7, 9)) hK hP (ci := 7) (q0 := 2) rfl rfl)) rfl rfl hl.1 rfl (lv_room (Nat.le_of_ble_eq_true rfl)) dX10_months_73 ⟨Nat.zero_le _, Nat.zero_le _⟩) hS (fun q _ h => hFc q h) hFc (fun u73 t H locs ht hvm hw hB hz1 hk1 hS9 => ?_)
                obtain ⟨u73_0, u73_1⟩ := u73
                obtain ⟨hP9, hD9⟩ := zj2 (wX := [(h0, .inr (10, [.ref tp, h0_courtReader, h0_lawReader, h0_draft, .ref aC, h0_laws, .ref g0, .ref k0, .ref ac, .ref sd, .ref mi, .ref dw, .ref rf, .int lc, .int lh, .int br, .int hi])), (aC, .inr (1, [.ref aR, .ref aB, .ref aP, .int nb, .int np])), (g0, .inr (7, [.ref gY, .ref gF, .ref gP, .int gpn, .int glt, .int gsh, .int gwd, .int u73_0, .int u73_1])), (gY, .inl (cI, 6, .inl gfY)), (gF, .inl (cI, 5, .inl gfF)), (ac, .inr (0, [.ref aW, .int u66_0, .int u66_1])), (aW, .inl (cI, 680, .inl u66_2)), (rf, .inl (cI, 5, .inl frf))]) hP hD hk1 hFc ht hB [2] [(false, 0), (false, 1), (true, 0), (false, 3), (false, 4), (false, 5), (false, 6), (false, 7)] rfl (by decide +kernel) (by decide +kernel) rfl
                clear hP hD hS hPc hDc hFc hB hk1 hz1 hvm
                have hP := hP9
                have hD := hD9
                have hS := hS9
                clear hP9 hD9 hS9
                obtain ⟨f73_0, f73_1⟩ : (u73_0.toInt ≤ 999) ∧ (u73_0 = sMin 999 (m53_F_g0_7 + 1) ∧ u73_1 = m53_F_g0_8 + 1) := hw
                have F73 := f73_1
                obtain ⟨v76, e76⟩ : ∃ y : Int32, y = m53_L_2 + Int32.ofInt (1) := ⟨_, rfl⟩
                refine lv_iinc (v := v76) (lv' := [(2, .int v76), (0, .ref h0), (1, .int p0)]) hx hb dX10_months_76 hl (k := 0) rfl e76.symm (by decide) rfl (fun ls hl => ?_)
                have i76 : v76.toInt = m53_L_2.toInt + 1 := zaddI e76 (by decide) (by omega) (by omega)
                refine lv_goto (tgt := 53) hx hb dX10_months_79 (by decide) ?_
                exact ih53 _ (by omega) u66_2 u66_0 u66_1 u73_0 u73_1 v76 ⟨f66_0, f66_1⟩ (by omega) (by omega) (fun kc kT q_fr q_fb q_fp q_gfP hc hb h => by have zm := congrArg Int32.toInt (zSc_mo h.1); have zb := hb.2.2.2.1.2.2.2.1; have z38 : v38.toInt = gmo.toInt + p0.toInt := zadd e38 rfl rfl (by omega) (by omega); have a := jv53_0 kc kT _ _ _ _ hc hb h; have ob := sMon_b hb.2 m53_L_2.toInt.toNat (by omega); rw [show v76.toInt.toNat = m53_L_2.toInt.toNat + 1 by omega]; exact zActK ob.1 a (F66 _ _ (sMon kT m53_L_2.toInt.toNat).1 (sMon kT m53_L_2.toInt.toNat).2.1 _ hb.2.1.2 hb.2.2.1.2 a.1 a.2.1) (zSc_M a.1 F73.1 F73.2) (fun _ _ => rfl)) (by omega) f66_5 rfl H locs ls hP hD hS (lv_sub hl [0, 1, 2] rfl)
          refine lv_istore_n (lv' := [(2, .int 0), (0, .ref h0), (1, .int p0)]) hx hb dX10_months_52 rfl hl (by decide) rfl (fun ls hl => ?_)
          have zj53_m53_L_2 : (0 : Int32).toInt = 0 := by decide
          exact J53 _ fR pl cn gpu gmo 0 n_pl n_cn (by decide) (fun kc kT q_fr q_fb q_fp q_gfP hc hb h => h) (by omega) ci_fR_zRw rfl H locs ls hP hD hS (lv_sub hl [0, 1, 2] rfl)
        · have c42 : 999 < v38.toInt := z4 rfl (by decide) c42
          refine lv_aload_n hx hb dX10_months_45 rfl (lv_at hl 0 rfl) ?_
          refine lv_iconst (v := 4) hx hb dX10_months_46 (by decide) ?_
          obtain ⟨hPc, hDc, hFc⟩ := zc3 (wc := [(h0, .inr (10, [.ref tp, h0_courtReader, h0_lawReader, h0_draft, .ref aC, h0_laws, .ref g0, .ref k0, .ref ac, .ref sd, .ref mi, .ref dw, .ref rf, .int lc, .int lh, .int br, .int hi])), (rf, .inl (cI, 5, .inl frf))]) hP hD hS hA [0, 7] (by decide +kernel) rfl
          refine va_calli (va_runV (As := [.int 4]) (rest := []) ⟨hx, hb, hml, hown, hts⟩ (g_X10_refuse l dC dI cI cJ h0 4 tp h0_courtReader h0_lawReader h0_draft aC h0_laws g0 k0 ac sd mi dw rf lc lh br hi frf H.size y_hi y_lc (by decide)) (cwV 1 hts (zgV qw684 qw686 qw13 qw98 qw687) rfl rfl rfl hd_X10_refuse ⟨by rw [hR]; exact Nat.le_of_ble_eq_true rfl, by rw [hR]; exact Nat.le_of_ble_eq_true rfl⟩) (zPV hPc hK hDc (va_recv (q := (RX10, TX10, 17)) hK hP (ci := 10) (q0 := 0) rfl rfl)) rfl rfl hl.1 rfl (lv_room (Nat.le_of_ble_eq_true rfl)) dX10_months_47 ⟨Nat.zero_le _, Nat.zero_le _⟩) hS (fun q _ h => hFc q h) hFc (fun v47 u47 t H locs ht hvm hw hB hz1 hk1 hS9 => ?_)
          obtain ⟨u47_0, rfl⟩ : ∃ z, z = u47 := ⟨_, rfl⟩
          obtain ⟨hP9, hD9⟩ := zj2 (wX := [(h0, .inr (10, [.ref tp, h0_courtReader, h0_lawReader, h0_draft, .ref aC, h0_laws, .ref g0, .ref k0, .ref ac, .ref sd, .ref mi, .ref dw, .ref rf, .int lc, .int lh, .int br, .int hi])), (aC, .inr (1, [.ref aR, .ref aB, .ref aP, .int nb, .int np])), (g0, .inr (7, [.ref gY, .ref gF, .ref gP, .int gpn, .int glt, .int gsh, .int gwd, .int gpu, .int gmo])), (gY, .inl (cI, 6, .inl gfY)), (gF, .inl (cI, 5, .inl gfF)), (ac, .inr (0, [.ref aW, .int pl, .int cn])), (aW, .inl (cI, 680, .inl fR)), (rf, .inl (cI, 5, .inl u47_0))]) hP hD hk1 hFc ht hB [0, 7] [(true, 0), (false, 1), (false, 2), (false, 3), (false, 4), (false, 5), (false, 6), (true, 1)] rfl (by decide +kernel) (by decide +kernel) rfl
          clear hP hD hS hPc hDc hFc hB hk1 hz1 hvm
          have hP := hP9
          have hD := hD9
          have hS := hS9
          clear hP9 hD9 hS9
          obtain ⟨hwc, hw⟩ := hw
          have hwc : v47 = (-1) := hwc
          subst hwc
          have zn47_4 : (4 : Int32).toInt = 4 := by decide
          have f47_0 : (zRf frf u47_0 (4 : Int32).toInt) := hw
          have F47 := f47_0
          have zr0 : ((-1) : Int32).toInt = (-1) := by decide
          rw [hQ]
          exact W.iret (v := ((-1))) hx hb hr (fun t ht hW => ⟨⟨(-1), (gpu, gmo, pl, cn, fR, u47_0), rfl, ⟨by (try dsimp only); omega, by (try dsimp only); omega, by (try dsimp only); omega, by (try dsimp only); omega, by (try dsimp only); exact fun kc kT q_fr q_fb q_fp q_gfP hc hb h => by have q : sW_mon nb.toInt kT.1 p0 = (4 : Int32).toInt := (by have zm := congrArg Int32.toInt (zSc_mo h.1); unfold sW_mon; exact (if_neg (by omega)).trans ((if_neg (by omega)).trans ((if_pos (by rw [zSc_mo h.1, ← e38]; omega)).trans (by omega)))); unfold sA sT_mon; rw [if_neg (show ¬ sW_mon nb.toInt kT.1 p0 = -1 by omega), if_neg (show ¬ sW_mon nb.toInt kT.1 p0 = -1 by omega)]; exact ⟨rfl, zTc_ref q h F47⟩, ci_fR_zRw⟩, ⟨by rw [ht]; exact hP, hD⟩⟩, hS.F ht⟩) hS.2.2 dX10_months_50
      · have c21 : 60 < p0.toInt := z4 rfl (by decide) c21
        refine lv_aload_n hx hb dX10_months_24 rfl (lv_at hl 0 rfl) ?_
        refine lv_iconst (v := 1) hx hb dX10_months_25 (by decide) ?_
        obtain ⟨hPc, hDc, hFc⟩ := zc3 (wc := [(h0, .inr (10, [.ref tp, h0_courtReader, h0_lawReader, h0_draft, .ref aC, h0_laws, .ref g0, .ref k0, .ref ac, .ref sd, .ref mi, .ref dw, .ref rf, .int lc, .int lh, .int br, .int hi])), (rf, .inl (cI, 5, .inl frf))]) hP hD hS hA [0, 7] (by decide +kernel) rfl
        refine va_calli (va_runV (As := [.int 1]) (rest := []) ⟨hx, hb, hml, hown, hts⟩ (g_X10_refuse l dC dI cI cJ h0 1 tp h0_courtReader h0_lawReader h0_draft aC h0_laws g0 k0 ac sd mi dw rf lc lh br hi frf H.size y_hi y_lc (by decide)) (cwV 1 hts (zgV qw684 qw686 qw13 qw98 qw687) rfl rfl rfl hd_X10_refuse ⟨by rw [hR]; exact Nat.le_of_ble_eq_true rfl, by rw [hR]; exact Nat.le_of_ble_eq_true rfl⟩) (zPV hPc hK hDc (va_recv (q := (RX10, TX10, 17)) hK hP (ci := 10) (q0 := 0) rfl rfl)) rfl rfl hl.1 rfl (lv_room (Nat.le_of_ble_eq_true rfl)) dX10_months_26 ⟨Nat.zero_le _, Nat.zero_le _⟩) hS (fun q _ h => hFc q h) hFc (fun v26 u26 t H locs ht hvm hw hB hz1 hk1 hS9 => ?_)
        obtain ⟨u26_0, rfl⟩ : ∃ z, z = u26 := ⟨_, rfl⟩
        obtain ⟨hP9, hD9⟩ := zj2 (wX := [(h0, .inr (10, [.ref tp, h0_courtReader, h0_lawReader, h0_draft, .ref aC, h0_laws, .ref g0, .ref k0, .ref ac, .ref sd, .ref mi, .ref dw, .ref rf, .int lc, .int lh, .int br, .int hi])), (aC, .inr (1, [.ref aR, .ref aB, .ref aP, .int nb, .int np])), (g0, .inr (7, [.ref gY, .ref gF, .ref gP, .int gpn, .int glt, .int gsh, .int gwd, .int gpu, .int gmo])), (gY, .inl (cI, 6, .inl gfY)), (gF, .inl (cI, 5, .inl gfF)), (ac, .inr (0, [.ref aW, .int pl, .int cn])), (aW, .inl (cI, 680, .inl fR)), (rf, .inl (cI, 5, .inl u26_0))]) hP hD hk1 hFc ht hB [0, 7] [(true, 0), (false, 1), (false, 2), (false, 3), (false, 4), (false, 5), (false, 6), (true, 1)] rfl (by decide +kernel) (by decide +kernel) rfl
        clear hP hD hS hPc hDc hFc hB hk1 hz1 hvm
        have hP := hP9
        have hD := hD9
        have hS := hS9
        clear hP9 hD9 hS9
        obtain ⟨hwc, hw⟩ := hw
        have hwc : v26 = (-1) := hwc
        subst hwc
        have zn26_1 : (1 : Int32).toInt = 1 := by decide
        have f26_0 : (zRf frf u26_0 (1 : Int32).toInt) := hw
        have F26 := f26_0
        have zr0 : ((-1) : Int32).toInt = (-1) := by decide
        rw [hQ]
        exact W.iret (v := ((-1))) hx hb hr (fun t ht hW => ⟨⟨(-1), (gpu, gmo, pl, cn, fR, u26_0), rfl, ⟨by (try dsimp only); omega, by (try dsimp only); omega, by (try dsimp only); omega, by (try dsimp only); omega, by (try dsimp only); exact fun kc kT q_fr q_fb q_fp q_gfP hc hb h => by have q : sW_mon nb.toInt kT.1 p0 = (1 : Int32).toInt := (by have zm := congrArg Int32.toInt (zSc_mo h.1); unfold sW_mon; exact (if_neg (by omega)).trans ((if_pos (by omega)).trans (by omega))); unfold sA sT_mon; rw [if_neg (show ¬ sW_mon nb.toInt kT.1 p0 = -1 by omega), if_neg (show ¬ sW_mon nb.toInt kT.1 p0 = -1 by omega)]; exact ⟨rfl, zTc_ref q h F26⟩, ci_fR_zRw⟩, ⟨by rw [ht]; exact hP, hD⟩⟩, hS.F ht⟩) hS.2.2 dX10_months_29
  · have c4 : v1.toInt = 0 := z5 rfl (by decide) c4
    refine lv_aload_n hx hb dX10_months_7 rfl (lv_at hl 0 rfl) ?_
    refine lv_iconst (v := 0) hx hb dX10_months_8 (by decide) ?_
    obtain ⟨hPc, hDc, hFc⟩ := zc3 (wc := [(h0, .inr (10, [.ref tp, h0_courtReader, h0_lawReader, h0_draft, .ref aC, h0_laws, .ref g0, .ref k0, .ref ac, .ref sd, .ref mi, .ref dw, .ref rf, .int lc, .int lh, .int br, .int hi])), (rf, .inl (cI, 5, .inl frf))]) hP hD hS hA [0, 7] (by decide +kernel) rfl
    refine va_calli (va_runV (As := [.int 0]) (rest := []) ⟨hx, hb, hml, hown, hts⟩ (g_X10_refuse l dC dI cI cJ h0 0 tp h0_courtReader h0_lawReader h0_draft aC h0_laws g0 k0 ac sd mi dw rf lc lh br hi frf H.size y_hi y_lc (by decide)) (cwV 1 hts (zgV qw684 qw686 qw13 qw98 qw687) rfl rfl rfl hd_X10_refuse ⟨by rw [hR]; exact Nat.le_of_ble_eq_true rfl, by rw [hR]; exact Nat.le_of_ble_eq_true rfl⟩) (zPV hPc hK hDc (va_recv (q := (RX10, TX10, 17)) hK hP (ci := 10) (q0 := 0) rfl rfl)) rfl rfl hl.1 rfl (lv_room (Nat.le_of_ble_eq_true rfl)) dX10_months_9 ⟨Nat.zero_le _, Nat.zero_le _⟩) hS (fun q _ h => hFc q h) hFc (fun v9 u9 t H locs ht hvm hw hB hz1 hk1 hS9 => ?_)
    obtain ⟨u9_0, rfl⟩ : ∃ z, z = u9 := ⟨_, rfl⟩
    obtain ⟨hP9, hD9⟩ := zj2 (wX := [(h0, .inr (10, [.ref tp, h0_courtReader, h0_lawReader, h0_draft, .ref aC, h0_laws, .ref g0, .ref k0, .ref ac, .ref sd, .ref mi, .ref dw, .ref rf, .int lc, .int lh, .int br, .int hi])), (aC, .inr (1, [.ref aR, .ref aB, .ref aP, .int nb, .int np])), (g0, .inr (7, [.ref gY, .ref gF, .ref gP, .int gpn, .int glt, .int gsh, .int gwd, .int gpu, .int gmo])), (gY, .inl (cI, 6, .inl gfY)), (gF, .inl (cI, 5, .inl gfF)), (ac, .inr (0, [.ref aW, .int pl, .int cn])), (aW, .inl (cI, 680, .inl fR)), (rf, .inl (cI, 5, .inl u9_0))]) hP hD hk1 hFc ht hB [0, 7] [(true, 0), (false, 1), (false, 2), (false, 3), (false, 4), (false, 5), (false, 6), (true, 1)] rfl (by decide +kernel) (by decide +kernel) rfl
    clear hP hD hS hPc hDc hFc hB hk1 hz1 hvm
    have hP := hP9
    have hD := hD9
    have hS := hS9
    clear hP9 hD9 hS9
    obtain ⟨hwc, hw⟩ := hw
    have hwc : v9 = (-1) := hwc
    subst hwc
    have zn9_0 : (0 : Int32).toInt = 0 := by decide
    have f9_0 : (zRf frf u9_0 (0 : Int32).toInt) := hw
    have F9 := f9_0
    have zr0 : ((-1) : Int32).toInt = (-1) := by decide
    rw [hQ]
    exact W.iret (v := ((-1))) hx hb hr (fun t ht hW => ⟨⟨(-1), (gpu, gmo, pl, cn, fR, u9_0), rfl, ⟨by (try dsimp only); omega, by (try dsimp only); omega, by (try dsimp only); omega, by (try dsimp only); omega, by (try dsimp only); exact fun kc kT q_fr q_fb q_fp q_gfP hc hb h => by have q : sW_mon nb.toInt kT.1 p0 = (0 : Int32).toInt := (by have zm := congrArg Int32.toInt (zSc_mo h.1); unfold sW_mon; exact (if_pos (by omega)).trans (by omega)); unfold sA sT_mon; rw [if_neg (show ¬ sW_mon nb.toInt kT.1 p0 = -1 by omega), if_neg (show ¬ sW_mon nb.toInt kT.1 p0 = -1 by omega)]; exact ⟨rfl, zTc_ref q h F9⟩, ci_fR_zRw⟩, ⟨by rw [ht]; exact hP, hD⟩⟩, hS.F ht⟩) hS.2.2 dX10_months_12
set_option maxHeartbeats 4000000 in
set_option maxRecDepth 100000 in
theorem g_X10_bribes (l : Launch) (dC : Nat → ClassId) (dI : Nat → Nat → Nat) (cI cJ : ClassId) (h0 : Nat) (p0 : Int32) (tp : Nat) (h0_courtReader : Value) (h0_lawReader : Value) (h0_draft : Value) (aC : Nat) (h0_laws : Value) (g0 : Nat) (k0 : Nat) (ac : Nat) (sd : Nat) (mi : Nat) (dw : Nat) (rf : Nat) (lc : Int32) (lh : Int32) (br : Int32) (hi : Int32) (sz : Nat) (n_hi : 0 ≤ hi.toInt ∧ hi.toInt ≤ 1) (n_lc : 0 ≤ lc.toInt ∧ lc.toInt ≤ 4)    : Met l yX10_bribes (.code yX10_bribes cX10_bribes 2 (some .boolean) :: wA) ({ frames := 1, cells := 0, slots := 0, locals := 20 }) (zP (dC, dI) [(cI, .int), (cJ, .long)] [.ref h0, .int p0] sz [(h0, .inr (10, [.ref tp, h0_courtReader, h0_lawReader, h0_draft, .ref aC, h0_laws, .ref g0, .ref k0, .ref ac, .ref sd, .ref mi, .ref dw, .ref rf, .int lc, .int lh, .int br, .int hi]))]) (va_Qi (fun (r : Int32) (u : Int32) => (0 ≤ r.toInt) ∧ (r.toInt ≤ 1)) (fun (u : Int32) (t : State) => va_P (dC, dI) vwCl [(h0, .inr (10, [.ref tp, h0_courtReader, h0_lawReader, h0_draft, .ref aC, h0_laws, .ref g0, .ref k0, .ref ac, .ref sd, .ref mi, .ref dw, .ref rf, .int lc, .int lh, .int u, .int hi]))] t.heap ∧ va_D (va_A [(h0, .inr (10, [.ref tp, h0_courtReader, h0_lawReader, h0_draft, .ref aC, h0_laws, .ref g0, .ref k0, .ref ac, .ref sd, .ref mi, .ref dw, .ref rf, .int lc, .int lh, .int br, .int hi]))] sz) [(h0, .inr (10, [.ref tp, h0_courtReader, h0_lawReader, h0_draft, .ref aC, h0_laws, .ref g0, .ref k0, .ref ac, .ref sd, .ref mi, .ref dw, .ref rf, .int lc, .int lh, .int u, .int hi]))]) (va_A [(h0, .inr (10, [.ref tp, h0_courtReader, h0_lawReader, h0_draft, .ref aC, h0_laws, .ref g0, .ref k0, .ref ac, .ref sd, .ref mi, .ref dw, .ref rf, .int lc, .int lh, .int br, .int hi]))] sz)) 0 0 (va_A [(h0, .inr (10, [.ref tp, h0_courtReader, h0_lawReader, h0_draft, .ref aC, h0_laws, .ref g0, .ref k0, .ref ac, .ref sd, .ref mi, .ref dw, .ref rf, .int lc, .int lh, .int br, .int hi]))] sz) := by
  refine Met.ofW (cc := cX10_bribes) (maxL := 2) (ret := (some .boolean)) (by decide) rfl ?_
  intro p e s m args below meth c s₁ B hml hv
  have y_hi : zHid (0 ≤ hi.toInt ∧ hi.toInt ≤ 1) := n_hi
  have y_lc : zHid (0 ≤ lc.toInt ∧ lc.toInt ≤ 4) := n_lc
  clear n_hi n_lc
  obtain ⟨hargs, hsz, hP, hK, hT⟩ := hv
  have hx := B.exec
  have hb := B.bytes
  have hr := B.returns
  have hts : ∀ w ∈ wA, w.before args s = true := fun w h => atoms_spec (ws := .code yX10_bribes cX10_bribes 2 (some .boolean) :: wA) B.pre w (List.mem_cons_of_mem _ h)
  have hown : s.vm.findClass RX10 = some m.cls := findClass_of_methodNamed B.named
  have hlocks := B.notSynchronized
  subst hsz
  have hD := hT.self (sz := s.heap.size)
  generalize hAe : va_A [(h0, .inr (10, [.ref tp, h0_courtReader, h0_lawReader, h0_draft, .ref aC, h0_laws, .ref g0, .ref k0, .ref ac, .ref sd, .ref mi, .ref dw, .ref rf, .int lc, .int lh, .int br, .int hi]))] s.heap.size = A at hD ⊢
  have hA : ∀ q : Nat, s.heap.size ≤ q → A q := fun q h => by rw [← hAe]; exact Or.inr h
  have hl := lv_entry ([.ref h0, .int p0]) (n := 2) (Nat.le_of_ble_eq_true rfl)
  rw [show entryFrame m args 2 = entryFrame m ([.ref h0, .int p0] : List Value).toArray 2 by rw [hargs], lg_entry_eq]
  generalize (lg_sl ([.ref h0, .int p0]) ++ List.replicate (2 - (lg_sl ([.ref h0, .int p0])).length) Slot.unset).toArray = ls at hl ⊢
  have hl : lv_has ls 2 [(0, .ref h0), (1, .int p0)] := hl
  refine zstart (fun H hH => ?_)
  rw [← hH] at hP
  have hS : va_S A s.heap H [] := by rw [hH]; exact va_S.rf
  generalize ([] : List Loc) = locs at hS ⊢
  refine zgen (fun R Q hR hQ => ?_)
  refine lv_iload_n hx hb dX10_bribes_0 rfl (lv_at hl 1 rfl) ?_
  have hPc : va_P (dC, dI) vwCl [] H := zP0
  have hDc : va_D (fun _ => True) [] := zD0
  have hFc := zfr hS hA
  refine va_calli (va_runS (As := [.int p0]) (rest := []) ⟨hx, hb, hml, hown, hts⟩ (g_X10_isDigit l dC dI cI cJ p0 H.size) (cwS 1 hts (zgS qw714 qw715 qw98 qw716) rfl rfl rfl hd_X10_isDigit ⟨by rw [hR]; exact Nat.le_of_ble_eq_true rfl, by rw [hR]; exact Nat.le_of_ble_eq_true rfl⟩) (zPS hPc hK hDc) rfl rfl hl.1 rfl (lv_room (Nat.le_of_ble_eq_true rfl)) dX10_bribes_1 ⟨Nat.zero_le _, Nat.zero_le _⟩) hS (fun q _ h => hFc q h) hFc (fun v1 u1 t H locs ht hvm hw hB hz1 hk1 hS9 => ?_)
  replace hP := zkeep hP hk1
  replace hS := hS9
  clear hPc hDc hFc hk1 hz1 hvm hS9
  obtain ⟨f1_0, f1_1, f1_2, f1_3⟩ : (0 ≤ v1.toInt) ∧ (v1.toInt ≤ 1) ∧ (¬ v1.toInt = 0 → (0 ≤ p0.toInt ∧ p0.toInt ≤ 9)) ∧ (v1.toInt = 0 → ¬ (0 ≤ p0.toInt ∧ p0.toInt ≤ 9)) := hw
  have J15 : ∀ (H : Heap) (locs : List Loc) (ls : Array Slot), va_P (dC, dI) vwCl [(h0, .inr (10, [.ref tp, h0_courtReader, h0_lawReader, h0_draft, .ref aC, h0_laws, .ref g0, .ref k0, .ref ac, .ref sd, .ref mi, .ref dw, .ref rf, .int lc, .int lh, .int br, .int hi]))] H → va_D A [(h0, .inr (10, [.ref tp, h0_courtReader, h0_lawReader, h0_draft, .ref aC, h0_laws, .ref g0, .ref k0, .ref ac, .ref sd, .ref mi, .ref dw, .ref rf, .int lc, .int lh, .int br, .int hi]))] → va_S A s.heap H locs → lv_has ls 2 [(0, .ref h0), (1, .int p0)] → W p l e R s m args below meth c H locs 0 0 Q (F0 m 15 ls []) := by
    intro   H locs ls hP hD hS hl
    refine lv_iconst (v := 0) hx hb dX10_bribes_15 (by decide) ?_
    have zr0 : (0 : Int32).toInt = 0 := by decide
    rw [hQ]
    exact W.zret (v := 0) (ty := .boolean) hx hb hr rfl (fun t ht hW => ⟨⟨0, br, rfl, ⟨by (try dsimp only); omega, by (try dsimp only); omega⟩, ⟨by rw [ht]; exact hP, hD⟩⟩, hS.F ht⟩) hS.2.2 dX10_bribes_16
  refine lv_if_eq (tgt := 15) hx hb dX10_bribes_4 (by decide) (fun c4 => ?_) (fun c4 => ?_)
  · have c4 : v1.toInt = 0 := z5 rfl (by decide) c4
    exact J15   H locs ls hP hD hS (lv_sub hl [0, 1] rfl)
  · have c4 : ¬ v1.toInt = 0 := z6 rfl (by decide) c4
    refine lv_iload_n hx hb dX10_bribes_7 rfl (lv_at hl 1 rfl) ?_
    refine lv_aload_n hx hb dX10_bribes_8 rfl (lv_at hl 0 rfl) ?_
    refine va_get (D := (dC, dI)) (ci := 10) (v := .int br) (C := RX10) (T := TX10) (N := 17) hx hb hts iX10 hown hK hP 0 rfl rfl 15 (by decide) (hts _ qw371) (fun _ h9 => h9) rfl dX10_bribes_9 ?_
    refine lv_icmp_ne (tgt := 17) hx hb dX10_bribes_12 (by decide) (fun c12 => ?_) (fun c12 => ?_)
    · have c12 : ¬ p0.toInt = br.toInt := z6 rfl rfl c12
      refine lv_aload_n hx hb dX10_bribes_17 rfl (lv_at hl 0 rfl) ?_
      refine lv_iload_n hx hb dX10_bribes_18 rfl (lv_at hl 1 rfl) ?_
      refine va_put (D := (dC, dI)) (ci := 10) (v := .int p0) (ty := .int) (C := RX10) (T := TX10) (N := 17) hx hb hts iX10 tyX10 tyX10_ok nmX10 hown hK hP hD hS 0 rfl rfl 15 (by decide) (hts _ qw371) (fun _ h9 => h9) rfl (by decide +kernel) rfl rfl (Nat.le_of_ble_eq_true rfl) dX10_bribes_19 (fun H locs hP9 hD9 hS9 => ?_)
      clear hP hD hS
      obtain ⟨hP, hD⟩ := zst (wX := [(h0, .inr (10, [.ref tp, h0_courtReader, h0_lawReader, h0_draft, .ref aC, h0_laws, .ref g0, .ref k0, .ref ac, .ref sd, .ref mi, .ref dw, .ref rf, .int lc, .int lh, .int p0, .int hi]))]) hP9 hD9 rfl
      have hS := hS9
      clear hP9 hD9 hS9
      refine lv_iconst (v := 1) hx hb dX10_bribes_22 (by decide) ?_
      have zr0 : (1 : Int32).toInt = 1 := by decide
      rw [hQ]
      exact W.zret (v := 1) (ty := .boolean) hx hb hr rfl (fun t ht hW => ⟨⟨1, p0, rfl, ⟨by (try dsimp only); omega, by (try dsimp only); omega⟩, ⟨by rw [ht]; exact hP, hD⟩⟩, hS.F ht⟩) hS.2.2 dX10_bribes_23
    · have c12 : p0.toInt = br.toInt := z5 rfl rfl c12
      exact J15   H locs ls hP hD hS (lv_sub hl [0, 1] rfl)
set_option maxHeartbeats 4000000 in
set_option maxRecDepth 100000 in
theorem g_X10_status (l : Launch) (dC : Nat → ClassId) (dI : Nat → Nat → Nat) (cI cJ : ClassId) (h0 : Nat) (p0 : Int32) (tp : Nat) (h0_courtReader : Value) (h0_lawReader : Value) (h0_draft : Value) (aC : Nat) (h0_laws : Value) (g0 : Nat) (k0 : Nat) (ac : Nat) (sd : Nat) (mi : Nat) (dw : Nat) (rf : Nat) (lc : Int32) (lh : Int32) (br : Int32) (hi : Int32) (frf : Nat → Int32) (sz : Nat) (n_hi : 0 ≤ hi.toInt ∧ hi.toInt ≤ 1) (n_lc : 0 ≤ lc.toInt ∧ lc.toInt ≤ 4)    : Met l yX10_status (.code yX10_status cX10_status 2 (some .int) :: wA) ({ frames := 0, cells := 0, slots := 0, locals := 0 }) (zP (dC, dI) [(cI, .int), (cJ, .long)] [.ref h0, .int p0] sz [(h0, .inr (10, [.ref tp, h0_courtReader, h0_lawReader, h0_draft, .ref aC, h0_laws, .ref g0, .ref k0, .ref ac, .ref sd, .ref mi, .ref dw, .ref rf, .int lc, .int lh, .int br, .int hi])), (rf, .inl (cI, 5, .inl frf))]) (va_Qi (fun (r : Int32) (u : Unit) => (∀ (kc : zK3) (kT : zT) (q_fr : Nat → Int32) (q_fb : Nat → Int32) (q_fp : Nat → Int32) (q_nb : Int32) (q_np : Int32) (q_gfY : Nat → Int32) (q_gfF : Nat → Int32) (q_gfP : Nat → Int32) (q_gpn : Int32) (q_glt : Int32) (q_gsh : Int32) (q_gwd : Int32) (q_gpu : Int32) (q_gmo : Int32) (q_fR : Nat → Int32) (q_pl : Int32) (q_cn : Int32), zCn q_fr q_fb q_fp q_nb.toInt q_np.toInt kc → zKo q_nb.toInt q_np.toInt kc kT → zTc q_nb.toInt q_np.toInt kT q_gfY q_gfF q_gfP q_gpn q_glt q_gsh q_gwd q_gpu q_gmo q_fR q_pl q_cn frf → r = sV_sta kT p0)) (fun (_ : Unit) (_ : State) => True) (va_A [] sz)) 0 0 (va_A [] sz) := by
  refine Met.ofW (cc := cX10_status) (maxL := 2) (ret := (some .int)) (by decide) rfl ?_
  intro p e s m args below meth c s₁ B hml hv
  have y_hi : zHid (0 ≤ hi.toInt ∧ hi.toInt ≤ 1) := n_hi
  have y_lc : zHid (0 ≤ lc.toInt ∧ lc.toInt ≤ 4) := n_lc
  clear n_hi n_lc
  obtain ⟨hargs, hsz, hP, hK, hT⟩ := hv
  have hx := B.exec
  have hb := B.bytes
  have hr := B.returns
  have hts : ∀ w ∈ wA, w.before args s = true := fun w h => atoms_spec (ws := .code yX10_status cX10_status 2 (some .int) :: wA) B.pre w (List.mem_cons_of_mem _ h)
  have hown : s.vm.findClass RX10 = some m.cls := findClass_of_methodNamed B.named
  have hlocks := B.notSynchronized
  subst hsz
  have hD : va_D (va_A [] s.heap.size) [] := zD0
  generalize hAe : va_A [] s.heap.size = A at hD ⊢
  have hA : ∀ q : Nat, s.heap.size ≤ q → A q := fun q h => by rw [← hAe]; exact Or.inr h
  have hl := lv_entry ([.ref h0, .int p0]) (n := 2) (Nat.le_of_ble_eq_true rfl)
  rw [show entryFrame m args 2 = entryFrame m ([.ref h0, .int p0] : List Value).toArray 2 by rw [hargs], lg_entry_eq]
  generalize (lg_sl ([.ref h0, .int p0]) ++ List.replicate (2 - (lg_sl ([.ref h0, .int p0])).length) Slot.unset).toArray = ls at hl ⊢
  have hl : lv_has ls 2 [(0, .ref h0), (1, .int p0)] := hl
  refine zstart (fun H hH => ?_)
  rw [← hH] at hP
  have hS : va_S A s.heap H [] := by rw [hH]; exact va_S.rf
  generalize ([] : List Loc) = locs at hS ⊢
  refine zgen (fun R Q hR hQ => ?_)
  refine lv_iload_n hx hb dX10_status_0 rfl (lv_at hl 1 rfl) ?_
  refine lv_if_lt (tgt := 9) hx hb dX10_status_1 (by decide) (fun c1 => ?_) (fun c1 => ?_)
  · have c1 : p0.toInt < 0 := z1 rfl (by decide) c1
    refine lv_iconst (v := (-1)) hx hb dX10_status_9 (by decide) ?_
    refine lv_goto (tgt := 19) hx hb dX10_status_10 (by decide) ?_
    have zr0 : ((-1) : Int32).toInt = (-1) := by decide
    rw [hQ]
    exact W.iret (v := ((-1))) hx hb hr (fun t ht hW => ⟨⟨(-1), (), rfl, (fun kc kT q_fr q_fb q_fp q_nb q_np q_gfY q_gfF q_gfP q_gpn q_glt q_gsh q_gwd q_gpu q_gmo q_fR q_pl q_cn hc hb h => by unfold sV_sta; rw [if_neg (by omega)]; ), trivial⟩, hS.F ht⟩) hS.2.2 dX10_status_19
  · have c1 : 0 ≤ p0.toInt := z2 rfl (by decide) c1
    refine lv_iload_n hx hb dX10_status_4 rfl (lv_at hl 1 rfl) ?_
    refine lv_iconst (v := 5) hx hb dX10_status_5 (by decide) ?_
    refine lv_icmp_lt (tgt := 13) hx hb dX10_status_6 (by decide) (fun c6 => ?_) (fun c6 => ?_)
    · have c6 : p0.toInt < 5 := z1 rfl (by decide) c6
      refine lv_aload_n hx hb dX10_status_13 rfl (lv_at hl 0 rfl) ?_
      refine va_get (D := (dC, dI)) (ci := 10) (v := .ref rf) (C := RX10) (T := TX10) (N := 17) hx hb hts iX10 hown hK hP 0 rfl rfl 12 (by decide) (hts _ qw368) (fun _ h9 => h9) rfl dX10_status_14 ?_
      refine lv_iload_n hx hb dX10_status_17 rfl (lv_at hl 1 rfl) ?_
      refine va_iald hx hb hK hP 1 0 rfl rfl (vp_in_iff.mpr ⟨by omega, by omega⟩) dX10_status_18 ?_
      refine lv_topi (fun v18 e18 => ?_)
      rw [hQ]
      exact W.iret (v := v18) hx hb hr (fun t ht hW => ⟨⟨v18, (), rfl, (fun kc kT q_fr q_fb q_fp q_nb q_np q_gfY q_gfF q_gfP q_gpn q_glt q_gsh q_gwd q_gpu q_gmo q_fR q_pl q_cn hc hb h => by unfold sV_sta; rw [if_pos (by omega)]; exact (zIxN (n := p0.toInt.toNat) e18 (by omega)).trans (h.2.2 _ (by omega))), trivial⟩, hS.F ht⟩) hS.2.2 dX10_status_19
    · have c6 : 5 ≤ p0.toInt := z2 rfl (by decide) c6
      refine lv_iconst (v := (-1)) hx hb dX10_status_9 (by decide) ?_
      refine lv_goto (tgt := 19) hx hb dX10_status_10 (by decide) ?_
      have zr0 : ((-1) : Int32).toInt = (-1) := by decide
      rw [hQ]
      exact W.iret (v := ((-1))) hx hb hr (fun t ht hW => ⟨⟨(-1), (), rfl, (fun kc kT q_fr q_fb q_fp q_nb q_np q_gfY q_gfF q_gfP q_gpn q_glt q_gsh q_gwd q_gpu q_gmo q_fR q_pl q_cn hc hb h => by unfold sV_sta; rw [if_neg (by omega)]; ), trivial⟩, hS.F ht⟩) hS.2.2 dX10_status_19
set_option maxHeartbeats 4000000 in
set_option maxRecDepth 100000 in
theorem g_X10_undo (l : Launch) (dC : Nat → ClassId) (dI : Nat → Nat → Nat) (cI cJ : ClassId) (h0 : Nat) (tp : Nat) (h0_courtReader : Value) (h0_lawReader : Value) (h0_draft : Value) (aC : Nat) (h0_laws : Value) (g0 : Nat) (k0 : Nat) (ac : Nat) (sd : Nat) (mi : Nat) (dw : Nat) (rf : Nat) (lc : Int32) (lh : Int32) (br : Int32) (hi : Int32) (gY : Nat) (gF : Nat) (gP : Nat) (gpn : Int32) (glt : Int32) (gsh : Int32) (gwd : Int32) (gpu : Int32) (gmo : Int32) (gfY : Nat → Int32) (gfF : Nat → Int32) (aW : Nat) (pl : Int32) (cn : Int32) (fR : Nat → Int32) (sz : Nat) (n_cn : 0 ≤ cn.toInt ∧ cn.toInt ≤ 40) (n_gpn : 0 ≤ gpn.toInt ∧ gpn.toInt ≤ 20) (n_gwd : (-1) ≤ gwd.toInt ∧ gwd.toInt ≤ 5) (n_hi : 0 ≤ hi.toInt ∧ hi.toInt ≤ 1) (n_lc : 0 ≤ lc.toInt ∧ lc.toInt ≤ 4) (n_pl : 0 ≤ pl.toInt ∧ pl.toInt ≤ 39)  (ci_fR_zRw : zRw fR)  : Met l yX10_undo (.code yX10_undo cX10_undo 1 (some .int) :: wA) ({ frames := 3, cells := 0, slots := 0, locals := 104 }) (zP (dC, dI) [(cI, .int), (cJ, .long)] [.ref h0] sz [(h0, .inr (10, [.ref tp, h0_courtReader, h0_lawReader, h0_draft, .ref aC, h0_laws, .ref g0, .ref k0, .ref ac, .ref sd, .ref mi, .ref dw, .ref rf, .int lc, .int lh, .int br, .int hi])), (g0, .inr (7, [.ref gY, .ref gF, .ref gP, .int gpn, .int glt, .int gsh, .int gwd, .int gpu, .int gmo])), (gY, .inl (cI, 6, .inl gfY)), (gF, .inl (cI, 5, .inl gfF)), (ac, .inr (0, [.ref aW, .int pl, .int cn])), (aW, .inl (cI, 680, .inl fR))]) (va_Qi (fun (r : Int32) (u : Int32 × Int32 × Int32 × Int32 × Int32 × Int32 × (Nat → Int32) × (Nat → Int32) × Int32 × Int32) => ((-1) ≤ r.toInt) ∧ (r.toInt ≤ 39) ∧ (0 ≤ u.1.toInt) ∧ (u.1.toInt ≤ 20) ∧ ((-1) ≤ u.2.2.2.1.toInt) ∧ (u.2.2.2.1.toInt ≤ 5) ∧ (0 ≤ u.2.2.2.2.2.2.2.2.1.toInt) ∧ (u.2.2.2.2.2.2.2.2.1.toInt ≤ 39) ∧ (0 ≤ u.2.2.2.2.2.2.2.2.2.toInt) ∧ (u.2.2.2.2.2.2.2.2.2.toInt ≤ 39) ∧ (∀ (kc : zK3) (kT : zT) (q_fr : Nat → Int32) (q_fb : Nat → Int32) (q_fp : Nat → Int32) (q_nb : Int32) (q_np : Int32) (q_gfP : Nat → Int32) (q_frf : Nat → Int32), zCn q_fr q_fb q_fp q_nb.toInt q_np.toInt kc → zKo q_nb.toInt q_np.toInt kc kT → zTc q_nb.toInt q_np.toInt kT gfY gfF q_gfP gpn glt gsh gwd gpu gmo fR pl cn q_frf → r.toInt = sV_und kT ∧ zTc q_nb.toInt q_np.toInt (sT_und kT) u.2.2.2.2.2.2.1 u.2.2.2.2.2.2.2.1 q_gfP u.1 u.2.1 u.2.2.1 u.2.2.2.1 u.2.2.2.2.1 u.2.2.2.2.2.1 fR u.2.2.2.2.2.2.2.2.1 u.2.2.2.2.2.2.2.2.2 q_frf)) (fun (u : Int32 × Int32 × Int32 × Int32 × Int32 × Int32 × (Nat → Int32) × (Nat → Int32) × Int32 × Int32) (t : State) => va_P (dC, dI) vwCl [(h0, .inr (10, [.ref tp, h0_courtReader, h0_lawReader, h0_draft, .ref aC, h0_laws, .ref g0, .ref k0, .ref ac, .ref sd, .ref mi, .ref dw, .ref rf, .int lc, .int lh, .int br, .int hi])), (g0, .inr (7, [.ref gY, .ref gF, .ref gP, .int u.1, .int u.2.1, .int u.2.2.1, .int u.2.2.2.1, .int u.2.2.2.2.1, .int u.2.2.2.2.2.1])), (gY, .inl (cI, 6, .inl u.2.2.2.2.2.2.1)), (gF, .inl (cI, 5, .inl u.2.2.2.2.2.2.2.1)), (ac, .inr (0, [.ref aW, .int u.2.2.2.2.2.2.2.2.1, .int u.2.2.2.2.2.2.2.2.2])), (aW, .inl (cI, 680, .inl fR))] t.heap ∧ va_D (va_A [(h0, .inr (10, [.ref tp, h0_courtReader, h0_lawReader, h0_draft, .ref aC, h0_laws, .ref g0, .ref k0, .ref ac, .ref sd, .ref mi, .ref dw, .ref rf, .int lc, .int lh, .int br, .int hi])), (g0, .inr (7, [.ref gY, .ref gF, .ref gP, .int gpn, .int glt, .int gsh, .int gwd, .int gpu, .int gmo])), (gY, .inl (cI, 6, .inl gfY)), (gF, .inl (cI, 5, .inl gfF)), (ac, .inr (0, [.ref aW, .int pl, .int cn])), (aW, .inl (cI, 680, .inl fR))] sz) [(h0, .inr (10, [.ref tp, h0_courtReader, h0_lawReader, h0_draft, .ref aC, h0_laws, .ref g0, .ref k0, .ref ac, .ref sd, .ref mi, .ref dw, .ref rf, .int lc, .int lh, .int br, .int hi])), (g0, .inr (7, [.ref gY, .ref gF, .ref gP, .int u.1, .int u.2.1, .int u.2.2.1, .int u.2.2.2.1, .int u.2.2.2.2.1, .int u.2.2.2.2.2.1])), (gY, .inl (cI, 6, .inl u.2.2.2.2.2.2.1)), (gF, .inl (cI, 5, .inl u.2.2.2.2.2.2.2.1)), (ac, .inr (0, [.ref aW, .int u.2.2.2.2.2.2.2.2.1, .int u.2.2.2.2.2.2.2.2.2])), (aW, .inl (cI, 680, .inl fR))]) (va_A [(h0, .inr (10, [.ref tp, h0_courtReader, h0_lawReader, h0_draft, .ref aC, h0_laws, .ref g0, .ref k0, .ref ac, .ref sd, .ref mi, .ref dw, .ref rf, .int lc, .int lh, .int br, .int hi])), (g0, .inr (7, [.ref gY, .ref gF, .ref gP, .int gpn, .int glt, .int gsh, .int gwd, .int gpu, .int gmo])), (gY, .inl (cI, 6, .inl gfY)), (gF, .inl (cI, 5, .inl gfF)), (ac, .inr (0, [.ref aW, .int pl, .int cn])), (aW, .inl (cI, 680, .inl fR))] sz)) 0 0 (va_A [(h0, .inr (10, [.ref tp, h0_courtReader, h0_lawReader, h0_draft, .ref aC, h0_laws, .ref g0, .ref k0, .ref ac, .ref sd, .ref mi, .ref dw, .ref rf, .int lc, .int lh, .int br, .int hi])), (g0, .inr (7, [.ref gY, .ref gF, .ref gP, .int gpn, .int glt, .int gsh, .int gwd, .int gpu, .int gmo])), (gY, .inl (cI, 6, .inl gfY)), (gF, .inl (cI, 5, .inl gfF)), (ac, .inr (0, [.ref aW, .int pl, .int cn])), (aW, .inl (cI, 680, .inl fR))] sz) := by
  refine Met.ofW (cc := cX10_undo) (maxL := 1) (ret := (some .int)) (by decide) rfl ?_
  intro p e s m args below meth c s₁ B hml hv
  have y_gpn : zHid (0 ≤ gpn.toInt ∧ gpn.toInt ≤ 20) := n_gpn
  have y_gwd : zHid ((-1) ≤ gwd.toInt ∧ gwd.toInt ≤ 5) := n_gwd
  have y_hi : zHid (0 ≤ hi.toInt ∧ hi.toInt ≤ 1) := n_hi
  have y_lc : zHid (0 ≤ lc.toInt ∧ lc.toInt ≤ 4) := n_lc
  have y_pl : zHid (0 ≤ pl.toInt ∧ pl.toInt ≤ 39) := n_pl
  clear n_gpn n_gwd n_hi n_lc n_pl
  obtain ⟨hargs, hsz, hP, hK, hT⟩ := hv
  have hx := B.exec
  have hb := B.bytes
  have hr := B.returns
  have hts : ∀ w ∈ wA, w.before args s = true := fun w h => atoms_spec (ws := .code yX10_undo cX10_undo 1 (some .int) :: wA) B.pre w (List.mem_cons_of_mem _ h)
  have hown : s.vm.findClass RX10 = some m.cls := findClass_of_methodNamed B.named
  have hlocks := B.notSynchronized
  subst hsz
  have hD := hT.self (sz := s.heap.size)
  generalize hAe : va_A [(h0, .inr (10, [.ref tp, h0_courtReader, h0_lawReader, h0_draft, .ref aC, h0_laws, .ref g0, .ref k0, .ref ac, .ref sd, .ref mi, .ref dw, .ref rf, .int lc, .int lh, .int br, .int hi])), (g0, .inr (7, [.ref gY, .ref gF, .ref gP, .int gpn, .int glt, .int gsh, .int gwd, .int gpu, .int gmo])), (gY, .inl (cI, 6, .inl gfY)), (gF, .inl (cI, 5, .inl gfF)), (ac, .inr (0, [.ref aW, .int pl, .int cn])), (aW, .inl (cI, 680, .inl fR))] s.heap.size = A at hD ⊢
  have hA : ∀ q : Nat, s.heap.size ≤ q → A q := fun q h => by rw [← hAe]; exact Or.inr h
  have hl := lv_entry ([.ref h0]) (n := 1) (Nat.le_of_ble_eq_true rfl)
  rw [show entryFrame m args 1 = entryFrame m ([.ref h0] : List Value).toArray 1 by rw [hargs], lg_entry_eq]
  generalize (lg_sl ([.ref h0]) ++ List.replicate (1 - (lg_sl ([.ref h0])).length) Slot.unset).toArray = ls at hl ⊢
  have hl : lv_has ls 1 [(0, .ref h0)] := hl
  refine zstart (fun H hH => ?_)
  rw [← hH] at hP
  have hS : va_S A s.heap H [] := by rw [hH]; exact va_S.rf
  generalize ([] : List Loc) = locs at hS ⊢
  refine zgen (fun R Q hR hQ => ?_)
  refine lv_aload_n hx hb dX10_undo_0 rfl (lv_at hl 0 rfl) ?_
  refine va_get (D := (dC, dI)) (ci := 10) (v := .ref ac) (C := RX10) (T := TX10) (N := 17) hx hb hts iX10 hown hK hP 0 rfl rfl 8 (by decide) (hts _ qw364) (fun _ h9 => h9) rfl dX10_undo_1 ?_
  refine lv_aload_n hx hb dX10_undo_4 rfl (lv_at hl 0 rfl) ?_
  refine va_get (D := (dC, dI)) (ci := 10) (v := .ref g0) (C := RX10) (T := TX10) (N := 17) hx hb hts iX10 hown hK hP 0 rfl rfl 6 (by decide) (hts _ qw362) (fun _ h9 => h9) rfl dX10_undo_5 ?_
  obtain ⟨hPc, hDc, hFc⟩ := zc3 (wc := [(ac, .inr (0, [.ref aW, .int pl, .int cn])), (aW, .inl (cI, 680, .inl fR)), (g0, .inr (7, [.ref gY, .ref gF, .ref gP, .int gpn, .int glt, .int gsh, .int gwd, .int gpu, .int gmo])), (gY, .inl (cI, 6, .inl gfY)), (gF, .inl (cI, 5, .inl gfF))]) hP hD hS hA [4, 5, 1, 2, 3] (by decide +kernel) rfl
  refine va_calli (va_runV (As := [.ref g0]) (rest := []) ⟨hx, hb, hml, hown, hts⟩ (g_X0_takeBack l dC dI cI cJ ac g0 aW pl cn fR gY gF gP gpn glt gsh gwd gpu gmo gfY gfF H.size n_cn y_gpn y_gwd y_pl ci_fR_zRw) (cwV 1 hts (zgV qw802 qw803 qw804 qw104 qw805) rfl rfl rfl hd_X0_takeBack ⟨by rw [hR]; exact Nat.le_of_ble_eq_true rfl, by rw [hR]; exact Nat.le_of_ble_eq_true rfl⟩) (zPV hPc hK hDc (va_recv (q := (RX0, TX0, 3)) hK hP (ci := 0) (q0 := 4) rfl rfl)) rfl rfl hl.1 rfl (lv_room (Nat.le_of_ble_eq_true rfl)) dX10_undo_8 ⟨Nat.zero_le _, Nat.zero_le _⟩) hS (fun q _ h => hFc q h) hFc (fun v8 u8 t H locs ht hvm hw hB hz1 hk1 hS9 => ?_)
  obtain ⟨u8_0, u8_1, u8_2, u8_3, u8_4, u8_5, u8_6, u8_7, u8_8, u8_9⟩ := u8
  obtain ⟨hP9, hD9⟩ := zj2 (wX := [(h0, .inr (10, [.ref tp, h0_courtReader, h0_lawReader, h0_draft, .ref aC, h0_laws, .ref g0, .ref k0, .ref ac, .ref sd, .ref mi, .ref dw, .ref rf, .int lc, .int lh, .int br, .int hi])), (g0, .inr (7, [.ref gY, .ref gF, .ref gP, .int u8_2, .int u8_3, .int u8_4, .int u8_5, .int u8_6, .int u8_7])), (gY, .inl (cI, 6, .inl u8_8)), (gF, .inl (cI, 5, .inl u8_9)), (ac, .inr (0, [.ref aW, .int u8_0, .int u8_1])), (aW, .inl (cI, 680, .inl fR))]) hP hD hk1 hFc ht hB [4, 5, 1, 2, 3] [(false, 0), (true, 2), (true, 3), (true, 4), (true, 0), (true, 1)] rfl (by decide +kernel) (by decide +kernel) rfl
  clear hP hD hS hPc hDc hFc hB hk1 hz1 hvm
  have hP := hP9
  have hD := hD9
  have hS := hS9
  clear hP9 hD9 hS9
  obtain ⟨f8_0, f8_1, f8_2, f8_3, f8_4, f8_5, f8_6, f8_7, f8_8, f8_9, f8_10, f8_11, f8_12⟩ : (0 ≤ v8.toInt) ∧ (v8.toInt ≤ 1) ∧ (0 ≤ u8_0.toInt) ∧ (u8_0.toInt ≤ 39) ∧ (0 ≤ u8_1.toInt) ∧ (u8_1.toInt ≤ 39) ∧ (0 ≤ u8_2.toInt) ∧ (u8_2.toInt ≤ 20) ∧ ((-1) ≤ u8_5.toInt) ∧ (u8_5.toInt ≤ 5) ∧ (v8.toInt = 0 → cn.toInt = 0) ∧ (¬ v8.toInt = 0 → 1 ≤ cn.toInt) ∧ (∀ (nbI npI : Int) (S : zS) (Ks : List zS) (P : Nat → Int32), nbI ≤ 6 → npI ≤ 5 → zSc nbI npI S gfY gfF P gpn glt gsh gwd gpu gmo → zKc nbI npI Ks P fR pl cn → zSc nbI npI (Ks.headD S) u8_8 u8_9 P u8_2 u8_3 u8_4 u8_5 u8_6 u8_7 ∧ zKc nbI npI Ks.tail P fR u8_0 u8_1) := hw
  have F8 := f8_12
  refine lv_if_eq (tgt := 24) hx hb dX10_undo_11 (by decide) (fun c11 => ?_) (fun c11 => ?_)
  · have c11 : v8.toInt = 0 := z5 rfl (by decide) c11
    refine lv_iconst (v := (-1)) hx hb dX10_undo_24 (by decide) ?_
    have zr0 : ((-1) : Int32).toInt = (-1) := by decide
    rw [hQ]
    exact W.iret (v := ((-1))) hx hb hr (fun t ht hW => ⟨⟨(-1), (u8_2, u8_3, u8_4, u8_5, u8_6, u8_7, u8_8, u8_9, u8_0, u8_1), rfl, ⟨by (try dsimp only); omega, by (try dsimp only); omega, by (try dsimp only); omega, by (try dsimp only); omega, by (try dsimp only); omega, by (try dsimp only); omega, by (try dsimp only); omega, by (try dsimp only); omega, by (try dsimp only); omega, by (try dsimp only); omega, by (try dsimp only); exact fun kc kT q_fr q_fb q_fp q_nb q_np q_gfP q_frf hc hb h => by have z := F8 _ _ kT.1 kT.2.1 _ hb.2.1.2 hb.2.2.1.2 h.1 h.2.1; have zl := h.2.1.1; exact ⟨by unfold sV_und; omega, z.1, z.2, h.2.2⟩⟩, ⟨by rw [ht]; exact hP, hD⟩⟩, hS.F ht⟩) hS.2.2 dX10_undo_25
  · have c11 : ¬ v8.toInt = 0 := z6 rfl (by decide) c11
    refine lv_aload_n hx hb dX10_undo_14 rfl (lv_at hl 0 rfl) ?_
    refine va_get (D := (dC, dI)) (ci := 10) (v := .ref ac) (C := RX10) (T := TX10) (N := 17) hx hb hts iX10 hown hK hP 0 rfl rfl 8 (by decide) (hts _ qw364) (fun _ h9 => h9) rfl dX10_undo_15 ?_
    refine va_get (D := (dC, dI)) (ci := 0) (v := .int u8_1) (C := RX0) (T := TX0) (N := 3) hx hb hts iX0 hown hK hP 4 rfl rfl 2 (by decide) (hts _ qw271) (fun _ h9 => h9) rfl dX10_undo_18 ?_
    refine lv_goto (tgt := 25) hx hb dX10_undo_21 (by decide) ?_
    rw [hQ]
    exact W.iret (v := u8_1) hx hb hr (fun t ht hW => ⟨⟨u8_1, (u8_2, u8_3, u8_4, u8_5, u8_6, u8_7, u8_8, u8_9, u8_0, u8_1), rfl, ⟨by (try dsimp only); omega, by (try dsimp only); omega, by (try dsimp only); omega, by (try dsimp only); omega, by (try dsimp only); omega, by (try dsimp only); omega, by (try dsimp only); omega, by (try dsimp only); omega, by (try dsimp only); omega, by (try dsimp only); omega, by (try dsimp only); exact fun kc kT q_fr q_fb q_fp q_nb q_np q_gfP q_frf hc hb h => by have z := F8 _ _ kT.1 kT.2.1 _ hb.2.1.2 hb.2.2.1.2 h.1 h.2.1; have zl := h.2.1.1; have zt := z.2.1; rw [List.length_tail] at zt; exact ⟨by unfold sV_und; omega, z.1, z.2, h.2.2⟩⟩, ⟨by rw [ht]; exact hP, hD⟩⟩, hS.F ht⟩) hS.2.2 dX10_undo_25
set_option maxHeartbeats 4000000 in
set_option maxRecDepth 100000 in
theorem g_X10_portrait (l : Launch) (dC : Nat → ClassId) (dI : Nat → Nat → Nat) (cI cJ : ClassId) (h0 : Nat) (p0 : Int32) (p1 : Int32) (tp : Nat) (h0_courtReader : Value) (h0_lawReader : Value) (h0_draft : Value) (aC : Nat) (h0_laws : Value) (g0 : Nat) (k0 : Nat) (ac : Nat) (sd : Nat) (mi : Nat) (dw : Nat) (rf : Nat) (lc : Int32) (lh : Int32) (br : Int32) (hi : Int32) (gY : Nat) (gF : Nat) (gP : Nat) (gpn : Int32) (glt : Int32) (gsh : Int32) (gwd : Int32) (gpu : Int32) (gmo : Int32) (gfP : Nat → Int32) (sz : Nat) (n_gpn : 0 ≤ gpn.toInt ∧ gpn.toInt ≤ 20) (n_gwd : (-1) ≤ gwd.toInt ∧ gwd.toInt ≤ 5) (n_hi : 0 ≤ hi.toInt ∧ hi.toInt ≤ 1) (n_lc : 0 ≤ lc.toInt ∧ lc.toInt ≤ 4)  (ci_gfP_zPo : zPo gfP)  : Met l yX10_portrait (.code yX10_portrait cX10_portrait 3 (some .int) :: wA) ({ frames := 1, cells := 0, slots := 0, locals := 22 }) (zP (dC, dI) [(cI, .int), (cJ, .long)] [.ref h0, .int p0, .int p1] sz [(h0, .inr (10, [.ref tp, h0_courtReader, h0_lawReader, h0_draft, .ref aC, h0_laws, .ref g0, .ref k0, .ref ac, .ref sd, .ref mi, .ref dw, .ref rf, .int lc, .int lh, .int br, .int hi])), (g0, .inr (7, [.ref gY, .ref gF, .ref gP, .int gpn, .int glt, .int gsh, .int gwd, .int gpu, .int gmo])), (gP, .inl (cI, 80, .inl gfP))]) (va_Qi (fun (r : Int32) (u : Unit) => (∀ (kc : zK3) (kT : zT) (q_fr : Nat → Int32) (q_fb : Nat → Int32) (q_fp : Nat → Int32) (q_nb : Int32) (q_np : Int32) (q_gfY : Nat → Int32) (q_gfF : Nat → Int32) (q_fR : Nat → Int32) (q_pl : Int32) (q_cn : Int32) (q_frf : Nat → Int32), zCn q_fr q_fb q_fp q_nb.toInt q_np.toInt kc → zKo q_nb.toInt q_np.toInt kc kT → zTc q_nb.toInt q_np.toInt kT q_gfY q_gfF gfP gpn glt gsh gwd gpu gmo q_fR q_pl q_cn q_frf → r = sV_por kT.1 p0 p1)) (fun (_ : Unit) (_ : State) => True) (va_A [] sz)) 0 0 (va_A [] sz) := by
  refine Met.ofW (cc := cX10_portrait) (maxL := 3) (ret := (some .int)) (by decide) rfl ?_
  intro p e s m args below meth c s₁ B hml hv
  have y_gwd : zHid ((-1) ≤ gwd.toInt ∧ gwd.toInt ≤ 5) := n_gwd
  have y_hi : zHid (0 ≤ hi.toInt ∧ hi.toInt ≤ 1) := n_hi
  have y_lc : zHid (0 ≤ lc.toInt ∧ lc.toInt ≤ 4) := n_lc
  clear n_gwd n_hi n_lc
  obtain ⟨hargs, hsz, hP, hK, hT⟩ := hv
  have hx := B.exec
  have hb := B.bytes
  have hr := B.returns
  have hts : ∀ w ∈ wA, w.before args s = true := fun w h => atoms_spec (ws := .code yX10_portrait cX10_portrait 3 (some .int) :: wA) B.pre w (List.mem_cons_of_mem _ h)
  have hown : s.vm.findClass RX10 = some m.cls := findClass_of_methodNamed B.named
  have hlocks := B.notSynchronized
  subst hsz
  have hD : va_D (va_A [] s.heap.size) [] := zD0
  generalize hAe : va_A [] s.heap.size = A at hD ⊢
  have hA : ∀ q : Nat, s.heap.size ≤ q → A q := fun q h => by rw [← hAe]; exact Or.inr h
  have hl := lv_entry ([.ref h0, .int p0, .int p1]) (n := 3) (Nat.le_of_ble_eq_true rfl)
  rw [show entryFrame m args 3 = entryFrame m ([.ref h0, .int p0, .int p1] : List Value).toArray 3 by rw [hargs], lg_entry_eq]
  generalize (lg_sl ([.ref h0, .int p0, .int p1]) ++ List.replicate (3 - (lg_sl ([.ref h0, .int p0, .int p1])).length) Slot.unset).toArray = ls at hl ⊢
  have hl : lv_has ls 3 [(0, .ref h0), (1, .int p0), (2, .int p1)] := hl
  refine zstart (fun H hH => ?_)
  rw [← hH] at hP
  have hS : va_S A s.heap H [] := by rw [hH]; exact va_S.rf
  generalize ([] : List Loc) = locs at hS ⊢
  refine zgen (fun R Q hR hQ => ?_)
  refine lv_iload_n hx hb dX10_portrait_0 rfl (lv_at hl 1 rfl) ?_
  refine lv_if_lt (tgt := 24) hx hb dX10_portrait_1 (by decide) (fun c1 => ?_) (fun c1 => ?_)
  · have c1 : p0.toInt < 0 := z1 rfl (by decide) c1
    refine lv_iconst (v := (-1)) hx hb dX10_portrait_24 (by decide) ?_
    have zr0 : ((-1) : Int32).toInt = (-1) := by decide
    rw [hQ]
    exact W.iret (v := ((-1))) hx hb hr (fun t ht hW => ⟨⟨(-1), (), rfl, (fun kc kT q_fr q_fb q_fp q_nb q_np q_gfY q_gfF q_fR q_pl q_cn q_frf hc hb h => by have zn := congrArg Int32.toInt (zSc_pn h.1); unfold sV_por; rw [if_neg (by omega)]; ), trivial⟩, hS.F ht⟩) hS.2.2 dX10_portrait_25
  · have c1 : 0 ≤ p0.toInt := z2 rfl (by decide) c1
    refine lv_iload_n hx hb dX10_portrait_4 rfl (lv_at hl 1 rfl) ?_
    refine lv_aload_n hx hb dX10_portrait_5 rfl (lv_at hl 0 rfl) ?_
    refine va_get (D := (dC, dI)) (ci := 10) (v := .ref g0) (C := RX10) (T := TX10) (N := 17) hx hb hts iX10 hown hK hP 0 rfl rfl 6 (by decide) (hts _ qw362) (fun _ h9 => h9) rfl dX10_portrait_6 ?_
    refine va_get (D := (dC, dI)) (ci := 7) (v := .int gpn) (C := RX7) (T := TX7) (N := 9) hx hb hts iX7 hown hK hP 1 rfl rfl 3 (by decide) (hts _ qw229) (fun _ h9 => h9) rfl dX10_portrait_9 ?_
    refine lv_icmp_ge (tgt := 24) hx hb dX10_portrait_12 (by decide) (fun c12 => ?_) (fun c12 => ?_)
    · have c12 : gpn.toInt ≤ p0.toInt := z3 rfl rfl c12
      refine lv_iconst (v := (-1)) hx hb dX10_portrait_24 (by decide) ?_
      have zr0 : ((-1) : Int32).toInt = (-1) := by decide
      rw [hQ]
      exact W.iret (v := ((-1))) hx hb hr (fun t ht hW => ⟨⟨(-1), (), rfl, (fun kc kT q_fr q_fb q_fp q_nb q_np q_gfY q_gfF q_fR q_pl q_cn q_frf hc hb h => by have zn := congrArg Int32.toInt (zSc_pn h.1); unfold sV_por; rw [if_neg (by omega)]; ), trivial⟩, hS.F ht⟩) hS.2.2 dX10_portrait_25
    · have c12 : p0.toInt < gpn.toInt := z4 rfl rfl c12
      refine lv_iload_n hx hb dX10_portrait_15 rfl (lv_at hl 2 rfl) ?_
      refine lv_if_lt (tgt := 24) hx hb dX10_portrait_16 (by decide) (fun c16 => ?_) (fun c16 => ?_)
      · have c16 : p1.toInt < 0 := z1 rfl (by decide) c16
        refine lv_iconst (v := (-1)) hx hb dX10_portrait_24 (by decide) ?_
        have zr0 : ((-1) : Int32).toInt = (-1) := by decide
        rw [hQ]
        exact W.iret (v := ((-1))) hx hb hr (fun t ht hW => ⟨⟨(-1), (), rfl, (fun kc kT q_fr q_fb q_fp q_nb q_np q_gfY q_gfF q_fR q_pl q_cn q_frf hc hb h => by have zn := congrArg Int32.toInt (zSc_pn h.1); unfold sV_por; rw [if_neg (by omega)]; ), trivial⟩, hS.F ht⟩) hS.2.2 dX10_portrait_25
      · have c16 : 0 ≤ p1.toInt := z2 rfl (by decide) c16
        refine lv_iload_n hx hb dX10_portrait_19 rfl (lv_at hl 2 rfl) ?_
        refine lv_iconst (v := 4) hx hb dX10_portrait_20 (by decide) ?_
        refine lv_icmp_lt (tgt := 26) hx hb dX10_portrait_21 (by decide) (fun c21 => ?_) (fun c21 => ?_)
        · have c21 : p1.toInt < 4 := z1 rfl (by decide) c21
          refine lv_aload_n hx hb dX10_portrait_26 rfl (lv_at hl 0 rfl) ?_
          refine va_get (D := (dC, dI)) (ci := 10) (v := .ref g0) (C := RX10) (T := TX10) (N := 17) hx hb hts iX10 hown hK hP 0 rfl rfl 6 (by decide) (hts _ qw362) (fun _ h9 => h9) rfl dX10_portrait_27 ?_
          refine lv_aload_n hx hb dX10_portrait_30 rfl (lv_at hl 0 rfl) ?_
          refine va_get (D := (dC, dI)) (ci := 10) (v := .ref g0) (C := RX10) (T := TX10) (N := 17) hx hb hts iX10 hown hK hP 0 rfl rfl 6 (by decide) (hts _ qw362) (fun _ h9 => h9) rfl dX10_portrait_31 ?_
          refine va_get (D := (dC, dI)) (ci := 7) (v := .int gpn) (C := RX7) (T := TX7) (N := 9) hx hb hts iX7 hown hK hP 1 rfl rfl 3 (by decide) (hts _ qw229) (fun _ h9 => h9) rfl dX10_portrait_34 ?_
          refine lv_iconst (v := 1) hx hb dX10_portrait_37 (by decide) ?_
          refine lv_isub hx hb dX10_portrait_38 ?_
          refine lv_topi (fun v38 e38 => ?_)
          have i38 : v38.toInt = gpn.toInt - 1 := zsub e38 rfl (by decide) (by omega) (by omega)
          refine lv_iload_n hx hb dX10_portrait_39 rfl (lv_at hl 1 rfl) ?_
          refine lv_isub hx hb dX10_portrait_40 ?_
          refine lv_topi (fun v40 e40 => ?_)
          have i40 : v40.toInt = v38.toInt - p0.toInt ∧ 0 ≤ v40.toInt := (fun h => ⟨h, by omega⟩) (zsub e40 rfl rfl (by omega) (by omega))
          refine lv_iload_n hx hb dX10_portrait_41 rfl (lv_at hl 2 rfl) ?_
          obtain ⟨hPc, hDc⟩ := zc2 (wc := [(g0, .inr (7, [.ref gY, .ref gF, .ref gP, .int gpn, .int glt, .int gsh, .int gwd, .int gpu, .int gmo])), (gP, .inl (cI, 80, .inl gfP))]) hP hT [1, 2] (by decide +kernel) rfl
          have hFc := zfr hS hA
          refine va_calli (va_runV (As := [.int v40, .int p1]) (rest := []) ⟨hx, hb, hml, hown, hts⟩ (g_X7_ofPortrait l dC dI cI cJ g0 v40 p1 gY gF gP gpn glt gsh gwd gpu gmo gfP H.size (by omega) (by omega)) (cwV 2 hts (zgV qw814 qw653 qw654 qw103 qw655) rfl rfl rfl hd_X7_ofPortrait ⟨by rw [hR]; exact Nat.le_of_ble_eq_true rfl, by rw [hR]; exact Nat.le_of_ble_eq_true rfl⟩) (zPV hPc hK hDc (va_recv (q := (RX7, TX7, 9)) hK hP (ci := 7) (q0 := 1) rfl rfl)) rfl rfl hl.1 rfl (lv_room (Nat.le_of_ble_eq_true rfl)) dX10_portrait_42 ⟨Nat.zero_le _, Nat.zero_le _⟩) hS (fun q _ h => hFc q h) hFc (fun v42 u42 t H locs ht hvm hw hB hz1 hk1 hS9 => ?_)
          replace hP := zkeep hP hk1
          replace hS := hS9
          clear hPc hDc hFc hk1 hz1 hvm hS9
          have f42_0 : (v42 = gfP (4 * v40.toInt.toNat + p1.toInt.toNat)) := hw
          have F42 := f42_0
          rw [hQ]
          exact W.iret (v := v42) hx hb hr (fun t ht hW => ⟨⟨v42, (), rfl, (fun kc kT q_fr q_fb q_fp q_nb q_np q_gfY q_gfF q_fR q_pl q_cn q_frf hc hb h => by have zn := congrArg Int32.toInt (zSc_pn h.1); unfold sV_por; rw [if_pos (by omega)]; exact (F42.trans (h.1.2.2.2.2 _ (by omega))).trans (congrArg kT.1.2.2.2.2 (by omega))), trivial⟩, hS.F ht⟩) hS.2.2 dX10_portrait_45
        · have c21 : 4 ≤ p1.toInt := z2 rfl (by decide) c21
          refine lv_iconst (v := (-1)) hx hb dX10_portrait_24 (by decide) ?_
          have zr0 : ((-1) : Int32).toInt = (-1) := by decide
          rw [hQ]
          exact W.iret (v := ((-1))) hx hb hr (fun t ht hW => ⟨⟨(-1), (), rfl, (fun kc kT q_fr q_fb q_fp q_nb q_np q_gfY q_gfF q_fR q_pl q_cn q_frf hc hb h => by have zn := congrArg Int32.toInt (zSc_pn h.1); unfold sV_por; rw [if_neg (by omega)]; ), trivial⟩, hS.F ht⟩) hS.2.2 dX10_portrait_25
set_option maxHeartbeats 4000000 in
set_option maxRecDepth 100000 in
theorem g_X10_worth (l : Launch) (dC : Nat → ClassId) (dI : Nat → Nat → Nat) (cI cJ : ClassId) (h0 : Nat) (p0 : Int32) (p1 : Int32) (tp : Nat) (h0_courtReader : Value) (h0_lawReader : Value) (h0_draft : Value) (aC : Nat) (h0_laws : Value) (g0 : Nat) (k0 : Nat) (ac : Nat) (sd : Nat) (mi : Nat) (dw : Nat) (rf : Nat) (lc : Int32) (lh : Int32) (br : Int32) (hi : Int32) (aR : Nat) (aB : Nat) (aP : Nat) (nb : Int32) (np : Int32) (fr : Nat → Int32) (fb : Nat → Int32) (sz : Nat) (n_hi : 0 ≤ hi.toInt ∧ hi.toInt ≤ 1) (n_lc : 0 ≤ lc.toInt ∧ lc.toInt ≤ 4) (n_nb : 0 ≤ nb.toInt ∧ nb.toInt ≤ 6) (n_np : 0 ≤ np.toInt ∧ np.toInt ≤ 5)    : Met l yX10_worth (.code yX10_worth cX10_worth 3 (some .int) :: wA) ({ frames := 3, cells := 0, slots := 0, locals := 65 }) (zP (dC, dI) [(cI, .int), (cJ, .long)] [.ref h0, .int p0, .int p1] sz [(h0, .inr (10, [.ref tp, h0_courtReader, h0_lawReader, h0_draft, .ref aC, h0_laws, .ref g0, .ref k0, .ref ac, .ref sd, .ref mi, .ref dw, .ref rf, .int lc, .int lh, .int br, .int hi])), (aC, .inr (1, [.ref aR, .ref aB, .ref aP, .int nb, .int np])), (aR, .inl (cI, 3, .inl fr)), (aB, .inl (cI, 24, .inl fb))]) (va_Qi (fun (r : Int32) (u : Unit) => (((0 ≤ p0.toInt ∧ p0.toInt < nb.toInt) ∧ 0 ≤ p1.toInt ∧ p1.toInt ≤ 9 → r = zWo p1 (fr 1) (fb (4 * p0.toInt.toNat + 1)) (fr 2)) ∧ (¬ ((0 ≤ p0.toInt ∧ p0.toInt < nb.toInt) ∧ 0 ≤ p1.toInt ∧ p1.toInt ≤ 9) → r = -1))) (fun (_ : Unit) (_ : State) => True) (va_A [] sz)) 0 0 (va_A [] sz) := by
  refine Met.ofW (cc := cX10_worth) (maxL := 3) (ret := (some .int)) (by decide) rfl ?_
  intro p e s m args below meth c s₁ B hml hv
  have y_hi : zHid (0 ≤ hi.toInt ∧ hi.toInt ≤ 1) := n_hi
  have y_lc : zHid (0 ≤ lc.toInt ∧ lc.toInt ≤ 4) := n_lc
  have y_np : zHid (0 ≤ np.toInt ∧ np.toInt ≤ 5) := n_np
  clear n_hi n_lc n_np
  obtain ⟨hargs, hsz, hP, hK, hT⟩ := hv
  have hx := B.exec
  have hb := B.bytes
  have hr := B.returns
  have hts : ∀ w ∈ wA, w.before args s = true := fun w h => atoms_spec (ws := .code yX10_worth cX10_worth 3 (some .int) :: wA) B.pre w (List.mem_cons_of_mem _ h)
  have hown : s.vm.findClass RX10 = some m.cls := findClass_of_methodNamed B.named
  have hlocks := B.notSynchronized
  subst hsz
  have hD : va_D (va_A [] s.heap.size) [] := zD0
  generalize hAe : va_A [] s.heap.size = A at hD ⊢
  have hA : ∀ q : Nat, s.heap.size ≤ q → A q := fun q h => by rw [← hAe]; exact Or.inr h
  have hl := lv_entry ([.ref h0, .int p0, .int p1]) (n := 3) (Nat.le_of_ble_eq_true rfl)
  rw [show entryFrame m args 3 = entryFrame m ([.ref h0, .int p0, .int p1] : List Value).toArray 3 by rw [hargs], lg_entry_eq]
  generalize (lg_sl ([.ref h0, .int p0, .int p1]) ++ List.replicate (3 - (lg_sl ([.ref h0, .int p0, .int p1])).length) Slot.unset).toArray = ls at hl ⊢
  have hl : lv_has ls 3 [(0, .ref h0), (1, .int p0), (2, .int p1)] := hl
  refine zstart (fun H hH => ?_)
  rw [← hH] at hP
  have hS : va_S A s.heap H [] := by rw [hH]; exact va_S.rf
  generalize ([] : List Loc) = locs at hS ⊢
  refine zgen (fun R Q hR hQ => ?_)
  refine lv_aload_n hx hb dX10_worth_0 rfl (lv_at hl 0 rfl) ?_
  refine lv_iload_n hx hb dX10_worth_1 rfl (lv_at hl 1 rfl) ?_
  obtain ⟨hPc, hDc⟩ := zc2 (wc := [(h0, .inr (10, [.ref tp, h0_courtReader, h0_lawReader, h0_draft, .ref aC, h0_laws, .ref g0, .ref k0, .ref ac, .ref sd, .ref mi, .ref dw, .ref rf, .int lc, .int lh, .int br, .int hi])), (aC, .inr (1, [.ref aR, .ref aB, .ref aP, .int nb, .int np]))]) hP hT [0, 1] (by decide +kernel) rfl
  have hFc := zfr hS hA
  refine va_calli (va_runV (As := [.int p0]) (rest := []) ⟨hx, hb, hml, hown, hts⟩ (g_X10_isBride l dC dI cI cJ h0 p0 (.ref tp) h0_courtReader h0_lawReader h0_draft aC h0_laws (.ref g0) (.ref k0) (.ref ac) (.ref sd) (.ref mi) (.ref dw) (.ref rf) (.int lc) (.int lh) (.int br) (.int hi) aR aB aP nb np H.size n_nb) (cwV 1 hts (zgV qw625 qw627 qw12 qw98 qw628) rfl rfl rfl hd_X10_isBride ⟨by rw [hR]; exact Nat.le_of_ble_eq_true rfl, by rw [hR]; exact Nat.le_of_ble_eq_true rfl⟩) (zPV hPc hK hDc (va_recv (q := (RX10, TX10, 17)) hK hP (ci := 10) (q0 := 0) rfl rfl)) rfl rfl hl.1 rfl (lv_room (Nat.le_of_ble_eq_true rfl)) dX10_worth_2 ⟨Nat.zero_le _, Nat.zero_le _⟩) hS (fun q _ h => hFc q h) hFc (fun v2 u2 t H locs ht hvm hw hB hz1 hk1 hS9 => ?_)
  replace hP := zkeep hP hk1
  replace hS := hS9
  clear hPc hDc hFc hk1 hz1 hvm hS9
  obtain ⟨f2_0, f2_1, f2_2, f2_3⟩ : (0 ≤ v2.toInt) ∧ (v2.toInt ≤ 1) ∧ (¬ v2.toInt = 0 → (0 ≤ p0.toInt ∧ p0.toInt < nb.toInt)) ∧ (v2.toInt = 0 → ¬ (0 ≤ p0.toInt ∧ p0.toInt < nb.toInt)) := hw
  refine lv_if_eq (tgt := 27) hx hb dX10_worth_5 (by decide) (fun c5 => ?_) (fun c5 => ?_)
  · have c5 : v2.toInt = 0 := z5 rfl (by decide) c5
    refine lv_iconst (v := (-1)) hx hb dX10_worth_27 (by decide) ?_
    have zr0 : ((-1) : Int32).toInt = (-1) := by decide
    rw [hQ]
    exact W.iret (v := ((-1))) hx hb hr (fun t ht hW => ⟨⟨(-1), (), rfl, (⟨fun z => absurd z (by omega), fun _ => rfl⟩), trivial⟩, hS.F ht⟩) hS.2.2 dX10_worth_28
  · have c5 : ¬ v2.toInt = 0 := z6 rfl (by decide) c5
    refine lv_iload_n hx hb dX10_worth_8 rfl (lv_at hl 2 rfl) ?_
    have hPc : va_P (dC, dI) vwCl [] H := zP0
    have hDc : va_D (fun _ => True) [] := zD0
    have hFc := zfr hS hA
    refine va_calli (va_runS (As := [.int p1]) (rest := []) ⟨hx, hb, hml, hown, hts⟩ (g_X10_isFace l dC dI cI cJ p1 H.size) (cwS 1 hts (zgS qw640 qw641 qw98 qw642) rfl rfl rfl hd_X10_isFace ⟨by rw [hR]; exact Nat.le_of_ble_eq_true rfl, by rw [hR]; exact Nat.le_of_ble_eq_true rfl⟩) (zPS hPc hK hDc) rfl rfl hl.1 rfl (lv_room (Nat.le_of_ble_eq_true rfl)) dX10_worth_9 ⟨Nat.zero_le _, Nat.zero_le _⟩) hS (fun q _ h => hFc q h) hFc (fun v9 u9 t H locs ht hvm hw hB hz1 hk1 hS9 => ?_)
    replace hP := zkeep hP hk1
    replace hS := hS9
    clear hPc hDc hFc hk1 hz1 hvm hS9
    obtain ⟨f9_0, f9_1, f9_2, f9_3⟩ : (0 ≤ v9.toInt) ∧ (v9.toInt ≤ 1) ∧ (¬ v9.toInt = 0 → (0 ≤ p1.toInt ∧ p1.toInt ≤ 9)) ∧ (v9.toInt = 0 → ¬ (0 ≤ p1.toInt ∧ p1.toInt ≤ 9)) := hw
    refine lv_if_eq (tgt := 27) hx hb dX10_worth_12 (by decide) (fun c12 => ?_) (fun c12 => ?_)
    · have c12 : v9.toInt = 0 := z5 rfl (by decide) c12
      refine lv_iconst (v := (-1)) hx hb dX10_worth_27 (by decide) ?_
      have zr0 : ((-1) : Int32).toInt = (-1) := by decide
      rw [hQ]
      exact W.iret (v := ((-1))) hx hb hr (fun t ht hW => ⟨⟨(-1), (), rfl, (⟨fun z => absurd z (by omega), fun _ => rfl⟩), trivial⟩, hS.F ht⟩) hS.2.2 dX10_worth_28
    · have c12 : ¬ v9.toInt = 0 := z6 rfl (by decide) c12
      refine lv_aload_n hx hb dX10_worth_15 rfl (lv_at hl 0 rfl) ?_
      refine va_get (D := (dC, dI)) (ci := 10) (v := .ref aC) (C := RX10) (T := TX10) (N := 17) hx hb hts iX10 hown hK hP 0 rfl rfl 4 (by decide) (hts _ qw360) (fun _ h9 => h9) rfl dX10_worth_16 ?_
      refine lv_iload_n hx hb dX10_worth_19 rfl (lv_at hl 1 rfl) ?_
      refine lv_iload_n hx hb dX10_worth_20 rfl (lv_at hl 2 rfl) ?_
      obtain ⟨hPc, hDc⟩ := zc2 (wc := [(aC, .inr (1, [.ref aR, .ref aB, .ref aP, .int nb, .int np])), (aR, .inl (cI, 3, .inl fr)), (aB, .inl (cI, 24, .inl fb))]) hP hT [1, 2, 3] (by decide +kernel) rfl
      have hFc := zfr hS hA
      refine va_calli (va_runV (As := [.int p0, .int p1]) (rest := []) ⟨hx, hb, hml, hown, hts⟩ (g_X1_worthWith l dC dI cI cJ aC p0 p1 aR aB aP nb np fr fb H.size (by omega)) (cwV 2 hts (zgV qw906 qw907 qw908 qw102 qw909) rfl rfl rfl hd_X1_worthWith ⟨by rw [hR]; exact Nat.le_of_ble_eq_true rfl, by rw [hR]; exact Nat.le_of_ble_eq_true rfl⟩) (zPV hPc hK hDc (va_recv (q := (RX1, TX1, 5)) hK hP (ci := 1) (q0 := 1) rfl rfl)) rfl rfl hl.1 rfl (lv_room (Nat.le_of_ble_eq_true rfl)) dX10_worth_21 ⟨Nat.zero_le _, Nat.zero_le _⟩) hS (fun q _ h => hFc q h) hFc (fun v21 u21 t H locs ht hvm hw hB hz1 hk1 hS9 => ?_)
      replace hP := zkeep hP hk1
      replace hS := hS9
      clear hPc hDc hFc hk1 hz1 hvm hS9
      have f21_0 : (v21 = zWo p1 (fr 1) (fb (4 * p0.toInt.toNat + 1)) (fr 2)) := hw
      have F21 := f21_0
      refine lv_goto (tgt := 28) hx hb dX10_worth_24 (by decide) ?_
      rw [hQ]
      exact W.iret (v := v21) hx hb hr (fun t ht hW => ⟨⟨v21, (), rfl, (⟨fun _ => F21, fun z => absurd (by omega) z⟩), trivial⟩, hS.F ht⟩) hS.2.2 dX10_worth_28
set_option maxHeartbeats 4000000 in
set_option maxRecDepth 100000 in
theorem g_X10_truth (l : Launch) (dC : Nat → ClassId) (dI : Nat → Nat → Nat) (cI cJ : ClassId) (h0 : Nat) (p0 : Int32) (p1 : Int32) (tp : Nat) (h0_courtReader : Value) (h0_lawReader : Value) (h0_draft : Value) (aC : Nat) (h0_laws : Value) (g0 : Nat) (k0 : Nat) (ac : Nat) (sd : Nat) (mi : Nat) (dw : Nat) (rf : Nat) (lc : Int32) (lh : Int32) (br : Int32) (hi : Int32) (aR : Nat) (aB : Nat) (aP : Nat) (nb : Int32) (np : Int32) (gY : Nat) (gF : Nat) (gP : Nat) (gpn : Int32) (glt : Int32) (gsh : Int32) (gwd : Int32) (gpu : Int32) (gmo : Int32) (gfY : Nat → Int32) (gfF : Nat → Int32) (w1 : Nat) (w2 : Nat) (aL : Nat) (aK : Nat) (sz : Nat) (n_gpn : 0 ≤ gpn.toInt ∧ gpn.toInt ≤ 20) (n_gwd : (-1) ≤ gwd.toInt ∧ gwd.toInt ≤ 5) (n_hi : 0 ≤ hi.toInt ∧ hi.toInt ≤ 1) (n_lc : 0 ≤ lc.toInt ∧ lc.toInt ≤ 4) (n_nb : 0 ≤ nb.toInt ∧ nb.toInt ≤ 6) (n_np : 0 ≤ np.toInt ∧ np.toInt ≤ 5)    : Met l yX10_truth (.code yX10_truth cX10_truth 5 (some .int) :: wA) ({ frames := 2, cells := 0, slots := 0, locals := 52 }) (zP (dC, dI) [(cI, .int), (cJ, .long)] [.ref h0, .int p0, .int p1] sz [(h0, .inr (10, [.ref tp, h0_courtReader, h0_lawReader, h0_draft, .ref aC, h0_laws, .ref g0, .ref k0, .ref ac, .ref sd, .ref mi, .ref dw, .ref rf, .int lc, .int lh, .int br, .int hi])), (aC, .inr (1, [.ref aR, .ref aB, .ref aP, .int nb, .int np])), (g0, .inr (7, [.ref gY, .ref gF, .ref gP, .int gpn, .int glt, .int gsh, .int gwd, .int gpu, .int gmo])), (gY, .inl (cI, 6, .inl gfY)), (gF, .inl (cI, 5, .inl gfF)), (sd, .inr (8, [.ref w1, .ref w2, .ref aC, .ref g0, .ref aL, .ref aK, .null]))]) (va_Qi (fun (r : Int32) (u : Unit) => ((-1) ≤ r.toInt) ∧ (r.toInt ≤ 1) ∧ (∀ (kc : zK3) (kT : zT) (q_fr : Nat → Int32) (q_fb : Nat → Int32) (q_fp : Nat → Int32) (q_gfP : Nat → Int32) (q_fR : Nat → Int32) (q_pl : Int32) (q_cn : Int32) (q_frf : Nat → Int32), zCn q_fr q_fb q_fp nb.toInt np.toInt kc → zKo nb.toInt np.toInt kc kT → zTc nb.toInt np.toInt kT gfY gfF q_gfP gpn glt gsh gwd gpu gmo q_fR q_pl q_cn q_frf → r = sV_tru nb.toInt np.toInt kT.1 p0 p1)) (fun (_ : Unit) (_ : State) => True) (va_A [] sz)) 0 0 (va_A [] sz) := by
  refine Met.ofW (cc := cX10_truth) (maxL := 5) (ret := (some .int)) (by decide) rfl ?_
  intro p e s m args below meth c s₁ B hml hv
  have y_gpn : zHid (0 ≤ gpn.toInt ∧ gpn.toInt ≤ 20) := n_gpn
  have y_gwd : zHid ((-1) ≤ gwd.toInt ∧ gwd.toInt ≤ 5) := n_gwd
  have y_hi : zHid (0 ≤ hi.toInt ∧ hi.toInt ≤ 1) := n_hi
  have y_lc : zHid (0 ≤ lc.toInt ∧ lc.toInt ≤ 4) := n_lc
  clear n_gpn n_gwd n_hi n_lc
  obtain ⟨hargs, hsz, hP, hK, hT⟩ := hv
  have hx := B.exec
  have hb := B.bytes
  have hr := B.returns
  have hts : ∀ w ∈ wA, w.before args s = true := fun w h => atoms_spec (ws := .code yX10_truth cX10_truth 5 (some .int) :: wA) B.pre w (List.mem_cons_of_mem _ h)
  have hown : s.vm.findClass RX10 = some m.cls := findClass_of_methodNamed B.named
  have hlocks := B.notSynchronized
  subst hsz
  have hD : va_D (va_A [] s.heap.size) [] := zD0
  generalize hAe : va_A [] s.heap.size = A at hD ⊢
  have hA : ∀ q : Nat, s.heap.size ≤ q → A q := fun q h => by rw [← hAe]; exact Or.inr h
  have hl := lv_entry ([.ref h0, .int p0, .int p1]) (n := 5) (Nat.le_of_ble_eq_true rfl)
  rw [show entryFrame m args 5 = entryFrame m ([.ref h0, .int p0, .int p1] : List Value).toArray 5 by rw [hargs], lg_entry_eq]
  generalize (lg_sl ([.ref h0, .int p0, .int p1]) ++ List.replicate (5 - (lg_sl ([.ref h0, .int p0, .int p1])).length) Slot.unset).toArray = ls at hl ⊢
  have hl : lv_has ls 5 [(0, .ref h0), (1, .int p0), (2, .int p1)] := hl
  refine zstart (fun H hH => ?_)
  rw [← hH] at hP
  have hS : va_S A s.heap H [] := by rw [hH]; exact va_S.rf
  generalize ([] : List Loc) = locs at hS ⊢
  refine zgen (fun R Q hR hQ => ?_)
  refine lv_aload_n hx hb dX10_truth_0 rfl (lv_at hl 0 rfl) ?_
  refine lv_iload_n hx hb dX10_truth_1 rfl (lv_at hl 1 rfl) ?_
  obtain ⟨hPc, hDc⟩ := zc2 (wc := [(h0, .inr (10, [.ref tp, h0_courtReader, h0_lawReader, h0_draft, .ref aC, h0_laws, .ref g0, .ref k0, .ref ac, .ref sd, .ref mi, .ref dw, .ref rf, .int lc, .int lh, .int br, .int hi])), (aC, .inr (1, [.ref aR, .ref aB, .ref aP, .int nb, .int np]))]) hP hT [0, 1] (by decide +kernel) rfl
  have hFc := zfr hS hA
  refine va_calli (va_runV (As := [.int p0]) (rest := []) ⟨hx, hb, hml, hown, hts⟩ (g_X10_isPainter l dC dI cI cJ h0 p0 (.ref tp) h0_courtReader h0_lawReader h0_draft aC h0_laws (.ref g0) (.ref k0) (.ref ac) (.ref sd) (.ref mi) (.ref dw) (.ref rf) (.int lc) (.int lh) (.int br) (.int hi) aR aB aP nb np H.size n_np) (cwV 1 hts (zgV qw600 qw602 qw11 qw98 qw603) rfl rfl rfl hd_X10_isPainter ⟨by rw [hR]; exact Nat.le_of_ble_eq_true rfl, by rw [hR]; exact Nat.le_of_ble_eq_true rfl⟩) (zPV hPc hK hDc (va_recv (q := (RX10, TX10, 17)) hK hP (ci := 10) (q0 := 0) rfl rfl)) rfl rfl hl.1 rfl (lv_room (Nat.le_of_ble_eq_true rfl)) dX10_truth_2 ⟨Nat.zero_le _, Nat.zero_le _⟩) hS (fun q _ h => hFc q h) hFc (fun v2 u2 t H locs ht hvm hw hB hz1 hk1 hS9 => ?_)
  replace hP := zkeep hP hk1
  replace hS := hS9
  clear hPc hDc hFc hk1 hz1 hvm hS9
  obtain ⟨f2_0, f2_1, f2_2, f2_3⟩ : (0 ≤ v2.toInt) ∧ (v2.toInt ≤ 1) ∧ (¬ v2.toInt = 0 → (0 ≤ p0.toInt ∧ p0.toInt < np.toInt)) ∧ (v2.toInt = 0 → ¬ (0 ≤ p0.toInt ∧ p0.toInt < np.toInt)) := hw
  refine lv_if_eq (tgt := 16) hx hb dX10_truth_5 (by decide) (fun c5 => ?_) (fun c5 => ?_)
  · have c5 : v2.toInt = 0 := z5 rfl (by decide) c5
    refine lv_iconst (v := (-1)) hx hb dX10_truth_16 (by decide) ?_
    have zr0 : ((-1) : Int32).toInt = (-1) := by decide
    rw [hQ]
    exact W.iret (v := ((-1))) hx hb hr (fun t ht hW => ⟨⟨(-1), (), rfl, ⟨by (try dsimp only); omega, by (try dsimp only); omega, fun kc kT q_fr q_fb q_fp q_gfP q_fR q_pl q_cn q_frf hc hb h => by unfold sV_tru; rw [if_neg (by omega)]; ⟩, trivial⟩, hS.F ht⟩) hS.2.2 dX10_truth_17
  · have c5 : ¬ v2.toInt = 0 := z6 rfl (by decide) c5
    refine lv_aload_n hx hb dX10_truth_8 rfl (lv_at hl 0 rfl) ?_
    refine lv_iload_n hx hb dX10_truth_9 rfl (lv_at hl 2 rfl) ?_
    obtain ⟨hPc, hDc⟩ := zc2 (wc := [(h0, .inr (10, [.ref tp, h0_courtReader, h0_lawReader, h0_draft, .ref aC, h0_laws, .ref g0, .ref k0, .ref ac, .ref sd, .ref mi, .ref dw, .ref rf, .int lc, .int lh, .int br, .int hi])), (aC, .inr (1, [.ref aR, .ref aB, .ref aP, .int nb, .int np]))]) hP hT [0, 1] (by decide +kernel) rfl
    have hFc := zfr hS hA
    refine va_calli (va_runV (As := [.int p1]) (rest := []) ⟨hx, hb, hml, hown, hts⟩ (g_X10_isBride l dC dI cI cJ h0 p1 (.ref tp) h0_courtReader h0_lawReader h0_draft aC h0_laws (.ref g0) (.ref k0) (.ref ac) (.ref sd) (.ref mi) (.ref dw) (.ref rf) (.int lc) (.int lh) (.int br) (.int hi) aR aB aP nb np H.size n_nb) (cwV 1 hts (zgV qw625 qw627 qw12 qw98 qw628) rfl rfl rfl hd_X10_isBride ⟨by rw [hR]; exact Nat.le_of_ble_eq_true rfl, by rw [hR]; exact Nat.le_of_ble_eq_true rfl⟩) (zPV hPc hK hDc (va_recv (q := (RX10, TX10, 17)) hK hP (ci := 10) (q0 := 0) rfl rfl)) rfl rfl hl.1 rfl (lv_room (Nat.le_of_ble_eq_true rfl)) dX10_truth_10 ⟨Nat.zero_le _, Nat.zero_le _⟩) hS (fun q _ h => hFc q h) hFc (fun v10 u10 t H locs ht hvm hw hB hz1 hk1 hS9 => ?_)
    replace hP := zkeep hP hk1
    replace hS := hS9
    clear hPc hDc hFc hk1 hz1 hvm hS9
    obtain ⟨f10_0, f10_1, f10_2, f10_3⟩ : (0 ≤ v10.toInt) ∧ (v10.toInt ≤ 1) ∧ (¬ v10.toInt = 0 → (0 ≤ p1.toInt ∧ p1.toInt < nb.toInt)) ∧ (v10.toInt = 0 → ¬ (0 ≤ p1.toInt ∧ p1.toInt < nb.toInt)) := hw
    refine lv_if_ne (tgt := 18) hx hb dX10_truth_13 (by decide) (fun c13 => ?_) (fun c13 => ?_)
    · have c13 : ¬ v10.toInt = 0 := z6 rfl (by decide) c13
      refine lv_aload_n hx hb dX10_truth_18 rfl (lv_at hl 0 rfl) ?_
      refine va_get (D := (dC, dI)) (ci := 10) (v := .ref g0) (C := RX10) (T := TX10) (N := 17) hx hb hts iX10 hown hK hP 0 rfl rfl 6 (by decide) (hts _ qw362) (fun _ h9 => h9) rfl dX10_truth_19 ?_
      refine va_get (D := (dC, dI)) (ci := 7) (v := .ref gY) (C := RX7) (T := TX7) (N := 9) hx hb hts iX7 hown hK hP 2 rfl rfl 0 (by decide) (hts _ qw222) (fun _ h9 => h9) rfl dX10_truth_22 ?_
      refine lv_iload_n hx hb dX10_truth_25 rfl (lv_at hl 2 rfl) ?_
      refine va_iald hx hb hK hP 3 0 rfl rfl (vp_in_iff.mpr ⟨by omega, by omega⟩) dX10_truth_26 ?_
      refine lv_topi (fun v26 e26 => ?_)
      refine lv_istore_n (lv' := [(3, .int v26), (0, .ref h0), (1, .int p0), (2, .int p1)]) hx hb dX10_truth_27 rfl hl (by decide) rfl (fun ls hl => ?_)
      refine lv_aload_n hx hb dX10_truth_28 rfl (lv_at hl 1 rfl) ?_
      refine va_get (D := (dC, dI)) (ci := 10) (v := .ref g0) (C := RX10) (T := TX10) (N := 17) hx hb hts iX10 hown hK hP 0 rfl rfl 6 (by decide) (hts _ qw362) (fun _ h9 => h9) rfl dX10_truth_29 ?_
      refine va_get (D := (dC, dI)) (ci := 7) (v := .ref gF) (C := RX7) (T := TX7) (N := 9) hx hb hts iX7 hown hK hP 2 rfl rfl 1 (by decide) (hts _ qw225) (fun _ h9 => h9) rfl dX10_truth_32 ?_
      refine lv_iload_n hx hb dX10_truth_35 rfl (lv_at hl 2 rfl) ?_
      refine va_iald hx hb hK hP 4 0 rfl rfl (vp_in_iff.mpr ⟨by omega, by omega⟩) dX10_truth_36 ?_
      refine lv_topi (fun v36 e36 => ?_)
      refine lv_aload_n hx hb dX10_truth_37 rfl (lv_at hl 1 rfl) ?_
      refine va_get (D := (dC, dI)) (ci := 10) (v := .ref sd) (C := RX10) (T := TX10) (N := 17) hx hb hts iX10 hown hK hP 0 rfl rfl 9 (by decide) (hts _ qw365) (fun _ h9 => h9) rfl dX10_truth_38 ?_
      refine lv_iload_n hx hb dX10_truth_41 rfl (lv_at hl 2 rfl) ?_
      refine lv_iload_n hx hb dX10_truth_42 rfl (lv_at hl 0 rfl) ?_
      obtain ⟨hPc, hDc⟩ := zc2 (wc := [(sd, .inr (8, [.ref w1, .ref w2, .ref aC, .ref g0, .ref aL, .ref aK, .null])), (g0, .inr (7, [.ref gY, .ref gF, .ref gP, .int gpn, .int glt, .int gsh, .int gwd, .int gpu, .int gmo])), (gF, .inl (cI, 5, .inl gfF))]) hP hT [5, 2, 4] (by decide +kernel) rfl
      have hFc := zfr hS hA
      refine va_calli (va_runV (As := [.int p0, .int v26]) (rest := [.int v36]) ⟨hx, hb, hml, hown, hts⟩ (g_X8_flatteryFor l dC dI cI cJ sd p0 v26 (.ref w1) (.ref w2) (.ref aC) g0 (.ref aL) (.ref aK) (.null) gY gF gP gpn glt gsh gwd gpu gmo gfF H.size (by omega)) (cwV 2 hts (zgV qw629 qw630 qw631 qw105 qw632) rfl rfl rfl hd_X8_flatteryFor ⟨by rw [hR]; exact Nat.le_of_ble_eq_true rfl, by rw [hR]; exact Nat.le_of_ble_eq_true rfl⟩) (zPV hPc hK hDc (va_recv (q := (RX8, TX8, 7)) hK hP (ci := 8) (q0 := 5) rfl rfl)) rfl rfl hl.1 rfl (lv_room (Nat.le_of_ble_eq_true rfl)) dX10_truth_43 ⟨Nat.zero_le _, Nat.zero_le _⟩) hS (fun q _ h => hFc q h) hFc (fun v43 u43 t H locs ht hvm hw hB hz1 hk1 hS9 => ?_)
      replace hP := zkeep hP hk1
      replace hS := hS9
      clear hPc hDc hFc hk1 hz1 hvm hS9
      obtain ⟨f43_0, f43_1⟩ : (0 ≤ v43.toInt) ∧ (v43 = zFl (gfF p0.toInt.toNat) v26) := hw
      have F43 := f43_1
      refine lv_imul hx hb dX10_truth_46 ?_
      refine lv_topi (fun v46 e46 => ?_)
      refine lv_iconst (v := 3) hx hb dX10_truth_47 (by decide) ?_
      refine lv_idiv hx hb dX10_truth_48 (by decide) ?_
      refine lv_topi (fun v48 e48 => ?_)
      refine lv_istore (lv' := [(4, .int v48), (3, .int v26), (0, .ref h0), (1, .int p0), (2, .int p1)]) hx hb dX10_truth_49 hl (by decide) rfl (fun ls hl => ?_)
      refine lv_iload_n hx hb dX10_truth_51 rfl (lv_at hl 1 rfl) ?_
      refine lv_iload hx hb dX10_truth_52 (lv_at hl 0 rfl) ?_
      refine lv_icmp_gt (tgt := 61) hx hb dX10_truth_54 (by decide) (fun c54 => ?_) (fun c54 => ?_)
      · have c54 : v48.toInt < v26.toInt := z1 rfl rfl c54
        refine lv_iconst (v := 0) hx hb dX10_truth_61 (by decide) ?_
        have zr0 : (0 : Int32).toInt = 0 := by decide
        rw [hQ]
        exact W.iret (v := 0) hx hb hr (fun t ht hW => ⟨⟨0, (), rfl, ⟨by (try dsimp only); omega, by (try dsimp only); omega, fun kc kT q_fr q_fb q_fp q_gfP q_fR q_pl q_cn q_frf hc hb h => by have y26 : v26 = kT.1.1 p1.toInt.toNat := (zIxN (n := p1.toInt.toNat) e26 (by omega)).trans (h.1.1 _ (by omega)); have y36 : v36 = kT.1.2.1 p0.toInt.toNat := (zIxN (n := p0.toInt.toNat) e36 (by omega)).trans (h.1.2.1 _ (by omega)); have y43 : v43 = zFl (kT.1.2.1 p0.toInt.toNat) (kT.1.1 p1.toInt.toNat) := (by rw [F43, y26, h.1.2.1 _ (by omega)]); have y48 : kT.1.2.1 p0.toInt.toNat * zFl (kT.1.2.1 p0.toInt.toNat) (kT.1.1 p1.toInt.toNat) / 3 = v48 := (by rw [e48, e46, y36, y43]); have z48 := congrArg Int32.toInt y48; have z26 := congrArg Int32.toInt y26; unfold sV_tru; rw [if_pos (by omega)]; exact (if_neg (by omega)).symm⟩, trivial⟩, hS.F ht⟩) hS.2.2 dX10_truth_62
      · have c54 : v26.toInt ≤ v48.toInt := z2 rfl rfl c54
        refine lv_iconst (v := 1) hx hb dX10_truth_57 (by decide) ?_
        refine lv_goto (tgt := 62) hx hb dX10_truth_58 (by decide) ?_
        have zr0 : (1 : Int32).toInt = 1 := by decide
        rw [hQ]
        exact W.iret (v := 1) hx hb hr (fun t ht hW => ⟨⟨1, (), rfl, ⟨by (try dsimp only); omega, by (try dsimp only); omega, fun kc kT q_fr q_fb q_fp q_gfP q_fR q_pl q_cn q_frf hc hb h => by have y26 : v26 = kT.1.1 p1.toInt.toNat := (zIxN (n := p1.toInt.toNat) e26 (by omega)).trans (h.1.1 _ (by omega)); have y36 : v36 = kT.1.2.1 p0.toInt.toNat := (zIxN (n := p0.toInt.toNat) e36 (by omega)).trans (h.1.2.1 _ (by omega)); have y43 : v43 = zFl (kT.1.2.1 p0.toInt.toNat) (kT.1.1 p1.toInt.toNat) := (by rw [F43, y26, h.1.2.1 _ (by omega)]); have y48 : kT.1.2.1 p0.toInt.toNat * zFl (kT.1.2.1 p0.toInt.toNat) (kT.1.1 p1.toInt.toNat) / 3 = v48 := (by rw [e48, e46, y36, y43]); have z48 := congrArg Int32.toInt y48; have z26 := congrArg Int32.toInt y26; unfold sV_tru; rw [if_pos (by omega)]; exact (if_pos (by omega)).symm⟩, trivial⟩, hS.F ht⟩) hS.2.2 dX10_truth_62
    · have c13 : v10.toInt = 0 := z5 rfl (by decide) c13
      refine lv_iconst (v := (-1)) hx hb dX10_truth_16 (by decide) ?_
      have zr0 : ((-1) : Int32).toInt = (-1) := by decide
      rw [hQ]
      exact W.iret (v := ((-1))) hx hb hr (fun t ht hW => ⟨⟨(-1), (), rfl, ⟨by (try dsimp only); omega, by (try dsimp only); omega, fun kc kT q_fr q_fb q_fp q_gfP q_fR q_pl q_cn q_frf hc hb h => by unfold sV_tru; rw [if_neg (by omega)]; ⟩, trivial⟩, hS.F ht⟩) hS.2.2 dX10_truth_17
set_option maxHeartbeats 4000000 in
set_option maxRecDepth 100000 in
theorem g_X10_cheapest (l : Launch) (dC : Nat → ClassId) (dI : Nat → Nat → Nat) (cI cJ : ClassId) (h0 : Nat) (p0 : Int32) (p1 : Int32) (tp : Nat) (h0_courtReader : Value) (h0_lawReader : Value) (h0_draft : Value) (aC : Nat) (h0_laws : Value) (g0 : Nat) (k0 : Nat) (ac : Nat) (sd : Nat) (mi : Nat) (dw : Nat) (rf : Nat) (lc : Int32) (lh : Int32) (br : Int32) (hi : Int32) (aR : Nat) (aB : Nat) (aP : Nat) (nb : Int32) (np : Int32) (fp : Nat → Int32) (sz : Nat) (n_hi : 0 ≤ hi.toInt ∧ hi.toInt ≤ 1) (n_lc : 0 ≤ lc.toInt ∧ lc.toInt ≤ 4) (n_nb : 0 ≤ nb.toInt ∧ nb.toInt ≤ 6) (n_np : 0 ≤ np.toInt ∧ np.toInt ≤ 5)    : Met l yX10_cheapest (.code yX10_cheapest cX10_cheapest 7 (some .int) :: wA) ({ frames := 3, cells := 0, slots := 0, locals := 67 }) (zP (dC, dI) [(cI, .int), (cJ, .long)] [.ref h0, .int p0, .int p1] sz [(h0, .inr (10, [.ref tp, h0_courtReader, h0_lawReader, h0_draft, .ref aC, h0_laws, .ref g0, .ref k0, .ref ac, .ref sd, .ref mi, .ref dw, .ref rf, .int lc, .int lh, .int br, .int hi])), (aC, .inr (1, [.ref aR, .ref aB, .ref aP, .int nb, .int np])), (aP, .inl (cI, 20, .inl fp))]) (va_Qi (fun (r : Int32) (u : Unit) => (∀ (kc : zK3) (kT : zT) (q_fr : Nat → Int32) (q_fb : Nat → Int32) (q_gfY : Nat → Int32) (q_gfF : Nat → Int32) (q_gfP : Nat → Int32) (q_gpn : Int32) (q_glt : Int32) (q_gsh : Int32) (q_gwd : Int32) (q_gpu : Int32) (q_gmo : Int32) (q_fR : Nat → Int32) (q_pl : Int32) (q_cn : Int32) (q_frf : Nat → Int32), zCn q_fr q_fb fp nb.toInt np.toInt kc → zKo nb.toInt np.toInt kc kT → zTc nb.toInt np.toInt kT q_gfY q_gfF q_gfP q_gpn q_glt q_gsh q_gwd q_gpu q_gmo q_fR q_pl q_cn q_frf → r.toInt = sV_che nb.toInt np.toInt kc p0 p1)) (fun (_ : Unit) (_ : State) => True) (va_A [] sz)) 0 0 (va_A [] sz) := by
  refine Met.ofW (cc := cX10_cheapest) (maxL := 7) (ret := (some .int)) (by decide) rfl ?_
  intro p e s m args below meth c s₁ B hml hv
  have y_hi : zHid (0 ≤ hi.toInt ∧ hi.toInt ≤ 1) := n_hi
  have y_lc : zHid (0 ≤ lc.toInt ∧ lc.toInt ≤ 4) := n_lc
  clear n_hi n_lc
  obtain ⟨hargs, hsz, hP, hK, hT⟩ := hv
  have hx := B.exec
  have hb := B.bytes
  have hr := B.returns
  have hts : ∀ w ∈ wA, w.before args s = true := fun w h => atoms_spec (ws := .code yX10_cheapest cX10_cheapest 7 (some .int) :: wA) B.pre w (List.mem_cons_of_mem _ h)
  have hown : s.vm.findClass RX10 = some m.cls := findClass_of_methodNamed B.named
  have hlocks := B.notSynchronized
  subst hsz
  have hD : va_D (va_A [] s.heap.size) [] := zD0
  generalize hAe : va_A [] s.heap.size = A at hD ⊢
  have hA : ∀ q : Nat, s.heap.size ≤ q → A q := fun q h => by rw [← hAe]; exact Or.inr h
  have hl := lv_entry ([.ref h0, .int p0, .int p1]) (n := 7) (Nat.le_of_ble_eq_true rfl)
  rw [show entryFrame m args 7 = entryFrame m ([.ref h0, .int p0, .int p1] : List Value).toArray 7 by rw [hargs], lg_entry_eq]
  generalize (lg_sl ([.ref h0, .int p0, .int p1]) ++ List.replicate (7 - (lg_sl ([.ref h0, .int p0, .int p1])).length) Slot.unset).toArray = ls at hl ⊢
  have hl : lv_has ls 7 [(0, .ref h0), (1, .int p0), (2, .int p1)] := hl
  refine zstart (fun H hH => ?_)
  rw [← hH] at hP
  have hS : va_S A s.heap H [] := by rw [hH]; exact va_S.rf
  generalize ([] : List Loc) = locs at hS ⊢
  refine zgen (fun R Q hR hQ => ?_)
  refine lv_aload_n hx hb dX10_cheapest_0 rfl (lv_at hl 0 rfl) ?_
  obtain ⟨hPc, hDc⟩ := zc2 (wc := [(h0, .inr (10, [.ref tp, h0_courtReader, h0_lawReader, h0_draft, .ref aC, h0_laws, .ref g0, .ref k0, .ref ac, .ref sd, .ref mi, .ref dw, .ref rf, .int lc, .int lh, .int br, .int hi])), (aC, .inr (1, [.ref aR, .ref aB, .ref aP, .int nb, .int np]))]) hP hT [0, 1] (by decide +kernel) rfl
  have hFc := zfr hS hA
  refine va_calli (va_runV (As := []) (rest := []) ⟨hx, hb, hml, hown, hts⟩ (g_X10_hasCourt l dC dI cI cJ h0 (.ref tp) h0_courtReader h0_lawReader h0_draft aC h0_laws (.ref g0) (.ref k0) (.ref ac) (.ref sd) (.ref mi) (.ref dw) (.ref rf) (.int lc) (.int lh) (.int br) (.int hi) aR aB aP nb np H.size) (cwV 0 hts (zgV qw584 qw586 qw10 qw98 qw587) rfl rfl rfl hd_X10_hasCourt ⟨by rw [hR]; exact Nat.le_of_ble_eq_true rfl, by rw [hR]; exact Nat.le_of_ble_eq_true rfl⟩) (zPV hPc hK hDc (va_recv (q := (RX10, TX10, 17)) hK hP (ci := 10) (q0 := 0) rfl rfl)) rfl rfl hl.1 rfl (lv_room (Nat.le_of_ble_eq_true rfl)) dX10_cheapest_1 ⟨Nat.zero_le _, Nat.zero_le _⟩) hS (fun q _ h => hFc q h) hFc (fun v1 u1 t H locs ht hvm hw hB hz1 hk1 hS9 => ?_)
  replace hP := zkeep hP hk1
  replace hS := hS9
  clear hPc hDc hFc hk1 hz1 hvm hS9
  obtain ⟨f1_0, f1_1, f1_2, f1_3⟩ : (0 ≤ v1.toInt) ∧ (v1.toInt ≤ 1) ∧ (¬ v1.toInt = 0 → 0 < nb.toInt) ∧ (v1.toInt = 0 → nb.toInt ≤ 0) := hw
  refine lv_if_eq (tgt := 34) hx hb dX10_cheapest_4 (by decide) (fun c4 => ?_) (fun c4 => ?_)
  · have c4 : v1.toInt = 0 := z5 rfl (by decide) c4
    refine lv_iconst (v := (-1)) hx hb dX10_cheapest_34 (by decide) ?_
    have zr0 : ((-1) : Int32).toInt = (-1) := by decide
    rw [hQ]
    exact W.iret (v := ((-1))) hx hb hr (fun t ht hW => ⟨⟨(-1), (), rfl, (fun kc kT q_fr q_fb q_gfY q_gfF q_gfP q_gpn q_glt q_gsh q_gwd q_gpu q_gmo q_fR q_pl q_cn q_frf hc hb h => by unfold sV_che; rw [if_neg (fun z => by obtain ⟨z1, z2, z3, -⟩ := z; omega)]; decide), trivial⟩, hS.F ht⟩) hS.2.2 dX10_cheapest_35
  · have c4 : ¬ v1.toInt = 0 := z6 rfl (by decide) c4
    refine lv_iload_n hx hb dX10_cheapest_7 rfl (lv_at hl 1 rfl) ?_
    refine lv_iconst (v := 1) hx hb dX10_cheapest_8 (by decide) ?_
    refine lv_icmp_lt (tgt := 34) hx hb dX10_cheapest_9 (by decide) (fun c9 => ?_) (fun c9 => ?_)
    · have c9 : p0.toInt < 1 := z1 rfl (by decide) c9
      refine lv_iconst (v := (-1)) hx hb dX10_cheapest_34 (by decide) ?_
      have zr0 : ((-1) : Int32).toInt = (-1) := by decide
      rw [hQ]
      exact W.iret (v := ((-1))) hx hb hr (fun t ht hW => ⟨⟨(-1), (), rfl, (fun kc kT q_fr q_fb q_gfY q_gfF q_gfP q_gpn q_glt q_gsh q_gwd q_gpu q_gmo q_fR q_pl q_cn q_frf hc hb h => by unfold sV_che; rw [if_neg (fun z => by obtain ⟨z1, z2, z3, -⟩ := z; omega)]; decide), trivial⟩, hS.F ht⟩) hS.2.2 dX10_cheapest_35
    · have c9 : 1 ≤ p0.toInt := z2 rfl (by decide) c9
      refine lv_iload_n hx hb dX10_cheapest_12 rfl (lv_at hl 1 rfl) ?_
      refine lv_iconst (v := 1) hx hb dX10_cheapest_13 (by decide) ?_
      refine lv_aload_n hx hb dX10_cheapest_14 rfl (lv_at hl 0 rfl) ?_
      refine va_get (D := (dC, dI)) (ci := 10) (v := .ref aC) (C := RX10) (T := TX10) (N := 17) hx hb hts iX10 hown hK hP 0 rfl rfl 4 (by decide) (hts _ qw360) (fun _ h9 => h9) rfl dX10_cheapest_15 ?_
      refine va_get (D := (dC, dI)) (ci := 1) (v := .int nb) (C := RX1) (T := TX1) (N := 5) hx hb hts iX1 hown hK hP 1 rfl rfl 3 (by decide) (hts _ qw195) (fun _ h9 => h9) rfl dX10_cheapest_18 ?_
      refine lv_ishl hx hb dX10_cheapest_21 ?_
      refine lv_topi (fun v21 e21 => ?_)
      have i21 : v21.toInt = pw2 nb.toInt.toNat ∧ 1 ≤ v21.toInt ∧ v21.toInt ≤ 64 := zpw e21 (by omega) (by omega)
      refine lv_icmp_ge (tgt := 34) hx hb dX10_cheapest_22 (by decide) (fun c22 => ?_) (fun c22 => ?_)
      · have c22 : v21.toInt ≤ p0.toInt := z3 rfl rfl c22
        refine lv_iconst (v := (-1)) hx hb dX10_cheapest_34 (by decide) ?_
        have zr0 : ((-1) : Int32).toInt = (-1) := by decide
        rw [hQ]
        exact W.iret (v := ((-1))) hx hb hr (fun t ht hW => ⟨⟨(-1), (), rfl, (fun kc kT q_fr q_fb q_gfY q_gfF q_gfP q_gpn q_glt q_gsh q_gwd q_gpu q_gmo q_fR q_pl q_cn q_frf hc hb h => by unfold sV_che; rw [if_neg (fun z => by obtain ⟨z1, z2, z3, -⟩ := z; omega)]; decide), trivial⟩, hS.F ht⟩) hS.2.2 dX10_cheapest_35
      · have c22 : p0.toInt < v21.toInt := z4 rfl rfl c22
        refine lv_iload_n hx hb dX10_cheapest_25 rfl (lv_at hl 2 rfl) ?_
        refine lv_if_lt (tgt := 34) hx hb dX10_cheapest_26 (by decide) (fun c26 => ?_) (fun c26 => ?_)
        · have c26 : p1.toInt < 0 := z1 rfl (by decide) c26
          refine lv_iconst (v := (-1)) hx hb dX10_cheapest_34 (by decide) ?_
          have zr0 : ((-1) : Int32).toInt = (-1) := by decide
          rw [hQ]
          exact W.iret (v := ((-1))) hx hb hr (fun t ht hW => ⟨⟨(-1), (), rfl, (fun kc kT q_fr q_fb q_gfY q_gfF q_gfP q_gpn q_glt q_gsh q_gwd q_gpu q_gmo q_fR q_pl q_cn q_frf hc hb h => by unfold sV_che; rw [if_neg (fun z => by obtain ⟨z1, z2, z3, -⟩ := z; omega)]; decide), trivial⟩, hS.F ht⟩) hS.2.2 dX10_cheapest_35
        · have c26 : 0 ≤ p1.toInt := z2 rfl (by decide) c26
          refine lv_iload_n hx hb dX10_cheapest_29 rfl (lv_at hl 2 rfl) ?_
          refine lv_iconst (v := 1) hx hb dX10_cheapest_30 (by decide) ?_
          refine lv_icmp_le (tgt := 36) hx hb dX10_cheapest_31 (by decide) (fun c31 => ?_) (fun c31 => ?_)
          · have c31 : p1.toInt ≤ 1 := z3 rfl (by decide) c31
            refine lv_iload_n hx hb dX10_cheapest_36 rfl (lv_at hl 1 rfl) ?_
            have hPc : va_P (dC, dI) vwCl [] H := zP0
            have hDc : va_D (fun _ => True) [] := zD0
            have hFc := zfr hS hA
            refine va_calli (va_runS (As := [.int p0]) (rest := []) ⟨hx, hb, hml, hown, hts⟩ (g_J6_bitCount_0f7a4 l dC dI cI cJ p0 H.size) (va_cwS 1 hts (zgSW qw960 qw893 qw117 qw894) rfl rfl rfl (hd_J6_bitCount_0f7a4).2 ⟨by rw [hR]; exact Nat.le_of_ble_eq_true rfl, by rw [hR]; exact Nat.le_of_ble_eq_true rfl⟩) (zPS hPc hK hDc) rfl rfl hl.1 rfl (lv_room (Nat.le_of_ble_eq_true rfl)) dX10_cheapest_37 ⟨Nat.zero_le _, Nat.zero_le _⟩) hS (fun q _ h => hFc q h) hFc (fun v37 u37 t H locs ht hvm hw hB hz1 hk1 hS9 => ?_)
            replace hP := zkeep hP hk1
            replace hS := hS9
            clear hPc hDc hFc hk1 hz1 hvm hS9
            obtain ⟨f37_0, f37_1, f37_2⟩ : (0 ≤ v37.toInt) ∧ (v37.toInt ≤ 63) ∧ (v37 = sBc p0) := hw
            have F37 := f37_2
            refine lv_istore_n (lv' := [(3, .int v37), (0, .ref h0), (1, .int p0), (2, .int p1)]) hx hb dX10_cheapest_40 rfl hl (by decide) rfl (fun ls hl => ?_)
            refine lv_iload_n hx hb dX10_cheapest_41 rfl (lv_at hl 0 rfl) ?_
            refine lv_aload_n hx hb dX10_cheapest_42 rfl (lv_at hl 1 rfl) ?_
            refine va_get (D := (dC, dI)) (ci := 10) (v := .ref aC) (C := RX10) (T := TX10) (N := 17) hx hb hts iX10 hown hK hP 0 rfl rfl 4 (by decide) (hts _ qw360) (fun _ h9 => h9) rfl dX10_cheapest_43 ?_
            refine va_get (D := (dC, dI)) (ci := 1) (v := .int np) (C := RX1) (T := TX1) (N := 5) hx hb hts iX1 hown hK hP 1 rfl rfl 4 (by decide) (hts _ qw200) (fun _ h9 => h9) rfl dX10_cheapest_46 ?_
            refine lv_icmp_le (tgt := 54) hx hb dX10_cheapest_49 (by decide) (fun c49 => ?_) (fun c49 => ?_)
            · have c49 : v37.toInt ≤ np.toInt := z3 rfl rfl c49
              refine lv_iconst (v := 0) hx hb dX10_cheapest_54 (by decide) ?_
              refine lv_istore (lv' := [(4, .int 0), (3, .int v37), (0, .ref h0), (1, .int p0), (2, .int p1)]) hx hb dX10_cheapest_55 hl (by decide) rfl (fun ls hl => ?_)
              refine lv_iconst (v := 0) hx hb dX10_cheapest_57 (by decide) ?_
              refine lv_istore (lv' := [(5, .int 0), (4, .int 0), (3, .int v37), (0, .ref h0), (1, .int p0), (2, .int p1)]) hx hb dX10_cheapest_58 hl (by decide) rfl (fun ls hl => ?_)
              refine lv_iconst (v := 0) hx hb dX10_cheapest_60 (by decide) ?_
              have J63 : ∀ (n : Nat) (m63_L_4 : Int32) (m63_L_5 : Int32) (m63_L_6 : Int32), (0 ≤ m63_L_6.toInt ∧ m63_L_6.toInt ≤ 5) → (∀ kc : zK3, chP fp np.toInt kc → m63_L_4.toInt = chS (chf kc) (chK kc np.toInt.toNat v37.toInt.toNat m63_L_6.toInt.toNat) ∧ m63_L_5.toInt = chT (chK kc np.toInt.toNat v37.toInt.toNat m63_L_6.toInt.toNat) 0) → (m63_L_6.toInt ≤ np.toInt) → (6 - m63_L_6.toInt).toNat = n → ∀ (H : Heap) (locs : List Loc) (ls : Array Slot), va_P (dC, dI) vwCl [(h0, .inr (10, [.ref tp, h0_courtReader, h0_lawReader, h0_draft, .ref aC, h0_laws, .ref g0, .ref k0, .ref ac, .ref sd, .ref mi, .ref dw, .ref rf, .int lc, .int lh, .int br, .int hi])), (aC, .inr (1, [.ref aR, .ref aB, .ref aP, .int nb, .int np])), (aP, .inl (cI, 20, .inl fp))] H → va_S A s.heap H locs → lv_has ls 7 [(6, .int m63_L_6), (5, .int m63_L_5), (4, .int m63_L_4), (3, .int v37), (0, .ref h0), (1, .int p0), (2, .int p1)] → W p l e R s m args below meth c H locs 0 0 Q (F0 m 63 ls []) := by
                intro n63
                induction n63 using Nat.strongRecOn with
                | _ n63 ih63 =>
                  intro m63_L_4 m63_L_5 m63_L_6 jf63_0 jv63_0 jf63_2 hmu63 H locs ls hP hS hl
                  refine lv_iload hx hb dX10_cheapest_63 (lv_at hl 0 rfl) ?_
                  refine lv_aload_n hx hb dX10_cheapest_65 rfl (lv_at hl 4 rfl) ?_
                  refine va_get (D := (dC, dI)) (ci := 10) (v := .ref aC) (C := RX10) (T := TX10) (N := 17) hx hb hts iX10 hown hK hP 0 rfl rfl 4 (by decide) (hts _ qw360) (fun _ h9 => h9) rfl dX10_cheapest_66 ?_
                  refine va_get (D := (dC, dI)) (ci := 1) (v := .int np) (C := RX1) (T := TX1) (N := 5) hx hb hts iX1 hown hK hP 1 rfl rfl 4 (by decide) (hts _ qw200) (fun _ h9 => h9) rfl dX10_cheapest_69 ?_
                  refine lv_icmp_ge (tgt := 118) hx hb dX10_cheapest_72 (by decide) (fun c72 => ?_) (fun c72 => ?_)
                  · have c72 : np.toInt ≤ m63_L_6.toInt := z3 rfl rfl c72
                    refine lv_iload_n hx hb dX10_cheapest_118 rfl (lv_at hl 6 rfl) ?_
                    refine lv_if_ne (tgt := 127) hx hb dX10_cheapest_119 (by decide) (fun c119 => ?_) (fun c119 => ?_)
                    · have c119 : ¬ p1.toInt = 0 := z6 rfl (by decide) c119
                      refine lv_iload hx hb dX10_cheapest_127 (lv_at hl 1 rfl) ?_
                      rw [hQ]
                      exact W.iret (v := m63_L_5) hx hb hr (fun t ht hW => ⟨⟨m63_L_5, (), rfl, (fun kc kT q_fr q_fb q_gfY q_gfF q_gfP q_gpn q_glt q_gsh q_gwd q_gpu q_gmo q_fR q_pl q_cn q_frf hc hb h => by have q := chW_e (n := nb.toInt) F37 (by omega) ⟨by omega, by omega⟩ (by omega); have hP := chP_of hc hb (by omega) (by omega); exact sV_cheC (by omega) ⟨by omega, by omega⟩ ⟨by omega, by omega⟩ q (by omega) (by have j := jv63_0 kc hP; rw [show m63_L_6.toInt.toNat = np.toInt.toNat by omega] at j; exact j) (by omega)), trivial⟩, hS.F ht⟩) hS.2.2 dX10_cheapest_129
                    · have c119 : p1.toInt = 0 := z5 rfl (by decide) c119
                      refine lv_iload hx hb dX10_cheapest_122 (lv_at hl 2 rfl) ?_
                      refine lv_goto (tgt := 129) hx hb dX10_cheapest_124 (by decide) ?_
                      rw [hQ]
                      exact W.iret (v := m63_L_4) hx hb hr (fun t ht hW => ⟨⟨m63_L_4, (), rfl, (fun kc kT q_fr q_fb q_gfY q_gfF q_gfP q_gpn q_glt q_gsh q_gwd q_gpu q_gmo q_fR q_pl q_cn q_frf hc hb h => by have q := chW_e (n := nb.toInt) F37 (by omega) ⟨by omega, by omega⟩ (by omega); have hP := chP_of hc hb (by omega) (by omega); exact sV_cheC (by omega) ⟨by omega, by omega⟩ ⟨by omega, by omega⟩ q (by omega) (by have j := jv63_0 kc hP; rw [show m63_L_6.toInt.toNat = np.toInt.toNat by omega] at j; exact j) (by omega)), trivial⟩, hS.F ht⟩) hS.2.2 dX10_cheapest_129
                  · have c72 : m63_L_6.toInt < np.toInt := z4 rfl rfl c72
                    refine lv_aload_n hx hb dX10_cheapest_75 rfl (lv_at hl 4 rfl) ?_
                    refine va_get (D := (dC, dI)) (ci := 10) (v := .ref aC) (C := RX10) (T := TX10) (N := 17) hx hb hts iX10 hown hK hP 0 rfl rfl 4 (by decide) (hts _ qw360) (fun _ h9 => h9) rfl dX10_cheapest_76 ?_
                    refine lv_iload hx hb dX10_cheapest_79 (lv_at hl 0 rfl) ?_
                    obtain ⟨hPc, hDc⟩ := zc2 (wc := [(aC, .inr (1, [.ref aR, .ref aB, .ref aP, .int nb, .int np])), (aP, .inl (cI, 20, .inl fp))]) hP hT [1, 2] (by decide +kernel) rfl
                    have hFc := zfr hS hA
                    refine va_calli (va_runV (As := [.int m63_L_6]) (rest := []) ⟨hx, hb, hml, hown, hts⟩ (g_X1_rankByFee l dC dI cI cJ aC m63_L_6 aR aB aP nb np fp H.size n_np (by omega)) (cwV 1 hts (zgV qw961 qw962 qw963 qw102 qw964) rfl rfl rfl hd_X1_rankByFee ⟨by rw [hR]; exact Nat.le_of_ble_eq_true rfl, by rw [hR]; exact Nat.le_of_ble_eq_true rfl⟩) (zPV hPc hK hDc (va_recv (q := (RX1, TX1, 5)) hK hP (ci := 1) (q0 := 1) rfl rfl)) rfl rfl hl.1 rfl (lv_room (Nat.le_of_ble_eq_true rfl)) dX10_cheapest_81 ⟨Nat.zero_le _, Nat.zero_le _⟩) hS (fun q _ h => hFc q h) hFc (fun v81 u81 t H locs ht hvm hw hB hz1 hk1 hS9 => ?_)
                    replace hP := zkeep hP hk1
                    replace hS := hS9
                    clear hPc hDc hFc hk1 hz1 hvm hS9
                    obtain ⟨f81_0, f81_1, f81_2⟩ : (0 ≤ v81.toInt) ∧ (v81.toInt ≤ 5) ∧ (∀ kc : zK3, chP fp np.toInt kc → m63_L_6.toInt < np.toInt → v81.toInt = (rnk (keyA kc.2.2) np.toInt.toNat m63_L_6.toInt.toNat : Int)) := hw
                    have F81 := f81_2
                    refine lv_iload_n hx hb dX10_cheapest_84 rfl (lv_at hl 3 rfl) ?_
                    refine lv_icmp_ge (tgt := 112) hx hb dX10_cheapest_85 (by decide) (fun c85 => ?_) (fun c85 => ?_)
                    · have c85 : v37.toInt ≤ v81.toInt := z3 rfl rfl c85
                      obtain ⟨v112, e112⟩ : ∃ y : Int32, y = m63_L_6 + Int32.ofInt (1) := ⟨_, rfl⟩
                      refine lv_iinc (v := v112) (lv' := [(6, .int v112), (5, .int m63_L_5), (4, .int m63_L_4), (3, .int v37), (0, .ref h0), (1, .int p0), (2, .int p1)]) hx hb dX10_cheapest_112 hl (k := 0) rfl e112.symm (by decide) rfl (fun ls hl => ?_)
                      have i112 : v112.toInt = m63_L_6.toInt + 1 := zaddI e112 (by decide) (by omega) (by omega)
                      refine lv_goto (tgt := 63) hx hb dX10_cheapest_115 (by decide) ?_
                      exact ih63 _ (by omega) m63_L_4 m63_L_5 v112 (by omega) (fun kc hP => by have f := F81 kc hP (by omega); first | exact chKY hP (jv63_0 kc hP) (by omega) (by omega) i112 f (by omega) F96 e99 e106 e109 | exact chKN (jv63_0 kc hP) (by omega) i112 f (by omega)) (by omega) rfl H locs ls hP hS (lv_sub hl [0, 1, 2, 3, 4, 5, 6] rfl)
                    · have c85 : v81.toInt < v37.toInt := z4 rfl rfl c85
                      refine lv_iload hx hb dX10_cheapest_88 (lv_at hl 2 rfl) ?_
                      refine lv_aload_n hx hb dX10_cheapest_90 rfl (lv_at hl 4 rfl) ?_
                      refine va_get (D := (dC, dI)) (ci := 10) (v := .ref aC) (C := RX10) (T := TX10) (N := 17) hx hb hts iX10 hown hK hP 0 rfl rfl 4 (by decide) (hts _ qw360) (fun _ h9 => h9) rfl dX10_cheapest_91 ?_
                      refine lv_iload hx hb dX10_cheapest_94 (lv_at hl 0 rfl) ?_
                      obtain ⟨hPc, hDc⟩ := zc2 (wc := [(aC, .inr (1, [.ref aR, .ref aB, .ref aP, .int nb, .int np])), (aP, .inl (cI, 20, .inl fp))]) hP hT [1, 2] (by decide +kernel) rfl
                      have hFc := zfr hS hA
                      refine va_calli (va_runV (As := [.int m63_L_6]) (rest := [.int m63_L_4]) ⟨hx, hb, hml, hown, hts⟩ (g_X1_feeOf l dC dI cI cJ aC m63_L_6 aR aB aP nb np fp H.size (by omega)) (cwV 1 hts (zgV qw609 qw610 qw611 qw102 qw612) rfl rfl rfl hd_X1_feeOf ⟨by rw [hR]; exact Nat.le_of_ble_eq_true rfl, by rw [hR]; exact Nat.le_of_ble_eq_true rfl⟩) (zPV hPc hK hDc (va_recv (q := (RX1, TX1, 5)) hK hP (ci := 1) (q0 := 1) rfl rfl)) rfl rfl hl.1 rfl (lv_room (Nat.le_of_ble_eq_true rfl)) dX10_cheapest_96 ⟨Nat.zero_le _, Nat.zero_le _⟩) hS (fun q _ h => hFc q h) hFc (fun v96 u96 t H locs ht hvm hw hB hz1 hk1 hS9 => ?_)
                      replace hP := zkeep hP hk1
                      replace hS := hS9
                      clear hPc hDc hFc hk1 hz1 hvm hS9
                      have f96_0 : (v96 = fp (4 * m63_L_6.toInt.toNat + 1)) := hw
                      have F96 := f96_0
                      refine lv_iadd hx hb dX10_cheapest_99 ?_
                      refine lv_topi (fun v99 e99 => ?_)
                      refine lv_istore (lv' := [(4, .int v99), (6, .int m63_L_6), (5, .int m63_L_5), (3, .int v37), (0, .ref h0), (1, .int p0), (2, .int p1)]) hx hb dX10_cheapest_100 hl (by decide) rfl (fun ls hl => ?_)
                      refine lv_bipush (v := 10) hx hb dX10_cheapest_102 (by decide) ?_
                      refine lv_iload hx hb dX10_cheapest_104 (lv_at hl 2 rfl) ?_
                      refine lv_imul hx hb dX10_cheapest_106 ?_
                      refine lv_topi (fun v106 e106 => ?_)
                      refine lv_iload hx hb dX10_cheapest_107 (lv_at hl 1 rfl) ?_
                      refine lv_iadd hx hb dX10_cheapest_109 ?_
                      refine lv_topi (fun v109 e109 => ?_)
                      refine lv_istore (lv' := [(5, .int v109), (4, .int v99), (6, .int m63_L_6), (3, .int v37), (0, .ref h0), (1, .int p0), (2, .int p1)]) hx hb dX10_cheapest_110 hl (by decide) rfl (fun ls hl => ?_)
                      obtain ⟨v112, e112⟩ : ∃ y : Int32, y = m63_L_6 + Int32.ofInt (1) := ⟨_, rfl⟩
                      refine lv_iinc (v := v112) (lv' := [(6, .int v112), (5, .int v109), (4, .int v99), (3, .int v37), (0, .ref h0), (1, .int p0), (2, .int p1)]) hx hb dX10_cheapest_112 hl (k := 2) rfl e112.symm (by decide) rfl (fun ls hl => ?_)
                      have i112 : v112.toInt = m63_L_6.toInt + 1 := zaddI e112 (by decide) (by omega) (by omega)
                      refine lv_goto (tgt := 63) hx hb dX10_cheapest_115 (by decide) ?_
                      exact ih63 _ (by omega) v99 v109 v112 (by omega) (fun kc hP => by have f := F81 kc hP (by omega); first | exact chKY hP (jv63_0 kc hP) (by omega) (by omega) i112 f (by omega) F96 e99 e106 e109 | exact chKN (jv63_0 kc hP) (by omega) i112 f (by omega)) (by omega) rfl H locs ls hP hS (lv_sub hl [0, 1, 2, 3, 4, 5, 6] rfl)
              refine lv_istore (lv' := [(6, .int 0), (5, .int 0), (4, .int 0), (3, .int v37), (0, .ref h0), (1, .int p0), (2, .int p1)]) hx hb dX10_cheapest_61 hl (by decide) rfl (fun ls hl => ?_)
              have zj63_m63_L_4 : (0 : Int32).toInt = 0 := by decide
              have zj63_m63_L_5 : (0 : Int32).toInt = 0 := by decide
              have zj63_m63_L_6 : (0 : Int32).toInt = 0 := by decide
              exact J63 _ 0 0 0 (by decide) (fun kc hP => chK0) (by omega) rfl H locs ls hP hS (lv_sub hl [0, 1, 2, 3, 4, 5, 6] rfl)
            · have c49 : np.toInt < v37.toInt := z4 rfl rfl c49
              refine lv_iconst (v := (-1)) hx hb dX10_cheapest_52 (by decide) ?_
              have zr0 : ((-1) : Int32).toInt = (-1) := by decide
              rw [hQ]
              exact W.iret (v := ((-1))) hx hb hr (fun t ht hW => ⟨⟨(-1), (), rfl, (fun kc kT q_fr q_fb q_gfY q_gfF q_gfP q_gpn q_glt q_gsh q_gwd q_gpu q_gmo q_fR q_pl q_cn q_frf hc hb h => by have q := chW_e (n := nb.toInt) F37 (by omega) ⟨by omega, by omega⟩ (by omega); unfold sV_che; rw [if_neg (fun z => by have z4 := z.2.2.2; omega)]; decide), trivial⟩, hS.F ht⟩) hS.2.2 dX10_cheapest_53
          · have c31 : 1 < p1.toInt := z4 rfl (by decide) c31
            refine lv_iconst (v := (-1)) hx hb dX10_cheapest_34 (by decide) ?_
            have zr0 : ((-1) : Int32).toInt = (-1) := by decide
            rw [hQ]
            exact W.iret (v := ((-1))) hx hb hr (fun t ht hW => ⟨⟨(-1), (), rfl, (fun kc kT q_fr q_fb q_gfY q_gfF q_gfP q_gpn q_glt q_gsh q_gwd q_gpu q_gmo q_fR q_pl q_cn q_frf hc hb h => by unfold sV_che; rw [if_neg (fun z => by obtain ⟨z1, z2, z3, -⟩ := z; omega)]; decide), trivial⟩, hS.F ht⟩) hS.2.2 dX10_cheapest_35
set_option maxHeartbeats 4000000 in
set_option maxRecDepth 100000 in
theorem g_X10_looks (l : Launch) (dC : Nat → ClassId) (dI : Nat → Nat → Nat) (cI cJ : ClassId) (h0 : Nat) (p0 : Int32) (tp : Nat) (h0_courtReader : Value) (h0_lawReader : Value) (h0_draft : Value) (aC : Nat) (h0_laws : Value) (g0 : Nat) (k0 : Nat) (ac : Nat) (sd : Nat) (mi : Nat) (dw : Nat) (rf : Nat) (lc : Int32) (lh : Int32) (br : Int32) (hi : Int32) (aR : Nat) (aB : Nat) (aP : Nat) (nb : Int32) (np : Int32) (fb : Nat → Int32) (gY : Nat) (gF : Nat) (gP : Nat) (gpn : Int32) (glt : Int32) (gsh : Int32) (gwd : Int32) (gpu : Int32) (gmo : Int32) (gfP : Nat → Int32) (sz : Nat) (n_gpn : 0 ≤ gpn.toInt ∧ gpn.toInt ≤ 20) (n_gwd : (-1) ≤ gwd.toInt ∧ gwd.toInt ≤ 5) (n_hi : 0 ≤ hi.toInt ∧ hi.toInt ≤ 1) (n_lc : 0 ≤ lc.toInt ∧ lc.toInt ≤ 4) (n_nb : 0 ≤ nb.toInt ∧ nb.toInt ≤ 6) (n_np : 0 ≤ np.toInt ∧ np.toInt ≤ 5)  (ci_gfP_zPo : zPo gfP)  : Met l yX10_looks (.code yX10_looks cX10_looks 2 (some .int) :: wA) ({ frames := 3, cells := 0, slots := 0, locals := 67 }) (zP (dC, dI) [(cI, .int), (cJ, .long)] [.ref h0, .int p0] sz [(h0, .inr (10, [.ref tp, h0_courtReader, h0_lawReader, h0_draft, .ref aC, h0_laws, .ref g0, .ref k0, .ref ac, .ref sd, .ref mi, .ref dw, .ref rf, .int lc, .int lh, .int br, .int hi])), (aC, .inr (1, [.ref aR, .ref aB, .ref aP, .int nb, .int np])), (aB, .inl (cI, 24, .inl fb)), (g0, .inr (7, [.ref gY, .ref gF, .ref gP, .int gpn, .int glt, .int gsh, .int gwd, .int gpu, .int gmo])), (gP, .inl (cI, 80, .inl gfP))]) (va_Qi (fun (r : Int32) (u : Unit) => (∀ (kc : zK3) (kT : zT) (q_fr : Nat → Int32) (q_fp : Nat → Int32) (q_gfY : Nat → Int32) (q_gfF : Nat → Int32) (q_fR : Nat → Int32) (q_pl : Int32) (q_cn : Int32) (q_frf : Nat → Int32), zCn q_fr fb q_fp nb.toInt np.toInt kc → zKo nb.toInt np.toInt kc kT → zTc nb.toInt np.toInt kT q_gfY q_gfF gfP gpn glt gsh gwd gpu gmo q_fR q_pl q_cn q_frf → r = sV_loo nb.toInt kc kT.1 p0)) (fun (_ : Unit) (_ : State) => True) (va_A [] sz)) 0 0 (va_A [] sz) := by
  refine Met.ofW (cc := cX10_looks) (maxL := 2) (ret := (some .int)) (by decide) rfl ?_
  intro p e s m args below meth c s₁ B hml hv
  have y_gwd : zHid ((-1) ≤ gwd.toInt ∧ gwd.toInt ≤ 5) := n_gwd
  have y_hi : zHid (0 ≤ hi.toInt ∧ hi.toInt ≤ 1) := n_hi
  have y_lc : zHid (0 ≤ lc.toInt ∧ lc.toInt ≤ 4) := n_lc
  clear n_gwd n_hi n_lc
  obtain ⟨hargs, hsz, hP, hK, hT⟩ := hv
  have hx := B.exec
  have hb := B.bytes
  have hr := B.returns
  have hts : ∀ w ∈ wA, w.before args s = true := fun w h => atoms_spec (ws := .code yX10_looks cX10_looks 2 (some .int) :: wA) B.pre w (List.mem_cons_of_mem _ h)
  have hown : s.vm.findClass RX10 = some m.cls := findClass_of_methodNamed B.named
  have hlocks := B.notSynchronized
  subst hsz
  have hD : va_D (va_A [] s.heap.size) [] := zD0
  generalize hAe : va_A [] s.heap.size = A at hD ⊢
  have hA : ∀ q : Nat, s.heap.size ≤ q → A q := fun q h => by rw [← hAe]; exact Or.inr h
  have hl := lv_entry ([.ref h0, .int p0]) (n := 2) (Nat.le_of_ble_eq_true rfl)
  rw [show entryFrame m args 2 = entryFrame m ([.ref h0, .int p0] : List Value).toArray 2 by rw [hargs], lg_entry_eq]
  generalize (lg_sl ([.ref h0, .int p0]) ++ List.replicate (2 - (lg_sl ([.ref h0, .int p0])).length) Slot.unset).toArray = ls at hl ⊢
  have hl : lv_has ls 2 [(0, .ref h0), (1, .int p0)] := hl
  refine zstart (fun H hH => ?_)
  rw [← hH] at hP
  have hS : va_S A s.heap H [] := by rw [hH]; exact va_S.rf
  generalize ([] : List Loc) = locs at hS ⊢
  refine zgen (fun R Q hR hQ => ?_)
  refine lv_aload_n hx hb dX10_looks_0 rfl (lv_at hl 0 rfl) ?_
  refine lv_iload_n hx hb dX10_looks_1 rfl (lv_at hl 1 rfl) ?_
  obtain ⟨hPc, hDc⟩ := zc2 (wc := [(h0, .inr (10, [.ref tp, h0_courtReader, h0_lawReader, h0_draft, .ref aC, h0_laws, .ref g0, .ref k0, .ref ac, .ref sd, .ref mi, .ref dw, .ref rf, .int lc, .int lh, .int br, .int hi])), (aC, .inr (1, [.ref aR, .ref aB, .ref aP, .int nb, .int np]))]) hP hT [0, 1] (by decide +kernel) rfl
  have hFc := zfr hS hA
  refine va_calli (va_runV (As := [.int p0]) (rest := []) ⟨hx, hb, hml, hown, hts⟩ (g_X10_isBride l dC dI cI cJ h0 p0 (.ref tp) h0_courtReader h0_lawReader h0_draft aC h0_laws (.ref g0) (.ref k0) (.ref ac) (.ref sd) (.ref mi) (.ref dw) (.ref rf) (.int lc) (.int lh) (.int br) (.int hi) aR aB aP nb np H.size n_nb) (cwV 1 hts (zgV qw625 qw627 qw12 qw98 qw628) rfl rfl rfl hd_X10_isBride ⟨by rw [hR]; exact Nat.le_of_ble_eq_true rfl, by rw [hR]; exact Nat.le_of_ble_eq_true rfl⟩) (zPV hPc hK hDc (va_recv (q := (RX10, TX10, 17)) hK hP (ci := 10) (q0 := 0) rfl rfl)) rfl rfl hl.1 rfl (lv_room (Nat.le_of_ble_eq_true rfl)) dX10_looks_2 ⟨Nat.zero_le _, Nat.zero_le _⟩) hS (fun q _ h => hFc q h) hFc (fun v2 u2 t H locs ht hvm hw hB hz1 hk1 hS9 => ?_)
  replace hP := zkeep hP hk1
  replace hS := hS9
  clear hPc hDc hFc hk1 hz1 hvm hS9
  obtain ⟨f2_0, f2_1, f2_2, f2_3⟩ : (0 ≤ v2.toInt) ∧ (v2.toInt ≤ 1) ∧ (¬ v2.toInt = 0 → (0 ≤ p0.toInt ∧ p0.toInt < nb.toInt)) ∧ (v2.toInt = 0 → ¬ (0 ≤ p0.toInt ∧ p0.toInt < nb.toInt)) := hw
  refine lv_if_eq (tgt := 19) hx hb dX10_looks_5 (by decide) (fun c5 => ?_) (fun c5 => ?_)
  · have c5 : v2.toInt = 0 := z5 rfl (by decide) c5
    refine lv_ldcw (v := (-1000000)) hx hb hown (hts _ qw935) dX10_looks_19 ?_
    have zr0 : ((-1000000) : Int32).toInt = (-1000000) := by decide
    rw [hQ]
    exact W.iret (v := ((-1000000))) hx hb hr (fun t ht hW => ⟨⟨(-1000000), (), rfl, (fun kc kT q_fr q_fp q_gfY q_gfF q_fR q_pl q_cn q_frf hc hb h => by unfold sV_loo; rw [if_neg (by omega)]; ), trivial⟩, hS.F ht⟩) hS.2.2 dX10_looks_22
  · have c5 : ¬ v2.toInt = 0 := z6 rfl (by decide) c5
    refine lv_aload_n hx hb dX10_looks_8 rfl (lv_at hl 0 rfl) ?_
    refine va_get (D := (dC, dI)) (ci := 10) (v := .ref g0) (C := RX10) (T := TX10) (N := 17) hx hb hts iX10 hown hK hP 0 rfl rfl 6 (by decide) (hts _ qw362) (fun _ h9 => h9) rfl dX10_looks_9 ?_
    refine lv_iload_n hx hb dX10_looks_12 rfl (lv_at hl 1 rfl) ?_
    obtain ⟨hPc, hDc⟩ := zc2 (wc := [(g0, .inr (7, [.ref gY, .ref gF, .ref gP, .int gpn, .int glt, .int gsh, .int gwd, .int gpu, .int gmo])), (gP, .inl (cI, 80, .inl gfP))]) hP hT [3, 4] (by decide +kernel) rfl
    have hFc := zfr hS hA
    refine va_calli (va_runV (As := [.int p0]) (rest := []) ⟨hx, hb, hml, hown, hts⟩ (g_X7_portraitsOf l dC dI cI cJ g0 p0 gY gF gP gpn glt gsh gwd gpu gmo gfP H.size n_gpn ci_gfP_zPo) (cwV 1 hts (zgV qw751 qw752 qw753 qw103 qw754) rfl rfl rfl hd_X7_portraitsOf ⟨by rw [hR]; exact Nat.le_of_ble_eq_true rfl, by rw [hR]; exact Nat.le_of_ble_eq_true rfl⟩) (zPV hPc hK hDc (va_recv (q := (RX7, TX7, 9)) hK hP (ci := 7) (q0 := 3) rfl rfl)) rfl rfl hl.1 rfl (lv_room (Nat.le_of_ble_eq_true rfl)) dX10_looks_13 ⟨Nat.zero_le _, Nat.zero_le _⟩) hS (fun q _ h => hFc q h) hFc (fun v13 u13 t H locs ht hvm hw hB hz1 hk1 hS9 => ?_)
    replace hP := zkeep hP hk1
    replace hS := hS9
    clear hPc hDc hFc hk1 hz1 hvm hS9
    have f13_0 : (v13 = zCnt gfP p0 gpn.toInt.toNat) := hw
    have F13 := f13_0
    refine lv_if_ne (tgt := 23) hx hb dX10_looks_16 (by decide) (fun c16 => ?_) (fun c16 => ?_)
    · have c16 : ¬ v13.toInt = 0 := z6 rfl (by decide) c16
      refine lv_aload_n hx hb dX10_looks_23 rfl (lv_at hl 0 rfl) ?_
      refine lv_iload_n hx hb dX10_looks_24 rfl (lv_at hl 1 rfl) ?_
      obtain ⟨hPc, hDc⟩ := zc2 (wc := [(h0, .inr (10, [.ref tp, h0_courtReader, h0_lawReader, h0_draft, .ref aC, h0_laws, .ref g0, .ref k0, .ref ac, .ref sd, .ref mi, .ref dw, .ref rf, .int lc, .int lh, .int br, .int hi])), (g0, .inr (7, [.ref gY, .ref gF, .ref gP, .int gpn, .int glt, .int gsh, .int gwd, .int gpu, .int gmo])), (gP, .inl (cI, 80, .inl gfP))]) hP hT [0, 3, 4] (by decide +kernel) rfl
      have hFc := zfr hS hA
      refine va_calli (va_runV (As := [.int p0]) (rest := []) ⟨hx, hb, hml, hown, hts⟩ (g_X10_looked l dC dI cI cJ h0 p0 tp h0_courtReader h0_lawReader h0_draft aC h0_laws g0 k0 ac sd mi dw rf lc lh br hi gY gF gP gpn glt gsh gwd gpu gmo gfP H.size n_gpn y_gwd y_hi y_lc (by omega) ci_gfP_zPo) (cwV 1 hts (zgV qw747 qw749 qw16 qw98 qw750) rfl rfl rfl hd_X10_looked ⟨by rw [hR]; exact Nat.le_of_ble_eq_true rfl, by rw [hR]; exact Nat.le_of_ble_eq_true rfl⟩) (zPV hPc hK hDc (va_recv (q := (RX10, TX10, 17)) hK hP (ci := 10) (q0 := 0) rfl rfl)) rfl rfl hl.1 rfl (lv_room (Nat.le_of_ble_eq_true rfl)) dX10_looks_25 ⟨Nat.zero_le _, Nat.zero_le _⟩) hS (fun q _ h => hFc q h) hFc (fun v25 u25 t H locs ht hvm hw hB hz1 hk1 hS9 => ?_)
      replace hP := zkeep hP hk1
      replace hS := hS9
      clear hPc hDc hFc hk1 hz1 hvm hS9
      have f25_0 : (v25 = zLkd gfP p0 gpn.toInt.toNat) := hw
      have F25 := f25_0
      refine lv_aload_n hx hb dX10_looks_28 rfl (lv_at hl 0 rfl) ?_
      refine va_get (D := (dC, dI)) (ci := 10) (v := .ref aC) (C := RX10) (T := TX10) (N := 17) hx hb hts iX10 hown hK hP 0 rfl rfl 4 (by decide) (hts _ qw360) (fun _ h9 => h9) rfl dX10_looks_29 ?_
      refine lv_iload_n hx hb dX10_looks_32 rfl (lv_at hl 1 rfl) ?_
      obtain ⟨hPc, hDc⟩ := zc2 (wc := [(aC, .inr (1, [.ref aR, .ref aB, .ref aP, .int nb, .int np])), (aB, .inl (cI, 24, .inl fb))]) hP hT [1, 2] (by decide +kernel) rfl
      have hFc := zfr hS hA
      refine va_calli (va_runV (As := [.int p0]) (rest := [.int v25]) ⟨hx, hb, hml, hown, hts⟩ (g_X1_faceOf l dC dI cI cJ aC p0 aR aB aP nb np fb H.size (by omega)) (cwV 1 hts (zgV qw702 qw703 qw704 qw102 qw705) rfl rfl rfl hd_X1_faceOf ⟨by rw [hR]; exact Nat.le_of_ble_eq_true rfl, by rw [hR]; exact Nat.le_of_ble_eq_true rfl⟩) (zPV hPc hK hDc (va_recv (q := (RX1, TX1, 5)) hK hP (ci := 1) (q0 := 1) rfl rfl)) rfl rfl hl.1 rfl (lv_room (Nat.le_of_ble_eq_true rfl)) dX10_looks_33 ⟨Nat.zero_le _, Nat.zero_le _⟩) hS (fun q _ h => hFc q h) hFc (fun v33 u33 t H locs ht hvm hw hB hz1 hk1 hS9 => ?_)
      replace hP := zkeep hP hk1
      replace hS := hS9
      clear hPc hDc hFc hk1 hz1 hvm hS9
      have f33_0 : (v33 = fb (4 * p0.toInt.toNat)) := hw
      have F33 := f33_0
      refine lv_isub hx hb dX10_looks_36 ?_
      refine lv_topi (fun v36 e36 => ?_)
      rw [hQ]
      exact W.iret (v := v36) hx hb hr (fun t ht hW => ⟨⟨v36, (), rfl, (fun kc kT q_fr q_fp q_gfY q_gfF q_fR q_pl q_cn q_frf hc hb h => by have y13 : zCnt kT.1.2.2.2.2 p0 kT.1.2.2.2.1.2.2.toInt.toNat = v13 := (by rw [zSc_pn h.1, ← zCnt_c (zSc_P h.1), ← F13]); have z13 := congrArg Int32.toInt y13; have y33 : v33 = kc.2.1 (4 * p0.toInt.toNat) := F33.trans (hc.2.1 _ (by omega)); unfold sV_loo; rw [if_pos (by omega)]; rw [zSc_pn h.1, ← zLkd_c (zSc_P h.1), ← F25, ← y33]; exact e36), trivial⟩, hS.F ht⟩) hS.2.2 dX10_looks_37
    · have c16 : v13.toInt = 0 := z5 rfl (by decide) c16
      refine lv_ldcw (v := (-1000000)) hx hb hown (hts _ qw935) dX10_looks_19 ?_
      have zr0 : ((-1000000) : Int32).toInt = (-1000000) := by decide
      rw [hQ]
      exact W.iret (v := ((-1000000))) hx hb hr (fun t ht hW => ⟨⟨(-1000000), (), rfl, (fun kc kT q_fr q_fp q_gfY q_gfF q_fR q_pl q_cn q_frf hc hb h => by have y13 : zCnt kT.1.2.2.2.2 p0 kT.1.2.2.2.1.2.2.toInt.toNat = v13 := (by rw [zSc_pn h.1, ← zCnt_c (zSc_P h.1), ← F13]); have z13 := congrArg Int32.toInt y13; unfold sV_loo; rw [if_neg (by omega)]; ), trivial⟩, hS.F ht⟩) hS.2.2 dX10_looks_22
set_option maxHeartbeats 4000000 in
set_option maxRecDepth 100000 in
theorem g_X10_heads (l : Launch) (dC : Nat → ClassId) (dI : Nat → Nat → Nat) (cI cJ : ClassId) (h0 : Nat) (p0 : Int32) (p1 : Int32) (p2 : Int32) (tp : Nat) (h0_courtReader : Value) (h0_lawReader : Value) (h0_draft : Value) (aC : Nat) (h0_laws : Value) (g0 : Nat) (k0 : Nat) (ac : Nat) (sd : Nat) (mi : Nat) (dw : Nat) (rf : Nat) (lc : Int32) (lh : Int32) (br : Int32) (hi : Int32) (aR : Nat) (aB : Nat) (aP : Nat) (nb : Int32) (np : Int32) (gY : Nat) (gF : Nat) (gP : Nat) (gpn : Int32) (glt : Int32) (gsh : Int32) (gwd : Int32) (gpu : Int32) (gmo : Int32) (gfF : Nat → Int32) (sz : Nat) (n_gpn : 0 ≤ gpn.toInt ∧ gpn.toInt ≤ 20) (n_gwd : (-1) ≤ gwd.toInt ∧ gwd.toInt ≤ 5) (n_hi : 0 ≤ hi.toInt ∧ hi.toInt ≤ 1) (n_lc : 0 ≤ lc.toInt ∧ lc.toInt ≤ 4) (n_nb : 0 ≤ nb.toInt ∧ nb.toInt ≤ 6) (n_np : 0 ≤ np.toInt ∧ np.toInt ≤ 5)    : Met l yX10_heads (.code yX10_heads cX10_heads 8 (some .int) :: wA) ({ frames := 1, cells := 0, slots := 0, locals := 21 }) (zP (dC, dI) [(cI, .int), (cJ, .long)] [.ref h0, .int p0, .int p1, .int p2] sz [(h0, .inr (10, [.ref tp, h0_courtReader, h0_lawReader, h0_draft, .ref aC, h0_laws, .ref g0, .ref k0, .ref ac, .ref sd, .ref mi, .ref dw, .ref rf, .int lc, .int lh, .int br, .int hi])), (aC, .inr (1, [.ref aR, .ref aB, .ref aP, .int nb, .int np])), (g0, .inr (7, [.ref gY, .ref gF, .ref gP, .int gpn, .int glt, .int gsh, .int gwd, .int gpu, .int gmo])), (gF, .inl (cI, 5, .inl gfF))]) (va_Qi (fun (r : Int32) (u : Unit) => (∀ (kc : zK3) (kT : zT) (q_fr : Nat → Int32) (q_fb : Nat → Int32) (q_fp : Nat → Int32) (q_gfY : Nat → Int32) (q_gfP : Nat → Int32) (q_fR : Nat → Int32) (q_pl : Int32) (q_cn : Int32) (q_frf : Nat → Int32), zCn q_fr q_fb q_fp nb.toInt np.toInt kc → zKo nb.toInt np.toInt kc kT → zTc nb.toInt np.toInt kT q_gfY gfF q_gfP gpn glt gsh gwd gpu gmo q_fR q_pl q_cn q_frf → r = sV_hea np.toInt kT.1 p0 p1 p2)) (fun (_ : Unit) (_ : State) => True) (va_A [] sz)) 0 0 (va_A [] sz) := by
  refine Met.ofW (cc := cX10_heads) (maxL := 8) (ret := (some .int)) (by decide) rfl ?_
  intro p e s m args below meth c s₁ B hml hv
  have y_gpn : zHid (0 ≤ gpn.toInt ∧ gpn.toInt ≤ 20) := n_gpn
  have y_gwd : zHid ((-1) ≤ gwd.toInt ∧ gwd.toInt ≤ 5) := n_gwd
  have y_hi : zHid (0 ≤ hi.toInt ∧ hi.toInt ≤ 1) := n_hi
  have y_lc : zHid (0 ≤ lc.toInt ∧ lc.toInt ≤ 4) := n_lc
  clear n_gpn n_gwd n_hi n_lc
  obtain ⟨hargs, hsz, hP, hK, hT⟩ := hv
  have hx := B.exec
  have hb := B.bytes
  have hr := B.returns
  have hts : ∀ w ∈ wA, w.before args s = true := fun w h => atoms_spec (ws := .code yX10_heads cX10_heads 8 (some .int) :: wA) B.pre w (List.mem_cons_of_mem _ h)
  have hown : s.vm.findClass RX10 = some m.cls := findClass_of_methodNamed B.named
  have hlocks := B.notSynchronized
  subst hsz
  have hD : va_D (va_A [] s.heap.size) [] := zD0
  generalize hAe : va_A [] s.heap.size = A at hD ⊢
  have hA : ∀ q : Nat, s.heap.size ≤ q → A q := fun q h => by rw [← hAe]; exact Or.inr h
  have hl := lv_entry ([.ref h0, .int p0, .int p1, .int p2]) (n := 8) (Nat.le_of_ble_eq_true rfl)
  rw [show entryFrame m args 8 = entryFrame m ([.ref h0, .int p0, .int p1, .int p2] : List Value).toArray 8 by rw [hargs], lg_entry_eq]
  generalize (lg_sl ([.ref h0, .int p0, .int p1, .int p2]) ++ List.replicate (8 - (lg_sl ([.ref h0, .int p0, .int p1, .int p2])).length) Slot.unset).toArray = ls at hl ⊢
  have hl : lv_has ls 8 [(0, .ref h0), (1, .int p0), (2, .int p1), (3, .int p2)] := hl
  refine zstart (fun H hH => ?_)
  rw [← hH] at hP
  have hS : va_S A s.heap H [] := by rw [hH]; exact va_S.rf
  generalize ([] : List Loc) = locs at hS ⊢
  refine zgen (fun R Q hR hQ => ?_)
  refine lv_aload_n hx hb dX10_heads_0 rfl (lv_at hl 0 rfl) ?_
  refine lv_iload_n hx hb dX10_heads_1 rfl (lv_at hl 1 rfl) ?_
  obtain ⟨hPc, hDc⟩ := zc2 (wc := [(h0, .inr (10, [.ref tp, h0_courtReader, h0_lawReader, h0_draft, .ref aC, h0_laws, .ref g0, .ref k0, .ref ac, .ref sd, .ref mi, .ref dw, .ref rf, .int lc, .int lh, .int br, .int hi])), (aC, .inr (1, [.ref aR, .ref aB, .ref aP, .int nb, .int np]))]) hP hT [0, 1] (by decide +kernel) rfl
  have hFc := zfr hS hA
  refine va_calli (va_runV (As := [.int p0]) (rest := []) ⟨hx, hb, hml, hown, hts⟩ (g_X10_isPainter l dC dI cI cJ h0 p0 (.ref tp) h0_courtReader h0_lawReader h0_draft aC h0_laws (.ref g0) (.ref k0) (.ref ac) (.ref sd) (.ref mi) (.ref dw) (.ref rf) (.int lc) (.int lh) (.int br) (.int hi) aR aB aP nb np H.size n_np) (cwV 1 hts (zgV qw600 qw602 qw11 qw98 qw603) rfl rfl rfl hd_X10_isPainter ⟨by rw [hR]; exact Nat.le_of_ble_eq_true rfl, by rw [hR]; exact Nat.le_of_ble_eq_true rfl⟩) (zPV hPc hK hDc (va_recv (q := (RX10, TX10, 17)) hK hP (ci := 10) (q0 := 0) rfl rfl)) rfl rfl hl.1 rfl (lv_room (Nat.le_of_ble_eq_true rfl)) dX10_heads_2 ⟨Nat.zero_le _, Nat.zero_le _⟩) hS (fun q _ h => hFc q h) hFc (fun v2 u2 t H locs ht hvm hw hB hz1 hk1 hS9 => ?_)
  replace hP := zkeep hP hk1
  replace hS := hS9
  clear hPc hDc hFc hk1 hz1 hvm hS9
  obtain ⟨f2_0, f2_1, f2_2, f2_3⟩ : (0 ≤ v2.toInt) ∧ (v2.toInt ≤ 1) ∧ (¬ v2.toInt = 0 → (0 ≤ p0.toInt ∧ p0.toInt < np.toInt)) ∧ (v2.toInt = 0 → ¬ (0 ≤ p0.toInt ∧ p0.toInt < np.toInt)) := hw
  refine lv_if_eq (tgt := 28) hx hb dX10_heads_5 (by decide) (fun c5 => ?_) (fun c5 => ?_)
  · have c5 : v2.toInt = 0 := z5 rfl (by decide) c5
    refine lv_iconst (v := (-1)) hx hb dX10_heads_28 (by decide) ?_
    have zr0 : ((-1) : Int32).toInt = (-1) := by decide
    rw [hQ]
    exact W.iret (v := ((-1))) hx hb hr (fun t ht hW => ⟨⟨(-1), (), rfl, (fun kc kT q_fr q_fb q_fp q_gfY q_gfP q_fR q_pl q_cn q_frf hc hb h => by unfold sV_hea; rw [if_neg (by omega)]; ), trivial⟩, hS.F ht⟩) hS.2.2 dX10_heads_29
  · have c5 : ¬ v2.toInt = 0 := z6 rfl (by decide) c5
    refine lv_iload_n hx hb dX10_heads_8 rfl (lv_at hl 2 rfl) ?_
    refine lv_if_lt (tgt := 28) hx hb dX10_heads_9 (by decide) (fun c9 => ?_) (fun c9 => ?_)
    · have c9 : p1.toInt < 0 := z1 rfl (by decide) c9
      refine lv_iconst (v := (-1)) hx hb dX10_heads_28 (by decide) ?_
      have zr0 : ((-1) : Int32).toInt = (-1) := by decide
      rw [hQ]
      exact W.iret (v := ((-1))) hx hb hr (fun t ht hW => ⟨⟨(-1), (), rfl, (fun kc kT q_fr q_fb q_fp q_gfY q_gfP q_fR q_pl q_cn q_frf hc hb h => by unfold sV_hea; rw [if_neg (by omega)]; ), trivial⟩, hS.F ht⟩) hS.2.2 dX10_heads_29
    · have c9 : 0 ≤ p1.toInt := z2 rfl (by decide) c9
      refine lv_iload_n hx hb dX10_heads_12 rfl (lv_at hl 2 rfl) ?_
      refine lv_bipush (v := 20) hx hb dX10_heads_13 (by decide) ?_
      refine lv_icmp_gt (tgt := 28) hx hb dX10_heads_15 (by decide) (fun c15 => ?_) (fun c15 => ?_)
      · have c15 : 20 < p1.toInt := z1 (by decide) rfl c15
        refine lv_iconst (v := (-1)) hx hb dX10_heads_28 (by decide) ?_
        have zr0 : ((-1) : Int32).toInt = (-1) := by decide
        rw [hQ]
        exact W.iret (v := ((-1))) hx hb hr (fun t ht hW => ⟨⟨(-1), (), rfl, (fun kc kT q_fr q_fb q_fp q_gfY q_gfP q_fR q_pl q_cn q_frf hc hb h => by unfold sV_hea; rw [if_neg (by omega)]; ), trivial⟩, hS.F ht⟩) hS.2.2 dX10_heads_29
      · have c15 : p1.toInt ≤ 20 := z2 (by decide) rfl c15
        refine lv_iload_n hx hb dX10_heads_18 rfl (lv_at hl 3 rfl) ?_
        refine lv_if_lt (tgt := 28) hx hb dX10_heads_19 (by decide) (fun c19 => ?_) (fun c19 => ?_)
        · have c19 : p2.toInt < 0 := z1 rfl (by decide) c19
          refine lv_iconst (v := (-1)) hx hb dX10_heads_28 (by decide) ?_
          have zr0 : ((-1) : Int32).toInt = (-1) := by decide
          rw [hQ]
          exact W.iret (v := ((-1))) hx hb hr (fun t ht hW => ⟨⟨(-1), (), rfl, (fun kc kT q_fr q_fb q_fp q_gfY q_gfP q_fR q_pl q_cn q_frf hc hb h => by unfold sV_hea; rw [if_neg (by omega)]; ), trivial⟩, hS.F ht⟩) hS.2.2 dX10_heads_29
        · have c19 : 0 ≤ p2.toInt := z2 rfl (by decide) c19
          refine lv_iload_n hx hb dX10_heads_22 rfl (lv_at hl 3 rfl) ?_
          refine lv_bipush (v := 100) hx hb dX10_heads_23 (by decide) ?_
          refine lv_icmp_le (tgt := 30) hx hb dX10_heads_25 (by decide) (fun c25 => ?_) (fun c25 => ?_)
          · have c25 : p2.toInt ≤ 100 := z3 rfl (by decide) c25
            refine lv_aload_n hx hb dX10_heads_30 rfl (lv_at hl 0 rfl) ?_
            refine va_get (D := (dC, dI)) (ci := 10) (v := .ref g0) (C := RX10) (T := TX10) (N := 17) hx hb hts iX10 hown hK hP 0 rfl rfl 6 (by decide) (hts _ qw362) (fun _ h9 => h9) rfl dX10_heads_31 ?_
            refine va_get (D := (dC, dI)) (ci := 7) (v := .ref gF) (C := RX7) (T := TX7) (N := 9) hx hb hts iX7 hown hK hP 2 rfl rfl 1 (by decide) (hts _ qw225) (fun _ h9 => h9) rfl dX10_heads_34 ?_
            refine lv_iload_n hx hb dX10_heads_37 rfl (lv_at hl 1 rfl) ?_
            refine va_iald hx hb hK hP 3 0 rfl rfl (vp_in_iff.mpr ⟨by omega, by omega⟩) dX10_heads_38 ?_
            refine lv_topi (fun v38 e38 => ?_)
            refine lv_iconst (v := 5) hx hb dX10_heads_39 (by decide) ?_
            refine lv_icmp_le (tgt := 49) hx hb dX10_heads_40 (by decide) (fun c40 => ?_) (fun c40 => ?_)
            · have c40 : v38.toInt ≤ 5 := z3 rfl (by decide) c40
              refine lv_iload_n hx hb dX10_heads_49 rfl (lv_at hl 3 rfl) ?_
              refine lv_istore (lv' := [(4, .int p2), (0, .ref h0), (1, .int p0), (2, .int p1), (3, .int p2)]) hx hb dX10_heads_50 hl (by decide) rfl (fun ls hl => ?_)
              refine lv_ldc2 (v := 1000000000) hx hb hown (hts _ qw978) dX10_heads_52 ?_
              refine lv_lstore (lv' := [(5, .long 1000000000), (4, .int p2), (0, .ref h0), (1, .int p0), (2, .int p1), (3, .int p2)]) hx hb dX10_heads_55 hl (by decide) rfl (fun ls hl => ?_)
              refine lv_iconst (v := 0) hx hb dX10_heads_57 (by decide) ?_
              have J60 : ∀ (n : Nat) (m60_L_4 : Int32) (m60_L_5 : Int64) (m60_L_7 : Int32), (0 ≤ m60_L_4.toInt ∧ m60_L_4.toInt ≤ 100) → (0 ≤ m60_L_7.toInt ∧ m60_L_7.toInt ≤ 20) → (m60_L_4 = sEch (gfF p0.toInt.toNat) p2) → (m60_L_5 = sHea m60_L_4 m60_L_7.toInt.toNat) → (m60_L_7.toInt ≤ p1.toInt) → (21 - m60_L_7.toInt).toNat = n → ∀ (H : Heap) (locs : List Loc) (ls : Array Slot), va_P (dC, dI) vwCl [(h0, .inr (10, [.ref tp, h0_courtReader, h0_lawReader, h0_draft, .ref aC, h0_laws, .ref g0, .ref k0, .ref ac, .ref sd, .ref mi, .ref dw, .ref rf, .int lc, .int lh, .int br, .int hi])), (aC, .inr (1, [.ref aR, .ref aB, .ref aP, .int nb, .int np])), (g0, .inr (7, [.ref gY, .ref gF, .ref gP, .int gpn, .int glt, .int gsh, .int gwd, .int gpu, .int gmo])), (gF, .inl (cI, 5, .inl gfF))] H → va_S A s.heap H locs → lv_has ls 8 [(7, .int m60_L_7), (5, .long m60_L_5), (4, .int m60_L_4), (0, .ref h0), (1, .int p0), (2, .int p1), (3, .int p2)] → W p l e R s m args below meth c H locs 0 0 Q (F0 m 60 ls []) := by
                intro n60
                induction n60 using Nat.strongRecOn with
                | _ n60 ih60 =>
                  intro m60_L_4 m60_L_5 m60_L_7 jf60_0 jf60_1 jv60_0 jv60_1 jf60_4 hmu60 H locs ls hP hS hl
                  refine lv_iload hx hb dX10_heads_60 (lv_at hl 0 rfl) ?_
                  refine lv_iload_n hx hb dX10_heads_62 rfl (lv_at hl 5 rfl) ?_
                  refine lv_icmp_ge (tgt := 87) hx hb dX10_heads_63 (by decide) (fun c63 => ?_) (fun c63 => ?_)
                  · have c63 : p1.toInt ≤ m60_L_7.toInt := z3 rfl rfl c63
                    refine lv_lload hx hb dX10_heads_87 (lv_at hl 1 rfl) ?_
                    refine lv_l2i hx hb dX10_heads_89 rfl ?_
                    refine lv_topi (fun v89 e89 => ?_)
                    rw [hQ]
                    exact W.iret (v := v89) hx hb hr (fun t ht hW => ⟨⟨v89, (), rfl, (fun kc kT q_fr q_fb q_fp q_gfY q_gfP q_fR q_pl q_cn q_frf hc hb h => by unfold sV_hea; rw [if_pos (by omega)]; rw [← h.1.2.1 _ (by omega), ← jv60_0, show p1.toInt.toNat = m60_L_7.toInt.toNat by omega, ← jv60_1]; exact e89), trivial⟩, hS.F ht⟩) hS.2.2 dX10_heads_90
                  · have c63 : m60_L_7.toInt < p1.toInt := z4 rfl rfl c63
                    refine lv_lload hx hb dX10_heads_66 (lv_at hl 1 rfl) ?_
                    refine lv_lload hx hb dX10_heads_68 (lv_at hl 1 rfl) ?_
                    refine lv_iload hx hb dX10_heads_70 (lv_at hl 2 rfl) ?_
                    refine lv_i2l hx hb dX10_heads_72 rfl ?_
                    refine lv_topl (fun v72 e72 => ?_)
                    refine lv_lmul hx hb dX10_heads_73 ?_
                    refine lv_topl (fun v73 e73 => ?_)
                    refine lv_ldc2 (v := 100) hx hb hown (hts _ qw979) dX10_heads_74 ?_
                    refine lv_ldiv hx hb dX10_heads_77 (by decide) ?_
                    refine lv_topl (fun v77 e77 => ?_)
                    refine lv_lsub hx hb dX10_heads_78 ?_
                    refine lv_topl (fun v78 e78 => ?_)
                    refine lv_lstore (lv' := [(5, .long v78), (7, .int m60_L_7), (4, .int m60_L_4), (0, .ref h0), (1, .int p0), (2, .int p1), (3, .int p2)]) hx hb dX10_heads_79 hl (by decide) rfl (fun ls hl => ?_)
                    obtain ⟨v81, e81⟩ : ∃ y : Int32, y = m60_L_7 + Int32.ofInt (1) := ⟨_, rfl⟩
                    refine lv_iinc (v := v81) (lv' := [(7, .int v81), (5, .long v78), (4, .int m60_L_4), (0, .ref h0), (1, .int p0), (2, .int p1), (3, .int p2)]) hx hb dX10_heads_81 hl (k := 1) rfl e81.symm (by decide) rfl (fun ls hl => ?_)
                    have i81 : v81.toInt = m60_L_7.toInt + 1 := zaddI e81 (by decide) (by omega) (by omega)
                    refine lv_goto (tgt := 60) hx hb dX10_heads_84 (by decide) ?_
                    exact ih60 _ (by omega) m60_L_4 v78 v81 jf60_0 (by omega) (jv60_0) (zHeaS jv60_1 (by omega) i81 e72 e73 e77 e78) (by omega) rfl H locs ls hP hS (lv_sub hl [0, 1, 2, 3, 4, 5, 6] rfl)
              refine lv_istore (lv' := [(7, .int 0), (5, .long 1000000000), (4, .int p2), (0, .ref h0), (1, .int p0), (2, .int p1), (3, .int p2)]) hx hb dX10_heads_58 hl (by decide) rfl (fun ls hl => ?_)
              have zj60_m60_L_7 : (0 : Int32).toInt = 0 := by decide
              exact J60 _ p2 1000000000 0 (by omega) (by decide) (by unfold sEch; rw [← zIxN (n := p0.toInt.toNat) e38 (by omega)]; first | exact e45.trans (if_pos (by omega)).symm | exact (if_neg (by omega)).symm) (rfl) (by omega) rfl H locs ls hP hS (lv_sub hl [0, 1, 2, 3, 4, 5, 6] rfl)
            · have c40 : 5 < v38.toInt := z4 rfl (by decide) c40
              refine lv_iload_n hx hb dX10_heads_43 rfl (lv_at hl 3 rfl) ?_
              refine lv_iconst (v := 2) hx hb dX10_heads_44 (by decide) ?_
              refine lv_idiv hx hb dX10_heads_45 (by decide) ?_
              refine lv_topi (fun v45 e45 => ?_)
              have i45 : v45.toInt = p2.toInt / 2 := zdiv e45 rfl (by decide) (by omega) (by omega)
              refine lv_goto (tgt := 50) hx hb dX10_heads_46 (by decide) ?_
              refine lv_istore (lv' := [(4, .int v45), (0, .ref h0), (1, .int p0), (2, .int p1), (3, .int p2)]) hx hb dX10_heads_50 hl (by decide) rfl (fun ls hl => ?_)
              refine lv_ldc2 (v := 1000000000) hx hb hown (hts _ qw978) dX10_heads_52 ?_
              refine lv_lstore (lv' := [(5, .long 1000000000), (4, .int v45), (0, .ref h0), (1, .int p0), (2, .int p1), (3, .int p2)]) hx hb dX10_heads_55 hl (by decide) rfl (fun ls hl => ?_)
              refine lv_iconst (v := 0) hx hb dX10_heads_57 (by decide) ?_
              have J60 : ∀ (n : Nat) (m60_L_4 : Int32) (m60_L_5 : Int64) (m60_L_7 : Int32), (0 ≤ m60_L_4.toInt ∧ m60_L_4.toInt ≤ 100) → (0 ≤ m60_L_7.toInt ∧ m60_L_7.toInt ≤ 20) → (m60_L_4 = sEch (gfF p0.toInt.toNat) p2) → (m60_L_5 = sHea m60_L_4 m60_L_7.toInt.toNat) → (m60_L_7.toInt ≤ p1.toInt) → (21 - m60_L_7.toInt).toNat = n → ∀ (H : Heap) (locs : List Loc) (ls : Array Slot), va_P (dC, dI) vwCl [(h0, .inr (10, [.ref tp, h0_courtReader, h0_lawReader, h0_draft, .ref aC, h0_laws, .ref g0, .ref k0, .ref ac, .ref sd, .ref mi, .ref dw, .ref rf, .int lc, .int lh, .int br, .int hi])), (aC, .inr (1, [.ref aR, .ref aB, .ref aP, .int nb, .int np])), (g0, .inr (7, [.ref gY, .ref gF, .ref gP, .int gpn, .int glt, .int gsh, .int gwd, .int gpu, .int gmo])), (gF, .inl (cI, 5, .inl gfF))] H → va_S A s.heap H locs → lv_has ls 8 [(7, .int m60_L_7), (5, .long m60_L_5), (4, .int m60_L_4), (0, .ref h0), (1, .int p0), (2, .int p1), (3, .int p2)] → W p l e R s m args below meth c H locs 0 0 Q (F0 m 60 ls []) := by
                intro n60
                induction n60 using Nat.strongRecOn with
                | _ n60 ih60 =>
                  intro m60_L_4 m60_L_5 m60_L_7 jf60_0 jf60_1 jv60_0 jv60_1 jf60_4 hmu60 H locs ls hP hS hl
                  refine lv_iload hx hb dX10_heads_60 (lv_at hl 0 rfl) ?_
                  refine lv_iload_n hx hb dX10_heads_62 rfl (lv_at hl 5 rfl) ?_
                  refine lv_icmp_ge (tgt := 87) hx hb dX10_heads_63 (by decide) (fun c63 => ?_) (fun c63 => ?_)
                  · have c63 : p1.toInt ≤ m60_L_7.toInt := z3 rfl rfl c63
                    refine lv_lload hx hb dX10_heads_87 (lv_at hl 1 rfl) ?_
                    refine lv_l2i hx hb dX10_heads_89 rfl ?_
                    refine lv_topi (fun v89 e89 => ?_)
                    rw [hQ]
                    exact W.iret (v := v89) hx hb hr (fun t ht hW => ⟨⟨v89, (), rfl, (fun kc kT q_fr q_fb q_fp q_gfY q_gfP q_fR q_pl q_cn q_frf hc hb h => by unfold sV_hea; rw [if_pos (by omega)]; rw [← h.1.2.1 _ (by omega), ← jv60_0, show p1.toInt.toNat = m60_L_7.toInt.toNat by omega, ← jv60_1]; exact e89), trivial⟩, hS.F ht⟩) hS.2.2 dX10_heads_90
                  · have c63 : m60_L_7.toInt < p1.toInt := z4 rfl rfl c63
                    refine lv_lload hx hb dX10_heads_66 (lv_at hl 1 rfl) ?_
                    refine lv_lload hx hb dX10_heads_68 (lv_at hl 1 rfl) ?_
                    refine lv_iload hx hb dX10_heads_70 (lv_at hl 2 rfl) ?_
                    refine lv_i2l hx hb dX10_heads_72 rfl ?_
                    refine lv_topl (fun v72 e72 => ?_)
                    refine lv_lmul hx hb dX10_heads_73 ?_
                    refine lv_topl (fun v73 e73 => ?_)
                    refine lv_ldc2 (v := 100) hx hb hown (hts _ qw979) dX10_heads_74 ?_
                    refine lv_ldiv hx hb dX10_heads_77 (by decide) ?_
                    refine lv_topl (fun v77 e77 => ?_)
                    refine lv_lsub hx hb dX10_heads_78 ?_
                    refine lv_topl (fun v78 e78 => ?_)
                    refine lv_lstore (lv' := [(5, .long v78), (7, .int m60_L_7), (4, .int m60_L_4), (0, .ref h0), (1, .int p0), (2, .int p1), (3, .int p2)]) hx hb dX10_heads_79 hl (by decide) rfl (fun ls hl => ?_)
                    obtain ⟨v81, e81⟩ : ∃ y : Int32, y = m60_L_7 + Int32.ofInt (1) := ⟨_, rfl⟩
                    refine lv_iinc (v := v81) (lv' := [(7, .int v81), (5, .long v78), (4, .int m60_L_4), (0, .ref h0), (1, .int p0), (2, .int p1), (3, .int p2)]) hx hb dX10_heads_81 hl (k := 1) rfl e81.symm (by decide) rfl (fun ls hl => ?_)
                    have i81 : v81.toInt = m60_L_7.toInt + 1 := zaddI e81 (by decide) (by omega) (by omega)
                    refine lv_goto (tgt := 60) hx hb dX10_heads_84 (by decide) ?_
                    exact ih60 _ (by omega) m60_L_4 v78 v81 jf60_0 (by omega) (jv60_0) (zHeaS jv60_1 (by omega) i81 e72 e73 e77 e78) (by omega) rfl H locs ls hP hS (lv_sub hl [0, 1, 2, 3, 4, 5, 6] rfl)
              refine lv_istore (lv' := [(7, .int 0), (5, .long 1000000000), (4, .int v45), (0, .ref h0), (1, .int p0), (2, .int p1), (3, .int p2)]) hx hb dX10_heads_58 hl (by decide) rfl (fun ls hl => ?_)
              have zj60_m60_L_7 : (0 : Int32).toInt = 0 := by decide
              exact J60 _ v45 1000000000 0 (by omega) (by decide) (by unfold sEch; rw [← zIxN (n := p0.toInt.toNat) e38 (by omega)]; first | exact e45.trans (if_pos (by omega)).symm | exact (if_neg (by omega)).symm) (rfl) (by omega) rfl H locs ls hP hS (lv_sub hl [0, 1, 2, 3, 4, 5, 6] rfl)
          · have c25 : 100 < p2.toInt := z4 rfl (by decide) c25
            refine lv_iconst (v := (-1)) hx hb dX10_heads_28 (by decide) ?_
            have zr0 : ((-1) : Int32).toInt = (-1) := by decide
            rw [hQ]
            exact W.iret (v := ((-1))) hx hb hr (fun t ht hW => ⟨⟨(-1), (), rfl, (fun kc kT q_fr q_fb q_fp q_gfY q_gfP q_fR q_pl q_cn q_frf hc hb h => by unfold sV_hea; rw [if_neg (by omega)]; ), trivial⟩, hS.F ht⟩) hS.2.2 dX10_heads_29
set_option maxHeartbeats 4000000 in
set_option maxRecDepth 100000 in
theorem g_X10_rankByPay (l : Launch) (dC : Nat → ClassId) (dI : Nat → Nat → Nat) (cI cJ : ClassId) (h0 : Nat) (p0 : Int32) (tp : Nat) (h0_courtReader : Value) (h0_lawReader : Value) (h0_draft : Value) (aC : Nat) (h0_laws : Value) (g0 : Nat) (k0 : Nat) (ac : Nat) (sd : Nat) (mi : Nat) (dw : Nat) (rf : Nat) (lc : Int32) (lh : Int32) (br : Int32) (hi : Int32) (aR : Nat) (aB : Nat) (aP : Nat) (nb : Int32) (np : Int32) (gY : Nat) (gF : Nat) (gP : Nat) (gpn : Int32) (glt : Int32) (gsh : Int32) (gwd : Int32) (gpu : Int32) (gmo : Int32) (gfY : Nat → Int32) (sz : Nat) (n_gpn : 0 ≤ gpn.toInt ∧ gpn.toInt ≤ 20) (n_gwd : (-1) ≤ gwd.toInt ∧ gwd.toInt ≤ 5) (n_hi : 0 ≤ hi.toInt ∧ hi.toInt ≤ 1) (n_lc : 0 ≤ lc.toInt ∧ lc.toInt ≤ 4) (n_nb : 0 ≤ nb.toInt ∧ nb.toInt ≤ 6) (n_np : 0 ≤ np.toInt ∧ np.toInt ≤ 5) (n_p0 : 0 ≤ p0.toInt ∧ p0.toInt ≤ 5)    : Met l yX10_rankByPay (.code yX10_rankByPay cX10_rankByPay 5 (some .int) :: wA) ({ frames := 0, cells := 0, slots := 0, locals := 0 }) (zP (dC, dI) [(cI, .int), (cJ, .long)] [.ref h0, .int p0] sz [(h0, .inr (10, [.ref tp, h0_courtReader, h0_lawReader, h0_draft, .ref aC, h0_laws, .ref g0, .ref k0, .ref ac, .ref sd, .ref mi, .ref dw, .ref rf, .int lc, .int lh, .int br, .int hi])), (aC, .inr (1, [.ref aR, .ref aB, .ref aP, .int nb, .int np])), (g0, .inr (7, [.ref gY, .ref gF, .ref gP, .int gpn, .int glt, .int gsh, .int gwd, .int gpu, .int gmo])), (gY, .inl (cI, 6, .inl gfY))]) (va_Qi (fun (r : Int32) (u : Unit) => (0 ≤ r.toInt) ∧ (r.toInt ≤ 6) ∧ (∀ kY : Nat → Int32, chY gfY nb.toInt kY → p0.toInt < nb.toInt → r.toInt = (rnk (keyP kY) nb.toInt.toNat p0.toInt.toNat : Int))) (fun (_ : Unit) (_ : State) => True) (va_A [] sz)) 0 0 (va_A [] sz) := by
  refine Met.ofW (cc := cX10_rankByPay) (maxL := 5) (ret := (some .int)) (by decide) rfl ?_
  intro p e s m args below meth c s₁ B hml hv
  have y_gpn : zHid (0 ≤ gpn.toInt ∧ gpn.toInt ≤ 20) := n_gpn
  have y_gwd : zHid ((-1) ≤ gwd.toInt ∧ gwd.toInt ≤ 5) := n_gwd
  have y_hi : zHid (0 ≤ hi.toInt ∧ hi.toInt ≤ 1) := n_hi
  have y_lc : zHid (0 ≤ lc.toInt ∧ lc.toInt ≤ 4) := n_lc
  have y_np : zHid (0 ≤ np.toInt ∧ np.toInt ≤ 5) := n_np
  clear n_gpn n_gwd n_hi n_lc n_np
  obtain ⟨hargs, hsz, hP, hK, hT⟩ := hv
  have hx := B.exec
  have hb := B.bytes
  have hr := B.returns
  have hts : ∀ w ∈ wA, w.before args s = true := fun w h => atoms_spec (ws := .code yX10_rankByPay cX10_rankByPay 5 (some .int) :: wA) B.pre w (List.mem_cons_of_mem _ h)
  have hown : s.vm.findClass RX10 = some m.cls := findClass_of_methodNamed B.named
  have hlocks := B.notSynchronized
  subst hsz
  have hD : va_D (va_A [] s.heap.size) [] := zD0
  generalize hAe : va_A [] s.heap.size = A at hD ⊢
  have hA : ∀ q : Nat, s.heap.size ≤ q → A q := fun q h => by rw [← hAe]; exact Or.inr h
  have hl := lv_entry ([.ref h0, .int p0]) (n := 5) (Nat.le_of_ble_eq_true rfl)
  rw [show entryFrame m args 5 = entryFrame m ([.ref h0, .int p0] : List Value).toArray 5 by rw [hargs], lg_entry_eq]
  generalize (lg_sl ([.ref h0, .int p0]) ++ List.replicate (5 - (lg_sl ([.ref h0, .int p0])).length) Slot.unset).toArray = ls at hl ⊢
  have hl : lv_has ls 5 [(0, .ref h0), (1, .int p0)] := hl
  refine zstart (fun H hH => ?_)
  rw [← hH] at hP
  have hS : va_S A s.heap H [] := by rw [hH]; exact va_S.rf
  generalize ([] : List Loc) = locs at hS ⊢
  refine zgen (fun R Q hR hQ => ?_)
  refine lv_iconst (v := 0) hx hb dX10_rankByPay_0 (by decide) ?_
  refine lv_istore_n (lv' := [(2, .int 0), (0, .ref h0), (1, .int p0)]) hx hb dX10_rankByPay_1 rfl hl (by decide) rfl (fun ls hl => ?_)
  refine lv_iconst (v := 0) hx hb dX10_rankByPay_2 (by decide) ?_
  have J4 : ∀ (n : Nat) (m4_L_2 : Int32) (m4_L_3 : Int32), (0 ≤ m4_L_2.toInt ∧ m4_L_2.toInt ≤ 6) → (0 ≤ m4_L_3.toInt ∧ m4_L_3.toInt ≤ 6) → (m4_L_2.toInt ≤ m4_L_3.toInt ∧ 0 ≤ m4_L_2.toInt ∧ m4_L_3.toInt ≤ nb.toInt) → (∀ kY : Nat → Int32, chY gfY nb.toInt kY → p0.toInt < nb.toInt → m4_L_2.toInt = (rnkC (keyP kY) (keyP kY p0.toInt.toNat) m4_L_3.toInt.toNat : Int)) → (7 - m4_L_3.toInt).toNat = n → ∀ (H : Heap) (locs : List Loc) (ls : Array Slot), va_P (dC, dI) vwCl [(h0, .inr (10, [.ref tp, h0_courtReader, h0_lawReader, h0_draft, .ref aC, h0_laws, .ref g0, .ref k0, .ref ac, .ref sd, .ref mi, .ref dw, .ref rf, .int lc, .int lh, .int br, .int hi])), (aC, .inr (1, [.ref aR, .ref aB, .ref aP, .int nb, .int np])), (g0, .inr (7, [.ref gY, .ref gF, .ref gP, .int gpn, .int glt, .int gsh, .int gwd, .int gpu, .int gmo])), (gY, .inl (cI, 6, .inl gfY))] H → va_S A s.heap H locs → lv_has ls 5 [(3, .int m4_L_3), (2, .int m4_L_2), (0, .ref h0), (1, .int p0)] → W p l e R s m args below meth c H locs 0 0 Q (F0 m 4 ls []) := by
    intro n4
    induction n4 using Nat.strongRecOn with
    | _ n4 ih4 =>
      intro m4_L_2 m4_L_3 jf4_0 jf4_1 jf4_2 jv4_0 hmu4 H locs ls hP hS hl
      refine lv_iload_n hx hb dX10_rankByPay_4 rfl (lv_at hl 0 rfl) ?_
      refine lv_aload_n hx hb dX10_rankByPay_5 rfl (lv_at hl 2 rfl) ?_
      refine va_get (D := (dC, dI)) (ci := 10) (v := .ref aC) (C := RX10) (T := TX10) (N := 17) hx hb hts iX10 hown hK hP 0 rfl rfl 4 (by decide) (hts _ qw360) (fun _ h9 => h9) rfl dX10_rankByPay_6 ?_
      refine va_get (D := (dC, dI)) (ci := 1) (v := .int nb) (C := RX1) (T := TX1) (N := 5) hx hb hts iX1 hown hK hP 1 rfl rfl 3 (by decide) (hts _ qw195) (fun _ h9 => h9) rfl dX10_rankByPay_9 ?_
      refine lv_icmp_ge (tgt := 60) hx hb dX10_rankByPay_12 (by decide) (fun c12 => ?_) (fun c12 => ?_)
      · have c12 : nb.toInt ≤ m4_L_3.toInt := z3 rfl rfl c12
        refine lv_iload_n hx hb dX10_rankByPay_60 rfl (lv_at hl 1 rfl) ?_
        rw [hQ]
        exact W.iret (v := m4_L_2) hx hb hr (fun t ht hW => ⟨⟨m4_L_2, (), rfl, ⟨by (try dsimp only); omega, by (try dsimp only); omega, fun kY hY hp => (jv4_0 kY hY hp).trans (by rw [show m4_L_3.toInt.toNat = nb.toInt.toNat by omega])⟩, trivial⟩, hS.F ht⟩) hS.2.2 dX10_rankByPay_61
      · have c12 : m4_L_3.toInt < nb.toInt := z4 rfl rfl c12
        refine lv_aload_n hx hb dX10_rankByPay_15 rfl (lv_at hl 2 rfl) ?_
        refine va_get (D := (dC, dI)) (ci := 10) (v := .ref g0) (C := RX10) (T := TX10) (N := 17) hx hb hts iX10 hown hK hP 0 rfl rfl 6 (by decide) (hts _ qw362) (fun _ h9 => h9) rfl dX10_rankByPay_16 ?_
        refine va_get (D := (dC, dI)) (ci := 7) (v := .ref gY) (C := RX7) (T := TX7) (N := 9) hx hb hts iX7 hown hK hP 2 rfl rfl 0 (by decide) (hts _ qw222) (fun _ h9 => h9) rfl dX10_rankByPay_19 ?_
        refine lv_iload_n hx hb dX10_rankByPay_22 rfl (lv_at hl 0 rfl) ?_
        refine va_iald hx hb hK hP 3 0 rfl rfl (vp_in_iff.mpr ⟨by omega, by omega⟩) dX10_rankByPay_23 ?_
        refine lv_topi (fun v23 e23 => ?_)
        refine lv_aload_n hx hb dX10_rankByPay_24 rfl (lv_at hl 2 rfl) ?_
        refine va_get (D := (dC, dI)) (ci := 10) (v := .ref g0) (C := RX10) (T := TX10) (N := 17) hx hb hts iX10 hown hK hP 0 rfl rfl 6 (by decide) (hts _ qw362) (fun _ h9 => h9) rfl dX10_rankByPay_25 ?_
        refine va_get (D := (dC, dI)) (ci := 7) (v := .ref gY) (C := RX7) (T := TX7) (N := 9) hx hb hts iX7 hown hK hP 2 rfl rfl 0 (by decide) (hts _ qw222) (fun _ h9 => h9) rfl dX10_rankByPay_28 ?_
        refine lv_iload_n hx hb dX10_rankByPay_31 rfl (lv_at hl 3 rfl) ?_
        refine va_iald hx hb hK hP 3 0 rfl rfl (vp_in_iff.mpr ⟨by omega, by omega⟩) dX10_rankByPay_32 ?_
        refine lv_topi (fun v32 e32 => ?_)
        refine lv_isub hx hb dX10_rankByPay_33 ?_
        refine lv_topi (fun v33 e33 => ?_)
        refine lv_istore (lv' := [(4, .int v33), (3, .int m4_L_3), (2, .int m4_L_2), (0, .ref h0), (1, .int p0)]) hx hb dX10_rankByPay_34 hl (by decide) rfl (fun ls hl => ?_)
        refine lv_iload hx hb dX10_rankByPay_36 (lv_at hl 0 rfl) ?_
        refine lv_if_gt (tgt := 51) hx hb dX10_rankByPay_38 (by decide) (fun c38 => ?_) (fun c38 => ?_)
        · have c38 : 0 < v33.toInt := z1 (by decide) rfl c38
          have q51 : 0 ≤ m4_L_2.toInt ∧ m4_L_2.toInt ≤ 5 := by omega
          obtain ⟨v51, e51⟩ : ∃ y : Int32, y = m4_L_2 + Int32.ofInt (1) := ⟨_, rfl⟩
          refine lv_iinc (v := v51) (lv' := [(2, .int v51), (4, .int v33), (3, .int m4_L_3), (0, .ref h0), (1, .int p0)]) hx hb dX10_rankByPay_51 hl (k := 2) rfl e51.symm (by decide) rfl (fun ls hl => ?_)
          have i51 : v51.toInt = m4_L_2.toInt + 1 := zaddI e51 (by decide) (by omega) (by omega)
          obtain ⟨v54, e54⟩ : ∃ y : Int32, y = m4_L_3 + Int32.ofInt (1) := ⟨_, rfl⟩
          refine lv_iinc (v := v54) (lv' := [(3, .int v54), (2, .int v51), (4, .int v33), (0, .ref h0), (1, .int p0)]) hx hb dX10_rankByPay_54 hl (k := 2) rfl e54.symm (by decide) rfl (fun ls hl => ?_)
          have i54 : v54.toInt = m4_L_3.toInt + 1 := zaddI e54 (by decide) (by omega) (by omega)
          refine lv_goto (tgt := 4) hx hb dX10_rankByPay_57 (by decide) ?_
          exact ih4 _ (by omega) v51 v54 (by omega) (by omega) (by omega) (fun kY hY hp => by have d := keyP_d hY (zIxN (n := m4_L_3.toInt.toNat) e23 (by omega)) (zIxN (n := p0.toInt.toNat) e32 (by omega)) e33 ⟨by omega, by omega⟩ ⟨by omega, hp⟩; first | exact rnkY (jv4_0 kY hY hp) (by omega) i54 (d.mpr (by omega)) i51 | exact rnkN (jv4_0 kY hY hp) (by omega) i54 (fun z => absurd (d.mp z) (by omega))) rfl H locs ls hP hS (lv_sub hl [0, 1, 3, 4] rfl)
        · have c38 : v33.toInt ≤ 0 := z2 (by decide) rfl c38
          refine lv_iload hx hb dX10_rankByPay_41 (lv_at hl 0 rfl) ?_
          refine lv_if_ne (tgt := 54) hx hb dX10_rankByPay_43 (by decide) (fun c43 => ?_) (fun c43 => ?_)
          · have c43 : ¬ v33.toInt = 0 := z6 rfl (by decide) c43
            obtain ⟨v54, e54⟩ : ∃ y : Int32, y = m4_L_3 + Int32.ofInt (1) := ⟨_, rfl⟩
            refine lv_iinc (v := v54) (lv' := [(3, .int v54), (4, .int v33), (2, .int m4_L_2), (0, .ref h0), (1, .int p0)]) hx hb dX10_rankByPay_54 hl (k := 1) rfl e54.symm (by decide) rfl (fun ls hl => ?_)
            have i54 : v54.toInt = m4_L_3.toInt + 1 := zaddI e54 (by decide) (by omega) (by omega)
            refine lv_goto (tgt := 4) hx hb dX10_rankByPay_57 (by decide) ?_
            exact ih4 _ (by omega) m4_L_2 v54 jf4_0 (by omega) (by omega) (fun kY hY hp => by have d := keyP_d hY (zIxN (n := m4_L_3.toInt.toNat) e23 (by omega)) (zIxN (n := p0.toInt.toNat) e32 (by omega)) e33 ⟨by omega, by omega⟩ ⟨by omega, hp⟩; first | exact rnkY (jv4_0 kY hY hp) (by omega) i54 (d.mpr (by omega)) i51 | exact rnkN (jv4_0 kY hY hp) (by omega) i54 (fun z => absurd (d.mp z) (by omega))) rfl H locs ls hP hS (lv_sub hl [0, 2, 3, 4] rfl)
          · have c43 : v33.toInt = 0 := z5 rfl (by decide) c43
            refine lv_iload_n hx hb dX10_rankByPay_46 rfl (lv_at hl 1 rfl) ?_
            refine lv_iload_n hx hb dX10_rankByPay_47 rfl (lv_at hl 4 rfl) ?_
            refine lv_icmp_ge (tgt := 54) hx hb dX10_rankByPay_48 (by decide) (fun c48 => ?_) (fun c48 => ?_)
            · have c48 : p0.toInt ≤ m4_L_3.toInt := z3 rfl rfl c48
              obtain ⟨v54, e54⟩ : ∃ y : Int32, y = m4_L_3 + Int32.ofInt (1) := ⟨_, rfl⟩
              refine lv_iinc (v := v54) (lv' := [(3, .int v54), (4, .int v33), (2, .int m4_L_2), (0, .ref h0), (1, .int p0)]) hx hb dX10_rankByPay_54 hl (k := 1) rfl e54.symm (by decide) rfl (fun ls hl => ?_)
              have i54 : v54.toInt = m4_L_3.toInt + 1 := zaddI e54 (by decide) (by omega) (by omega)
              refine lv_goto (tgt := 4) hx hb dX10_rankByPay_57 (by decide) ?_
              exact ih4 _ (by omega) m4_L_2 v54 jf4_0 (by omega) (by omega) (fun kY hY hp => by have d := keyP_d hY (zIxN (n := m4_L_3.toInt.toNat) e23 (by omega)) (zIxN (n := p0.toInt.toNat) e32 (by omega)) e33 ⟨by omega, by omega⟩ ⟨by omega, hp⟩; first | exact rnkY (jv4_0 kY hY hp) (by omega) i54 (d.mpr (by omega)) i51 | exact rnkN (jv4_0 kY hY hp) (by omega) i54 (fun z => absurd (d.mp z) (by omega))) rfl H locs ls hP hS (lv_sub hl [0, 2, 3, 4] rfl)
            · have c48 : m4_L_3.toInt < p0.toInt := z4 rfl rfl c48
              have q51 : 0 ≤ m4_L_2.toInt ∧ m4_L_2.toInt ≤ 5 := by omega
              obtain ⟨v51, e51⟩ : ∃ y : Int32, y = m4_L_2 + Int32.ofInt (1) := ⟨_, rfl⟩
              refine lv_iinc (v := v51) (lv' := [(2, .int v51), (4, .int v33), (3, .int m4_L_3), (0, .ref h0), (1, .int p0)]) hx hb dX10_rankByPay_51 hl (k := 2) rfl e51.symm (by decide) rfl (fun ls hl => ?_)
              have i51 : v51.toInt = m4_L_2.toInt + 1 := zaddI e51 (by decide) (by omega) (by omega)
              obtain ⟨v54, e54⟩ : ∃ y : Int32, y = m4_L_3 + Int32.ofInt (1) := ⟨_, rfl⟩
              refine lv_iinc (v := v54) (lv' := [(3, .int v54), (2, .int v51), (4, .int v33), (0, .ref h0), (1, .int p0)]) hx hb dX10_rankByPay_54 hl (k := 2) rfl e54.symm (by decide) rfl (fun ls hl => ?_)
              have i54 : v54.toInt = m4_L_3.toInt + 1 := zaddI e54 (by decide) (by omega) (by omega)
              refine lv_goto (tgt := 4) hx hb dX10_rankByPay_57 (by decide) ?_
              exact ih4 _ (by omega) v51 v54 (by omega) (by omega) (by omega) (fun kY hY hp => by have d := keyP_d hY (zIxN (n := m4_L_3.toInt.toNat) e23 (by omega)) (zIxN (n := p0.toInt.toNat) e32 (by omega)) e33 ⟨by omega, by omega⟩ ⟨by omega, hp⟩; first | exact rnkY (jv4_0 kY hY hp) (by omega) i54 (d.mpr (by omega)) i51 | exact rnkN (jv4_0 kY hY hp) (by omega) i54 (fun z => absurd (d.mp z) (by omega))) rfl H locs ls hP hS (lv_sub hl [0, 1, 3, 4] rfl)
  refine lv_istore_n (lv' := [(3, .int 0), (2, .int 0), (0, .ref h0), (1, .int p0)]) hx hb dX10_rankByPay_3 rfl hl (by decide) rfl (fun ls hl => ?_)
  have zj4_m4_L_2 : (0 : Int32).toInt = 0 := by decide
  have zj4_m4_L_3 : (0 : Int32).toInt = 0 := by decide
  exact J4 _ 0 0 (by decide) (by decide) (by omega) (fun kY hY hp => rfl) rfl H locs ls hP hS (lv_sub hl [0, 1, 2, 3] rfl)
set_option maxHeartbeats 4000000 in
set_option maxRecDepth 100000 in
theorem g_X10_matched (l : Launch) (dC : Nat → ClassId) (dI : Nat → Nat → Nat) (cI cJ : ClassId) (h0 : Nat) (p0 : Int32) (tp : Nat) (h0_courtReader : Value) (h0_lawReader : Value) (h0_draft : Value) (aC : Nat) (h0_laws : Value) (g0 : Nat) (k0 : Nat) (ac : Nat) (sd : Nat) (mi : Nat) (dw : Nat) (rf : Nat) (lc : Int32) (lh : Int32) (br : Int32) (hi : Int32) (aR : Nat) (aB : Nat) (aP : Nat) (nb : Int32) (np : Int32) (fp : Nat → Int32) (gY : Nat) (gF : Nat) (gP : Nat) (gpn : Int32) (glt : Int32) (gsh : Int32) (gwd : Int32) (gpu : Int32) (gmo : Int32) (gfY : Nat → Int32) (sz : Nat) (n_gpn : 0 ≤ gpn.toInt ∧ gpn.toInt ≤ 20) (n_gwd : (-1) ≤ gwd.toInt ∧ gwd.toInt ≤ 5) (n_hi : 0 ≤ hi.toInt ∧ hi.toInt ≤ 1) (n_lc : 0 ≤ lc.toInt ∧ lc.toInt ≤ 4) (n_nb : 0 ≤ nb.toInt ∧ nb.toInt ≤ 6) (n_np : 0 ≤ np.toInt ∧ np.toInt ≤ 5)    : Met l yX10_matched (.code yX10_matched cX10_matched 4 (some .int) :: wA) ({ frames := 3, cells := 0, slots := 0, locals := 67 }) (zP (dC, dI) [(cI, .int), (cJ, .long)] [.ref h0, .int p0] sz [(h0, .inr (10, [.ref tp, h0_courtReader, h0_lawReader, h0_draft, .ref aC, h0_laws, .ref g0, .ref k0, .ref ac, .ref sd, .ref mi, .ref dw, .ref rf, .int lc, .int lh, .int br, .int hi])), (aC, .inr (1, [.ref aR, .ref aB, .ref aP, .int nb, .int np])), (aP, .inl (cI, 20, .inl fp)), (g0, .inr (7, [.ref gY, .ref gF, .ref gP, .int gpn, .int glt, .int gsh, .int gwd, .int gpu, .int gmo])), (gY, .inl (cI, 6, .inl gfY))]) (va_Qi (fun (r : Int32) (u : Unit) => ((-1) ≤ r.toInt) ∧ (r.toInt ≤ 4) ∧ (∀ (kc : zK3) (kT : zT) (q_fr : Nat → Int32) (q_fb : Nat → Int32) (q_gfF : Nat → Int32) (q_gfP : Nat → Int32) (q_fR : Nat → Int32) (q_pl : Int32) (q_cn : Int32) (q_frf : Nat → Int32), zCn q_fr q_fb fp nb.toInt np.toInt kc → zKo nb.toInt np.toInt kc kT → zTc nb.toInt np.toInt kT gfY q_gfF q_gfP gpn glt gsh gwd gpu gmo q_fR q_pl q_cn q_frf → r.toInt = sV_mat nb.toInt np.toInt kc kT.1.1 p0)) (fun (_ : Unit) (_ : State) => True) (va_A [] sz)) 0 0 (va_A [] sz) := by
  refine Met.ofW (cc := cX10_matched) (maxL := 4) (ret := (some .int)) (by decide) rfl ?_
  intro p e s m args below meth c s₁ B hml hv
  have y_gpn : zHid (0 ≤ gpn.toInt ∧ gpn.toInt ≤ 20) := n_gpn
  have y_gwd : zHid ((-1) ≤ gwd.toInt ∧ gwd.toInt ≤ 5) := n_gwd
  have y_hi : zHid (0 ≤ hi.toInt ∧ hi.toInt ≤ 1) := n_hi
  have y_lc : zHid (0 ≤ lc.toInt ∧ lc.toInt ≤ 4) := n_lc
  clear n_gpn n_gwd n_hi n_lc
  obtain ⟨hargs, hsz, hP, hK, hT⟩ := hv
  have hx := B.exec
  have hb := B.bytes
  have hr := B.returns
  have hts : ∀ w ∈ wA, w.before args s = true := fun w h => atoms_spec (ws := .code yX10_matched cX10_matched 4 (some .int) :: wA) B.pre w (List.mem_cons_of_mem _ h)
  have hown : s.vm.findClass RX10 = some m.cls := findClass_of_methodNamed B.named
  have hlocks := B.notSynchronized
  subst hsz
  have hD : va_D (va_A [] s.heap.size) [] := zD0
  generalize hAe : va_A [] s.heap.size = A at hD ⊢
  have hA : ∀ q : Nat, s.heap.size ≤ q → A q := fun q h => by rw [← hAe]; exact Or.inr h
  have hl := lv_entry ([.ref h0, .int p0]) (n := 4) (Nat.le_of_ble_eq_true rfl)
  rw [show entryFrame m args 4 = entryFrame m ([.ref h0, .int p0] : List Value).toArray 4 by rw [hargs], lg_entry_eq]
  generalize (lg_sl ([.ref h0, .int p0]) ++ List.replicate (4 - (lg_sl ([.ref h0, .int p0])).length) Slot.unset).toArray = ls at hl ⊢
  have hl : lv_has ls 4 [(0, .ref h0), (1, .int p0)] := hl
  refine zstart (fun H hH => ?_)
  rw [← hH] at hP
  have hS : va_S A s.heap H [] := by rw [hH]; exact va_S.rf
  generalize ([] : List Loc) = locs at hS ⊢
  refine zgen (fun R Q hR hQ => ?_)
  refine lv_aload_n hx hb dX10_matched_0 rfl (lv_at hl 0 rfl) ?_
  refine lv_iload_n hx hb dX10_matched_1 rfl (lv_at hl 1 rfl) ?_
  obtain ⟨hPc, hDc⟩ := zc2 (wc := [(h0, .inr (10, [.ref tp, h0_courtReader, h0_lawReader, h0_draft, .ref aC, h0_laws, .ref g0, .ref k0, .ref ac, .ref sd, .ref mi, .ref dw, .ref rf, .int lc, .int lh, .int br, .int hi])), (aC, .inr (1, [.ref aR, .ref aB, .ref aP, .int nb, .int np]))]) hP hT [0, 1] (by decide +kernel) rfl
  have hFc := zfr hS hA
  refine va_calli (va_runV (As := [.int p0]) (rest := []) ⟨hx, hb, hml, hown, hts⟩ (g_X10_isBride l dC dI cI cJ h0 p0 (.ref tp) h0_courtReader h0_lawReader h0_draft aC h0_laws (.ref g0) (.ref k0) (.ref ac) (.ref sd) (.ref mi) (.ref dw) (.ref rf) (.int lc) (.int lh) (.int br) (.int hi) aR aB aP nb np H.size n_nb) (cwV 1 hts (zgV qw625 qw627 qw12 qw98 qw628) rfl rfl rfl hd_X10_isBride ⟨by rw [hR]; exact Nat.le_of_ble_eq_true rfl, by rw [hR]; exact Nat.le_of_ble_eq_true rfl⟩) (zPV hPc hK hDc (va_recv (q := (RX10, TX10, 17)) hK hP (ci := 10) (q0 := 0) rfl rfl)) rfl rfl hl.1 rfl (lv_room (Nat.le_of_ble_eq_true rfl)) dX10_matched_2 ⟨Nat.zero_le _, Nat.zero_le _⟩) hS (fun q _ h => hFc q h) hFc (fun v2 u2 t H locs ht hvm hw hB hz1 hk1 hS9 => ?_)
  replace hP := zkeep hP hk1
  replace hS := hS9
  clear hPc hDc hFc hk1 hz1 hvm hS9
  obtain ⟨f2_0, f2_1, f2_2, f2_3⟩ : (0 ≤ v2.toInt) ∧ (v2.toInt ≤ 1) ∧ (¬ v2.toInt = 0 → (0 ≤ p0.toInt ∧ p0.toInt < nb.toInt)) ∧ (v2.toInt = 0 → ¬ (0 ≤ p0.toInt ∧ p0.toInt < nb.toInt)) := hw
  refine lv_if_ne (tgt := 10) hx hb dX10_matched_5 (by decide) (fun c5 => ?_) (fun c5 => ?_)
  · have c5 : ¬ v2.toInt = 0 := z6 rfl (by decide) c5
    refine lv_aload_n hx hb dX10_matched_10 rfl (lv_at hl 0 rfl) ?_
    refine lv_iload_n hx hb dX10_matched_11 rfl (lv_at hl 1 rfl) ?_
    obtain ⟨hPc, hDc⟩ := zc2 (wc := [(h0, .inr (10, [.ref tp, h0_courtReader, h0_lawReader, h0_draft, .ref aC, h0_laws, .ref g0, .ref k0, .ref ac, .ref sd, .ref mi, .ref dw, .ref rf, .int lc, .int lh, .int br, .int hi])), (aC, .inr (1, [.ref aR, .ref aB, .ref aP, .int nb, .int np])), (g0, .inr (7, [.ref gY, .ref gF, .ref gP, .int gpn, .int glt, .int gsh, .int gwd, .int gpu, .int gmo])), (gY, .inl (cI, 6, .inl gfY))]) hP hT [0, 1, 3, 4] (by decide +kernel) rfl
    have hFc := zfr hS hA
    refine va_calli (va_runV (As := [.int p0]) (rest := []) ⟨hx, hb, hml, hown, hts⟩ (g_X10_rankByPay l dC dI cI cJ h0 p0 tp h0_courtReader h0_lawReader h0_draft aC h0_laws g0 k0 ac sd mi dw rf lc lh br hi aR aB aP nb np gY gF gP gpn glt gsh gwd gpu gmo gfY H.size y_gpn y_gwd y_hi y_lc n_nb n_np (by omega)) (cwV 1 hts (zgV qw984 qw986 qw26 qw98 qw987) rfl rfl rfl hd_X10_rankByPay ⟨by rw [hR]; exact Nat.le_of_ble_eq_true rfl, by rw [hR]; exact Nat.le_of_ble_eq_true rfl⟩) (zPV hPc hK hDc (va_recv (q := (RX10, TX10, 17)) hK hP (ci := 10) (q0 := 0) rfl rfl)) rfl rfl hl.1 rfl (lv_room (Nat.le_of_ble_eq_true rfl)) dX10_matched_12 ⟨Nat.zero_le _, Nat.zero_le _⟩) hS (fun q _ h => hFc q h) hFc (fun v12 u12 t H locs ht hvm hw hB hz1 hk1 hS9 => ?_)
    replace hP := zkeep hP hk1
    replace hS := hS9
    clear hPc hDc hFc hk1 hz1 hvm hS9
    obtain ⟨f12_0, f12_1, f12_2⟩ : (0 ≤ v12.toInt) ∧ (v12.toInt ≤ 6) ∧ (∀ kY : Nat → Int32, chY gfY nb.toInt kY → p0.toInt < nb.toInt → v12.toInt = (rnk (keyP kY) nb.toInt.toNat p0.toInt.toNat : Int)) := hw
    have F12 := f12_2
    refine lv_istore_n (lv' := [(2, .int v12), (0, .ref h0), (1, .int p0)]) hx hb dX10_matched_15 rfl hl (by decide) rfl (fun ls hl => ?_)
    refine lv_iconst (v := 0) hx hb dX10_matched_16 (by decide) ?_
    have J18 : ∀ (n : Nat) (m18_L_3 : Int32), (0 ≤ m18_L_3.toInt ∧ m18_L_3.toInt ≤ 5) → (∀ (kc : zK3) (kY : Nat → Int32), chP fp np.toInt kc → chY gfY nb.toInt kY → p0.toInt < nb.toInt → ∀ j : Nat, (j : Int) < m18_L_3.toInt → ¬ rnk (keyA kc.2.2) np.toInt.toNat j = rnk (keyP kY) nb.toInt.toNat p0.toInt.toNat) → (m18_L_3.toInt ≤ np.toInt) → (6 - m18_L_3.toInt).toNat = n → ∀ (H : Heap) (locs : List Loc) (ls : Array Slot), va_P (dC, dI) vwCl [(h0, .inr (10, [.ref tp, h0_courtReader, h0_lawReader, h0_draft, .ref aC, h0_laws, .ref g0, .ref k0, .ref ac, .ref sd, .ref mi, .ref dw, .ref rf, .int lc, .int lh, .int br, .int hi])), (aC, .inr (1, [.ref aR, .ref aB, .ref aP, .int nb, .int np])), (aP, .inl (cI, 20, .inl fp)), (g0, .inr (7, [.ref gY, .ref gF, .ref gP, .int gpn, .int glt, .int gsh, .int gwd, .int gpu, .int gmo])), (gY, .inl (cI, 6, .inl gfY))] H → va_S A s.heap H locs → lv_has ls 4 [(3, .int m18_L_3), (2, .int v12), (0, .ref h0), (1, .int p0)] → W p l e R s m args below meth c H locs 0 0 Q (F0 m 18 ls []) := by
      intro n18
      induction n18 using Nat.strongRecOn with
      | _ n18 ih18 =>
        intro m18_L_3 jf18_0 jv18_0 jf18_2 hmu18 H locs ls hP hS hl
        refine lv_iload_n hx hb dX10_matched_18 rfl (lv_at hl 0 rfl) ?_
        refine lv_aload_n hx hb dX10_matched_19 rfl (lv_at hl 2 rfl) ?_
        refine va_get (D := (dC, dI)) (ci := 10) (v := .ref aC) (C := RX10) (T := TX10) (N := 17) hx hb hts iX10 hown hK hP 0 rfl rfl 4 (by decide) (hts _ qw360) (fun _ h9 => h9) rfl dX10_matched_20 ?_
        refine va_get (D := (dC, dI)) (ci := 1) (v := .int np) (C := RX1) (T := TX1) (N := 5) hx hb hts iX1 hown hK hP 1 rfl rfl 4 (by decide) (hts _ qw200) (fun _ h9 => h9) rfl dX10_matched_23 ?_
        refine lv_icmp_ge (tgt := 49) hx hb dX10_matched_26 (by decide) (fun c26 => ?_) (fun c26 => ?_)
        · have c26 : np.toInt ≤ m18_L_3.toInt := z3 rfl rfl c26
          refine lv_iconst (v := (-1)) hx hb dX10_matched_49 (by decide) ?_
          have zr0 : ((-1) : Int32).toInt = (-1) := by decide
          rw [hQ]
          exact W.iret (v := ((-1))) hx hb hr (fun t ht hW => ⟨⟨(-1), (), rfl, ⟨by (try dsimp only); omega, by (try dsimp only); omega, fun kc kT q_fr q_fb q_gfF q_gfP q_fR q_pl q_cn q_frf hc hb h => by have hP := chP_of hc hb (by omega) (by omega); have hY := chY_of h.1 hb (by omega) (by omega); unfold sV_mat; rw [if_pos (by omega), mtF_n _ (fun j hj => jv18_0 kc _ hP hY (by omega) j (by omega))]; decide⟩, trivial⟩, hS.F ht⟩) hS.2.2 dX10_matched_50
        · have c26 : m18_L_3.toInt < np.toInt := z4 rfl rfl c26
          refine lv_aload_n hx hb dX10_matched_29 rfl (lv_at hl 2 rfl) ?_
          refine va_get (D := (dC, dI)) (ci := 10) (v := .ref aC) (C := RX10) (T := TX10) (N := 17) hx hb hts iX10 hown hK hP 0 rfl rfl 4 (by decide) (hts _ qw360) (fun _ h9 => h9) rfl dX10_matched_30 ?_
          refine lv_iload_n hx hb dX10_matched_33 rfl (lv_at hl 0 rfl) ?_
          obtain ⟨hPc, hDc⟩ := zc2 (wc := [(aC, .inr (1, [.ref aR, .ref aB, .ref aP, .int nb, .int np])), (aP, .inl (cI, 20, .inl fp))]) hP hT [1, 2] (by decide +kernel) rfl
          have hFc := zfr hS hA
          refine va_calli (va_runV (As := [.int m18_L_3]) (rest := []) ⟨hx, hb, hml, hown, hts⟩ (g_X1_rankByFee l dC dI cI cJ aC m18_L_3 aR aB aP nb np fp H.size n_np (by omega)) (cwV 1 hts (zgV qw961 qw962 qw963 qw102 qw964) rfl rfl rfl hd_X1_rankByFee ⟨by rw [hR]; exact Nat.le_of_ble_eq_true rfl, by rw [hR]; exact Nat.le_of_ble_eq_true rfl⟩) (zPV hPc hK hDc (va_recv (q := (RX1, TX1, 5)) hK hP (ci := 1) (q0 := 1) rfl rfl)) rfl rfl hl.1 rfl (lv_room (Nat.le_of_ble_eq_true rfl)) dX10_matched_34 ⟨Nat.zero_le _, Nat.zero_le _⟩) hS (fun q _ h => hFc q h) hFc (fun v34 u34 t H locs ht hvm hw hB hz1 hk1 hS9 => ?_)
          replace hP := zkeep hP hk1
          replace hS := hS9
          clear hPc hDc hFc hk1 hz1 hvm hS9
          obtain ⟨f34_0, f34_1, f34_2⟩ : (0 ≤ v34.toInt) ∧ (v34.toInt ≤ 5) ∧ (∀ kc : zK3, chP fp np.toInt kc → m18_L_3.toInt < np.toInt → v34.toInt = (rnk (keyA kc.2.2) np.toInt.toNat m18_L_3.toInt.toNat : Int)) := hw
          have F34 := f34_2
          refine lv_iload_n hx hb dX10_matched_37 rfl (lv_at hl 1 rfl) ?_
          refine lv_icmp_ne (tgt := 43) hx hb dX10_matched_38 (by decide) (fun c38 => ?_) (fun c38 => ?_)
          · have c38 : ¬ v34.toInt = v12.toInt := z6 rfl rfl c38
            obtain ⟨v43, e43⟩ : ∃ y : Int32, y = m18_L_3 + Int32.ofInt (1) := ⟨_, rfl⟩
            refine lv_iinc (v := v43) (lv' := [(3, .int v43), (2, .int v12), (0, .ref h0), (1, .int p0)]) hx hb dX10_matched_43 hl (k := 0) rfl e43.symm (by decide) rfl (fun ls hl => ?_)
            have i43 : v43.toInt = m18_L_3.toInt + 1 := zaddI e43 (by decide) (by omega) (by omega)
            refine lv_goto (tgt := 18) hx hb dX10_matched_46 (by decide) ?_
            exact ih18 _ (by omega) v43 (by omega) (fun kc kY hP hY hp j hj => by have f := F34 kc hP (by omega); have g := F12 kY hY hp; by_cases c : (j : Int) < m18_L_3.toInt; exact jv18_0 kc kY hP hY hp j c; (rw [show j = m18_L_3.toInt.toNat by omega]; omega)) (by omega) rfl H locs ls hP hS (lv_sub hl [0, 1, 2, 3] rfl)
          · have c38 : v34.toInt = v12.toInt := z5 rfl rfl c38
            refine lv_iload_n hx hb dX10_matched_41 rfl (lv_at hl 0 rfl) ?_
            rw [hQ]
            exact W.iret (v := m18_L_3) hx hb hr (fun t ht hW => ⟨⟨m18_L_3, (), rfl, ⟨by (try dsimp only); omega, by (try dsimp only); omega, fun kc kT q_fr q_fb q_gfF q_gfP q_fR q_pl q_cn q_frf hc hb h => by have hP := chP_of hc hb (by omega) (by omega); have hY := chY_of h.1 hb (by omega) (by omega); have f := F34 kc hP (by omega); have g := F12 _ hY (by omega); unfold sV_mat; rw [if_pos (by omega)]; exact mtF_e (keyA_i (by omega)) (by omega) (by omega) (by omega)⟩, trivial⟩, hS.F ht⟩) hS.2.2 dX10_matched_42
    refine lv_istore_n (lv' := [(3, .int 0), (2, .int v12), (0, .ref h0), (1, .int p0)]) hx hb dX10_matched_17 rfl hl (by decide) rfl (fun ls hl => ?_)
    have zj18_m18_L_3 : (0 : Int32).toInt = 0 := by decide
    exact J18 _ 0 (by decide) (fun kc kY hP hY hp j hj => by exfalso; have z1 : (0 : Int32).toInt = 0 := (by decide); omega) (by omega) rfl H locs ls hP hS (lv_sub hl [0, 1, 2, 3] rfl)
  · have c5 : v2.toInt = 0 := z5 rfl (by decide) c5
    refine lv_iconst (v := (-1)) hx hb dX10_matched_8 (by decide) ?_
    have zr0 : ((-1) : Int32).toInt = (-1) := by decide
    rw [hQ]
    exact W.iret (v := ((-1))) hx hb hr (fun t ht hW => ⟨⟨(-1), (), rfl, ⟨by (try dsimp only); omega, by (try dsimp only); omega, fun kc kT q_fr q_fb q_gfF q_gfP q_fR q_pl q_cn q_frf hc hb h => by unfold sV_mat; rw [if_neg (by omega)]; decide⟩, trivial⟩, hS.F ht⟩) hS.2.2 dX10_matched_9
set_option maxHeartbeats 4000000 in
set_option maxRecDepth 100000 in
theorem g_X10_seen (l : Launch) (dC : Nat → ClassId) (dI : Nat → Nat → Nat) (cI cJ : ClassId) (h0 : Nat) (p0 : Int32) (tp : Nat) (h0_courtReader : Value) (h0_lawReader : Value) (h0_draft : Value) (aC : Nat) (h0_laws : Value) (g0 : Nat) (k0 : Nat) (ac : Nat) (sd : Nat) (mi : Nat) (dw : Nat) (rf : Nat) (lc : Int32) (lh : Int32) (br : Int32) (hi : Int32) (aR : Nat) (aB : Nat) (aP : Nat) (nb : Int32) (np : Int32) (gY : Nat) (gF : Nat) (gP : Nat) (gpn : Int32) (glt : Int32) (gsh : Int32) (gwd : Int32) (gpu : Int32) (gmo : Int32) (gfP : Nat → Int32) (sz : Nat) (n_gpn : 0 ≤ gpn.toInt ∧ gpn.toInt ≤ 20) (n_gwd : (-1) ≤ gwd.toInt ∧ gwd.toInt ≤ 5) (n_hi : 0 ≤ hi.toInt ∧ hi.toInt ≤ 1) (n_lc : 0 ≤ lc.toInt ∧ lc.toInt ≤ 4) (n_nb : 0 ≤ nb.toInt ∧ nb.toInt ≤ 6) (n_np : 0 ≤ np.toInt ∧ np.toInt ≤ 5)  (ci_gfP_zPo : zPo gfP)  : Met l yX10_seen (.code yX10_seen cX10_seen 2 (some .int) :: wA) ({ frames := 2, cells := 0, slots := 0, locals := 45 }) (zP (dC, dI) [(cI, .int), (cJ, .long)] [.ref h0, .int p0] sz [(h0, .inr (10, [.ref tp, h0_courtReader, h0_lawReader, h0_draft, .ref aC, h0_laws, .ref g0, .ref k0, .ref ac, .ref sd, .ref mi, .ref dw, .ref rf, .int lc, .int lh, .int br, .int hi])), (aC, .inr (1, [.ref aR, .ref aB, .ref aP, .int nb, .int np])), (g0, .inr (7, [.ref gY, .ref gF, .ref gP, .int gpn, .int glt, .int gsh, .int gwd, .int gpu, .int gmo])), (gP, .inl (cI, 80, .inl gfP))]) (va_Qi (fun (r : Int32) (u : Unit) => (∀ (kc : zK3) (kT : zT) (q_fr : Nat → Int32) (q_fb : Nat → Int32) (q_fp : Nat → Int32) (q_gfY : Nat → Int32) (q_gfF : Nat → Int32) (q_fR : Nat → Int32) (q_pl : Int32) (q_cn : Int32) (q_frf : Nat → Int32), zCn q_fr q_fb q_fp nb.toInt np.toInt kc → zKo nb.toInt np.toInt kc kT → zTc nb.toInt np.toInt kT q_gfY q_gfF gfP gpn glt gsh gwd gpu gmo q_fR q_pl q_cn q_frf → r = sV_see nb.toInt kT.1 p0)) (fun (_ : Unit) (_ : State) => True) (va_A [] sz)) 0 0 (va_A [] sz) := by
  refine Met.ofW (cc := cX10_seen) (maxL := 2) (ret := (some .int)) (by decide) rfl ?_
  intro p e s m args below meth c s₁ B hml hv
  have y_gwd : zHid ((-1) ≤ gwd.toInt ∧ gwd.toInt ≤ 5) := n_gwd
  have y_hi : zHid (0 ≤ hi.toInt ∧ hi.toInt ≤ 1) := n_hi
  have y_lc : zHid (0 ≤ lc.toInt ∧ lc.toInt ≤ 4) := n_lc
  clear n_gwd n_hi n_lc
  obtain ⟨hargs, hsz, hP, hK, hT⟩ := hv
  have hx := B.exec
  have hb := B.bytes
  have hr := B.returns
  have hts : ∀ w ∈ wA, w.before args s = true := fun w h => atoms_spec (ws := .code yX10_seen cX10_seen 2 (some .int) :: wA) B.pre w (List.mem_cons_of_mem _ h)
  have hown : s.vm.findClass RX10 = some m.cls := findClass_of_methodNamed B.named
  have hlocks := B.notSynchronized
  subst hsz
  have hD : va_D (va_A [] s.heap.size) [] := zD0
  generalize hAe : va_A [] s.heap.size = A at hD ⊢
  have hA : ∀ q : Nat, s.heap.size ≤ q → A q := fun q h => by rw [← hAe]; exact Or.inr h
  have hl := lv_entry ([.ref h0, .int p0]) (n := 2) (Nat.le_of_ble_eq_true rfl)
  rw [show entryFrame m args 2 = entryFrame m ([.ref h0, .int p0] : List Value).toArray 2 by rw [hargs], lg_entry_eq]
  generalize (lg_sl ([.ref h0, .int p0]) ++ List.replicate (2 - (lg_sl ([.ref h0, .int p0])).length) Slot.unset).toArray = ls at hl ⊢
  have hl : lv_has ls 2 [(0, .ref h0), (1, .int p0)] := hl
  refine zstart (fun H hH => ?_)
  rw [← hH] at hP
  have hS : va_S A s.heap H [] := by rw [hH]; exact va_S.rf
  generalize ([] : List Loc) = locs at hS ⊢
  refine zgen (fun R Q hR hQ => ?_)
  refine lv_aload_n hx hb dX10_seen_0 rfl (lv_at hl 0 rfl) ?_
  refine lv_iload_n hx hb dX10_seen_1 rfl (lv_at hl 1 rfl) ?_
  obtain ⟨hPc, hDc⟩ := zc2 (wc := [(h0, .inr (10, [.ref tp, h0_courtReader, h0_lawReader, h0_draft, .ref aC, h0_laws, .ref g0, .ref k0, .ref ac, .ref sd, .ref mi, .ref dw, .ref rf, .int lc, .int lh, .int br, .int hi])), (aC, .inr (1, [.ref aR, .ref aB, .ref aP, .int nb, .int np]))]) hP hT [0, 1] (by decide +kernel) rfl
  have hFc := zfr hS hA
  refine va_calli (va_runV (As := [.int p0]) (rest := []) ⟨hx, hb, hml, hown, hts⟩ (g_X10_isBride l dC dI cI cJ h0 p0 (.ref tp) h0_courtReader h0_lawReader h0_draft aC h0_laws (.ref g0) (.ref k0) (.ref ac) (.ref sd) (.ref mi) (.ref dw) (.ref rf) (.int lc) (.int lh) (.int br) (.int hi) aR aB aP nb np H.size n_nb) (cwV 1 hts (zgV qw625 qw627 qw12 qw98 qw628) rfl rfl rfl hd_X10_isBride ⟨by rw [hR]; exact Nat.le_of_ble_eq_true rfl, by rw [hR]; exact Nat.le_of_ble_eq_true rfl⟩) (zPV hPc hK hDc (va_recv (q := (RX10, TX10, 17)) hK hP (ci := 10) (q0 := 0) rfl rfl)) rfl rfl hl.1 rfl (lv_room (Nat.le_of_ble_eq_true rfl)) dX10_seen_2 ⟨Nat.zero_le _, Nat.zero_le _⟩) hS (fun q _ h => hFc q h) hFc (fun v2 u2 t H locs ht hvm hw hB hz1 hk1 hS9 => ?_)
  replace hP := zkeep hP hk1
  replace hS := hS9
  clear hPc hDc hFc hk1 hz1 hvm hS9
  obtain ⟨f2_0, f2_1, f2_2, f2_3⟩ : (0 ≤ v2.toInt) ∧ (v2.toInt ≤ 1) ∧ (¬ v2.toInt = 0 → (0 ≤ p0.toInt ∧ p0.toInt < nb.toInt)) ∧ (v2.toInt = 0 → ¬ (0 ≤ p0.toInt ∧ p0.toInt < nb.toInt)) := hw
  refine lv_if_eq (tgt := 19) hx hb dX10_seen_5 (by decide) (fun c5 => ?_) (fun c5 => ?_)
  · have c5 : v2.toInt = 0 := z5 rfl (by decide) c5
    refine lv_iconst (v := (-1)) hx hb dX10_seen_19 (by decide) ?_
    have zr0 : ((-1) : Int32).toInt = (-1) := by decide
    rw [hQ]
    exact W.iret (v := ((-1))) hx hb hr (fun t ht hW => ⟨⟨(-1), (), rfl, (fun kc kT q_fr q_fb q_fp q_gfY q_gfF q_fR q_pl q_cn q_frf hc hb h => by unfold sV_see; rw [if_neg (by omega)]; ), trivial⟩, hS.F ht⟩) hS.2.2 dX10_seen_20
  · have c5 : ¬ v2.toInt = 0 := z6 rfl (by decide) c5
    refine lv_aload_n hx hb dX10_seen_8 rfl (lv_at hl 0 rfl) ?_
    refine va_get (D := (dC, dI)) (ci := 10) (v := .ref g0) (C := RX10) (T := TX10) (N := 17) hx hb hts iX10 hown hK hP 0 rfl rfl 6 (by decide) (hts _ qw362) (fun _ h9 => h9) rfl dX10_seen_9 ?_
    refine lv_iload_n hx hb dX10_seen_12 rfl (lv_at hl 1 rfl) ?_
    obtain ⟨hPc, hDc⟩ := zc2 (wc := [(g0, .inr (7, [.ref gY, .ref gF, .ref gP, .int gpn, .int glt, .int gsh, .int gwd, .int gpu, .int gmo])), (gP, .inl (cI, 80, .inl gfP))]) hP hT [2, 3] (by decide +kernel) rfl
    have hFc := zfr hS hA
    refine va_calli (va_runV (As := [.int p0]) (rest := []) ⟨hx, hb, hml, hown, hts⟩ (g_X7_portraitsOf l dC dI cI cJ g0 p0 gY gF gP gpn glt gsh gwd gpu gmo gfP H.size n_gpn ci_gfP_zPo) (cwV 1 hts (zgV qw751 qw752 qw753 qw103 qw754) rfl rfl rfl hd_X7_portraitsOf ⟨by rw [hR]; exact Nat.le_of_ble_eq_true rfl, by rw [hR]; exact Nat.le_of_ble_eq_true rfl⟩) (zPV hPc hK hDc (va_recv (q := (RX7, TX7, 9)) hK hP (ci := 7) (q0 := 2) rfl rfl)) rfl rfl hl.1 rfl (lv_room (Nat.le_of_ble_eq_true rfl)) dX10_seen_13 ⟨Nat.zero_le _, Nat.zero_le _⟩) hS (fun q _ h => hFc q h) hFc (fun v13 u13 t H locs ht hvm hw hB hz1 hk1 hS9 => ?_)
    replace hP := zkeep hP hk1
    replace hS := hS9
    clear hPc hDc hFc hk1 hz1 hvm hS9
    have f13_0 : (v13 = zCnt gfP p0 gpn.toInt.toNat) := hw
    have F13 := f13_0
    refine lv_goto (tgt := 20) hx hb dX10_seen_16 (by decide) ?_
    rw [hQ]
    exact W.iret (v := v13) hx hb hr (fun t ht hW => ⟨⟨v13, (), rfl, (fun kc kT q_fr q_fb q_fp q_gfY q_gfF q_fR q_pl q_cn q_frf hc hb h => by unfold sV_see; rw [if_pos (by omega)]; rw [zSc_pn h.1, ← zCnt_c (zSc_P h.1), ← F13]), trivial⟩, hS.F ht⟩) hS.2.2 dX10_seen_20
set_option maxHeartbeats 4000000 in
set_option maxRecDepth 100000 in
theorem g_X10_saves (l : Launch) (dC : Nat → ClassId) (dI : Nat → Nat → Nat) (cI cJ : ClassId) (h0 : Nat) (p0 : Int32) (tp : Nat) (h0_courtReader : Value) (h0_lawReader : Value) (h0_draft : Value) (aC : Nat) (h0_laws : Value) (g0 : Nat) (k0 : Nat) (ac : Nat) (sd : Nat) (mi : Nat) (dw : Nat) (rf : Nat) (lc : Int32) (lh : Int32) (br : Int32) (hi : Int32) (aR : Nat) (aB : Nat) (aP : Nat) (nb : Int32) (np : Int32) (gY : Nat) (gF : Nat) (gP : Nat) (gpn : Int32) (glt : Int32) (gsh : Int32) (gwd : Int32) (gpu : Int32) (gmo : Int32) (sz : Nat) (n_gpn : 0 ≤ gpn.toInt ∧ gpn.toInt ≤ 20) (n_gwd : (-1) ≤ gwd.toInt ∧ gwd.toInt ≤ 5) (n_hi : 0 ≤ hi.toInt ∧ hi.toInt ≤ 1) (n_lc : 0 ≤ lc.toInt ∧ lc.toInt ≤ 4) (n_nb : 0 ≤ nb.toInt ∧ nb.toInt ≤ 6) (n_np : 0 ≤ np.toInt ∧ np.toInt ≤ 5)    : Met l yX10_saves (.code yX10_saves cX10_saves 2 (some .int) :: wA) ({ frames := 1, cells := 0, slots := 0, locals := 30 }) (zP (dC, dI) [(cI, .int), (cJ, .long)] [.ref h0, .int p0] sz [(h0, .inr (10, [.ref tp, h0_courtReader, h0_lawReader, h0_draft, .ref aC, h0_laws, .ref g0, .ref k0, .ref ac, .ref sd, .ref mi, .ref dw, .ref rf, .int lc, .int lh, .int br, .int hi])), (aC, .inr (1, [.ref aR, .ref aB, .ref aP, .int nb, .int np])), (g0, .inr (7, [.ref gY, .ref gF, .ref gP, .int gpn, .int glt, .int gsh, .int gwd, .int gpu, .int gmo]))]) (va_Qi (fun (r : Int32) (u : Unit) => ((-1) ≤ r.toInt) ∧ (∀ (kc : zK3) (kT : zT) (q_fr : Nat → Int32) (q_fb : Nat → Int32) (q_fp : Nat → Int32) (q_gfY : Nat → Int32) (q_gfF : Nat → Int32) (q_gfP : Nat → Int32) (q_fR : Nat → Int32) (q_pl : Int32) (q_cn : Int32) (q_frf : Nat → Int32), zCn q_fr q_fb q_fp nb.toInt np.toInt kc → zKo nb.toInt np.toInt kc kT → zTc nb.toInt np.toInt kT q_gfY q_gfF q_gfP gpn glt gsh gwd gpu gmo q_fR q_pl q_cn q_frf → r = sV_sav nb.toInt kT.1 p0)) (fun (_ : Unit) (_ : State) => True) (va_A [] sz)) 0 0 (va_A [] sz) := by
  refine Met.ofW (cc := cX10_saves) (maxL := 2) (ret := (some .int)) (by decide) rfl ?_
  intro p e s m args below meth c s₁ B hml hv
  have y_gpn : zHid (0 ≤ gpn.toInt ∧ gpn.toInt ≤ 20) := n_gpn
  have y_gwd : zHid ((-1) ≤ gwd.toInt ∧ gwd.toInt ≤ 5) := n_gwd
  have y_hi : zHid (0 ≤ hi.toInt ∧ hi.toInt ≤ 1) := n_hi
  have y_lc : zHid (0 ≤ lc.toInt ∧ lc.toInt ≤ 4) := n_lc
  clear n_gpn n_gwd n_hi n_lc
  obtain ⟨hargs, hsz, hP, hK, hT⟩ := hv
  have hx := B.exec
  have hb := B.bytes
  have hr := B.returns
  have hts : ∀ w ∈ wA, w.before args s = true := fun w h => atoms_spec (ws := .code yX10_saves cX10_saves 2 (some .int) :: wA) B.pre w (List.mem_cons_of_mem _ h)
  have hown : s.vm.findClass RX10 = some m.cls := findClass_of_methodNamed B.named
  have hlocks := B.notSynchronized
  subst hsz
  have hD : va_D (va_A [] s.heap.size) [] := zD0
  generalize hAe : va_A [] s.heap.size = A at hD ⊢
  have hA : ∀ q : Nat, s.heap.size ≤ q → A q := fun q h => by rw [← hAe]; exact Or.inr h
  have hl := lv_entry ([.ref h0, .int p0]) (n := 2) (Nat.le_of_ble_eq_true rfl)
  rw [show entryFrame m args 2 = entryFrame m ([.ref h0, .int p0] : List Value).toArray 2 by rw [hargs], lg_entry_eq]
  generalize (lg_sl ([.ref h0, .int p0]) ++ List.replicate (2 - (lg_sl ([.ref h0, .int p0])).length) Slot.unset).toArray = ls at hl ⊢
  have hl : lv_has ls 2 [(0, .ref h0), (1, .int p0)] := hl
  refine zstart (fun H hH => ?_)
  rw [← hH] at hP
  have hS : va_S A s.heap H [] := by rw [hH]; exact va_S.rf
  generalize ([] : List Loc) = locs at hS ⊢
  refine zgen (fun R Q hR hQ => ?_)
  refine lv_aload_n hx hb dX10_saves_0 rfl (lv_at hl 0 rfl) ?_
  obtain ⟨hPc, hDc⟩ := zc2 (wc := [(h0, .inr (10, [.ref tp, h0_courtReader, h0_lawReader, h0_draft, .ref aC, h0_laws, .ref g0, .ref k0, .ref ac, .ref sd, .ref mi, .ref dw, .ref rf, .int lc, .int lh, .int br, .int hi])), (aC, .inr (1, [.ref aR, .ref aB, .ref aP, .int nb, .int np]))]) hP hT [0, 1] (by decide +kernel) rfl
  have hFc := zfr hS hA
  refine va_calli (va_runV (As := []) (rest := []) ⟨hx, hb, hml, hown, hts⟩ (g_X10_hasCourt l dC dI cI cJ h0 (.ref tp) h0_courtReader h0_lawReader h0_draft aC h0_laws (.ref g0) (.ref k0) (.ref ac) (.ref sd) (.ref mi) (.ref dw) (.ref rf) (.int lc) (.int lh) (.int br) (.int hi) aR aB aP nb np H.size) (cwV 0 hts (zgV qw584 qw586 qw10 qw98 qw587) rfl rfl rfl hd_X10_hasCourt ⟨by rw [hR]; exact Nat.le_of_ble_eq_true rfl, by rw [hR]; exact Nat.le_of_ble_eq_true rfl⟩) (zPV hPc hK hDc (va_recv (q := (RX10, TX10, 17)) hK hP (ci := 10) (q0 := 0) rfl rfl)) rfl rfl hl.1 rfl (lv_room (Nat.le_of_ble_eq_true rfl)) dX10_saves_1 ⟨Nat.zero_le _, Nat.zero_le _⟩) hS (fun q _ h => hFc q h) hFc (fun v1 u1 t H locs ht hvm hw hB hz1 hk1 hS9 => ?_)
  replace hP := zkeep hP hk1
  replace hS := hS9
  clear hPc hDc hFc hk1 hz1 hvm hS9
  obtain ⟨f1_0, f1_1, f1_2, f1_3⟩ : (0 ≤ v1.toInt) ∧ (v1.toInt ≤ 1) ∧ (¬ v1.toInt = 0 → 0 < nb.toInt) ∧ (v1.toInt = 0 → nb.toInt ≤ 0) := hw
  refine lv_if_eq (tgt := 19) hx hb dX10_saves_4 (by decide) (fun c4 => ?_) (fun c4 => ?_)
  · have c4 : v1.toInt = 0 := z5 rfl (by decide) c4
    refine lv_iconst (v := (-1)) hx hb dX10_saves_19 (by decide) ?_
    have zr0 : ((-1) : Int32).toInt = (-1) := by decide
    rw [hQ]
    exact W.iret (v := ((-1))) hx hb hr (fun t ht hW => ⟨⟨(-1), (), rfl, ⟨by (try dsimp only); omega, fun kc kT q_fr q_fb q_fp q_gfY q_gfF q_gfP q_fR q_pl q_cn q_frf hc hb h => by unfold sV_sav; rw [if_neg (by omega)]; ⟩, trivial⟩, hS.F ht⟩) hS.2.2 dX10_saves_20
  · have c4 : ¬ v1.toInt = 0 := z6 rfl (by decide) c4
    refine lv_iload_n hx hb dX10_saves_7 rfl (lv_at hl 1 rfl) ?_
    refine lv_iconst (v := 1) hx hb dX10_saves_8 (by decide) ?_
    refine lv_icmp_lt (tgt := 19) hx hb dX10_saves_9 (by decide) (fun c9 => ?_) (fun c9 => ?_)
    · have c9 : p0.toInt < 1 := z1 rfl (by decide) c9
      refine lv_iconst (v := (-1)) hx hb dX10_saves_19 (by decide) ?_
      have zr0 : ((-1) : Int32).toInt = (-1) := by decide
      rw [hQ]
      exact W.iret (v := ((-1))) hx hb hr (fun t ht hW => ⟨⟨(-1), (), rfl, ⟨by (try dsimp only); omega, fun kc kT q_fr q_fb q_fp q_gfY q_gfF q_gfP q_fR q_pl q_cn q_frf hc hb h => by unfold sV_sav; rw [if_neg (by omega)]; ⟩, trivial⟩, hS.F ht⟩) hS.2.2 dX10_saves_20
    · have c9 : 1 ≤ p0.toInt := z2 rfl (by decide) c9
      refine lv_iload_n hx hb dX10_saves_12 rfl (lv_at hl 1 rfl) ?_
      refine lv_sipush (v := 999) hx hb dX10_saves_13 (by decide) ?_
      refine lv_icmp_le (tgt := 21) hx hb dX10_saves_16 (by decide) (fun c16 => ?_) (fun c16 => ?_)
      · have c16 : p0.toInt ≤ 999 := z3 rfl (by decide) c16
        refine lv_iconst (v := 0) hx hb dX10_saves_21 (by decide) ?_
        refine lv_iload_n hx hb dX10_saves_22 rfl (lv_at hl 1 rfl) ?_
        refine lv_aload_n hx hb dX10_saves_23 rfl (lv_at hl 0 rfl) ?_
        refine va_get (D := (dC, dI)) (ci := 10) (v := .ref g0) (C := RX10) (T := TX10) (N := 17) hx hb hts iX10 hown hK hP 0 rfl rfl 6 (by decide) (hts _ qw362) (fun _ h9 => h9) rfl dX10_saves_24 ?_
        refine va_get (D := (dC, dI)) (ci := 7) (v := .int gpu) (C := RX7) (T := TX7) (N := 9) hx hb hts iX7 hown hK hP 2 rfl rfl 7 (by decide) (hts _ qw239) (fun _ h9 => h9) rfl dX10_saves_27 ?_
        refine lv_isub hx hb dX10_saves_30 ?_
        refine lv_topi (fun v30 e30 => ?_)
        refine va_mmax hx hb (by rw [hml]; exact hl.1.symm) hown (hts _ qw1021) (hts _ qw634) (hts _ qw112) (hts _ qw635) (by rw [hR]; exact Nat.le_of_ble_eq_true rfl) (by rw [hR]; exact Nat.le_of_ble_eq_true rfl) (Nat.zero_le _) (Nat.zero_le _) dX10_saves_31 ?_
        refine lv_topi (fun v31 e31 => ?_)
        have zc31_0 : (0 : Int32).toInt = 0 := by decide
        have i31 := zmmax e31
        rw [hQ]
        exact W.iret (v := v31) hx hb hr (fun t ht hW => ⟨⟨v31, (), rfl, ⟨by (try dsimp only); omega, fun kc kT q_fr q_fb q_fp q_gfY q_gfF q_gfP q_fR q_pl q_cn q_frf hc hb h => by unfold sV_sav; rw [if_pos (by omega)]; rw [zSc_pu h.1, ← e30]; exact e31⟩, trivial⟩, hS.F ht⟩) hS.2.2 dX10_saves_34
      · have c16 : 999 < p0.toInt := z4 rfl (by decide) c16
        refine lv_iconst (v := (-1)) hx hb dX10_saves_19 (by decide) ?_
        have zr0 : ((-1) : Int32).toInt = (-1) := by decide
        rw [hQ]
        exact W.iret (v := ((-1))) hx hb hr (fun t ht hW => ⟨⟨(-1), (), rfl, ⟨by (try dsimp only); omega, fun kc kT q_fr q_fb q_fp q_gfY q_gfF q_gfP q_fR q_pl q_cn q_frf hc hb h => by unfold sV_sav; rw [if_neg (by omega)]; ⟩, trivial⟩, hS.F ht⟩) hS.2.2 dX10_saves_20
set_option maxHeartbeats 4000000 in
set_option maxRecDepth 100000 in
theorem g_X10_rivals (l : Launch) (dC : Nat → ClassId) (dI : Nat → Nat → Nat) (cI cJ : ClassId) (h0 : Nat) (p0 : Int32) (tp : Nat) (h0_courtReader : Value) (h0_lawReader : Value) (h0_draft : Value) (aC : Nat) (h0_laws : Value) (g0 : Nat) (k0 : Nat) (ac : Nat) (sd : Nat) (mi : Nat) (dw : Nat) (rf : Nat) (lc : Int32) (lh : Int32) (br : Int32) (hi : Int32) (aR : Nat) (aB : Nat) (aP : Nat) (nb : Int32) (np : Int32) (fr : Nat → Int32) (fb : Nat → Int32) (sz : Nat) (n_hi : 0 ≤ hi.toInt ∧ hi.toInt ≤ 1) (n_lc : 0 ≤ lc.toInt ∧ lc.toInt ≤ 4) (n_nb : 0 ≤ nb.toInt ∧ nb.toInt ≤ 6) (n_np : 0 ≤ np.toInt ∧ np.toInt ≤ 5)    : Met l yX10_rivals (.code yX10_rivals cX10_rivals 4 (some .int) :: wA) ({ frames := 4, cells := 0, slots := 0, locals := 86 }) (zP (dC, dI) [(cI, .int), (cJ, .long)] [.ref h0, .int p0] sz [(h0, .inr (10, [.ref tp, h0_courtReader, h0_lawReader, h0_draft, .ref aC, h0_laws, .ref g0, .ref k0, .ref ac, .ref sd, .ref mi, .ref dw, .ref rf, .int lc, .int lh, .int br, .int hi])), (aC, .inr (1, [.ref aR, .ref aB, .ref aP, .int nb, .int np])), (aR, .inl (cI, 3, .inl fr)), (aB, .inl (cI, 24, .inl fb))]) (va_Qi (fun (r : Int32) (u : Unit) => (((0 ≤ p0.toInt ∧ p0.toInt < nb.toInt) → r = zRv (zTw fr fb) p0.toInt.toNat nb.toInt.toNat) ∧ (¬ (0 ≤ p0.toInt ∧ p0.toInt < nb.toInt) → r = -1))) (fun (_ : Unit) (_ : State) => True) (va_A [] sz)) 0 0 (va_A [] sz) := by
  refine Met.ofW (cc := cX10_rivals) (maxL := 4) (ret := (some .int)) (by decide) rfl ?_
  intro p e s m args below meth c s₁ B hml hv
  have y_hi : zHid (0 ≤ hi.toInt ∧ hi.toInt ≤ 1) := n_hi
  have y_lc : zHid (0 ≤ lc.toInt ∧ lc.toInt ≤ 4) := n_lc
  have y_np : zHid (0 ≤ np.toInt ∧ np.toInt ≤ 5) := n_np
  clear n_hi n_lc n_np
  obtain ⟨hargs, hsz, hP, hK, hT⟩ := hv
  have hx := B.exec
  have hb := B.bytes
  have hr := B.returns
  have hts : ∀ w ∈ wA, w.before args s = true := fun w h => atoms_spec (ws := .code yX10_rivals cX10_rivals 4 (some .int) :: wA) B.pre w (List.mem_cons_of_mem _ h)
  have hown : s.vm.findClass RX10 = some m.cls := findClass_of_methodNamed B.named
  have hlocks := B.notSynchronized
  subst hsz
  have hD : va_D (va_A [] s.heap.size) [] := zD0
  generalize hAe : va_A [] s.heap.size = A at hD ⊢
  have hA : ∀ q : Nat, s.heap.size ≤ q → A q := fun q h => by rw [← hAe]; exact Or.inr h
  have hl := lv_entry ([.ref h0, .int p0]) (n := 4) (Nat.le_of_ble_eq_true rfl)
  rw [show entryFrame m args 4 = entryFrame m ([.ref h0, .int p0] : List Value).toArray 4 by rw [hargs], lg_entry_eq]
  generalize (lg_sl ([.ref h0, .int p0]) ++ List.replicate (4 - (lg_sl ([.ref h0, .int p0])).length) Slot.unset).toArray = ls at hl ⊢
  have hl : lv_has ls 4 [(0, .ref h0), (1, .int p0)] := hl
  refine zstart (fun H hH => ?_)
  rw [← hH] at hP
  have hS : va_S A s.heap H [] := by rw [hH]; exact va_S.rf
  generalize ([] : List Loc) = locs at hS ⊢
  refine zgen (fun R Q hR hQ => ?_)
  refine lv_aload_n hx hb dX10_rivals_0 rfl (lv_at hl 0 rfl) ?_
  refine lv_iload_n hx hb dX10_rivals_1 rfl (lv_at hl 1 rfl) ?_
  obtain ⟨hPc, hDc⟩ := zc2 (wc := [(h0, .inr (10, [.ref tp, h0_courtReader, h0_lawReader, h0_draft, .ref aC, h0_laws, .ref g0, .ref k0, .ref ac, .ref sd, .ref mi, .ref dw, .ref rf, .int lc, .int lh, .int br, .int hi])), (aC, .inr (1, [.ref aR, .ref aB, .ref aP, .int nb, .int np]))]) hP hT [0, 1] (by decide +kernel) rfl
  have hFc := zfr hS hA
  refine va_calli (va_runV (As := [.int p0]) (rest := []) ⟨hx, hb, hml, hown, hts⟩ (g_X10_isBride l dC dI cI cJ h0 p0 (.ref tp) h0_courtReader h0_lawReader h0_draft aC h0_laws (.ref g0) (.ref k0) (.ref ac) (.ref sd) (.ref mi) (.ref dw) (.ref rf) (.int lc) (.int lh) (.int br) (.int hi) aR aB aP nb np H.size n_nb) (cwV 1 hts (zgV qw625 qw627 qw12 qw98 qw628) rfl rfl rfl hd_X10_isBride ⟨by rw [hR]; exact Nat.le_of_ble_eq_true rfl, by rw [hR]; exact Nat.le_of_ble_eq_true rfl⟩) (zPV hPc hK hDc (va_recv (q := (RX10, TX10, 17)) hK hP (ci := 10) (q0 := 0) rfl rfl)) rfl rfl hl.1 rfl (lv_room (Nat.le_of_ble_eq_true rfl)) dX10_rivals_2 ⟨Nat.zero_le _, Nat.zero_le _⟩) hS (fun q _ h => hFc q h) hFc (fun v2 u2 t H locs ht hvm hw hB hz1 hk1 hS9 => ?_)
  replace hP := zkeep hP hk1
  replace hS := hS9
  clear hPc hDc hFc hk1 hz1 hvm hS9
  obtain ⟨f2_0, f2_1, f2_2, f2_3⟩ : (0 ≤ v2.toInt) ∧ (v2.toInt ≤ 1) ∧ (¬ v2.toInt = 0 → (0 ≤ p0.toInt ∧ p0.toInt < nb.toInt)) ∧ (v2.toInt = 0 → ¬ (0 ≤ p0.toInt ∧ p0.toInt < nb.toInt)) := hw
  refine lv_if_ne (tgt := 10) hx hb dX10_rivals_5 (by decide) (fun c5 => ?_) (fun c5 => ?_)
  · have c5 : ¬ v2.toInt = 0 := z6 rfl (by decide) c5
    refine lv_iconst (v := 0) hx hb dX10_rivals_10 (by decide) ?_
    refine lv_istore_n (lv' := [(2, .int 0), (0, .ref h0), (1, .int p0)]) hx hb dX10_rivals_11 rfl hl (by decide) rfl (fun ls hl => ?_)
    refine lv_iconst (v := 0) hx hb dX10_rivals_12 (by decide) ?_
    have J14 : ∀ (n : Nat) (m14_L_2 : Int32) (m14_L_3 : Int32), (0 ≤ m14_L_3.toInt ∧ m14_L_3.toInt ≤ 6) → (m14_L_2 = zRv (zTw fr fb) p0.toInt.toNat m14_L_3.toInt.toNat) → (m14_L_3.toInt ≤ nb.toInt) → (7 - m14_L_3.toInt).toNat = n → ∀ (H : Heap) (locs : List Loc) (ls : Array Slot), va_P (dC, dI) vwCl [(h0, .inr (10, [.ref tp, h0_courtReader, h0_lawReader, h0_draft, .ref aC, h0_laws, .ref g0, .ref k0, .ref ac, .ref sd, .ref mi, .ref dw, .ref rf, .int lc, .int lh, .int br, .int hi])), (aC, .inr (1, [.ref aR, .ref aB, .ref aP, .int nb, .int np])), (aR, .inl (cI, 3, .inl fr)), (aB, .inl (cI, 24, .inl fb))] H → va_S A s.heap H locs → lv_has ls 4 [(3, .int m14_L_3), (2, .int m14_L_2), (0, .ref h0), (1, .int p0)] → W p l e R s m args below meth c H locs 0 0 Q (F0 m 14 ls []) := by
      intro n14
      induction n14 using Nat.strongRecOn with
      | _ n14 ih14 =>
        intro m14_L_2 m14_L_3 jf14_0 jv14_0 jf14_2 hmu14 H locs ls hP hS hl
        refine lv_iload_n hx hb dX10_rivals_14 rfl (lv_at hl 0 rfl) ?_
        refine lv_aload_n hx hb dX10_rivals_15 rfl (lv_at hl 2 rfl) ?_
        refine va_get (D := (dC, dI)) (ci := 10) (v := .ref aC) (C := RX10) (T := TX10) (N := 17) hx hb hts iX10 hown hK hP 0 rfl rfl 4 (by decide) (hts _ qw360) (fun _ h9 => h9) rfl dX10_rivals_16 ?_
        refine va_get (D := (dC, dI)) (ci := 1) (v := .int nb) (C := RX1) (T := TX1) (N := 5) hx hb hts iX1 hown hK hP 1 rfl rfl 3 (by decide) (hts _ qw195) (fun _ h9 => h9) rfl dX10_rivals_19 ?_
        refine lv_icmp_ge (tgt := 56) hx hb dX10_rivals_22 (by decide) (fun c22 => ?_) (fun c22 => ?_)
        · have c22 : nb.toInt ≤ m14_L_3.toInt := z3 rfl rfl c22
          refine lv_iload_n hx hb dX10_rivals_56 rfl (lv_at hl 1 rfl) ?_
          rw [hQ]
          exact W.iret (v := m14_L_2) hx hb hr (fun t ht hW => ⟨⟨m14_L_2, (), rfl, (⟨fun _ => by rw [jv14_0, show m14_L_3.toInt.toNat = nb.toInt.toNat by omega], fun z => absurd (by omega) z⟩), trivial⟩, hS.F ht⟩) hS.2.2 dX10_rivals_57
        · have c22 : m14_L_3.toInt < nb.toInt := z4 rfl rfl c22
          refine lv_aload_n hx hb dX10_rivals_25 rfl (lv_at hl 2 rfl) ?_
          refine va_get (D := (dC, dI)) (ci := 10) (v := .ref aC) (C := RX10) (T := TX10) (N := 17) hx hb hts iX10 hown hK hP 0 rfl rfl 4 (by decide) (hts _ qw360) (fun _ h9 => h9) rfl dX10_rivals_26 ?_
          refine lv_iload_n hx hb dX10_rivals_29 rfl (lv_at hl 0 rfl) ?_
          obtain ⟨hPc, hDc⟩ := zc2 (wc := [(aC, .inr (1, [.ref aR, .ref aB, .ref aP, .int nb, .int np])), (aR, .inl (cI, 3, .inl fr)), (aB, .inl (cI, 24, .inl fb))]) hP hT [1, 2, 3] (by decide +kernel) rfl
          have hFc := zfr hS hA
          refine va_calli (va_runV (As := [.int m14_L_3]) (rest := []) ⟨hx, hb, hml, hown, hts⟩ (g_X1_trueWorth l dC dI cI cJ aC m14_L_3 aR aB aP nb np fr fb H.size (by omega)) (cwV 1 hts (zgV qw921 qw922 qw923 qw102 qw924) rfl rfl rfl hd_X1_trueWorth ⟨by rw [hR]; exact Nat.le_of_ble_eq_true rfl, by rw [hR]; exact Nat.le_of_ble_eq_true rfl⟩) (zPV hPc hK hDc (va_recv (q := (RX1, TX1, 5)) hK hP (ci := 1) (q0 := 1) rfl rfl)) rfl rfl hl.1 rfl (lv_room (Nat.le_of_ble_eq_true rfl)) dX10_rivals_30 ⟨Nat.zero_le _, Nat.zero_le _⟩) hS (fun q _ h => hFc q h) hFc (fun v30 u30 t H locs ht hvm hw hB hz1 hk1 hS9 => ?_)
          replace hP := zkeep hP hk1
          replace hS := hS9
          clear hPc hDc hFc hk1 hz1 hvm hS9
          have f30_0 : (v30 = zTw fr fb m14_L_3.toInt.toNat) := hw
          have F30 := f30_0
          refine lv_aload_n hx hb dX10_rivals_33 rfl (lv_at hl 2 rfl) ?_
          refine va_get (D := (dC, dI)) (ci := 10) (v := .ref aC) (C := RX10) (T := TX10) (N := 17) hx hb hts iX10 hown hK hP 0 rfl rfl 4 (by decide) (hts _ qw360) (fun _ h9 => h9) rfl dX10_rivals_34 ?_
          refine lv_iload_n hx hb dX10_rivals_37 rfl (lv_at hl 3 rfl) ?_
          obtain ⟨hPc, hDc⟩ := zc2 (wc := [(aC, .inr (1, [.ref aR, .ref aB, .ref aP, .int nb, .int np])), (aR, .inl (cI, 3, .inl fr)), (aB, .inl (cI, 24, .inl fb))]) hP hT [1, 2, 3] (by decide +kernel) rfl
          have hFc := zfr hS hA
          refine va_calli (va_runV (As := [.int p0]) (rest := [.int v30]) ⟨hx, hb, hml, hown, hts⟩ (g_X1_trueWorth l dC dI cI cJ aC p0 aR aB aP nb np fr fb H.size (by omega)) (cwV 1 hts (zgV qw921 qw922 qw923 qw102 qw924) rfl rfl rfl hd_X1_trueWorth ⟨by rw [hR]; exact Nat.le_of_ble_eq_true rfl, by rw [hR]; exact Nat.le_of_ble_eq_true rfl⟩) (zPV hPc hK hDc (va_recv (q := (RX1, TX1, 5)) hK hP (ci := 1) (q0 := 1) rfl rfl)) rfl rfl hl.1 rfl (lv_room (Nat.le_of_ble_eq_true rfl)) dX10_rivals_38 ⟨Nat.zero_le _, Nat.zero_le _⟩) hS (fun q _ h => hFc q h) hFc (fun v38 u38 t H locs ht hvm hw hB hz1 hk1 hS9 => ?_)
          replace hP := zkeep hP hk1
          replace hS := hS9
          clear hPc hDc hFc hk1 hz1 hvm hS9
          have f38_0 : (v38 = zTw fr fb p0.toInt.toNat) := hw
          have F38 := f38_0
          refine lv_icmp_le (tgt := 50) hx hb dX10_rivals_41 (by decide) (fun c41 => ?_) (fun c41 => ?_)
          · have c41 : v30.toInt ≤ v38.toInt := z3 rfl rfl c41
            obtain ⟨v50, e50⟩ : ∃ y : Int32, y = m14_L_3 + Int32.ofInt (1) := ⟨_, rfl⟩
            refine lv_iinc (v := v50) (lv' := [(3, .int v50), (2, .int m14_L_2), (0, .ref h0), (1, .int p0)]) hx hb dX10_rivals_50 hl (k := 0) rfl e50.symm (by decide) rfl (fun ls hl => ?_)
            have i50 : v50.toInt = m14_L_3.toInt + 1 := zaddI e50 (by decide) (by omega) (by omega)
            refine lv_goto (tgt := 14) hx hb dX10_rivals_53 (by decide) ?_
            exact ih14 _ (by omega) m14_L_2 v50 (by omega) (by first | exact zRvS jv14_0 (by omega) i50 F30 F38 (by omega) e47 e48 | exact zRvN jv14_0 (by omega) i50 F30 F38 (by omega)) (by omega) rfl H locs ls hP hS (lv_sub hl [0, 1, 2, 3] rfl)
          · have c41 : v38.toInt < v30.toInt := z4 rfl rfl c41
            refine lv_iload_n hx hb dX10_rivals_44 rfl (lv_at hl 1 rfl) ?_
            refine lv_iconst (v := 1) hx hb dX10_rivals_45 (by decide) ?_
            refine lv_iload_n hx hb dX10_rivals_46 rfl (lv_at hl 0 rfl) ?_
            refine lv_ishl hx hb dX10_rivals_47 ?_
            refine lv_topi (fun v47 e47 => ?_)
            have i47 : 1 ≤ v47.toInt ∧ v47.toInt ≤ 32 := zshl1 e47 (by omega) (by omega)
            refine lv_ior hx hb dX10_rivals_48 ?_
            refine lv_topi (fun v48 e48 => ?_)
            refine lv_istore_n (lv' := [(2, .int v48), (3, .int m14_L_3), (0, .ref h0), (1, .int p0)]) hx hb dX10_rivals_49 rfl hl (by decide) rfl (fun ls hl => ?_)
            obtain ⟨v50, e50⟩ : ∃ y : Int32, y = m14_L_3 + Int32.ofInt (1) := ⟨_, rfl⟩
            refine lv_iinc (v := v50) (lv' := [(3, .int v50), (2, .int v48), (0, .ref h0), (1, .int p0)]) hx hb dX10_rivals_50 hl (k := 1) rfl e50.symm (by decide) rfl (fun ls hl => ?_)
            have i50 : v50.toInt = m14_L_3.toInt + 1 := zaddI e50 (by decide) (by omega) (by omega)
            refine lv_goto (tgt := 14) hx hb dX10_rivals_53 (by decide) ?_
            exact ih14 _ (by omega) v48 v50 (by omega) (by first | exact zRvS jv14_0 (by omega) i50 F30 F38 (by omega) e47 e48 | exact zRvN jv14_0 (by omega) i50 F30 F38 (by omega)) (by omega) rfl H locs ls hP hS (lv_sub hl [0, 1, 2, 3] rfl)
    refine lv_istore_n (lv' := [(3, .int 0), (2, .int 0), (0, .ref h0), (1, .int p0)]) hx hb dX10_rivals_13 rfl hl (by decide) rfl (fun ls hl => ?_)
    have zj14_m14_L_2 : (0 : Int32).toInt = 0 := by decide
    have zj14_m14_L_3 : (0 : Int32).toInt = 0 := by decide
    exact J14 _ 0 0 (by decide) (rfl) (by omega) rfl H locs ls hP hS (lv_sub hl [0, 1, 2, 3] rfl)
  · have c5 : v2.toInt = 0 := z5 rfl (by decide) c5
    refine lv_iconst (v := (-1)) hx hb dX10_rivals_8 (by decide) ?_
    have zr0 : ((-1) : Int32).toInt = (-1) := by decide
    rw [hQ]
    exact W.iret (v := ((-1))) hx hb hr (fun t ht hW => ⟨⟨(-1), (), rfl, (⟨fun z => absurd z (by omega), fun _ => rfl⟩), trivial⟩, hS.F ht⟩) hS.2.2 dX10_rivals_9
set_option maxHeartbeats 4000000 in
set_option maxRecDepth 100000 in
theorem g_X10_affords (l : Launch) (dC : Nat → ClassId) (dI : Nat → Nat → Nat) (cI cJ : ClassId) (h0 : Nat) (p0 : Int32) (tp : Nat) (h0_courtReader : Value) (h0_lawReader : Value) (h0_draft : Value) (aC : Nat) (h0_laws : Value) (g0 : Nat) (k0 : Nat) (ac : Nat) (sd : Nat) (mi : Nat) (dw : Nat) (rf : Nat) (lc : Int32) (lh : Int32) (br : Int32) (hi : Int32) (aR : Nat) (aB : Nat) (aP : Nat) (nb : Int32) (np : Int32) (fp : Nat → Int32) (gY : Nat) (gF : Nat) (gP : Nat) (gpn : Int32) (glt : Int32) (gsh : Int32) (gwd : Int32) (gpu : Int32) (gmo : Int32) (sz : Nat) (n_gpn : 0 ≤ gpn.toInt ∧ gpn.toInt ≤ 20) (n_gwd : (-1) ≤ gwd.toInt ∧ gwd.toInt ≤ 5) (n_hi : 0 ≤ hi.toInt ∧ hi.toInt ≤ 1) (n_lc : 0 ≤ lc.toInt ∧ lc.toInt ≤ 4) (n_nb : 0 ≤ nb.toInt ∧ nb.toInt ≤ 6) (n_np : 0 ≤ np.toInt ∧ np.toInt ≤ 5)    : Met l yX10_affords (.code yX10_affords cX10_affords 4 (some .int) :: wA) ({ frames := 2, cells := 0, slots := 0, locals := 43 }) (zP (dC, dI) [(cI, .int), (cJ, .long)] [.ref h0, .int p0] sz [(h0, .inr (10, [.ref tp, h0_courtReader, h0_lawReader, h0_draft, .ref aC, h0_laws, .ref g0, .ref k0, .ref ac, .ref sd, .ref mi, .ref dw, .ref rf, .int lc, .int lh, .int br, .int hi])), (aC, .inr (1, [.ref aR, .ref aB, .ref aP, .int nb, .int np])), (aP, .inl (cI, 20, .inl fp)), (g0, .inr (7, [.ref gY, .ref gF, .ref gP, .int gpn, .int glt, .int gsh, .int gwd, .int gpu, .int gmo]))]) (va_Qi (fun (r : Int32) (u : Unit) => (r.toInt ≤ 20) ∧ (∀ (kc : zK3) (kT : zT) (q_fr : Nat → Int32) (q_fb : Nat → Int32) (q_gfY : Nat → Int32) (q_gfF : Nat → Int32) (q_gfP : Nat → Int32) (q_fR : Nat → Int32) (q_pl : Int32) (q_cn : Int32) (q_frf : Nat → Int32), zCn q_fr q_fb fp nb.toInt np.toInt kc → zKo nb.toInt np.toInt kc kT → zTc nb.toInt np.toInt kT q_gfY q_gfF q_gfP gpn glt gsh gwd gpu gmo q_fR q_pl q_cn q_frf → r = sV_aff np.toInt kc kT.1 p0)) (fun (_ : Unit) (_ : State) => True) (va_A [] sz)) 0 0 (va_A [] sz) := by
  refine Met.ofW (cc := cX10_affords) (maxL := 4) (ret := (some .int)) (by decide) rfl ?_
  intro p e s m args below meth c s₁ B hml hv
  have y_gwd : zHid ((-1) ≤ gwd.toInt ∧ gwd.toInt ≤ 5) := n_gwd
  have y_hi : zHid (0 ≤ hi.toInt ∧ hi.toInt ≤ 1) := n_hi
  have y_lc : zHid (0 ≤ lc.toInt ∧ lc.toInt ≤ 4) := n_lc
  clear n_gwd n_hi n_lc
  obtain ⟨hargs, hsz, hP, hK, hT⟩ := hv
  have hx := B.exec
  have hb := B.bytes
  have hr := B.returns
  have hts : ∀ w ∈ wA, w.before args s = true := fun w h => atoms_spec (ws := .code yX10_affords cX10_affords 4 (some .int) :: wA) B.pre w (List.mem_cons_of_mem _ h)
  have hown : s.vm.findClass RX10 = some m.cls := findClass_of_methodNamed B.named
  have hlocks := B.notSynchronized
  subst hsz
  have hD : va_D (va_A [] s.heap.size) [] := zD0
  generalize hAe : va_A [] s.heap.size = A at hD ⊢
  have hA : ∀ q : Nat, s.heap.size ≤ q → A q := fun q h => by rw [← hAe]; exact Or.inr h
  have hl := lv_entry ([.ref h0, .int p0]) (n := 4) (Nat.le_of_ble_eq_true rfl)
  rw [show entryFrame m args 4 = entryFrame m ([.ref h0, .int p0] : List Value).toArray 4 by rw [hargs], lg_entry_eq]
  generalize (lg_sl ([.ref h0, .int p0]) ++ List.replicate (4 - (lg_sl ([.ref h0, .int p0])).length) Slot.unset).toArray = ls at hl ⊢
  have hl : lv_has ls 4 [(0, .ref h0), (1, .int p0)] := hl
  refine zstart (fun H hH => ?_)
  rw [← hH] at hP
  have hS : va_S A s.heap H [] := by rw [hH]; exact va_S.rf
  generalize ([] : List Loc) = locs at hS ⊢
  refine zgen (fun R Q hR hQ => ?_)
  refine lv_aload_n hx hb dX10_affords_0 rfl (lv_at hl 0 rfl) ?_
  refine lv_iload_n hx hb dX10_affords_1 rfl (lv_at hl 1 rfl) ?_
  obtain ⟨hPc, hDc⟩ := zc2 (wc := [(h0, .inr (10, [.ref tp, h0_courtReader, h0_lawReader, h0_draft, .ref aC, h0_laws, .ref g0, .ref k0, .ref ac, .ref sd, .ref mi, .ref dw, .ref rf, .int lc, .int lh, .int br, .int hi])), (aC, .inr (1, [.ref aR, .ref aB, .ref aP, .int nb, .int np]))]) hP hT [0, 1] (by decide +kernel) rfl
  have hFc := zfr hS hA
  refine va_calli (va_runV (As := [.int p0]) (rest := []) ⟨hx, hb, hml, hown, hts⟩ (g_X10_isPainter l dC dI cI cJ h0 p0 (.ref tp) h0_courtReader h0_lawReader h0_draft aC h0_laws (.ref g0) (.ref k0) (.ref ac) (.ref sd) (.ref mi) (.ref dw) (.ref rf) (.int lc) (.int lh) (.int br) (.int hi) aR aB aP nb np H.size n_np) (cwV 1 hts (zgV qw600 qw602 qw11 qw98 qw603) rfl rfl rfl hd_X10_isPainter ⟨by rw [hR]; exact Nat.le_of_ble_eq_true rfl, by rw [hR]; exact Nat.le_of_ble_eq_true rfl⟩) (zPV hPc hK hDc (va_recv (q := (RX10, TX10, 17)) hK hP (ci := 10) (q0 := 0) rfl rfl)) rfl rfl hl.1 rfl (lv_room (Nat.le_of_ble_eq_true rfl)) dX10_affords_2 ⟨Nat.zero_le _, Nat.zero_le _⟩) hS (fun q _ h => hFc q h) hFc (fun v2 u2 t H locs ht hvm hw hB hz1 hk1 hS9 => ?_)
  replace hP := zkeep hP hk1
  replace hS := hS9
  clear hPc hDc hFc hk1 hz1 hvm hS9
  obtain ⟨f2_0, f2_1, f2_2, f2_3⟩ : (0 ≤ v2.toInt) ∧ (v2.toInt ≤ 1) ∧ (¬ v2.toInt = 0 → (0 ≤ p0.toInt ∧ p0.toInt < np.toInt)) ∧ (v2.toInt = 0 → ¬ (0 ≤ p0.toInt ∧ p0.toInt < np.toInt)) := hw
  refine lv_if_ne (tgt := 10) hx hb dX10_affords_5 (by decide) (fun c5 => ?_) (fun c5 => ?_)
  · have c5 : ¬ v2.toInt = 0 := z6 rfl (by decide) c5
    refine lv_bipush (v := 20) hx hb dX10_affords_10 (by decide) ?_
    refine lv_aload_n hx hb dX10_affords_12 rfl (lv_at hl 0 rfl) ?_
    refine va_get (D := (dC, dI)) (ci := 10) (v := .ref g0) (C := RX10) (T := TX10) (N := 17) hx hb hts iX10 hown hK hP 0 rfl rfl 6 (by decide) (hts _ qw362) (fun _ h9 => h9) rfl dX10_affords_13 ?_
    refine va_get (D := (dC, dI)) (ci := 7) (v := .int gpn) (C := RX7) (T := TX7) (N := 9) hx hb hts iX7 hown hK hP 3 rfl rfl 3 (by decide) (hts _ qw229) (fun _ h9 => h9) rfl dX10_affords_16 ?_
    refine lv_isub hx hb dX10_affords_19 ?_
    refine lv_topi (fun v19 e19 => ?_)
    have i19 : v19.toInt = 20 - gpn.toInt := zsub e19 (by decide) rfl (by omega) (by omega)
    refine lv_istore_n (lv' := [(2, .int v19), (0, .ref h0), (1, .int p0)]) hx hb dX10_affords_20 rfl hl (by decide) rfl (fun ls hl => ?_)
    refine lv_aload_n hx hb dX10_affords_21 rfl (lv_at hl 1 rfl) ?_
    refine va_get (D := (dC, dI)) (ci := 10) (v := .ref aC) (C := RX10) (T := TX10) (N := 17) hx hb hts iX10 hown hK hP 0 rfl rfl 4 (by decide) (hts _ qw360) (fun _ h9 => h9) rfl dX10_affords_22 ?_
    refine lv_iload_n hx hb dX10_affords_25 rfl (lv_at hl 2 rfl) ?_
    obtain ⟨hPc, hDc⟩ := zc2 (wc := [(aC, .inr (1, [.ref aR, .ref aB, .ref aP, .int nb, .int np])), (aP, .inl (cI, 20, .inl fp))]) hP hT [1, 2] (by decide +kernel) rfl
    have hFc := zfr hS hA
    refine va_calli (va_runV (As := [.int p0]) (rest := []) ⟨hx, hb, hml, hown, hts⟩ (g_X1_feeOf l dC dI cI cJ aC p0 aR aB aP nb np fp H.size (by omega)) (cwV 1 hts (zgV qw609 qw610 qw611 qw102 qw612) rfl rfl rfl hd_X1_feeOf ⟨by rw [hR]; exact Nat.le_of_ble_eq_true rfl, by rw [hR]; exact Nat.le_of_ble_eq_true rfl⟩) (zPV hPc hK hDc (va_recv (q := (RX1, TX1, 5)) hK hP (ci := 1) (q0 := 1) rfl rfl)) rfl rfl hl.1 rfl (lv_room (Nat.le_of_ble_eq_true rfl)) dX10_affords_26 ⟨Nat.zero_le _, Nat.zero_le _⟩) hS (fun q _ h => hFc q h) hFc (fun v26 u26 t H locs ht hvm hw hB hz1 hk1 hS9 => ?_)
    replace hP := zkeep hP hk1
    replace hS := hS9
    clear hPc hDc hFc hk1 hz1 hvm hS9
    have f26_0 : (v26 = fp (4 * p0.toInt.toNat + 1)) := hw
    have F26 := f26_0
    refine lv_istore_n (lv' := [(3, .int v26), (2, .int v19), (0, .ref h0), (1, .int p0)]) hx hb dX10_affords_29 rfl hl (by decide) rfl (fun ls hl => ?_)
    refine lv_iload_n hx hb dX10_affords_30 rfl (lv_at hl 0 rfl) ?_
    refine lv_if_ne (tgt := 38) hx hb dX10_affords_31 (by decide) (fun c31 => ?_) (fun c31 => ?_)
    · have c31 : ¬ v26.toInt = 0 := z6 rfl (by decide) c31
      refine lv_iload_n hx hb dX10_affords_38 rfl (lv_at hl 1 rfl) ?_
      refine lv_aload_n hx hb dX10_affords_39 rfl (lv_at hl 2 rfl) ?_
      refine va_get (D := (dC, dI)) (ci := 10) (v := .ref g0) (C := RX10) (T := TX10) (N := 17) hx hb hts iX10 hown hK hP 0 rfl rfl 6 (by decide) (hts _ qw362) (fun _ h9 => h9) rfl dX10_affords_40 ?_
      refine va_get (D := (dC, dI)) (ci := 7) (v := .int gpu) (C := RX7) (T := TX7) (N := 9) hx hb hts iX7 hown hK hP 3 rfl rfl 7 (by decide) (hts _ qw239) (fun _ h9 => h9) rfl dX10_affords_43 ?_
      refine lv_iload_n hx hb dX10_affords_46 rfl (lv_at hl 0 rfl) ?_
      refine lv_idiv hx hb dX10_affords_47 (z0 (by omega)) ?_
      refine lv_topi (fun v47 e47 => ?_)
      refine va_mmin hx hb (by rw [hml]; exact hl.1.symm) hown (hts _ qw742) (hts _ qw569) (hts _ qw112) (hts _ qw570) (by rw [hR]; exact Nat.le_of_ble_eq_true rfl) (by rw [hR]; exact Nat.le_of_ble_eq_true rfl) (Nat.zero_le _) (Nat.zero_le _) dX10_affords_48 ?_
      refine lv_topi (fun v48 e48 => ?_)
      have i48 := zmmin e48
      rw [hQ]
      exact W.iret (v := v48) hx hb hr (fun t ht hW => ⟨⟨v48, (), rfl, ⟨by (try dsimp only); omega, fun kc kT q_fr q_fb q_gfY q_gfF q_gfP q_fR q_pl q_cn q_frf hc hb h => by have y26 : v26 = kc.2.2 (4 * p0.toInt.toNat + 1) := F26.trans (hc.2.2 _ (by omega)); have z26 := congrArg Int32.toInt y26; unfold sV_aff; rw [if_pos (by omega)]; rw [zSc_pn h.1, ← e19]; rw [if_neg (by omega), zSc_pu h.1, ← y26, ← e47]; unfold sMin; exact e48⟩, trivial⟩, hS.F ht⟩) hS.2.2 dX10_affords_51
    · have c31 : v26.toInt = 0 := z5 rfl (by decide) c31
      refine lv_iload_n hx hb dX10_affords_34 rfl (lv_at hl 1 rfl) ?_
      refine lv_goto (tgt := 51) hx hb dX10_affords_35 (by decide) ?_
      rw [hQ]
      exact W.iret (v := v19) hx hb hr (fun t ht hW => ⟨⟨v19, (), rfl, ⟨by (try dsimp only); omega, fun kc kT q_fr q_fb q_gfY q_gfF q_gfP q_fR q_pl q_cn q_frf hc hb h => by have y26 : v26 = kc.2.2 (4 * p0.toInt.toNat + 1) := F26.trans (hc.2.2 _ (by omega)); have z26 := congrArg Int32.toInt y26; unfold sV_aff; rw [if_pos (by omega)]; rw [zSc_pn h.1, ← e19]; exact (if_pos (by omega)).symm⟩, trivial⟩, hS.F ht⟩) hS.2.2 dX10_affords_51
  · have c5 : v2.toInt = 0 := z5 rfl (by decide) c5
    refine lv_iconst (v := (-1)) hx hb dX10_affords_8 (by decide) ?_
    have zr0 : ((-1) : Int32).toInt = (-1) := by decide
    rw [hQ]
    exact W.iret (v := ((-1))) hx hb hr (fun t ht hW => ⟨⟨(-1), (), rfl, ⟨by (try dsimp only); omega, fun kc kT q_fr q_fb q_gfY q_gfF q_gfP q_fR q_pl q_cn q_frf hc hb h => by unfold sV_aff; rw [if_neg (by omega)]; ⟩, trivial⟩, hS.F ht⟩) hS.2.2 dX10_affords_9
set_option maxHeartbeats 4000000 in
set_option maxRecDepth 100000 in
theorem g_X10_above (l : Launch) (dC : Nat → ClassId) (dI : Nat → Nat → Nat) (cI cJ : ClassId) (h0 : Nat) (p0 : Int32) (tp : Nat) (h0_courtReader : Value) (h0_lawReader : Value) (h0_draft : Value) (aC : Nat) (h0_laws : Value) (g0 : Nat) (k0 : Nat) (ac : Nat) (sd : Nat) (mi : Nat) (dw : Nat) (rf : Nat) (lc : Int32) (lh : Int32) (br : Int32) (hi : Int32) (aR : Nat) (aB : Nat) (aP : Nat) (nb : Int32) (np : Int32) (fb : Nat → Int32) (gY : Nat) (gF : Nat) (gP : Nat) (gpn : Int32) (glt : Int32) (gsh : Int32) (gwd : Int32) (gpu : Int32) (gmo : Int32) (gfP : Nat → Int32) (sz : Nat) (n_gpn : 0 ≤ gpn.toInt ∧ gpn.toInt ≤ 20) (n_gwd : (-1) ≤ gwd.toInt ∧ gwd.toInt ≤ 5) (n_hi : 0 ≤ hi.toInt ∧ hi.toInt ≤ 1) (n_lc : 0 ≤ lc.toInt ∧ lc.toInt ≤ 4) (n_nb : 0 ≤ nb.toInt ∧ nb.toInt ≤ 6) (n_np : 0 ≤ np.toInt ∧ np.toInt ≤ 5) (n_p0 : 0 ≤ p0.toInt ∧ p0.toInt ≤ 19)  (ci_gfP_zPo : zPo gfP)  : Met l yX10_above (.code yX10_above cX10_above 2 (some .int) :: wA) ({ frames := 2, cells := 0, slots := 0, locals := 43 }) (zP (dC, dI) [(cI, .int), (cJ, .long)] [.ref h0, .int p0] sz [(h0, .inr (10, [.ref tp, h0_courtReader, h0_lawReader, h0_draft, .ref aC, h0_laws, .ref g0, .ref k0, .ref ac, .ref sd, .ref mi, .ref dw, .ref rf, .int lc, .int lh, .int br, .int hi])), (aC, .inr (1, [.ref aR, .ref aB, .ref aP, .int nb, .int np])), (aB, .inl (cI, 24, .inl fb)), (g0, .inr (7, [.ref gY, .ref gF, .ref gP, .int gpn, .int glt, .int gsh, .int gwd, .int gpu, .int gmo])), (gP, .inl (cI, 80, .inl gfP))]) (va_Qi (fun (r : Int32) (u : Unit) => (r = gfP (4 * p0.toInt.toNat + 2) - fb (4 * (gfP (4 * p0.toInt.toNat)).toInt.toNat))) (fun (_ : Unit) (_ : State) => True) (va_A [] sz)) 0 0 (va_A [] sz) := by
  refine Met.ofW (cc := cX10_above) (maxL := 2) (ret := (some .int)) (by decide) rfl ?_
  intro p e s m args below meth c s₁ B hml hv
  have y_gpn : zHid (0 ≤ gpn.toInt ∧ gpn.toInt ≤ 20) := n_gpn
  have y_gwd : zHid ((-1) ≤ gwd.toInt ∧ gwd.toInt ≤ 5) := n_gwd
  have y_hi : zHid (0 ≤ hi.toInt ∧ hi.toInt ≤ 1) := n_hi
  have y_lc : zHid (0 ≤ lc.toInt ∧ lc.toInt ≤ 4) := n_lc
  have y_nb : zHid (0 ≤ nb.toInt ∧ nb.toInt ≤ 6) := n_nb
  have y_np : zHid (0 ≤ np.toInt ∧ np.toInt ≤ 5) := n_np
  clear n_gpn n_gwd n_hi n_lc n_nb n_np
  obtain ⟨hargs, hsz, hP, hK, hT⟩ := hv
  have hx := B.exec
  have hb := B.bytes
  have hr := B.returns
  have hts : ∀ w ∈ wA, w.before args s = true := fun w h => atoms_spec (ws := .code yX10_above cX10_above 2 (some .int) :: wA) B.pre w (List.mem_cons_of_mem _ h)
  have hown : s.vm.findClass RX10 = some m.cls := findClass_of_methodNamed B.named
  have hlocks := B.notSynchronized
  subst hsz
  have hD : va_D (va_A [] s.heap.size) [] := zD0
  generalize hAe : va_A [] s.heap.size = A at hD ⊢
  have hA : ∀ q : Nat, s.heap.size ≤ q → A q := fun q h => by rw [← hAe]; exact Or.inr h
  have hl := lv_entry ([.ref h0, .int p0]) (n := 2) (Nat.le_of_ble_eq_true rfl)
  rw [show entryFrame m args 2 = entryFrame m ([.ref h0, .int p0] : List Value).toArray 2 by rw [hargs], lg_entry_eq]
  generalize (lg_sl ([.ref h0, .int p0]) ++ List.replicate (2 - (lg_sl ([.ref h0, .int p0])).length) Slot.unset).toArray = ls at hl ⊢
  have hl : lv_has ls 2 [(0, .ref h0), (1, .int p0)] := hl
  refine zstart (fun H hH => ?_)
  rw [← hH] at hP
  have hS : va_S A s.heap H [] := by rw [hH]; exact va_S.rf
  generalize ([] : List Loc) = locs at hS ⊢
  refine zgen (fun R Q hR hQ => ?_)
  refine lv_aload_n hx hb dX10_above_0 rfl (lv_at hl 0 rfl) ?_
  refine va_get (D := (dC, dI)) (ci := 10) (v := .ref g0) (C := RX10) (T := TX10) (N := 17) hx hb hts iX10 hown hK hP 0 rfl rfl 6 (by decide) (hts _ qw362) (fun _ h9 => h9) rfl dX10_above_1 ?_
  refine lv_iload_n hx hb dX10_above_4 rfl (lv_at hl 1 rfl) ?_
  refine lv_iconst (v := 2) hx hb dX10_above_5 (by decide) ?_
  obtain ⟨hPc, hDc⟩ := zc2 (wc := [(g0, .inr (7, [.ref gY, .ref gF, .ref gP, .int gpn, .int glt, .int gsh, .int gwd, .int gpu, .int gmo])), (gP, .inl (cI, 80, .inl gfP))]) hP hT [3, 4] (by decide +kernel) rfl
  have hFc := zfr hS hA
  refine va_calli (va_runV (As := [.int p0, .int 2]) (rest := []) ⟨hx, hb, hml, hown, hts⟩ (g_X7_ofPortrait_2 l dC dI cI cJ g0 p0 gY gF gP gpn glt gsh gwd gpu gmo gfP H.size n_p0 ci_gfP_zPo) (cwV 2 hts (zgV qw814 qw653 qw654 qw103 qw655) rfl rfl rfl hd_X7_ofPortrait ⟨by rw [hR]; exact Nat.le_of_ble_eq_true rfl, by rw [hR]; exact Nat.le_of_ble_eq_true rfl⟩) (zPV hPc hK hDc (va_recv (q := (RX7, TX7, 9)) hK hP (ci := 7) (q0 := 3) rfl rfl)) rfl rfl hl.1 rfl (lv_room (Nat.le_of_ble_eq_true rfl)) dX10_above_6 ⟨Nat.zero_le _, Nat.zero_le _⟩) hS (fun q _ h => hFc q h) hFc (fun v6 u6 t H locs ht hvm hw hB hz1 hk1 hS9 => ?_)
  replace hP := zkeep hP hk1
  replace hS := hS9
  clear hPc hDc hFc hk1 hz1 hvm hS9
  obtain ⟨f6_0, f6_1, f6_2⟩ : (0 ≤ v6.toInt) ∧ (v6.toInt ≤ 9) ∧ (v6 = gfP (4 * p0.toInt.toNat + 2)) := hw
  have F6 := f6_2
  refine lv_aload_n hx hb dX10_above_9 rfl (lv_at hl 0 rfl) ?_
  refine va_get (D := (dC, dI)) (ci := 10) (v := .ref aC) (C := RX10) (T := TX10) (N := 17) hx hb hts iX10 hown hK hP 0 rfl rfl 4 (by decide) (hts _ qw360) (fun _ h9 => h9) rfl dX10_above_10 ?_
  refine lv_aload_n hx hb dX10_above_13 rfl (lv_at hl 0 rfl) ?_
  refine va_get (D := (dC, dI)) (ci := 10) (v := .ref g0) (C := RX10) (T := TX10) (N := 17) hx hb hts iX10 hown hK hP 0 rfl rfl 6 (by decide) (hts _ qw362) (fun _ h9 => h9) rfl dX10_above_14 ?_
  refine lv_iload_n hx hb dX10_above_17 rfl (lv_at hl 1 rfl) ?_
  refine lv_iconst (v := 0) hx hb dX10_above_18 (by decide) ?_
  obtain ⟨hPc, hDc⟩ := zc2 (wc := [(g0, .inr (7, [.ref gY, .ref gF, .ref gP, .int gpn, .int glt, .int gsh, .int gwd, .int gpu, .int gmo])), (gP, .inl (cI, 80, .inl gfP))]) hP hT [3, 4] (by decide +kernel) rfl
  have hFc := zfr hS hA
  refine va_calli (va_runV (As := [.int p0, .int 0]) (rest := [.ref aC, .int v6]) ⟨hx, hb, hml, hown, hts⟩ (g_X7_ofPortrait_0 l dC dI cI cJ g0 p0 gY gF gP gpn glt gsh gwd gpu gmo gfP H.size n_p0 ci_gfP_zPo) (cwV 2 hts (zgV qw814 qw653 qw654 qw103 qw655) rfl rfl rfl hd_X7_ofPortrait ⟨by rw [hR]; exact Nat.le_of_ble_eq_true rfl, by rw [hR]; exact Nat.le_of_ble_eq_true rfl⟩) (zPV hPc hK hDc (va_recv (q := (RX7, TX7, 9)) hK hP (ci := 7) (q0 := 3) rfl rfl)) rfl rfl hl.1 rfl (lv_room (Nat.le_of_ble_eq_true rfl)) dX10_above_19 ⟨Nat.zero_le _, Nat.zero_le _⟩) hS (fun q _ h => hFc q h) hFc (fun v19 u19 t H locs ht hvm hw hB hz1 hk1 hS9 => ?_)
  replace hP := zkeep hP hk1
  replace hS := hS9
  clear hPc hDc hFc hk1 hz1 hvm hS9
  obtain ⟨f19_0, f19_1, f19_2⟩ : (0 ≤ v19.toInt) ∧ (v19.toInt ≤ 5) ∧ (v19 = gfP (4 * p0.toInt.toNat)) := hw
  have F19 := f19_2
  obtain ⟨hPc, hDc⟩ := zc2 (wc := [(aC, .inr (1, [.ref aR, .ref aB, .ref aP, .int nb, .int np])), (aB, .inl (cI, 24, .inl fb))]) hP hT [1, 2] (by decide +kernel) rfl
  have hFc := zfr hS hA
  refine va_calli (va_runV (As := [.int v19]) (rest := [.int v6]) ⟨hx, hb, hml, hown, hts⟩ (g_X1_faceOf l dC dI cI cJ aC v19 aR aB aP nb np fb H.size ⟨f19_0, f19_1⟩) (cwV 1 hts (zgV qw702 qw703 qw704 qw102 qw705) rfl rfl rfl hd_X1_faceOf ⟨by rw [hR]; exact Nat.le_of_ble_eq_true rfl, by rw [hR]; exact Nat.le_of_ble_eq_true rfl⟩) (zPV hPc hK hDc (va_recv (q := (RX1, TX1, 5)) hK hP (ci := 1) (q0 := 1) rfl rfl)) rfl rfl hl.1 rfl (lv_room (Nat.le_of_ble_eq_true rfl)) dX10_above_22 ⟨Nat.zero_le _, Nat.zero_le _⟩) hS (fun q _ h => hFc q h) hFc (fun v22 u22 t H locs ht hvm hw hB hz1 hk1 hS9 => ?_)
  replace hP := zkeep hP hk1
  replace hS := hS9
  clear hPc hDc hFc hk1 hz1 hvm hS9
  have f22_0 : (v22 = fb (4 * v19.toInt.toNat)) := hw
  have F22 := f22_0
  refine lv_isub hx hb dX10_above_25 ?_
  refine lv_topi (fun v25 e25 => ?_)
  rw [hQ]
  exact W.iret (v := v25) hx hb hr (fun t ht hW => ⟨⟨v25, (), rfl, (by rw [e25, F6, F22, F19]), trivial⟩, hS.F ht⟩) hS.2.2 dX10_above_26
set_option maxHeartbeats 4000000 in
set_option maxRecDepth 100000 in
theorem g_X10_lies (l : Launch) (dC : Nat → ClassId) (dI : Nat → Nat → Nat) (cI cJ : ClassId) (h0 : Nat) (tp : Nat) (h0_courtReader : Value) (h0_lawReader : Value) (h0_draft : Value) (aC : Nat) (h0_laws : Value) (g0 : Nat) (k0 : Nat) (ac : Nat) (sd : Nat) (mi : Nat) (dw : Nat) (rf : Nat) (lc : Int32) (lh : Int32) (br : Int32) (hi : Int32) (aR : Nat) (aB : Nat) (aP : Nat) (nb : Int32) (np : Int32) (fb : Nat → Int32) (gY : Nat) (gF : Nat) (gP : Nat) (gpn : Int32) (glt : Int32) (gsh : Int32) (gwd : Int32) (gpu : Int32) (gmo : Int32) (gfP : Nat → Int32) (sz : Nat) (n_gpn : 0 ≤ gpn.toInt ∧ gpn.toInt ≤ 20) (n_gwd : (-1) ≤ gwd.toInt ∧ gwd.toInt ≤ 5) (n_hi : 0 ≤ hi.toInt ∧ hi.toInt ≤ 1) (n_lc : 0 ≤ lc.toInt ∧ lc.toInt ≤ 4) (n_nb : 0 ≤ nb.toInt ∧ nb.toInt ≤ 6) (n_np : 0 ≤ np.toInt ∧ np.toInt ≤ 5)  (ci_gfP_zPo : zPo gfP)  : Met l yX10_lies (.code yX10_lies cX10_lies 3 (some .int) :: wA) ({ frames := 3, cells := 0, slots := 0, locals := 64 }) (zP (dC, dI) [(cI, .int), (cJ, .long)] [.ref h0] sz [(h0, .inr (10, [.ref tp, h0_courtReader, h0_lawReader, h0_draft, .ref aC, h0_laws, .ref g0, .ref k0, .ref ac, .ref sd, .ref mi, .ref dw, .ref rf, .int lc, .int lh, .int br, .int hi])), (aC, .inr (1, [.ref aR, .ref aB, .ref aP, .int nb, .int np])), (aB, .inl (cI, 24, .inl fb)), (g0, .inr (7, [.ref gY, .ref gF, .ref gP, .int gpn, .int glt, .int gsh, .int gwd, .int gpu, .int gmo])), (gP, .inl (cI, 80, .inl gfP))]) (va_Qi (fun (r : Int32) (u : Unit) => (r = zLie fb gfP gpn.toInt.toNat)) (fun (_ : Unit) (_ : State) => True) (va_A [] sz)) 0 0 (va_A [] sz) := by
  refine Met.ofW (cc := cX10_lies) (maxL := 3) (ret := (some .int)) (by decide) rfl ?_
  intro p e s m args below meth c s₁ B hml hv
  have y_gwd : zHid ((-1) ≤ gwd.toInt ∧ gwd.toInt ≤ 5) := n_gwd
  have y_hi : zHid (0 ≤ hi.toInt ∧ hi.toInt ≤ 1) := n_hi
  have y_lc : zHid (0 ≤ lc.toInt ∧ lc.toInt ≤ 4) := n_lc
  have y_nb : zHid (0 ≤ nb.toInt ∧ nb.toInt ≤ 6) := n_nb
  have y_np : zHid (0 ≤ np.toInt ∧ np.toInt ≤ 5) := n_np
  clear n_gwd n_hi n_lc n_nb n_np
  obtain ⟨hargs, hsz, hP, hK, hT⟩ := hv
  have hx := B.exec
  have hb := B.bytes
  have hr := B.returns
  have hts : ∀ w ∈ wA, w.before args s = true := fun w h => atoms_spec (ws := .code yX10_lies cX10_lies 3 (some .int) :: wA) B.pre w (List.mem_cons_of_mem _ h)
  have hown : s.vm.findClass RX10 = some m.cls := findClass_of_methodNamed B.named
  have hlocks := B.notSynchronized
  subst hsz
  have hD : va_D (va_A [] s.heap.size) [] := zD0
  generalize hAe : va_A [] s.heap.size = A at hD ⊢
  have hA : ∀ q : Nat, s.heap.size ≤ q → A q := fun q h => by rw [← hAe]; exact Or.inr h
  have hl := lv_entry ([.ref h0]) (n := 3) (Nat.le_of_ble_eq_true rfl)
  rw [show entryFrame m args 3 = entryFrame m ([.ref h0] : List Value).toArray 3 by rw [hargs], lg_entry_eq]
  generalize (lg_sl ([.ref h0]) ++ List.replicate (3 - (lg_sl ([.ref h0])).length) Slot.unset).toArray = ls at hl ⊢
  have hl : lv_has ls 3 [(0, .ref h0)] := hl
  refine zstart (fun H hH => ?_)
  rw [← hH] at hP
  have hS : va_S A s.heap H [] := by rw [hH]; exact va_S.rf
  generalize ([] : List Loc) = locs at hS ⊢
  refine zgen (fun R Q hR hQ => ?_)
  refine lv_iconst (v := 0) hx hb dX10_lies_0 (by decide) ?_
  refine lv_istore_n (lv' := [(1, .int 0), (0, .ref h0)]) hx hb dX10_lies_1 rfl hl (by decide) rfl (fun ls hl => ?_)
  refine lv_iconst (v := 0) hx hb dX10_lies_2 (by decide) ?_
  have J4 : ∀ (n : Nat) (m4_L_1 : Int32) (m4_L_2 : Int32), (0 ≤ m4_L_2.toInt ∧ m4_L_2.toInt ≤ 20) → (m4_L_2.toInt ≤ gpn.toInt) → (m4_L_1 = zLie fb gfP m4_L_2.toInt.toNat) → (21 - m4_L_2.toInt).toNat = n → ∀ (H : Heap) (locs : List Loc) (ls : Array Slot), va_P (dC, dI) vwCl [(h0, .inr (10, [.ref tp, h0_courtReader, h0_lawReader, h0_draft, .ref aC, h0_laws, .ref g0, .ref k0, .ref ac, .ref sd, .ref mi, .ref dw, .ref rf, .int lc, .int lh, .int br, .int hi])), (aC, .inr (1, [.ref aR, .ref aB, .ref aP, .int nb, .int np])), (aB, .inl (cI, 24, .inl fb)), (g0, .inr (7, [.ref gY, .ref gF, .ref gP, .int gpn, .int glt, .int gsh, .int gwd, .int gpu, .int gmo])), (gP, .inl (cI, 80, .inl gfP))] H → va_S A s.heap H locs → lv_has ls 3 [(2, .int m4_L_2), (1, .int m4_L_1), (0, .ref h0)] → W p l e R s m args below meth c H locs 0 0 Q (F0 m 4 ls []) := by
    intro n4
    induction n4 using Nat.strongRecOn with
    | _ n4 ih4 =>
      intro m4_L_1 m4_L_2 jf4_0 jf4_1 jv4_0 hmu4 H locs ls hP hS hl
      refine lv_iload_n hx hb dX10_lies_4 rfl (lv_at hl 0 rfl) ?_
      refine lv_aload_n hx hb dX10_lies_5 rfl (lv_at hl 2 rfl) ?_
      refine va_get (D := (dC, dI)) (ci := 10) (v := .ref g0) (C := RX10) (T := TX10) (N := 17) hx hb hts iX10 hown hK hP 0 rfl rfl 6 (by decide) (hts _ qw362) (fun _ h9 => h9) rfl dX10_lies_6 ?_
      refine va_get (D := (dC, dI)) (ci := 7) (v := .int gpn) (C := RX7) (T := TX7) (N := 9) hx hb hts iX7 hown hK hP 3 rfl rfl 3 (by decide) (hts _ qw229) (fun _ h9 => h9) rfl dX10_lies_9 ?_
      refine lv_icmp_ge (tgt := 32) hx hb dX10_lies_12 (by decide) (fun c12 => ?_) (fun c12 => ?_)
      · have c12 : gpn.toInt ≤ m4_L_2.toInt := z3 rfl rfl c12
        refine lv_iload_n hx hb dX10_lies_32 rfl (lv_at hl 1 rfl) ?_
        rw [hQ]
        exact W.iret (v := m4_L_1) hx hb hr (fun t ht hW => ⟨⟨m4_L_1, (), rfl, (jv4_0.trans (by rw [show m4_L_2.toInt.toNat = gpn.toInt.toNat by omega])), trivial⟩, hS.F ht⟩) hS.2.2 dX10_lies_33
      · have c12 : m4_L_2.toInt < gpn.toInt := z4 rfl rfl c12
        refine lv_iload_n hx hb dX10_lies_15 rfl (lv_at hl 1 rfl) ?_
        refine lv_aload_n hx hb dX10_lies_16 rfl (lv_at hl 2 rfl) ?_
        refine lv_iload_n hx hb dX10_lies_17 rfl (lv_at hl 0 rfl) ?_
        obtain ⟨hPc, hDc⟩ := zc2 (wc := [(h0, .inr (10, [.ref tp, h0_courtReader, h0_lawReader, h0_draft, .ref aC, h0_laws, .ref g0, .ref k0, .ref ac, .ref sd, .ref mi, .ref dw, .ref rf, .int lc, .int lh, .int br, .int hi])), (aC, .inr (1, [.ref aR, .ref aB, .ref aP, .int nb, .int np])), (aB, .inl (cI, 24, .inl fb)), (g0, .inr (7, [.ref gY, .ref gF, .ref gP, .int gpn, .int glt, .int gsh, .int gwd, .int gpu, .int gmo])), (gP, .inl (cI, 80, .inl gfP))]) hP hT [0, 1, 2, 3, 4] (by decide +kernel) rfl
        have hFc := zfr hS hA
        refine va_calli (va_runV (As := [.int m4_L_2]) (rest := [.int m4_L_1]) ⟨hx, hb, hml, hown, hts⟩ (g_X10_above l dC dI cI cJ h0 m4_L_2 tp h0_courtReader h0_lawReader h0_draft aC h0_laws g0 k0 ac sd mi dw rf lc lh br hi aR aB aP nb np fb gY gF gP gpn glt gsh gwd gpu gmo gfP H.size n_gpn y_gwd y_hi y_lc y_nb y_np (by omega) ci_gfP_zPo) (cwV 1 hts (zgV qw1008 qw1010 qw29 qw98 qw1011) rfl rfl rfl hd_X10_above ⟨by rw [hR]; exact Nat.le_of_ble_eq_true rfl, by rw [hR]; exact Nat.le_of_ble_eq_true rfl⟩) (zPV hPc hK hDc (va_recv (q := (RX10, TX10, 17)) hK hP (ci := 10) (q0 := 0) rfl rfl)) rfl rfl hl.1 rfl (lv_room (Nat.le_of_ble_eq_true rfl)) dX10_lies_18 ⟨Nat.zero_le _, Nat.zero_le _⟩) hS (fun q _ h => hFc q h) hFc (fun v18 u18 t H locs ht hvm hw hB hz1 hk1 hS9 => ?_)
        replace hP := zkeep hP hk1
        replace hS := hS9
        clear hPc hDc hFc hk1 hz1 hvm hS9
        have f18_0 : (v18 = gfP (4 * m4_L_2.toInt.toNat + 2) - fb (4 * (gfP (4 * m4_L_2.toInt.toNat)).toInt.toNat)) := hw
        have F18 := f18_0
        refine va_mabs hx hb (by rw [hml]; exact hl.1.symm) hown (hts _ qw1012) (hts _ qw846) (hts _ qw112) (hts _ qw847) (by rw [hR]; exact Nat.le_of_ble_eq_true rfl) (by rw [hR]; exact Nat.le_of_ble_eq_true rfl) (Nat.zero_le _) (Nat.zero_le _) dX10_lies_21 ?_
        refine lv_topi (fun v21 e21 => ?_)
        refine lv_iadd hx hb dX10_lies_24 ?_
        refine lv_topi (fun v24 e24 => ?_)
        refine lv_istore_n (lv' := [(1, .int v24), (2, .int m4_L_2), (0, .ref h0)]) hx hb dX10_lies_25 rfl hl (by decide) rfl (fun ls hl => ?_)
        obtain ⟨v26, e26⟩ : ∃ y : Int32, y = m4_L_2 + Int32.ofInt (1) := ⟨_, rfl⟩
        refine lv_iinc (v := v26) (lv' := [(2, .int v26), (1, .int v24), (0, .ref h0)]) hx hb dX10_lies_26 hl (k := 1) rfl e26.symm (by decide) rfl (fun ls hl => ?_)
        have i26 : v26.toInt = m4_L_2.toInt + 1 := zaddI e26 (by decide) (by omega) (by omega)
        refine lv_goto (tgt := 4) hx hb dX10_lies_29 (by decide) ?_
        exact ih4 _ (by omega) v24 v26 (by omega) (by omega) (zLieS jv4_0 (by omega) i26 F18 e21 e24) rfl H locs ls hP hS (lv_sub hl [0, 1, 2] rfl)
  refine lv_istore_n (lv' := [(2, .int 0), (1, .int 0), (0, .ref h0)]) hx hb dX10_lies_3 rfl hl (by decide) rfl (fun ls hl => ?_)
  have zj4_m4_L_1 : (0 : Int32).toInt = 0 := by decide
  have zj4_m4_L_2 : (0 : Int32).toInt = 0 := by decide
  exact J4 _ 0 0 (by decide) (by omega) (rfl) rfl H locs ls hP hS (lv_sub hl [0, 1, 2] rfl)
set_option maxHeartbeats 4000000 in
set_option maxRecDepth 100000 in
theorem g_X10_told (l : Launch) (dC : Nat → ClassId) (dI : Nat → Nat → Nat) (cI cJ : ClassId) (h0 : Nat) (p0 : Int32) (tp : Nat) (h0_courtReader : Value) (h0_lawReader : Value) (h0_draft : Value) (aC : Nat) (h0_laws : Value) (g0 : Nat) (k0 : Nat) (ac : Nat) (sd : Nat) (mi : Nat) (dw : Nat) (rf : Nat) (lc : Int32) (lh : Int32) (br : Int32) (hi : Int32) (aR : Nat) (aB : Nat) (aP : Nat) (nb : Int32) (np : Int32) (fb : Nat → Int32) (gY : Nat) (gF : Nat) (gP : Nat) (gpn : Int32) (glt : Int32) (gsh : Int32) (gwd : Int32) (gpu : Int32) (gmo : Int32) (gfP : Nat → Int32) (sz : Nat) (n_gpn : 0 ≤ gpn.toInt ∧ gpn.toInt ≤ 20) (n_gwd : (-1) ≤ gwd.toInt ∧ gwd.toInt ≤ 5) (n_hi : 0 ≤ hi.toInt ∧ hi.toInt ≤ 1) (n_lc : 0 ≤ lc.toInt ∧ lc.toInt ≤ 4) (n_nb : 0 ≤ nb.toInt ∧ nb.toInt ≤ 6) (n_np : 0 ≤ np.toInt ∧ np.toInt ≤ 5)  (ci_gfP_zPo : zPo gfP)  : Met l yX10_told (.code yX10_told cX10_told 4 (some .int) :: wA) ({ frames := 3, cells := 0, slots := 0, locals := 64 }) (zP (dC, dI) [(cI, .int), (cJ, .long)] [.ref h0, .int p0] sz [(h0, .inr (10, [.ref tp, h0_courtReader, h0_lawReader, h0_draft, .ref aC, h0_laws, .ref g0, .ref k0, .ref ac, .ref sd, .ref mi, .ref dw, .ref rf, .int lc, .int lh, .int br, .int hi])), (aC, .inr (1, [.ref aR, .ref aB, .ref aP, .int nb, .int np])), (aB, .inl (cI, 24, .inl fb)), (g0, .inr (7, [.ref gY, .ref gF, .ref gP, .int gpn, .int glt, .int gsh, .int gwd, .int gpu, .int gmo])), (gP, .inl (cI, 80, .inl gfP))]) (va_Qi (fun (r : Int32) (u : Unit) => (∀ (kc : zK3) (kT : zT) (q_fr : Nat → Int32) (q_fp : Nat → Int32) (q_gfY : Nat → Int32) (q_gfF : Nat → Int32) (q_fR : Nat → Int32) (q_pl : Int32) (q_cn : Int32) (q_frf : Nat → Int32), zCn q_fr fb q_fp nb.toInt np.toInt kc → zKo nb.toInt np.toInt kc kT → zTc nb.toInt np.toInt kT q_gfY q_gfF gfP gpn glt gsh gwd gpu gmo q_fR q_pl q_cn q_frf → r = sV_tol np.toInt kc kT.1 p0)) (fun (_ : Unit) (_ : State) => True) (va_A [] sz)) 0 0 (va_A [] sz) := by
  refine Met.ofW (cc := cX10_told) (maxL := 4) (ret := (some .int)) (by decide) rfl ?_
  intro p e s m args below meth c s₁ B hml hv
  have y_gwd : zHid ((-1) ≤ gwd.toInt ∧ gwd.toInt ≤ 5) := n_gwd
  have y_hi : zHid (0 ≤ hi.toInt ∧ hi.toInt ≤ 1) := n_hi
  have y_lc : zHid (0 ≤ lc.toInt ∧ lc.toInt ≤ 4) := n_lc
  clear n_gwd n_hi n_lc
  obtain ⟨hargs, hsz, hP, hK, hT⟩ := hv
  have hx := B.exec
  have hb := B.bytes
  have hr := B.returns
  have hts : ∀ w ∈ wA, w.before args s = true := fun w h => atoms_spec (ws := .code yX10_told cX10_told 4 (some .int) :: wA) B.pre w (List.mem_cons_of_mem _ h)
  have hown : s.vm.findClass RX10 = some m.cls := findClass_of_methodNamed B.named
  have hlocks := B.notSynchronized
  subst hsz
  have hD : va_D (va_A [] s.heap.size) [] := zD0
  generalize hAe : va_A [] s.heap.size = A at hD ⊢
  have hA : ∀ q : Nat, s.heap.size ≤ q → A q := fun q h => by rw [← hAe]; exact Or.inr h
  have hl := lv_entry ([.ref h0, .int p0]) (n := 4) (Nat.le_of_ble_eq_true rfl)
  rw [show entryFrame m args 4 = entryFrame m ([.ref h0, .int p0] : List Value).toArray 4 by rw [hargs], lg_entry_eq]
  generalize (lg_sl ([.ref h0, .int p0]) ++ List.replicate (4 - (lg_sl ([.ref h0, .int p0])).length) Slot.unset).toArray = ls at hl ⊢
  have hl : lv_has ls 4 [(0, .ref h0), (1, .int p0)] := hl
  refine zstart (fun H hH => ?_)
  rw [← hH] at hP
  have hS : va_S A s.heap H [] := by rw [hH]; exact va_S.rf
  generalize ([] : List Loc) = locs at hS ⊢
  refine zgen (fun R Q hR hQ => ?_)
  refine lv_aload_n hx hb dX10_told_0 rfl (lv_at hl 0 rfl) ?_
  refine lv_iload_n hx hb dX10_told_1 rfl (lv_at hl 1 rfl) ?_
  obtain ⟨hPc, hDc⟩ := zc2 (wc := [(h0, .inr (10, [.ref tp, h0_courtReader, h0_lawReader, h0_draft, .ref aC, h0_laws, .ref g0, .ref k0, .ref ac, .ref sd, .ref mi, .ref dw, .ref rf, .int lc, .int lh, .int br, .int hi])), (aC, .inr (1, [.ref aR, .ref aB, .ref aP, .int nb, .int np]))]) hP hT [0, 1] (by decide +kernel) rfl
  have hFc := zfr hS hA
  refine va_calli (va_runV (As := [.int p0]) (rest := []) ⟨hx, hb, hml, hown, hts⟩ (g_X10_isPainter l dC dI cI cJ h0 p0 (.ref tp) h0_courtReader h0_lawReader h0_draft aC h0_laws (.ref g0) (.ref k0) (.ref ac) (.ref sd) (.ref mi) (.ref dw) (.ref rf) (.int lc) (.int lh) (.int br) (.int hi) aR aB aP nb np H.size n_np) (cwV 1 hts (zgV qw600 qw602 qw11 qw98 qw603) rfl rfl rfl hd_X10_isPainter ⟨by rw [hR]; exact Nat.le_of_ble_eq_true rfl, by rw [hR]; exact Nat.le_of_ble_eq_true rfl⟩) (zPV hPc hK hDc (va_recv (q := (RX10, TX10, 17)) hK hP (ci := 10) (q0 := 0) rfl rfl)) rfl rfl hl.1 rfl (lv_room (Nat.le_of_ble_eq_true rfl)) dX10_told_2 ⟨Nat.zero_le _, Nat.zero_le _⟩) hS (fun q _ h => hFc q h) hFc (fun v2 u2 t H locs ht hvm hw hB hz1 hk1 hS9 => ?_)
  replace hP := zkeep hP hk1
  replace hS := hS9
  clear hPc hDc hFc hk1 hz1 hvm hS9
  obtain ⟨f2_0, f2_1, f2_2, f2_3⟩ : (0 ≤ v2.toInt) ∧ (v2.toInt ≤ 1) ∧ (¬ v2.toInt = 0 → (0 ≤ p0.toInt ∧ p0.toInt < np.toInt)) ∧ (v2.toInt = 0 → ¬ (0 ≤ p0.toInt ∧ p0.toInt < np.toInt)) := hw
  refine lv_if_eq (tgt := 20) hx hb dX10_told_5 (by decide) (fun c5 => ?_) (fun c5 => ?_)
  · have c5 : v2.toInt = 0 := z5 rfl (by decide) c5
    refine lv_ldcw (v := (-1000000)) hx hb hown (hts _ qw935) dX10_told_20 ?_
    have zr0 : ((-1000000) : Int32).toInt = (-1000000) := by decide
    rw [hQ]
    exact W.iret (v := ((-1000000))) hx hb hr (fun t ht hW => ⟨⟨(-1000000), (), rfl, (fun kc kT q_fr q_fp q_gfY q_gfF q_fR q_pl q_cn q_frf hc hb h => by unfold sV_tol; rw [if_neg (by omega)]; ), trivial⟩, hS.F ht⟩) hS.2.2 dX10_told_23
  · have c5 : ¬ v2.toInt = 0 := z6 rfl (by decide) c5
    refine lv_aload_n hx hb dX10_told_8 rfl (lv_at hl 0 rfl) ?_
    refine va_get (D := (dC, dI)) (ci := 10) (v := .ref g0) (C := RX10) (T := TX10) (N := 17) hx hb hts iX10 hown hK hP 0 rfl rfl 6 (by decide) (hts _ qw362) (fun _ h9 => h9) rfl dX10_told_9 ?_
    refine lv_iload_n hx hb dX10_told_12 rfl (lv_at hl 1 rfl) ?_
    obtain ⟨hPc, hDc⟩ := zc2 (wc := [(g0, .inr (7, [.ref gY, .ref gF, .ref gP, .int gpn, .int glt, .int gsh, .int gwd, .int gpu, .int gmo])), (gP, .inl (cI, 80, .inl gfP))]) hP hT [3, 4] (by decide +kernel) rfl
    have hFc := zfr hS hA
    refine va_calli (va_runV (As := [.int p0]) (rest := []) ⟨hx, hb, hml, hown, hts⟩ (g_X7_latestBy l dC dI cI cJ g0 p0 gY gF gP gpn glt gsh gwd gpu gmo gfP H.size n_gpn ci_gfP_zPo) (cwV 1 hts (zgV qw1034 qw649 qw650 qw103 qw651) rfl rfl rfl hd_X7_latestBy ⟨by rw [hR]; exact Nat.le_of_ble_eq_true rfl, by rw [hR]; exact Nat.le_of_ble_eq_true rfl⟩) (zPV hPc hK hDc (va_recv (q := (RX7, TX7, 9)) hK hP (ci := 7) (q0 := 3) rfl rfl)) rfl rfl hl.1 rfl (lv_room (Nat.le_of_ble_eq_true rfl)) dX10_told_13 ⟨Nat.zero_le _, Nat.zero_le _⟩) hS (fun q _ h => hFc q h) hFc (fun v13 u13 t H locs ht hvm hw hB hz1 hk1 hS9 => ?_)
    replace hP := zkeep hP hk1
    replace hS := hS9
    clear hPc hDc hFc hk1 hz1 hvm hS9
    obtain ⟨f13_0, f13_1, f13_2⟩ : ((-1) ≤ v13.toInt) ∧ (v13.toInt ≤ 19) ∧ (zLaI gfP p0 gpn v13) := hw
    have F13 := f13_2
    refine lv_iconst (v := (-1)) hx hb dX10_told_16 (by decide) ?_
    refine lv_icmp_ne (tgt := 24) hx hb dX10_told_17 (by decide) (fun c17 => ?_) (fun c17 => ?_)
    · have c17 : ¬ v13.toInt = (-1) := z6 rfl (by decide) c17
      refine lv_iconst (v := 0) hx hb dX10_told_24 (by decide) ?_
      refine lv_istore_n (lv' := [(2, .int 0), (0, .ref h0), (1, .int p0)]) hx hb dX10_told_25 rfl hl (by decide) rfl (fun ls hl => ?_)
      refine lv_iconst (v := 0) hx hb dX10_told_26 (by decide) ?_
      have J28 : ∀ (n : Nat) (m28_L_2 : Int32) (m28_L_3 : Int32), (0 ≤ m28_L_3.toInt ∧ m28_L_3.toInt ≤ 20) → (m28_L_2 = zTld fb gfP p0 m28_L_3.toInt.toNat) → (m28_L_3.toInt ≤ gpn.toInt) → (21 - m28_L_3.toInt).toNat = n → ∀ (H : Heap) (locs : List Loc) (ls : Array Slot), va_P (dC, dI) vwCl [(h0, .inr (10, [.ref tp, h0_courtReader, h0_lawReader, h0_draft, .ref aC, h0_laws, .ref g0, .ref k0, .ref ac, .ref sd, .ref mi, .ref dw, .ref rf, .int lc, .int lh, .int br, .int hi])), (aC, .inr (1, [.ref aR, .ref aB, .ref aP, .int nb, .int np])), (aB, .inl (cI, 24, .inl fb)), (g0, .inr (7, [.ref gY, .ref gF, .ref gP, .int gpn, .int glt, .int gsh, .int gwd, .int gpu, .int gmo])), (gP, .inl (cI, 80, .inl gfP))] H → va_S A s.heap H locs → lv_has ls 4 [(3, .int m28_L_3), (2, .int m28_L_2), (0, .ref h0), (1, .int p0)] → W p l e R s m args below meth c H locs 0 0 Q (F0 m 28 ls []) := by
        intro n28
        induction n28 using Nat.strongRecOn with
        | _ n28 ih28 =>
          intro m28_L_2 m28_L_3 jf28_0 jv28_0 jf28_2 hmu28 H locs ls hP hS hl
          refine lv_iload_n hx hb dX10_told_28 rfl (lv_at hl 0 rfl) ?_
          refine lv_aload_n hx hb dX10_told_29 rfl (lv_at hl 2 rfl) ?_
          refine va_get (D := (dC, dI)) (ci := 10) (v := .ref g0) (C := RX10) (T := TX10) (N := 17) hx hb hts iX10 hown hK hP 0 rfl rfl 6 (by decide) (hts _ qw362) (fun _ h9 => h9) rfl dX10_told_30 ?_
          refine va_get (D := (dC, dI)) (ci := 7) (v := .int gpn) (C := RX7) (T := TX7) (N := 9) hx hb hts iX7 hown hK hP 3 rfl rfl 3 (by decide) (hts _ qw229) (fun _ h9 => h9) rfl dX10_told_33 ?_
          refine lv_icmp_ge (tgt := 66) hx hb dX10_told_36 (by decide) (fun c36 => ?_) (fun c36 => ?_)
          · have c36 : gpn.toInt ≤ m28_L_3.toInt := z3 rfl rfl c36
            refine lv_iload_n hx hb dX10_told_66 rfl (lv_at hl 1 rfl) ?_
            rw [hQ]
            exact W.iret (v := m28_L_2) hx hb hr (fun t ht hW => ⟨⟨m28_L_2, (), rfl, (fun kc kT q_fr q_fp q_gfY q_gfF q_fR q_pl q_cn q_frf hc hb h => by have zl := zTl_lat hb.2.2.2.1 (zSc_pn h.1) (zSc_P h.1) F13; unfold sV_tol; rw [if_pos ⟨by omega, fun y => absurd (zl.mp y) (by omega)⟩, ← zTld_s hc hb.2.2.2.1 (zSc_pn h.1) (zSc_P h.1)]; exact jv28_0.trans (by rw [show m28_L_3.toInt.toNat = gpn.toInt.toNat by omega])), trivial⟩, hS.F ht⟩) hS.2.2 dX10_told_67
          · have c36 : m28_L_3.toInt < gpn.toInt := z4 rfl rfl c36
            refine lv_aload_n hx hb dX10_told_39 rfl (lv_at hl 2 rfl) ?_
            refine va_get (D := (dC, dI)) (ci := 10) (v := .ref g0) (C := RX10) (T := TX10) (N := 17) hx hb hts iX10 hown hK hP 0 rfl rfl 6 (by decide) (hts _ qw362) (fun _ h9 => h9) rfl dX10_told_40 ?_
            refine lv_iload_n hx hb dX10_told_43 rfl (lv_at hl 0 rfl) ?_
            refine lv_iconst (v := 1) hx hb dX10_told_44 (by decide) ?_
            obtain ⟨hPc, hDc⟩ := zc2 (wc := [(g0, .inr (7, [.ref gY, .ref gF, .ref gP, .int gpn, .int glt, .int gsh, .int gwd, .int gpu, .int gmo])), (gP, .inl (cI, 80, .inl gfP))]) hP hT [3, 4] (by decide +kernel) rfl
            have hFc := zfr hS hA
            refine va_calli (va_runV (As := [.int m28_L_3, .int 1]) (rest := []) ⟨hx, hb, hml, hown, hts⟩ (g_X7_ofPortrait_1 l dC dI cI cJ g0 m28_L_3 gY gF gP gpn glt gsh gwd gpu gmo gfP H.size (by omega) ci_gfP_zPo) (cwV 2 hts (zgV qw814 qw653 qw654 qw103 qw655) rfl rfl rfl hd_X7_ofPortrait ⟨by rw [hR]; exact Nat.le_of_ble_eq_true rfl, by rw [hR]; exact Nat.le_of_ble_eq_true rfl⟩) (zPV hPc hK hDc (va_recv (q := (RX7, TX7, 9)) hK hP (ci := 7) (q0 := 3) rfl rfl)) rfl rfl hl.1 rfl (lv_room (Nat.le_of_ble_eq_true rfl)) dX10_told_45 ⟨Nat.zero_le _, Nat.zero_le _⟩) hS (fun q _ h => hFc q h) hFc (fun v45 u45 t H locs ht hvm hw hB hz1 hk1 hS9 => ?_)
            replace hP := zkeep hP hk1
            replace hS := hS9
            clear hPc hDc hFc hk1 hz1 hvm hS9
            obtain ⟨f45_0, f45_1, f45_2⟩ : (0 ≤ v45.toInt) ∧ (v45.toInt ≤ 4) ∧ (v45 = gfP (4 * m28_L_3.toInt.toNat + 1)) := hw
            have F45 := f45_2
            refine lv_iload_n hx hb dX10_told_48 rfl (lv_at hl 3 rfl) ?_
            refine lv_icmp_ne (tgt := 60) hx hb dX10_told_49 (by decide) (fun c49 => ?_) (fun c49 => ?_)
            · have c49 : ¬ v45.toInt = p0.toInt := z6 rfl rfl c49
              obtain ⟨v60, e60⟩ : ∃ y : Int32, y = m28_L_3 + Int32.ofInt (1) := ⟨_, rfl⟩
              refine lv_iinc (v := v60) (lv' := [(3, .int v60), (2, .int m28_L_2), (0, .ref h0), (1, .int p0)]) hx hb dX10_told_60 hl (k := 0) rfl e60.symm (by decide) rfl (fun ls hl => ?_)
              have i60 : v60.toInt = m28_L_3.toInt + 1 := zaddI e60 (by decide) (by omega) (by omega)
              refine lv_goto (tgt := 28) hx hb dX10_told_63 (by decide) ?_
              exact ih28 _ (by omega) m28_L_2 v60 (by omega) (by first | exact zTldY jv28_0 (by omega) i60 F45 (by omega) F55 e58 | exact zTldN jv28_0 (by omega) i60 F45 (by omega)) (by omega) rfl H locs ls hP hS (lv_sub hl [0, 1, 2, 3] rfl)
            · have c49 : v45.toInt = p0.toInt := z5 rfl rfl c49
              refine lv_iload_n hx hb dX10_told_52 rfl (lv_at hl 1 rfl) ?_
              refine lv_aload_n hx hb dX10_told_53 rfl (lv_at hl 2 rfl) ?_
              refine lv_iload_n hx hb dX10_told_54 rfl (lv_at hl 0 rfl) ?_
              obtain ⟨hPc, hDc⟩ := zc2 (wc := [(h0, .inr (10, [.ref tp, h0_courtReader, h0_lawReader, h0_draft, .ref aC, h0_laws, .ref g0, .ref k0, .ref ac, .ref sd, .ref mi, .ref dw, .ref rf, .int lc, .int lh, .int br, .int hi])), (aC, .inr (1, [.ref aR, .ref aB, .ref aP, .int nb, .int np])), (aB, .inl (cI, 24, .inl fb)), (g0, .inr (7, [.ref gY, .ref gF, .ref gP, .int gpn, .int glt, .int gsh, .int gwd, .int gpu, .int gmo])), (gP, .inl (cI, 80, .inl gfP))]) hP hT [0, 1, 2, 3, 4] (by decide +kernel) rfl
              have hFc := zfr hS hA
              refine va_calli (va_runV (As := [.int m28_L_3]) (rest := [.int m28_L_2]) ⟨hx, hb, hml, hown, hts⟩ (g_X10_above l dC dI cI cJ h0 m28_L_3 tp h0_courtReader h0_lawReader h0_draft aC h0_laws g0 k0 ac sd mi dw rf lc lh br hi aR aB aP nb np fb gY gF gP gpn glt gsh gwd gpu gmo gfP H.size n_gpn y_gwd y_hi y_lc n_nb n_np (by omega) ci_gfP_zPo) (cwV 1 hts (zgV qw1008 qw1010 qw29 qw98 qw1011) rfl rfl rfl hd_X10_above ⟨by rw [hR]; exact Nat.le_of_ble_eq_true rfl, by rw [hR]; exact Nat.le_of_ble_eq_true rfl⟩) (zPV hPc hK hDc (va_recv (q := (RX10, TX10, 17)) hK hP (ci := 10) (q0 := 0) rfl rfl)) rfl rfl hl.1 rfl (lv_room (Nat.le_of_ble_eq_true rfl)) dX10_told_55 ⟨Nat.zero_le _, Nat.zero_le _⟩) hS (fun q _ h => hFc q h) hFc (fun v55 u55 t H locs ht hvm hw hB hz1 hk1 hS9 => ?_)
              replace hP := zkeep hP hk1
              replace hS := hS9
              clear hPc hDc hFc hk1 hz1 hvm hS9
              have f55_0 : (v55 = gfP (4 * m28_L_3.toInt.toNat + 2) - fb (4 * (gfP (4 * m28_L_3.toInt.toNat)).toInt.toNat)) := hw
              have F55 := f55_0
              refine lv_iadd hx hb dX10_told_58 ?_
              refine lv_topi (fun v58 e58 => ?_)
              refine lv_istore_n (lv' := [(2, .int v58), (3, .int m28_L_3), (0, .ref h0), (1, .int p0)]) hx hb dX10_told_59 rfl hl (by decide) rfl (fun ls hl => ?_)
              obtain ⟨v60, e60⟩ : ∃ y : Int32, y = m28_L_3 + Int32.ofInt (1) := ⟨_, rfl⟩
              refine lv_iinc (v := v60) (lv' := [(3, .int v60), (2, .int v58), (0, .ref h0), (1, .int p0)]) hx hb dX10_told_60 hl (k := 1) rfl e60.symm (by decide) rfl (fun ls hl => ?_)
              have i60 : v60.toInt = m28_L_3.toInt + 1 := zaddI e60 (by decide) (by omega) (by omega)
              refine lv_goto (tgt := 28) hx hb dX10_told_63 (by decide) ?_
              exact ih28 _ (by omega) v58 v60 (by omega) (by first | exact zTldY jv28_0 (by omega) i60 F45 (by omega) F55 e58 | exact zTldN jv28_0 (by omega) i60 F45 (by omega)) (by omega) rfl H locs ls hP hS (lv_sub hl [0, 1, 2, 3] rfl)
      refine lv_istore_n (lv' := [(3, .int 0), (2, .int 0), (0, .ref h0), (1, .int p0)]) hx hb dX10_told_27 rfl hl (by decide) rfl (fun ls hl => ?_)
      have zj28_m28_L_2 : (0 : Int32).toInt = 0 := by decide
      have zj28_m28_L_3 : (0 : Int32).toInt = 0 := by decide
      exact J28 _ 0 0 (by decide) (rfl) (by omega) rfl H locs ls hP hS (lv_sub hl [0, 1, 2, 3] rfl)
    · have c17 : v13.toInt = (-1) := z5 rfl (by decide) c17
      refine lv_ldcw (v := (-1000000)) hx hb hown (hts _ qw935) dX10_told_20 ?_
      have zr0 : ((-1000000) : Int32).toInt = (-1000000) := by decide
      rw [hQ]
      exact W.iret (v := ((-1000000))) hx hb hr (fun t ht hW => ⟨⟨(-1000000), (), rfl, (fun kc kT q_fr q_fp q_gfY q_gfF q_fR q_pl q_cn q_frf hc hb h => by have zl := zTl_lat hb.2.2.2.1 (zSc_pn h.1) (zSc_P h.1) F13; unfold sV_tol; exact (if_neg (fun y => y.2 (zl.mpr (by omega)))).symm), trivial⟩, hS.F ht⟩) hS.2.2 dX10_told_23
set_option maxHeartbeats 4000000 in
set_option maxRecDepth 100000 in
theorem g_X10_image (l : Launch) (dC : Nat → ClassId) (dI : Nat → Nat → Nat) (cI cJ : ClassId) (h0 : Nat) (tp : Nat) (h0_courtReader : Value) (h0_lawReader : Value) (h0_draft : Value) (aC : Nat) (h0_laws : Value) (g0 : Nat) (k0 : Nat) (ac : Nat) (sd : Nat) (mi : Nat) (dw : Nat) (rf : Nat) (lc : Int32) (lh : Int32) (br : Int32) (hi : Int32) (aR : Nat) (aB : Nat) (aP : Nat) (nb : Int32) (np : Int32) (gY : Nat) (gF : Nat) (gP : Nat) (gpn : Int32) (glt : Int32) (gsh : Int32) (gwd : Int32) (gpu : Int32) (gmo : Int32) (gfY : Nat → Int32) (gfF : Nat → Int32) (gfP : Nat → Int32) (kY : Nat) (kF : Nat) (kP : Nat) (kpn : Int32) (klt : Int32) (ksh : Int32) (kwd : Int32) (kpu : Int32) (kmo : Int32) (kfY : Nat → Int32) (kfF : Nat → Int32) (kfP : Nat → Int32) (sz : Nat) (n_gpn : 0 ≤ gpn.toInt ∧ gpn.toInt ≤ 20) (n_gwd : (-1) ≤ gwd.toInt ∧ gwd.toInt ≤ 5) (n_hi : 0 ≤ hi.toInt ∧ hi.toInt ≤ 1) (n_kpn : 0 ≤ kpn.toInt ∧ kpn.toInt ≤ 20) (n_kwd : (-1) ≤ kwd.toInt ∧ kwd.toInt ≤ 5) (n_lc : 0 ≤ lc.toInt ∧ lc.toInt ≤ 4) (n_nb : 0 ≤ nb.toInt ∧ nb.toInt ≤ 6) (n_np : 0 ≤ np.toInt ∧ np.toInt ≤ 5)  (ci_gfP_zPo : zPo gfP) (ci_kfP_zPo : zPo kfP)  : Met l yX10_image (.code yX10_image cX10_image 1 (some .int) :: wA) ({ frames := 2, cells := 0, slots := 0, locals := 81 }) (zP (dC, dI) [(cI, .int), (cJ, .long)] [.ref h0] sz [(h0, .inr (10, [.ref tp, h0_courtReader, h0_lawReader, h0_draft, .ref aC, h0_laws, .ref g0, .ref k0, .ref ac, .ref sd, .ref mi, .ref dw, .ref rf, .int lc, .int lh, .int br, .int hi])), (aC, .inr (1, [.ref aR, .ref aB, .ref aP, .int nb, .int np])), (g0, .inr (7, [.ref gY, .ref gF, .ref gP, .int gpn, .int glt, .int gsh, .int gwd, .int gpu, .int gmo])), (gY, .inl (cI, 6, .inl gfY)), (gF, .inl (cI, 5, .inl gfF)), (gP, .inl (cI, 80, .inl gfP)), (k0, .inr (7, [.ref kY, .ref kF, .ref kP, .int kpn, .int klt, .int ksh, .int kwd, .int kpu, .int kmo])), (kY, .inl (cI, 6, .inl kfY)), (kF, .inl (cI, 5, .inl kfF)), (kP, .inl (cI, 80, .inl kfP))]) (va_Qi (fun (r : Int32) (u : Int32 × Int32 × Int32 × Int32 × Int32 × Int32 × Int32 × (Nat → Int32) × (Nat → Int32) × (Nat → Int32)) => (0 ≤ u.1.toInt) ∧ (u.1.toInt ≤ 1) ∧ (0 ≤ u.2.1.toInt) ∧ (u.2.1.toInt ≤ 20) ∧ ((-1) ≤ u.2.2.2.2.1.toInt) ∧ (u.2.2.2.2.1.toInt ≤ 5) ∧ (∀ (kc : zK3) (kT : zT) (q_fr : Nat → Int32) (q_fb : Nat → Int32) (q_fp : Nat → Int32) (q_fR : Nat → Int32) (q_pl : Int32) (q_cn : Int32) (q_frf : Nat → Int32) (im : Int32 × zS), zCn q_fr q_fb q_fp nb.toInt np.toInt kc → zKo nb.toInt np.toInt kc kT → zTc nb.toInt np.toInt kT gfY gfF gfP gpn glt gsh gwd gpu gmo q_fR q_pl q_cn q_frf → zIc nb.toInt np.toInt im hi kfY kfF kfP kpn klt ksh kwd kpu kmo → r = sV_img nb.toInt kT ∧ zIc nb.toInt np.toInt (sI_img nb.toInt kT im) u.1 u.2.2.2.2.2.2.2.1 u.2.2.2.2.2.2.2.2.1 u.2.2.2.2.2.2.2.2.2 u.2.1 u.2.2.1 u.2.2.2.1 u.2.2.2.2.1 u.2.2.2.2.2.1 u.2.2.2.2.2.2.1) ∧ (zPo u.2.2.2.2.2.2.2.2.2)) (fun (u : Int32 × Int32 × Int32 × Int32 × Int32 × Int32 × Int32 × (Nat → Int32) × (Nat → Int32) × (Nat → Int32)) (t : State) => va_P (dC, dI) vwCl [(h0, .inr (10, [.ref tp, h0_courtReader, h0_lawReader, h0_draft, .ref aC, h0_laws, .ref g0, .ref k0, .ref ac, .ref sd, .ref mi, .ref dw, .ref rf, .int lc, .int lh, .int br, .int u.1])), (aC, .inr (1, [.ref aR, .ref aB, .ref aP, .int nb, .int np])), (g0, .inr (7, [.ref gY, .ref gF, .ref gP, .int gpn, .int glt, .int gsh, .int gwd, .int gpu, .int gmo])), (gY, .inl (cI, 6, .inl gfY)), (gF, .inl (cI, 5, .inl gfF)), (gP, .inl (cI, 80, .inl gfP)), (k0, .inr (7, [.ref kY, .ref kF, .ref kP, .int u.2.1, .int u.2.2.1, .int u.2.2.2.1, .int u.2.2.2.2.1, .int u.2.2.2.2.2.1, .int u.2.2.2.2.2.2.1])), (kY, .inl (cI, 6, .inl u.2.2.2.2.2.2.2.1)), (kF, .inl (cI, 5, .inl u.2.2.2.2.2.2.2.2.1)), (kP, .inl (cI, 80, .inl u.2.2.2.2.2.2.2.2.2))] t.heap ∧ va_D (va_A [(h0, .inr (10, [.ref tp, h0_courtReader, h0_lawReader, h0_draft, .ref aC, h0_laws, .ref g0, .ref k0, .ref ac, .ref sd, .ref mi, .ref dw, .ref rf, .int lc, .int lh, .int br, .int hi])), (aC, .inr (1, [.ref aR, .ref aB, .ref aP, .int nb, .int np])), (g0, .inr (7, [.ref gY, .ref gF, .ref gP, .int gpn, .int glt, .int gsh, .int gwd, .int gpu, .int gmo])), (gY, .inl (cI, 6, .inl gfY)), (gF, .inl (cI, 5, .inl gfF)), (gP, .inl (cI, 80, .inl gfP)), (k0, .inr (7, [.ref kY, .ref kF, .ref kP, .int kpn, .int klt, .int ksh, .int kwd, .int kpu, .int kmo])), (kY, .inl (cI, 6, .inl kfY)), (kF, .inl (cI, 5, .inl kfF)), (kP, .inl (cI, 80, .inl kfP))] sz) [(h0, .inr (10, [.ref tp, h0_courtReader, h0_lawReader, h0_draft, .ref aC, h0_laws, .ref g0, .ref k0, .ref ac, .ref sd, .ref mi, .ref dw, .ref rf, .int lc, .int lh, .int br, .int u.1])), (aC, .inr (1, [.ref aR, .ref aB, .ref aP, .int nb, .int np])), (g0, .inr (7, [.ref gY, .ref gF, .ref gP, .int gpn, .int glt, .int gsh, .int gwd, .int gpu, .int gmo])), (gY, .inl (cI, 6, .inl gfY)), (gF, .inl (cI, 5, .inl gfF)), (gP, .inl (cI, 80, .inl gfP)), (k0, .inr (7, [.ref kY, .ref kF, .ref kP, .int u.2.1, .int u.2.2.1, .int u.2.2.2.1, .int u.2.2.2.2.1, .int u.2.2.2.2.2.1, .int u.2.2.2.2.2.2.1])), (kY, .inl (cI, 6, .inl u.2.2.2.2.2.2.2.1)), (kF, .inl (cI, 5, .inl u.2.2.2.2.2.2.2.2.1)), (kP, .inl (cI, 80, .inl u.2.2.2.2.2.2.2.2.2))]) (va_A [(h0, .inr (10, [.ref tp, h0_courtReader, h0_lawReader, h0_draft, .ref aC, h0_laws, .ref g0, .ref k0, .ref ac, .ref sd, .ref mi, .ref dw, .ref rf, .int lc, .int lh, .int br, .int hi])), (aC, .inr (1, [.ref aR, .ref aB, .ref aP, .int nb, .int np])), (g0, .inr (7, [.ref gY, .ref gF, .ref gP, .int gpn, .int glt, .int gsh, .int gwd, .int gpu, .int gmo])), (gY, .inl (cI, 6, .inl gfY)), (gF, .inl (cI, 5, .inl gfF)), (gP, .inl (cI, 80, .inl gfP)), (k0, .inr (7, [.ref kY, .ref kF, .ref kP, .int kpn, .int klt, .int ksh, .int kwd, .int kpu, .int kmo])), (kY, .inl (cI, 6, .inl kfY)), (kF, .inl (cI, 5, .inl kfF)), (kP, .inl (cI, 80, .inl kfP))] sz)) 0 0 (va_A [(h0, .inr (10, [.ref tp, h0_courtReader, h0_lawReader, h0_draft, .ref aC, h0_laws, .ref g0, .ref k0, .ref ac, .ref sd, .ref mi, .ref dw, .ref rf, .int lc, .int lh, .int br, .int hi])), (aC, .inr (1, [.ref aR, .ref aB, .ref aP, .int nb, .int np])), (g0, .inr (7, [.ref gY, .ref gF, .ref gP, .int gpn, .int glt, .int gsh, .int gwd, .int gpu, .int gmo])), (gY, .inl (cI, 6, .inl gfY)), (gF, .inl (cI, 5, .inl gfF)), (gP, .inl (cI, 80, .inl gfP)), (k0, .inr (7, [.ref kY, .ref kF, .ref kP, .int kpn, .int klt, .int ksh, .int kwd, .int kpu, .int kmo])), (kY, .inl (cI, 6, .inl kfY)), (kF, .inl (cI, 5, .inl kfF)), (kP, .inl (cI, 80, .inl kfP))] sz) := by
  refine Met.ofW (cc := cX10_image) (maxL := 1) (ret := (some .int)) (by decide) rfl ?_
  intro p e s m args below meth c s₁ B hml hv
  have y_lc : zHid (0 ≤ lc.toInt ∧ lc.toInt ≤ 4) := n_lc
  clear n_lc
  obtain ⟨hargs, hsz, hP, hK, hT⟩ := hv
  have hx := B.exec
  have hb := B.bytes
  have hr := B.returns
  have hts : ∀ w ∈ wA, w.before args s = true := fun w h => atoms_spec (ws := .code yX10_image cX10_image 1 (some .int) :: wA) B.pre w (List.mem_cons_of_mem _ h)
  have hown : s.vm.findClass RX10 = some m.cls := findClass_of_methodNamed B.named
  have hlocks := B.notSynchronized
  subst hsz
  have hD := hT.self (sz := s.heap.size)
  generalize hAe : va_A [(h0, .inr (10, [.ref tp, h0_courtReader, h0_lawReader, h0_draft, .ref aC, h0_laws, .ref g0, .ref k0, .ref ac, .ref sd, .ref mi, .ref dw, .ref rf, .int lc, .int lh, .int br, .int hi])), (aC, .inr (1, [.ref aR, .ref aB, .ref aP, .int nb, .int np])), (g0, .inr (7, [.ref gY, .ref gF, .ref gP, .int gpn, .int glt, .int gsh, .int gwd, .int gpu, .int gmo])), (gY, .inl (cI, 6, .inl gfY)), (gF, .inl (cI, 5, .inl gfF)), (gP, .inl (cI, 80, .inl gfP)), (k0, .inr (7, [.ref kY, .ref kF, .ref kP, .int kpn, .int klt, .int ksh, .int kwd, .int kpu, .int kmo])), (kY, .inl (cI, 6, .inl kfY)), (kF, .inl (cI, 5, .inl kfF)), (kP, .inl (cI, 80, .inl kfP))] s.heap.size = A at hD ⊢
  have hA : ∀ q : Nat, s.heap.size ≤ q → A q := fun q h => by rw [← hAe]; exact Or.inr h
  have hl := lv_entry ([.ref h0]) (n := 1) (Nat.le_of_ble_eq_true rfl)
  rw [show entryFrame m args 1 = entryFrame m ([.ref h0] : List Value).toArray 1 by rw [hargs], lg_entry_eq]
  generalize (lg_sl ([.ref h0]) ++ List.replicate (1 - (lg_sl ([.ref h0])).length) Slot.unset).toArray = ls at hl ⊢
  have hl : lv_has ls 1 [(0, .ref h0)] := hl
  refine zstart (fun H hH => ?_)
  rw [← hH] at hP
  have hS : va_S A s.heap H [] := by rw [hH]; exact va_S.rf
  generalize ([] : List Loc) = locs at hS ⊢
  refine zgen (fun R Q hR hQ => ?_)
  refine lv_aload_n hx hb dX10_image_0 rfl (lv_at hl 0 rfl) ?_
  obtain ⟨hPc, hDc⟩ := zc2 (wc := [(h0, .inr (10, [.ref tp, h0_courtReader, h0_lawReader, h0_draft, .ref aC, h0_laws, .ref g0, .ref k0, .ref ac, .ref sd, .ref mi, .ref dw, .ref rf, .int lc, .int lh, .int br, .int hi])), (aC, .inr (1, [.ref aR, .ref aB, .ref aP, .int nb, .int np]))]) hP hD [0, 1] (by decide +kernel) rfl
  have hFc := zfr hS hA
  refine va_calli (va_runV (As := []) (rest := []) ⟨hx, hb, hml, hown, hts⟩ (g_X10_hasCourt l dC dI cI cJ h0 (.ref tp) h0_courtReader h0_lawReader h0_draft aC h0_laws (.ref g0) (.ref k0) (.ref ac) (.ref sd) (.ref mi) (.ref dw) (.ref rf) (.int lc) (.int lh) (.int br) (.int hi) aR aB aP nb np H.size) (cwV 0 hts (zgV qw584 qw586 qw10 qw98 qw587) rfl rfl rfl hd_X10_hasCourt ⟨by rw [hR]; exact Nat.le_of_ble_eq_true rfl, by rw [hR]; exact Nat.le_of_ble_eq_true rfl⟩) (zPV hPc hK hDc (va_recv (q := (RX10, TX10, 17)) hK hP (ci := 10) (q0 := 0) rfl rfl)) rfl rfl hl.1 rfl (lv_room (Nat.le_of_ble_eq_true rfl)) dX10_image_1 ⟨Nat.zero_le _, Nat.zero_le _⟩) hS (fun q _ h => hFc q h) hFc (fun v1 u1 t H locs ht hvm hw hB hz1 hk1 hS9 => ?_)
  replace hP := zkeep hP hk1
  replace hS := hS9
  clear hPc hDc hFc hk1 hz1 hvm hS9
  obtain ⟨f1_0, f1_1, f1_2, f1_3⟩ : (0 ≤ v1.toInt) ∧ (v1.toInt ≤ 1) ∧ (¬ v1.toInt = 0 → 0 < nb.toInt) ∧ (v1.toInt = 0 → nb.toInt ≤ 0) := hw
  refine lv_if_ne (tgt := 9) hx hb dX10_image_4 (by decide) (fun c4 => ?_) (fun c4 => ?_)
  · have c4 : ¬ v1.toInt = 0 := z6 rfl (by decide) c4
    refine lv_aload_n hx hb dX10_image_9 rfl (lv_at hl 0 rfl) ?_
    refine va_get (D := (dC, dI)) (ci := 10) (v := .ref k0) (C := RX10) (T := TX10) (N := 17) hx hb hts iX10 hown hK hP 0 rfl rfl 7 (by decide) (hts _ qw363) (fun _ h9 => h9) rfl dX10_image_10 ?_
    refine lv_aload_n hx hb dX10_image_13 rfl (lv_at hl 0 rfl) ?_
    refine va_get (D := (dC, dI)) (ci := 10) (v := .ref g0) (C := RX10) (T := TX10) (N := 17) hx hb hts iX10 hown hK hP 0 rfl rfl 6 (by decide) (hts _ qw362) (fun _ h9 => h9) rfl dX10_image_14 ?_
    obtain ⟨hPc, hDc, hFc⟩ := zc3 (wc := [(k0, .inr (7, [.ref kY, .ref kF, .ref kP, .int kpn, .int klt, .int ksh, .int kwd, .int kpu, .int kmo])), (kY, .inl (cI, 6, .inl kfY)), (kF, .inl (cI, 5, .inl kfF)), (kP, .inl (cI, 80, .inl kfP)), (g0, .inr (7, [.ref gY, .ref gF, .ref gP, .int gpn, .int glt, .int gsh, .int gwd, .int gpu, .int gmo])), (gY, .inl (cI, 6, .inl gfY)), (gF, .inl (cI, 5, .inl gfF)), (gP, .inl (cI, 80, .inl gfP))]) hP hD hS hA [6, 7, 8, 9, 2, 3, 4, 5] (by decide +kernel) rfl
    refine va_callv (va_runV (As := [.ref g0]) (rest := []) ⟨hx, hb, hml, hown, hts⟩ (g_X7_become l dC dI cI cJ k0 g0 kY kF kP kpn klt ksh kwd kpu kmo kfY kfF kfP gY gF gP gpn glt gsh gwd gpu gmo gfY gfF gfP H.size ci_kfP_zPo ci_gfP_zPo) (cwV 1 hts (zgV qw1039 qw1040 qw1041 qw103 qw1042) rfl rfl rfl hd_X7_become ⟨by rw [hR]; exact Nat.le_of_ble_eq_true rfl, by rw [hR]; exact Nat.le_of_ble_eq_true rfl⟩) (zPV hPc hK hDc (va_recv (q := (RX7, TX7, 9)) hK hP (ci := 7) (q0 := 6) rfl rfl)) rfl rfl hl.1 rfl (lv_room (Nat.le_of_ble_eq_true rfl)) dX10_image_17 ⟨Nat.zero_le _, Nat.zero_le _⟩) hS (fun q _ h => hFc q h) hFc (fun u17 t H locs ht hvm hw hB hz1 hk1 hS9 => ?_)
    obtain ⟨u17_0, u17_1, u17_2⟩ := u17
    obtain ⟨hP9, hD9⟩ := zj2 (wX := [(h0, .inr (10, [.ref tp, h0_courtReader, h0_lawReader, h0_draft, .ref aC, h0_laws, .ref g0, .ref k0, .ref ac, .ref sd, .ref mi, .ref dw, .ref rf, .int lc, .int lh, .int br, .int hi])), (aC, .inr (1, [.ref aR, .ref aB, .ref aP, .int nb, .int np])), (g0, .inr (7, [.ref gY, .ref gF, .ref gP, .int gpn, .int glt, .int gsh, .int gwd, .int gpu, .int gmo])), (gY, .inl (cI, 6, .inl gfY)), (gF, .inl (cI, 5, .inl gfF)), (gP, .inl (cI, 80, .inl gfP)), (k0, .inr (7, [.ref kY, .ref kF, .ref kP, .int gpn, .int glt, .int gsh, .int gwd, .int gpu, .int gmo])), (kY, .inl (cI, 6, .inl u17_0)), (kF, .inl (cI, 5, .inl u17_1)), (kP, .inl (cI, 80, .inl u17_2))]) hP hD hk1 hFc ht hB [6, 7, 8, 9, 2, 3, 4, 5] [(false, 0), (false, 1), (true, 4), (true, 5), (true, 6), (true, 7), (true, 0), (true, 1), (true, 2), (true, 3)] rfl (by decide +kernel) (by decide +kernel) rfl
    clear hP hD hS hPc hDc hFc hB hk1 hz1 hvm
    have hP := hP9
    have hD := hD9
    have hS := hS9
    clear hP9 hD9 hS9
    obtain ⟨f17_0, f17_1⟩ : ((∀ i : Nat, i < 6 → u17_0 i = gfY i) ∧ (∀ i : Nat, i < 5 → u17_1 i = gfF i) ∧ ∀ i : Nat, i < 80 → u17_2 i = gfP i) ∧ (zPo u17_2) := hw
    have F17 := f17_0
    refine lv_aload_n hx hb dX10_image_20 rfl (lv_at hl 0 rfl) ?_
    refine lv_iconst (v := 1) hx hb dX10_image_21 (by decide) ?_
    refine va_put (D := (dC, dI)) (ci := 10) (v := .int 1) (ty := .boolean) (C := RX10) (T := TX10) (N := 17) hx hb hts iX10 tyX10 tyX10_ok nmX10 hown hK hP hD hS 0 rfl rfl 16 (by decide) (hts _ qw372) (fun _ h9 => h9) rfl (by decide +kernel) rfl rfl (Nat.le_of_ble_eq_true rfl) dX10_image_22 (fun H locs hP9 hD9 hS9 => ?_)
    clear hP hD hS
    obtain ⟨hP, hD⟩ := zst (wX := [(h0, .inr (10, [.ref tp, h0_courtReader, h0_lawReader, h0_draft, .ref aC, h0_laws, .ref g0, .ref k0, .ref ac, .ref sd, .ref mi, .ref dw, .ref rf, .int lc, .int lh, .int br, .int 1])), (aC, .inr (1, [.ref aR, .ref aB, .ref aP, .int nb, .int np])), (g0, .inr (7, [.ref gY, .ref gF, .ref gP, .int gpn, .int glt, .int gsh, .int gwd, .int gpu, .int gmo])), (gY, .inl (cI, 6, .inl gfY)), (gF, .inl (cI, 5, .inl gfF)), (gP, .inl (cI, 80, .inl gfP)), (k0, .inr (7, [.ref kY, .ref kF, .ref kP, .int gpn, .int glt, .int gsh, .int gwd, .int gpu, .int gmo])), (kY, .inl (cI, 6, .inl u17_0)), (kF, .inl (cI, 5, .inl u17_1)), (kP, .inl (cI, 80, .inl u17_2))]) hP9 hD9 rfl
    have hS := hS9
    clear hP9 hD9 hS9
    refine lv_aload_n hx hb dX10_image_25 rfl (lv_at hl 0 rfl) ?_
    refine va_get (D := (dC, dI)) (ci := 10) (v := .ref g0) (C := RX10) (T := TX10) (N := 17) hx hb hts iX10 hown hK hP 0 rfl rfl 6 (by decide) (hts _ qw362) (fun _ h9 => h9) rfl dX10_image_26 ?_
    refine va_get (D := (dC, dI)) (ci := 7) (v := .int gmo) (C := RX7) (T := TX7) (N := 9) hx hb hts iX7 hown hK hP 2 rfl rfl 8 (by decide) (hts _ qw242) (fun _ h9 => h9) rfl dX10_image_29 ?_
    have zr1 : (1 : Int32).toInt = 1 := by decide
    rw [hQ]
    exact W.iret (v := gmo) hx hb hr (fun t ht hW => ⟨⟨gmo, (1, gpn, glt, gsh, gwd, gpu, gmo, u17_0, u17_1, u17_2), rfl, ⟨by (try dsimp only); omega, by (try dsimp only); omega, by (try dsimp only); omega, by (try dsimp only); omega, by (try dsimp only); omega, by (try dsimp only); omega, by (try dsimp only); exact fun kc kT q_fr q_fb q_fp q_fR q_pl q_cn q_frf im hc hb h hi0 => by unfold sV_img sI_img; rw [if_pos (by omega), if_pos (by omega)]; have zn := congrArg Int32.toInt (zSc_pn h.1); have zb := hb.2.2.2.1.2.2.2.2.1; exact ⟨(zSc_mo h.1).symm, rfl, Or.inr (zSc_cp h.1 F17 hb.2.1.2 hb.2.2.1.2 (by omega))⟩, f17_1⟩, ⟨by rw [ht]; exact hP, hD⟩⟩, hS.F ht⟩) hS.2.2 dX10_image_32
  · have c4 : v1.toInt = 0 := z5 rfl (by decide) c4
    refine lv_iconst (v := (-1)) hx hb dX10_image_7 (by decide) ?_
    have zr0 : ((-1) : Int32).toInt = (-1) := by decide
    rw [hQ]
    exact W.iret (v := ((-1))) hx hb hr (fun t ht hW => ⟨⟨(-1), (hi, kpn, klt, ksh, kwd, kpu, kmo, kfY, kfF, kfP), rfl, ⟨by (try dsimp only); omega, by (try dsimp only); omega, by (try dsimp only); omega, by (try dsimp only); omega, by (try dsimp only); omega, by (try dsimp only); omega, by (try dsimp only); exact fun kc kT q_fr q_fb q_fp q_fR q_pl q_cn q_frf im hc hb h hi0 => by unfold sV_img sI_img; rw [if_neg (by omega), if_neg (by omega)]; exact ⟨rfl, hi0⟩, ci_kfP_zPo⟩, ⟨by rw [ht]; exact hP, hD⟩⟩, hS.F ht⟩) hS.2.2 dX10_image_8
set_option maxHeartbeats 4000000 in
set_option maxRecDepth 100000 in
theorem g_X10_back (l : Launch) (dC : Nat → ClassId) (dI : Nat → Nat → Nat) (cI cJ : ClassId) (h0 : Nat) (tp : Nat) (h0_courtReader : Value) (h0_lawReader : Value) (h0_draft : Value) (aC : Nat) (h0_laws : Value) (g0 : Nat) (k0 : Nat) (ac : Nat) (sd : Nat) (mi : Nat) (dw : Nat) (rf : Nat) (lc : Int32) (lh : Int32) (br : Int32) (hi : Int32) (gY : Nat) (gF : Nat) (gP : Nat) (gpn : Int32) (glt : Int32) (gsh : Int32) (gwd : Int32) (gpu : Int32) (gmo : Int32) (gfY : Nat → Int32) (gfF : Nat → Int32) (gfP : Nat → Int32) (kY : Nat) (kF : Nat) (kP : Nat) (kpn : Int32) (klt : Int32) (ksh : Int32) (kwd : Int32) (kpu : Int32) (kmo : Int32) (kfY : Nat → Int32) (kfF : Nat → Int32) (kfP : Nat → Int32) (aW : Nat) (pl : Int32) (cn : Int32) (sz : Nat) (n_cn : 0 ≤ cn.toInt ∧ cn.toInt ≤ 40) (n_gpn : 0 ≤ gpn.toInt ∧ gpn.toInt ≤ 20) (n_gwd : (-1) ≤ gwd.toInt ∧ gwd.toInt ≤ 5) (n_hi : 0 ≤ hi.toInt ∧ hi.toInt ≤ 1) (n_kpn : 0 ≤ kpn.toInt ∧ kpn.toInt ≤ 20) (n_kwd : (-1) ≤ kwd.toInt ∧ kwd.toInt ≤ 5) (n_lc : 0 ≤ lc.toInt ∧ lc.toInt ≤ 4) (n_pl : 0 ≤ pl.toInt ∧ pl.toInt ≤ 39)  (ci_gfP_zPo : zPo gfP) (ci_kfP_zPo : zPo kfP)  : Met l yX10_back (.code yX10_back cX10_back 1 (some .int) :: wA) ({ frames := 2, cells := 0, slots := 0, locals := 81 }) (zP (dC, dI) [(cI, .int), (cJ, .long)] [.ref h0] sz [(h0, .inr (10, [.ref tp, h0_courtReader, h0_lawReader, h0_draft, .ref aC, h0_laws, .ref g0, .ref k0, .ref ac, .ref sd, .ref mi, .ref dw, .ref rf, .int lc, .int lh, .int br, .int hi])), (g0, .inr (7, [.ref gY, .ref gF, .ref gP, .int gpn, .int glt, .int gsh, .int gwd, .int gpu, .int gmo])), (gY, .inl (cI, 6, .inl gfY)), (gF, .inl (cI, 5, .inl gfF)), (gP, .inl (cI, 80, .inl gfP)), (k0, .inr (7, [.ref kY, .ref kF, .ref kP, .int kpn, .int klt, .int ksh, .int kwd, .int kpu, .int kmo])), (kY, .inl (cI, 6, .inl kfY)), (kF, .inl (cI, 5, .inl kfF)), (kP, .inl (cI, 80, .inl kfP)), (ac, .inr (0, [.ref aW, .int pl, .int cn]))]) (va_Qi (fun (r : Int32) (u : Int32 × Int32 × Int32 × Int32 × Int32 × Int32 × (Nat → Int32) × (Nat → Int32) × (Nat → Int32) × Int32) => (0 ≤ u.1.toInt) ∧ (u.1.toInt ≤ 20) ∧ ((-1) ≤ u.2.2.2.1.toInt) ∧ (u.2.2.2.1.toInt ≤ 5) ∧ (0 ≤ u.2.2.2.2.2.2.2.2.2.toInt) ∧ (u.2.2.2.2.2.2.2.2.2.toInt ≤ 40) ∧ (∀ (kc : zK3) (kT : zT) (q_fr : Nat → Int32) (q_fb : Nat → Int32) (q_fp : Nat → Int32) (q_nb : Int32) (q_np : Int32) (q_fR : Nat → Int32) (q_frf : Nat → Int32) (im : Int32 × zS), zCn q_fr q_fb q_fp q_nb.toInt q_np.toInt kc → zKo q_nb.toInt q_np.toInt kc kT → zTc q_nb.toInt q_np.toInt kT gfY gfF gfP gpn glt gsh gwd gpu gmo q_fR pl cn q_frf → zIc q_nb.toInt q_np.toInt im hi kfY kfF kfP kpn klt ksh kwd kpu kmo → r = sV_bck im ∧ zTc q_nb.toInt q_np.toInt (sT_bck im kT) u.2.2.2.2.2.2.1 u.2.2.2.2.2.2.2.1 u.2.2.2.2.2.2.2.2.1 u.1 u.2.1 u.2.2.1 u.2.2.2.1 u.2.2.2.2.1 u.2.2.2.2.2.1 q_fR pl u.2.2.2.2.2.2.2.2.2 q_frf) ∧ (zPo u.2.2.2.2.2.2.2.2.1)) (fun (u : Int32 × Int32 × Int32 × Int32 × Int32 × Int32 × (Nat → Int32) × (Nat → Int32) × (Nat → Int32) × Int32) (t : State) => va_P (dC, dI) vwCl [(h0, .inr (10, [.ref tp, h0_courtReader, h0_lawReader, h0_draft, .ref aC, h0_laws, .ref g0, .ref k0, .ref ac, .ref sd, .ref mi, .ref dw, .ref rf, .int lc, .int lh, .int br, .int hi])), (g0, .inr (7, [.ref gY, .ref gF, .ref gP, .int u.1, .int u.2.1, .int u.2.2.1, .int u.2.2.2.1, .int u.2.2.2.2.1, .int u.2.2.2.2.2.1])), (gY, .inl (cI, 6, .inl u.2.2.2.2.2.2.1)), (gF, .inl (cI, 5, .inl u.2.2.2.2.2.2.2.1)), (gP, .inl (cI, 80, .inl u.2.2.2.2.2.2.2.2.1)), (k0, .inr (7, [.ref kY, .ref kF, .ref kP, .int kpn, .int klt, .int ksh, .int kwd, .int kpu, .int kmo])), (kY, .inl (cI, 6, .inl kfY)), (kF, .inl (cI, 5, .inl kfF)), (kP, .inl (cI, 80, .inl kfP)), (ac, .inr (0, [.ref aW, .int pl, .int u.2.2.2.2.2.2.2.2.2]))] t.heap ∧ va_D (va_A [(h0, .inr (10, [.ref tp, h0_courtReader, h0_lawReader, h0_draft, .ref aC, h0_laws, .ref g0, .ref k0, .ref ac, .ref sd, .ref mi, .ref dw, .ref rf, .int lc, .int lh, .int br, .int hi])), (g0, .inr (7, [.ref gY, .ref gF, .ref gP, .int gpn, .int glt, .int gsh, .int gwd, .int gpu, .int gmo])), (gY, .inl (cI, 6, .inl gfY)), (gF, .inl (cI, 5, .inl gfF)), (gP, .inl (cI, 80, .inl gfP)), (k0, .inr (7, [.ref kY, .ref kF, .ref kP, .int kpn, .int klt, .int ksh, .int kwd, .int kpu, .int kmo])), (kY, .inl (cI, 6, .inl kfY)), (kF, .inl (cI, 5, .inl kfF)), (kP, .inl (cI, 80, .inl kfP)), (ac, .inr (0, [.ref aW, .int pl, .int cn]))] sz) [(h0, .inr (10, [.ref tp, h0_courtReader, h0_lawReader, h0_draft, .ref aC, h0_laws, .ref g0, .ref k0, .ref ac, .ref sd, .ref mi, .ref dw, .ref rf, .int lc, .int lh, .int br, .int hi])), (g0, .inr (7, [.ref gY, .ref gF, .ref gP, .int u.1, .int u.2.1, .int u.2.2.1, .int u.2.2.2.1, .int u.2.2.2.2.1, .int u.2.2.2.2.2.1])), (gY, .inl (cI, 6, .inl u.2.2.2.2.2.2.1)), (gF, .inl (cI, 5, .inl u.2.2.2.2.2.2.2.1)), (gP, .inl (cI, 80, .inl u.2.2.2.2.2.2.2.2.1)), (k0, .inr (7, [.ref kY, .ref kF, .ref kP, .int kpn, .int klt, .int ksh, .int kwd, .int kpu, .int kmo])), (kY, .inl (cI, 6, .inl kfY)), (kF, .inl (cI, 5, .inl kfF)), (kP, .inl (cI, 80, .inl kfP)), (ac, .inr (0, [.ref aW, .int pl, .int u.2.2.2.2.2.2.2.2.2]))]) (va_A [(h0, .inr (10, [.ref tp, h0_courtReader, h0_lawReader, h0_draft, .ref aC, h0_laws, .ref g0, .ref k0, .ref ac, .ref sd, .ref mi, .ref dw, .ref rf, .int lc, .int lh, .int br, .int hi])), (g0, .inr (7, [.ref gY, .ref gF, .ref gP, .int gpn, .int glt, .int gsh, .int gwd, .int gpu, .int gmo])), (gY, .inl (cI, 6, .inl gfY)), (gF, .inl (cI, 5, .inl gfF)), (gP, .inl (cI, 80, .inl gfP)), (k0, .inr (7, [.ref kY, .ref kF, .ref kP, .int kpn, .int klt, .int ksh, .int kwd, .int kpu, .int kmo])), (kY, .inl (cI, 6, .inl kfY)), (kF, .inl (cI, 5, .inl kfF)), (kP, .inl (cI, 80, .inl kfP)), (ac, .inr (0, [.ref aW, .int pl, .int cn]))] sz)) 0 0 (va_A [(h0, .inr (10, [.ref tp, h0_courtReader, h0_lawReader, h0_draft, .ref aC, h0_laws, .ref g0, .ref k0, .ref ac, .ref sd, .ref mi, .ref dw, .ref rf, .int lc, .int lh, .int br, .int hi])), (g0, .inr (7, [.ref gY, .ref gF, .ref gP, .int gpn, .int glt, .int gsh, .int gwd, .int gpu, .int gmo])), (gY, .inl (cI, 6, .inl gfY)), (gF, .inl (cI, 5, .inl gfF)), (gP, .inl (cI, 80, .inl gfP)), (k0, .inr (7, [.ref kY, .ref kF, .ref kP, .int kpn, .int klt, .int ksh, .int kwd, .int kpu, .int kmo])), (kY, .inl (cI, 6, .inl kfY)), (kF, .inl (cI, 5, .inl kfF)), (kP, .inl (cI, 80, .inl kfP)), (ac, .inr (0, [.ref aW, .int pl, .int cn]))] sz) := by
  refine Met.ofW (cc := cX10_back) (maxL := 1) (ret := (some .int)) (by decide) rfl ?_
  intro p e s m args below meth c s₁ B hml hv
  have y_lc : zHid (0 ≤ lc.toInt ∧ lc.toInt ≤ 4) := n_lc
  have y_pl : zHid (0 ≤ pl.toInt ∧ pl.toInt ≤ 39) := n_pl
  clear n_lc n_pl
  obtain ⟨hargs, hsz, hP, hK, hT⟩ := hv
  have hx := B.exec
  have hb := B.bytes
  have hr := B.returns
  have hts : ∀ w ∈ wA, w.before args s = true := fun w h => atoms_spec (ws := .code yX10_back cX10_back 1 (some .int) :: wA) B.pre w (List.mem_cons_of_mem _ h)
  have hown : s.vm.findClass RX10 = some m.cls := findClass_of_methodNamed B.named
  have hlocks := B.notSynchronized
  subst hsz
  have hD := hT.self (sz := s.heap.size)
  generalize hAe : va_A [(h0, .inr (10, [.ref tp, h0_courtReader, h0_lawReader, h0_draft, .ref aC, h0_laws, .ref g0, .ref k0, .ref ac, .ref sd, .ref mi, .ref dw, .ref rf, .int lc, .int lh, .int br, .int hi])), (g0, .inr (7, [.ref gY, .ref gF, .ref gP, .int gpn, .int glt, .int gsh, .int gwd, .int gpu, .int gmo])), (gY, .inl (cI, 6, .inl gfY)), (gF, .inl (cI, 5, .inl gfF)), (gP, .inl (cI, 80, .inl gfP)), (k0, .inr (7, [.ref kY, .ref kF, .ref kP, .int kpn, .int klt, .int ksh, .int kwd, .int kpu, .int kmo])), (kY, .inl (cI, 6, .inl kfY)), (kF, .inl (cI, 5, .inl kfF)), (kP, .inl (cI, 80, .inl kfP)), (ac, .inr (0, [.ref aW, .int pl, .int cn]))] s.heap.size = A at hD ⊢
  have hA : ∀ q : Nat, s.heap.size ≤ q → A q := fun q h => by rw [← hAe]; exact Or.inr h
  have hl := lv_entry ([.ref h0]) (n := 1) (Nat.le_of_ble_eq_true rfl)
  rw [show entryFrame m args 1 = entryFrame m ([.ref h0] : List Value).toArray 1 by rw [hargs], lg_entry_eq]
  generalize (lg_sl ([.ref h0]) ++ List.replicate (1 - (lg_sl ([.ref h0])).length) Slot.unset).toArray = ls at hl ⊢
  have hl : lv_has ls 1 [(0, .ref h0)] := hl
  refine zstart (fun H hH => ?_)
  rw [← hH] at hP
  have hS : va_S A s.heap H [] := by rw [hH]; exact va_S.rf
  generalize ([] : List Loc) = locs at hS ⊢
  refine zgen (fun R Q hR hQ => ?_)
  refine lv_aload_n hx hb dX10_back_0 rfl (lv_at hl 0 rfl) ?_
  refine va_get (D := (dC, dI)) (ci := 10) (v := .int hi) (C := RX10) (T := TX10) (N := 17) hx hb hts iX10 hown hK hP 0 rfl rfl 16 (by decide) (hts _ qw372) (fun _ h9 => h9) rfl dX10_back_1 ?_
  refine lv_if_ne (tgt := 9) hx hb dX10_back_4 (by decide) (fun c4 => ?_) (fun c4 => ?_)
  · have c4 : ¬ hi.toInt = 0 := z6 rfl (by decide) c4
    refine lv_aload_n hx hb dX10_back_9 rfl (lv_at hl 0 rfl) ?_
    refine va_get (D := (dC, dI)) (ci := 10) (v := .ref g0) (C := RX10) (T := TX10) (N := 17) hx hb hts iX10 hown hK hP 0 rfl rfl 6 (by decide) (hts _ qw362) (fun _ h9 => h9) rfl dX10_back_10 ?_
    refine lv_aload_n hx hb dX10_back_13 rfl (lv_at hl 0 rfl) ?_
    refine va_get (D := (dC, dI)) (ci := 10) (v := .ref k0) (C := RX10) (T := TX10) (N := 17) hx hb hts iX10 hown hK hP 0 rfl rfl 7 (by decide) (hts _ qw363) (fun _ h9 => h9) rfl dX10_back_14 ?_
    obtain ⟨hPc, hDc, hFc⟩ := zc3 (wc := [(g0, .inr (7, [.ref gY, .ref gF, .ref gP, .int gpn, .int glt, .int gsh, .int gwd, .int gpu, .int gmo])), (gY, .inl (cI, 6, .inl gfY)), (gF, .inl (cI, 5, .inl gfF)), (gP, .inl (cI, 80, .inl gfP)), (k0, .inr (7, [.ref kY, .ref kF, .ref kP, .int kpn, .int klt, .int ksh, .int kwd, .int kpu, .int kmo])), (kY, .inl (cI, 6, .inl kfY)), (kF, .inl (cI, 5, .inl kfF)), (kP, .inl (cI, 80, .inl kfP))]) hP hD hS hA [1, 2, 3, 4, 5, 6, 7, 8] (by decide +kernel) rfl
    refine va_callv (va_runV (As := [.ref k0]) (rest := []) ⟨hx, hb, hml, hown, hts⟩ (g_X7_become l dC dI cI cJ g0 k0 gY gF gP gpn glt gsh gwd gpu gmo gfY gfF gfP kY kF kP kpn klt ksh kwd kpu kmo kfY kfF kfP H.size ci_gfP_zPo ci_kfP_zPo) (cwV 1 hts (zgV qw1039 qw1040 qw1041 qw103 qw1042) rfl rfl rfl hd_X7_become ⟨by rw [hR]; exact Nat.le_of_ble_eq_true rfl, by rw [hR]; exact Nat.le_of_ble_eq_true rfl⟩) (zPV hPc hK hDc (va_recv (q := (RX7, TX7, 9)) hK hP (ci := 7) (q0 := 1) rfl rfl)) rfl rfl hl.1 rfl (lv_room (Nat.le_of_ble_eq_true rfl)) dX10_back_17 ⟨Nat.zero_le _, Nat.zero_le _⟩) hS (fun q _ h => hFc q h) hFc (fun u17 t H locs ht hvm hw hB hz1 hk1 hS9 => ?_)
    obtain ⟨u17_0, u17_1, u17_2⟩ := u17
    obtain ⟨hP9, hD9⟩ := zj2 (wX := [(h0, .inr (10, [.ref tp, h0_courtReader, h0_lawReader, h0_draft, .ref aC, h0_laws, .ref g0, .ref k0, .ref ac, .ref sd, .ref mi, .ref dw, .ref rf, .int lc, .int lh, .int br, .int hi])), (g0, .inr (7, [.ref gY, .ref gF, .ref gP, .int kpn, .int klt, .int ksh, .int kwd, .int kpu, .int kmo])), (gY, .inl (cI, 6, .inl u17_0)), (gF, .inl (cI, 5, .inl u17_1)), (gP, .inl (cI, 80, .inl u17_2)), (k0, .inr (7, [.ref kY, .ref kF, .ref kP, .int kpn, .int klt, .int ksh, .int kwd, .int kpu, .int kmo])), (kY, .inl (cI, 6, .inl kfY)), (kF, .inl (cI, 5, .inl kfF)), (kP, .inl (cI, 80, .inl kfP)), (ac, .inr (0, [.ref aW, .int pl, .int cn]))]) hP hD hk1 hFc ht hB [1, 2, 3, 4, 5, 6, 7, 8] [(false, 0), (true, 0), (true, 1), (true, 2), (true, 3), (true, 4), (true, 5), (true, 6), (true, 7), (false, 9)] rfl (by decide +kernel) (by decide +kernel) rfl
    clear hP hD hS hPc hDc hFc hB hk1 hz1 hvm
    have hP := hP9
    have hD := hD9
    have hS := hS9
    clear hP9 hD9 hS9
    obtain ⟨f17_0, f17_1⟩ : ((∀ i : Nat, i < 6 → u17_0 i = kfY i) ∧ (∀ i : Nat, i < 5 → u17_1 i = kfF i) ∧ ∀ i : Nat, i < 80 → u17_2 i = kfP i) ∧ (zPo u17_2) := hw
    have F17 := f17_0
    refine lv_aload_n hx hb dX10_back_20 rfl (lv_at hl 0 rfl) ?_
    refine va_get (D := (dC, dI)) (ci := 10) (v := .ref ac) (C := RX10) (T := TX10) (N := 17) hx hb hts iX10 hown hK hP 0 rfl rfl 8 (by decide) (hts _ qw364) (fun _ h9 => h9) rfl dX10_back_21 ?_
    obtain ⟨hPc, hDc, hFc⟩ := zc3 (wc := [(ac, .inr (0, [.ref aW, .int pl, .int cn]))]) hP hD hS hA [9] (by decide +kernel) rfl
    refine va_callv (va_runV (As := []) (rest := []) ⟨hx, hb, hml, hown, hts⟩ (g_X0_forget l dC dI cI cJ ac (.ref aW) (.int pl) cn H.size) (cwV 0 hts (zgV qw544 qw545 qw546 qw104 qw547) rfl rfl rfl hd_X0_forget ⟨by rw [hR]; exact Nat.le_of_ble_eq_true rfl, by rw [hR]; exact Nat.le_of_ble_eq_true rfl⟩) (zPV hPc hK hDc (va_recv (q := (RX0, TX0, 3)) hK hP (ci := 0) (q0 := 9) rfl rfl)) rfl rfl hl.1 rfl (lv_room (Nat.le_of_ble_eq_true rfl)) dX10_back_24 ⟨Nat.zero_le _, Nat.zero_le _⟩) hS (fun q _ h => hFc q h) hFc (fun u24 t H locs ht hvm hw hB hz1 hk1 hS9 => ?_)
    obtain ⟨hP9, hD9⟩ := zj2 (wX := [(h0, .inr (10, [.ref tp, h0_courtReader, h0_lawReader, h0_draft, .ref aC, h0_laws, .ref g0, .ref k0, .ref ac, .ref sd, .ref mi, .ref dw, .ref rf, .int lc, .int lh, .int br, .int hi])), (g0, .inr (7, [.ref gY, .ref gF, .ref gP, .int kpn, .int klt, .int ksh, .int kwd, .int kpu, .int kmo])), (gY, .inl (cI, 6, .inl u17_0)), (gF, .inl (cI, 5, .inl u17_1)), (gP, .inl (cI, 80, .inl u17_2)), (k0, .inr (7, [.ref kY, .ref kF, .ref kP, .int kpn, .int klt, .int ksh, .int kwd, .int kpu, .int kmo])), (kY, .inl (cI, 6, .inl kfY)), (kF, .inl (cI, 5, .inl kfF)), (kP, .inl (cI, 80, .inl kfP)), (ac, .inr (0, [.ref aW, .int pl, .int 0]))]) hP hD hk1 hFc ht hB [9] [(false, 0), (false, 1), (false, 2), (false, 3), (false, 4), (false, 5), (false, 6), (false, 7), (false, 8), (true, 0)] rfl (by decide +kernel) (by decide +kernel) rfl
    clear hP hD hS hPc hDc hFc hB hk1 hz1 hvm
    have hP := hP9
    have hD := hD9
    have hS := hS9
    clear hP9 hD9 hS9
    refine lv_aload_n hx hb dX10_back_27 rfl (lv_at hl 0 rfl) ?_
    refine va_get (D := (dC, dI)) (ci := 10) (v := .ref g0) (C := RX10) (T := TX10) (N := 17) hx hb hts iX10 hown hK hP 0 rfl rfl 6 (by decide) (hts _ qw362) (fun _ h9 => h9) rfl dX10_back_28 ?_
    refine va_get (D := (dC, dI)) (ci := 7) (v := .int kmo) (C := RX7) (T := TX7) (N := 9) hx hb hts iX7 hown hK hP 1 rfl rfl 8 (by decide) (hts _ qw242) (fun _ h9 => h9) rfl dX10_back_31 ?_
    have zr7 : (0 : Int32).toInt = 0 := by decide
    rw [hQ]
    exact W.iret (v := kmo) hx hb hr (fun t ht hW => ⟨⟨kmo, (kpn, klt, ksh, kwd, kpu, kmo, u17_0, u17_1, u17_2, 0), rfl, ⟨by (try dsimp only); omega, by (try dsimp only); omega, by (try dsimp only); omega, by (try dsimp only); omega, by (try dsimp only); omega, by (try dsimp only); omega, by (try dsimp only); exact fun kc kT q_fr q_fb q_fp q_nb q_np q_fR q_frf im hc hb h hi0 => by have z := hi0.1; have zz := congrArg Int32.toInt z; rcases hi0.2 with y | y; (exfalso; omega); unfold sV_bck sT_bck; rw [← z, if_neg (by omega), if_neg (by omega)]; exact ⟨(zSc_mo y).symm, zSc_cp y F17 hb.2.1.2 hb.2.2.1.2 (by omega), zKc_0, h.2.2⟩, f17_1⟩, ⟨by rw [ht]; exact hP, hD⟩⟩, hS.F ht⟩) hS.2.2 dX10_back_34
  · have c4 : hi.toInt = 0 := z5 rfl (by decide) c4
    refine lv_iconst (v := (-1)) hx hb dX10_back_7 (by decide) ?_
    have zr0 : ((-1) : Int32).toInt = (-1) := by decide
    rw [hQ]
    exact W.iret (v := ((-1))) hx hb hr (fun t ht hW => ⟨⟨(-1), (gpn, glt, gsh, gwd, gpu, gmo, gfY, gfF, gfP, cn), rfl, ⟨by (try dsimp only); omega, by (try dsimp only); omega, by (try dsimp only); omega, by (try dsimp only); omega, by (try dsimp only); omega, by (try dsimp only); omega, by (try dsimp only); exact fun kc kT q_fr q_fb q_fp q_nb q_np q_fR q_frf im hc hb h hi0 => by have z := hi0.1; unfold sV_bck sT_bck; rw [← z, if_pos (by omega), if_pos (by omega)]; exact ⟨rfl, h⟩, ci_gfP_zPo⟩, ⟨by rw [ht]; exact hP, hD⟩⟩, hS.F ht⟩) hS.2.2 dX10_back_8
set_option maxHeartbeats 4000000 in
set_option maxRecDepth 100000 in
theorem g_X10_count (l : Launch) (dC : Nat → ClassId) (dI : Nat → Nat → Nat) (cI cJ : ClassId) (h0 : Nat) (p0 : Int32) (tp : Nat) (h0_courtReader : Value) (h0_lawReader : Value) (h0_draft : Value) (aC : Nat) (h0_laws : Value) (g0 : Nat) (k0 : Nat) (ac : Nat) (sd : Nat) (mi : Nat) (dw : Nat) (rf : Nat) (lc : Int32) (lh : Int32) (br : Int32) (hi : Int32) (aR : Nat) (aB : Nat) (aP : Nat) (nb : Int32) (np : Int32) (gY : Nat) (gF : Nat) (gP : Nat) (gpn : Int32) (glt : Int32) (gsh : Int32) (gwd : Int32) (gpu : Int32) (gmo : Int32) (aW : Nat) (pl : Int32) (cn : Int32) (tB : Nat) (tl : Int32) (ta : Int32) (sz : Nat) (n_cn : 0 ≤ cn.toInt ∧ cn.toInt ≤ 40) (n_gpn : 0 ≤ gpn.toInt ∧ gpn.toInt ≤ 20) (n_gwd : (-1) ≤ gwd.toInt ∧ gwd.toInt ≤ 5) (n_hi : 0 ≤ hi.toInt ∧ hi.toInt ≤ 1) (n_lc : 0 ≤ lc.toInt ∧ lc.toInt ≤ 4) (n_nb : 0 ≤ nb.toInt ∧ nb.toInt ≤ 6) (n_np : 0 ≤ np.toInt ∧ np.toInt ≤ 5) (n_pl : 0 ≤ pl.toInt ∧ pl.toInt ≤ 39) (n_ta : 0 ≤ ta.toInt ∧ ta.toInt ≤ 240) (n_tl : 0 ≤ tl.toInt ∧ tl.toInt ≤ 240)    : Met l yX10_count (.code yX10_count cX10_count 2 (some .int) :: wA) ({ frames := 0, cells := 0, slots := 0, locals := 0 }) (zP (dC, dI) [(cI, .int), (cJ, .long)] [.ref h0, .int p0] sz [(h0, .inr (10, [.ref tp, h0_courtReader, h0_lawReader, h0_draft, .ref aC, h0_laws, .ref g0, .ref k0, .ref ac, .ref sd, .ref mi, .ref dw, .ref rf, .int lc, .int lh, .int br, .int hi])), (aC, .inr (1, [.ref aR, .ref aB, .ref aP, .int nb, .int np])), (g0, .inr (7, [.ref gY, .ref gF, .ref gP, .int gpn, .int glt, .int gsh, .int gwd, .int gpu, .int gmo])), (ac, .inr (0, [.ref aW, .int pl, .int cn])), (tp, .inr (9, [.ref tB, .int tl, .int ta]))]) (va_Qi (fun (r : Int32) (u : Unit) => (∀ (kc : zK3) (kT : zT) (q_fr : Nat → Int32) (q_fb : Nat → Int32) (q_fp : Nat → Int32) (q_gfY : Nat → Int32) (q_gfF : Nat → Int32) (q_gfP : Nat → Int32) (q_fR : Nat → Int32) (q_frf : Nat → Int32), zCn q_fr q_fb q_fp nb.toInt np.toInt kc → zKo nb.toInt np.toInt kc kT → zTc nb.toInt np.toInt kT q_gfY q_gfF q_gfP gpn glt gsh gwd gpu gmo q_fR pl cn q_frf → r.toInt = sV_cou nb np lc br lh tl.toInt kT p0)) (fun (_ : Unit) (_ : State) => True) (va_A [] sz)) 0 0 (va_A [] sz) := by
  refine Met.ofW (cc := cX10_count) (maxL := 2) (ret := (some .int)) (by decide) rfl ?_
  intro p e s m args below meth c s₁ B hml hv
  have y_hi : zHid (0 ≤ hi.toInt ∧ hi.toInt ≤ 1) := n_hi
  have y_pl : zHid (0 ≤ pl.toInt ∧ pl.toInt ≤ 39) := n_pl
  have y_ta : zHid (0 ≤ ta.toInt ∧ ta.toInt ≤ 240) := n_ta
  clear n_hi n_pl n_ta
  obtain ⟨hargs, hsz, hP, hK, hT⟩ := hv
  have hx := B.exec
  have hb := B.bytes
  have hr := B.returns
  have hts : ∀ w ∈ wA, w.before args s = true := fun w h => atoms_spec (ws := .code yX10_count cX10_count 2 (some .int) :: wA) B.pre w (List.mem_cons_of_mem _ h)
  have hown : s.vm.findClass RX10 = some m.cls := findClass_of_methodNamed B.named
  have hlocks := B.notSynchronized
  subst hsz
  have hD : va_D (va_A [] s.heap.size) [] := zD0
  generalize hAe : va_A [] s.heap.size = A at hD ⊢
  have hA : ∀ q : Nat, s.heap.size ≤ q → A q := fun q h => by rw [← hAe]; exact Or.inr h
  have hl := lv_entry ([.ref h0, .int p0]) (n := 2) (Nat.le_of_ble_eq_true rfl)
  rw [show entryFrame m args 2 = entryFrame m ([.ref h0, .int p0] : List Value).toArray 2 by rw [hargs], lg_entry_eq]
  generalize (lg_sl ([.ref h0, .int p0]) ++ List.replicate (2 - (lg_sl ([.ref h0, .int p0])).length) Slot.unset).toArray = ls at hl ⊢
  have hl : lv_has ls 2 [(0, .ref h0), (1, .int p0)] := hl
  refine zstart (fun H hH => ?_)
  rw [← hH] at hP
  have hS : va_S A s.heap H [] := by rw [hH]; exact va_S.rf
  generalize ([] : List Loc) = locs at hS ⊢
  refine zgen (fun R Q hR hQ => ?_)
  refine lv_iload_n hx hb dX10_count_0 rfl (lv_at hl 1 rfl) ?_
  rcases (show (p0.toInt < 0 ∨ 9 < p0.toInt) ∨ p0.toInt = 0 ∨ p0.toInt = 1 ∨ p0.toInt = 2 ∨ p0.toInt = 3 ∨ p0.toInt = 4 ∨ p0.toInt = 5 ∨ p0.toInt = 6 ∨ p0.toInt = 7 ∨ p0.toInt = 8 ∨ p0.toInt = 9 by omega) with c1 | c1 | c1 | c1 | c1 | c1 | c1 | c1 | c1 | c1 | c1
  · refine lv_tableOut (tgt := 127) hx hb dX10_count_1 c1 (by decide) ?_
    refine lv_ldcw (v := (-1000000)) hx hb hown (hts _ qw935) dX10_count_127 ?_
    have zr0 : ((-1000000) : Int32).toInt = (-1000000) := by decide
    rw [hQ]
    exact W.iret (v := ((-1000000))) hx hb hr (fun t ht hW => ⟨⟨(-1000000), (), rfl, (fun kc kT q_fr q_fb q_fp q_gfY q_gfF q_gfP q_fR q_frf hc hb h => by unfold sV_cou; rw [if_neg (by omega), if_neg (by omega), if_neg (by omega), if_neg (by omega), if_neg (by omega), if_neg (by omega), if_neg (by omega), if_neg (by omega), if_neg (by omega), if_neg (by omega)]; decide), trivial⟩, hS.F ht⟩) hS.2.2 dX10_count_130
  · refine lv_tableIn (off := 55) (tgt := 56) hx hb dX10_count_1 (by omega) (by omega) (by rw [c1]; rfl) (by decide) ?_
    refine lv_aload_n hx hb dX10_count_56 rfl (lv_at hl 0 rfl) ?_
    refine va_get (D := (dC, dI)) (ci := 10) (v := .ref aC) (C := RX10) (T := TX10) (N := 17) hx hb hts iX10 hown hK hP 0 rfl rfl 4 (by decide) (hts _ qw360) (fun _ h9 => h9) rfl dX10_count_57 ?_
    refine va_get (D := (dC, dI)) (ci := 1) (v := .int nb) (C := RX1) (T := TX1) (N := 5) hx hb hts iX1 hown hK hP 1 rfl rfl 3 (by decide) (hts _ qw195) (fun _ h9 => h9) rfl dX10_count_60 ?_
    rw [hQ]
    exact W.iret (v := nb) hx hb hr (fun t ht hW => ⟨⟨nb, (), rfl, (fun kc kT q_fr q_fb q_fp q_gfY q_gfF q_gfP q_fR q_frf hc hb h => by unfold sV_cou; rw [if_pos (by omega)]; ), trivial⟩, hS.F ht⟩) hS.2.2 dX10_count_63
  · refine lv_tableIn (off := 63) (tgt := 64) hx hb dX10_count_1 (by omega) (by omega) (by rw [c1]; rfl) (by decide) ?_
    refine lv_aload_n hx hb dX10_count_64 rfl (lv_at hl 0 rfl) ?_
    refine va_get (D := (dC, dI)) (ci := 10) (v := .ref aC) (C := RX10) (T := TX10) (N := 17) hx hb hts iX10 hown hK hP 0 rfl rfl 4 (by decide) (hts _ qw360) (fun _ h9 => h9) rfl dX10_count_65 ?_
    refine va_get (D := (dC, dI)) (ci := 1) (v := .int np) (C := RX1) (T := TX1) (N := 5) hx hb hts iX1 hown hK hP 1 rfl rfl 4 (by decide) (hts _ qw200) (fun _ h9 => h9) rfl dX10_count_68 ?_
    rw [hQ]
    exact W.iret (v := np) hx hb hr (fun t ht hW => ⟨⟨np, (), rfl, (fun kc kT q_fr q_fb q_fp q_gfY q_gfF q_gfP q_fR q_frf hc hb h => by unfold sV_cou; rw [if_neg (by omega), if_pos (by omega)]; ), trivial⟩, hS.F ht⟩) hS.2.2 dX10_count_71
  · refine lv_tableIn (off := 71) (tgt := 72) hx hb dX10_count_1 (by omega) (by omega) (by rw [c1]; rfl) (by decide) ?_
    refine lv_aload_n hx hb dX10_count_72 rfl (lv_at hl 0 rfl) ?_
    refine va_get (D := (dC, dI)) (ci := 10) (v := .int lc) (C := RX10) (T := TX10) (N := 17) hx hb hts iX10 hown hK hP 0 rfl rfl 13 (by decide) (hts _ qw369) (fun _ h9 => h9) rfl dX10_count_73 ?_
    rw [hQ]
    exact W.iret (v := lc) hx hb hr (fun t ht hW => ⟨⟨lc, (), rfl, (fun kc kT q_fr q_fb q_fp q_gfY q_gfF q_gfP q_fR q_frf hc hb h => by unfold sV_cou; rw [if_neg (by omega), if_neg (by omega), if_pos (by omega)]; ), trivial⟩, hS.F ht⟩) hS.2.2 dX10_count_76
  · refine lv_tableIn (off := 76) (tgt := 77) hx hb dX10_count_1 (by omega) (by omega) (by rw [c1]; rfl) (by decide) ?_
    refine lv_aload_n hx hb dX10_count_77 rfl (lv_at hl 0 rfl) ?_
    refine va_get (D := (dC, dI)) (ci := 10) (v := .ref tp) (C := RX10) (T := TX10) (N := 17) hx hb hts iX10 hown hK hP 0 rfl rfl 0 (by decide) (hts _ qw356) (fun _ h9 => h9) rfl dX10_count_78 ?_
    refine va_get (D := (dC, dI)) (ci := 9) (v := .int tl) (C := RX9) (T := TX9) (N := 3) hx hb hts iX9 hown hK hP 4 rfl rfl 1 (by decide) (hts _ qw133) (fun _ h9 => h9) rfl dX10_count_81 ?_
    rw [hQ]
    exact W.iret (v := tl) hx hb hr (fun t ht hW => ⟨⟨tl, (), rfl, (fun kc kT q_fr q_fb q_fp q_gfY q_gfF q_gfP q_fR q_frf hc hb h => by unfold sV_cou; rw [if_neg (by omega), if_neg (by omega), if_neg (by omega), if_pos (by omega)]; ), trivial⟩, hS.F ht⟩) hS.2.2 dX10_count_84
  · refine lv_tableIn (off := 84) (tgt := 85) hx hb dX10_count_1 (by omega) (by omega) (by rw [c1]; rfl) (by decide) ?_
    refine lv_aload_n hx hb dX10_count_85 rfl (lv_at hl 0 rfl) ?_
    refine va_get (D := (dC, dI)) (ci := 10) (v := .int lh) (C := RX10) (T := TX10) (N := 17) hx hb hts iX10 hown hK hP 0 rfl rfl 14 (by decide) (hts _ qw370) (fun _ h9 => h9) rfl dX10_count_86 ?_
    rw [hQ]
    exact W.iret (v := lh) hx hb hr (fun t ht hW => ⟨⟨lh, (), rfl, (fun kc kT q_fr q_fb q_fp q_gfY q_gfF q_gfP q_fR q_frf hc hb h => by unfold sV_cou; rw [if_neg (by omega), if_neg (by omega), if_neg (by omega), if_neg (by omega), if_pos (by omega)]; ), trivial⟩, hS.F ht⟩) hS.2.2 dX10_count_89
  · refine lv_tableIn (off := 89) (tgt := 90) hx hb dX10_count_1 (by omega) (by omega) (by rw [c1]; rfl) (by decide) ?_
    refine lv_aload_n hx hb dX10_count_90 rfl (lv_at hl 0 rfl) ?_
    refine va_get (D := (dC, dI)) (ci := 10) (v := .ref g0) (C := RX10) (T := TX10) (N := 17) hx hb hts iX10 hown hK hP 0 rfl rfl 6 (by decide) (hts _ qw362) (fun _ h9 => h9) rfl dX10_count_91 ?_
    refine va_get (D := (dC, dI)) (ci := 7) (v := .int gmo) (C := RX7) (T := TX7) (N := 9) hx hb hts iX7 hown hK hP 2 rfl rfl 8 (by decide) (hts _ qw242) (fun _ h9 => h9) rfl dX10_count_94 ?_
    rw [hQ]
    exact W.iret (v := gmo) hx hb hr (fun t ht hW => ⟨⟨gmo, (), rfl, (fun kc kT q_fr q_fb q_fp q_gfY q_gfF q_gfP q_fR q_frf hc hb h => by unfold sV_cou; rw [if_neg (by omega), if_neg (by omega), if_neg (by omega), if_neg (by omega), if_neg (by omega), if_pos (by omega)]; exact congrArg Int32.toInt (zSc_mo h.1).symm), trivial⟩, hS.F ht⟩) hS.2.2 dX10_count_97
  · refine lv_tableIn (off := 97) (tgt := 98) hx hb dX10_count_1 (by omega) (by omega) (by rw [c1]; rfl) (by decide) ?_
    refine lv_aload_n hx hb dX10_count_98 rfl (lv_at hl 0 rfl) ?_
    refine va_get (D := (dC, dI)) (ci := 10) (v := .ref g0) (C := RX10) (T := TX10) (N := 17) hx hb hts iX10 hown hK hP 0 rfl rfl 6 (by decide) (hts _ qw362) (fun _ h9 => h9) rfl dX10_count_99 ?_
    refine va_get (D := (dC, dI)) (ci := 7) (v := .int gwd) (C := RX7) (T := TX7) (N := 9) hx hb hts iX7 hown hK hP 2 rfl rfl 6 (by decide) (hts _ qw237) (fun _ h9 => h9) rfl dX10_count_102 ?_
    rw [hQ]
    exact W.iret (v := gwd) hx hb hr (fun t ht hW => ⟨⟨gwd, (), rfl, (fun kc kT q_fr q_fb q_fp q_gfY q_gfF q_gfP q_fR q_frf hc hb h => by unfold sV_cou; rw [if_neg (by omega), if_neg (by omega), if_neg (by omega), if_neg (by omega), if_neg (by omega), if_neg (by omega), if_pos (by omega)]; exact congrArg Int32.toInt (zSc_wd h.1).symm), trivial⟩, hS.F ht⟩) hS.2.2 dX10_count_105
  · refine lv_tableIn (off := 105) (tgt := 106) hx hb dX10_count_1 (by omega) (by omega) (by rw [c1]; rfl) (by decide) ?_
    refine lv_aload_n hx hb dX10_count_106 rfl (lv_at hl 0 rfl) ?_
    refine va_get (D := (dC, dI)) (ci := 10) (v := .ref g0) (C := RX10) (T := TX10) (N := 17) hx hb hts iX10 hown hK hP 0 rfl rfl 6 (by decide) (hts _ qw362) (fun _ h9 => h9) rfl dX10_count_107 ?_
    refine va_get (D := (dC, dI)) (ci := 7) (v := .int gpn) (C := RX7) (T := TX7) (N := 9) hx hb hts iX7 hown hK hP 2 rfl rfl 3 (by decide) (hts _ qw229) (fun _ h9 => h9) rfl dX10_count_110 ?_
    rw [hQ]
    exact W.iret (v := gpn) hx hb hr (fun t ht hW => ⟨⟨gpn, (), rfl, (fun kc kT q_fr q_fb q_fp q_gfY q_gfF q_gfP q_fR q_frf hc hb h => by unfold sV_cou; rw [if_neg (by omega), if_neg (by omega), if_neg (by omega), if_neg (by omega), if_neg (by omega), if_neg (by omega), if_neg (by omega), if_pos (by omega)]; exact congrArg Int32.toInt (zSc_pn h.1).symm), trivial⟩, hS.F ht⟩) hS.2.2 dX10_count_113
  · refine lv_tableIn (off := 113) (tgt := 114) hx hb dX10_count_1 (by omega) (by omega) (by rw [c1]; rfl) (by decide) ?_
    refine lv_aload_n hx hb dX10_count_114 rfl (lv_at hl 0 rfl) ?_
    refine va_get (D := (dC, dI)) (ci := 10) (v := .int br) (C := RX10) (T := TX10) (N := 17) hx hb hts iX10 hown hK hP 0 rfl rfl 15 (by decide) (hts _ qw371) (fun _ h9 => h9) rfl dX10_count_115 ?_
    rw [hQ]
    exact W.iret (v := br) hx hb hr (fun t ht hW => ⟨⟨br, (), rfl, (fun kc kT q_fr q_fb q_fp q_gfY q_gfF q_gfP q_fR q_frf hc hb h => by unfold sV_cou; rw [if_neg (by omega), if_neg (by omega), if_neg (by omega), if_neg (by omega), if_neg (by omega), if_neg (by omega), if_neg (by omega), if_neg (by omega), if_pos (by omega)]; ), trivial⟩, hS.F ht⟩) hS.2.2 dX10_count_118
  · refine lv_tableIn (off := 118) (tgt := 119) hx hb dX10_count_1 (by omega) (by omega) (by rw [c1]; rfl) (by decide) ?_
    refine lv_aload_n hx hb dX10_count_119 rfl (lv_at hl 0 rfl) ?_
    refine va_get (D := (dC, dI)) (ci := 10) (v := .ref ac) (C := RX10) (T := TX10) (N := 17) hx hb hts iX10 hown hK hP 0 rfl rfl 8 (by decide) (hts _ qw364) (fun _ h9 => h9) rfl dX10_count_120 ?_
    refine va_get (D := (dC, dI)) (ci := 0) (v := .int cn) (C := RX0) (T := TX0) (N := 3) hx hb hts iX0 hown hK hP 3 rfl rfl 2 (by decide) (hts _ qw271) (fun _ h9 => h9) rfl dX10_count_123 ?_
    rw [hQ]
    exact W.iret (v := cn) hx hb hr (fun t ht hW => ⟨⟨cn, (), rfl, (fun kc kT q_fr q_fb q_fp q_gfY q_gfF q_gfP q_fR q_frf hc hb h => by unfold sV_cou; rw [if_neg (by omega), if_neg (by omega), if_neg (by omega), if_neg (by omega), if_neg (by omega), if_neg (by omega), if_neg (by omega), if_neg (by omega), if_neg (by omega), if_pos (by omega)]; exact h.2.1.1), trivial⟩, hS.F ht⟩) hS.2.2 dX10_count_126
set_option maxHeartbeats 4000000 in
set_option maxRecDepth 100000 in
theorem g_X10_fits (l : Launch) (dC : Nat → ClassId) (dI : Nat → Nat → Nat) (cI cJ : ClassId) (h0 : Nat) (p0 : Int32) (tp : Nat) (h0_courtReader : Value) (h0_lawReader : Value) (h0_draft : Value) (aC : Nat) (h0_laws : Value) (g0 : Nat) (k0 : Nat) (ac : Nat) (sd : Nat) (mi : Nat) (dw : Nat) (rf : Nat) (lc : Int32) (lh : Int32) (br : Int32) (hi : Int32) (aR : Nat) (aB : Nat) (aP : Nat) (nb : Int32) (np : Int32) (fb : Nat → Int32) (gY : Nat) (gF : Nat) (gP : Nat) (gpn : Int32) (glt : Int32) (gsh : Int32) (gwd : Int32) (gpu : Int32) (gmo : Int32) (mW : Nat) (mt : Int64) (lf : Int32) (mV : Nat) (mA : Nat) (mT : Nat) (sz : Nat) (n_gpn : 0 ≤ gpn.toInt ∧ gpn.toInt ≤ 20) (n_gwd : (-1) ≤ gwd.toInt ∧ gwd.toInt ≤ 5) (n_hi : 0 ≤ hi.toInt ∧ hi.toInt ≤ 1) (n_lc : 0 ≤ lc.toInt ∧ lc.toInt ≤ 4) (n_lf : 0 ≤ lf.toInt ∧ lf.toInt ≤ 9) (n_nb : 0 ≤ nb.toInt ∧ nb.toInt ≤ 6) (n_np : 0 ≤ np.toInt ∧ np.toInt ≤ 5)    : Met l yX10_fits (.code yX10_fits cX10_fits 2 (some .int) :: wA) ({ frames := 3, cells := 0, slots := 0, locals := 66 }) (zPW (dC, dI) [(cI, .int), (cJ, .long)] [.ref h0, .int p0] sz [(h0, .inr (10, [.ref tp, h0_courtReader, h0_lawReader, h0_draft, .ref aC, h0_laws, .ref g0, .ref k0, .ref ac, .ref sd, .ref mi, .ref dw, .ref rf, .int lc, .int lh, .int br, .int hi])), (aC, .inr (1, [.ref aR, .ref aB, .ref aP, .int nb, .int np])), (aB, .inl (cI, 24, .inl fb)), (g0, .inr (7, [.ref gY, .ref gF, .ref gP, .int gpn, .int glt, .int gsh, .int gwd, .int gpu, .int gmo])), (mi, .inr (6, [.ref aC, .ref g0, .ref sd, .ref mW, .long mt, .int lf, .ref mV, .ref mA, .ref mT]))] (va_A [] sz)) (va_Qi (fun (r : Int32) (u : Unit) => ((-1) ≤ r.toInt) ∧ (r.toInt ≤ 1023) ∧ (∀ (kc : zK3) (kT : zT) (q_fr : Nat → Int32) (q_fp : Nat → Int32) (q_gfY : Nat → Int32) (q_gfF : Nat → Int32) (q_gfP : Nat → Int32) (q_fR : Nat → Int32) (q_pl : Int32) (q_cn : Int32) (q_frf : Nat → Int32), zCn q_fr fb q_fp nb.toInt np.toInt kc → zKo nb.toInt np.toInt kc kT → zTc nb.toInt np.toInt kT q_gfY q_gfF q_gfP gpn glt gsh gwd gpu gmo q_fR q_pl q_cn q_frf → r = sV_fit nb.toInt kc kT.1 p0)) (fun (_ : Unit) (_ : State) => True) (va_A [] sz)) 0 0 (va_A [] sz) := by
  refine Met.ofW (cc := cX10_fits) (maxL := 2) (ret := (some .int)) (by decide) rfl ?_
  intro p e s m args below meth c s₁ B hml hv
  have y_gpn : zHid (0 ≤ gpn.toInt ∧ gpn.toInt ≤ 20) := n_gpn
  have y_gwd : zHid ((-1) ≤ gwd.toInt ∧ gwd.toInt ≤ 5) := n_gwd
  have y_hi : zHid (0 ≤ hi.toInt ∧ hi.toInt ≤ 1) := n_hi
  have y_lc : zHid (0 ≤ lc.toInt ∧ lc.toInt ≤ 4) := n_lc
  have y_lf : zHid (0 ≤ lf.toInt ∧ lf.toInt ≤ 9) := n_lf
  clear n_gpn n_gwd n_hi n_lc n_lf
  obtain ⟨⟨hargs, hsz, hP, hK, hT⟩, hV⟩ := hv
  have hx := B.exec
  have hb := B.bytes
  have hr := B.returns
  have hts : ∀ w ∈ wA, w.before args s = true := fun w h => atoms_spec (ws := .code yX10_fits cX10_fits 2 (some .int) :: wA) B.pre w (List.mem_cons_of_mem _ h)
  have hown : s.vm.findClass RX10 = some m.cls := findClass_of_methodNamed B.named
  have hlocks := B.notSynchronized
  subst hsz
  have hD : va_D (va_A [] s.heap.size) [] := zD0
  generalize hAe : va_A [] s.heap.size = A at hD hV ⊢
  have hA : ∀ q : Nat, s.heap.size ≤ q → A q := fun q h => by rw [← hAe]; exact Or.inr h
  have hl := lv_entry ([.ref h0, .int p0]) (n := 2) (Nat.le_of_ble_eq_true rfl)
  rw [show entryFrame m args 2 = entryFrame m ([.ref h0, .int p0] : List Value).toArray 2 by rw [hargs], lg_entry_eq]
  generalize (lg_sl ([.ref h0, .int p0]) ++ List.replicate (2 - (lg_sl ([.ref h0, .int p0])).length) Slot.unset).toArray = ls at hl ⊢
  have hl : lv_has ls 2 [(0, .ref h0), (1, .int p0)] := hl
  refine zstart (fun H hH => ?_)
  rw [← hH] at hP
  have hS : va_S A s.heap H [] := by rw [hH]; exact va_S.rf
  generalize ([] : List Loc) = locs at hS ⊢
  refine zgen (fun R Q hR hQ => ?_)
  refine lv_aload_n hx hb dX10_fits_0 rfl (lv_at hl 0 rfl) ?_
  refine lv_iload_n hx hb dX10_fits_1 rfl (lv_at hl 1 rfl) ?_
  obtain ⟨hPc, hDc⟩ := zc2 (wc := [(h0, .inr (10, [.ref tp, h0_courtReader, h0_lawReader, h0_draft, .ref aC, h0_laws, .ref g0, .ref k0, .ref ac, .ref sd, .ref mi, .ref dw, .ref rf, .int lc, .int lh, .int br, .int hi])), (aC, .inr (1, [.ref aR, .ref aB, .ref aP, .int nb, .int np]))]) hP hT [0, 1] (by decide +kernel) rfl
  have hFc := zfr hS hA
  refine va_calli (va_runV (As := [.int p0]) (rest := []) ⟨hx, hb, hml, hown, hts⟩ (g_X10_isBride l dC dI cI cJ h0 p0 (.ref tp) h0_courtReader h0_lawReader h0_draft aC h0_laws (.ref g0) (.ref k0) (.ref ac) (.ref sd) (.ref mi) (.ref dw) (.ref rf) (.int lc) (.int lh) (.int br) (.int hi) aR aB aP nb np H.size n_nb) (cwV 1 hts (zgV qw625 qw627 qw12 qw98 qw628) rfl rfl rfl hd_X10_isBride ⟨by rw [hR]; exact Nat.le_of_ble_eq_true rfl, by rw [hR]; exact Nat.le_of_ble_eq_true rfl⟩) (zPV hPc hK hDc (va_recv (q := (RX10, TX10, 17)) hK hP (ci := 10) (q0 := 0) rfl rfl)) rfl rfl hl.1 rfl (lv_room (Nat.le_of_ble_eq_true rfl)) dX10_fits_2 ⟨Nat.zero_le _, Nat.zero_le _⟩) hS (fun q _ h => hFc q h) hFc (fun v2 u2 t H locs ht hvm hw hB hz1 hk1 hS9 => ?_)
  replace hP := zkeep hP hk1
  replace hS := hS9
  clear hPc hDc hFc hk1 hz1 hvm hS9
  obtain ⟨f2_0, f2_1, f2_2, f2_3⟩ : (0 ≤ v2.toInt) ∧ (v2.toInt ≤ 1) ∧ (¬ v2.toInt = 0 → (0 ≤ p0.toInt ∧ p0.toInt < nb.toInt)) ∧ (v2.toInt = 0 → ¬ (0 ≤ p0.toInt ∧ p0.toInt < nb.toInt)) := hw
  refine lv_if_eq (tgt := 19) hx hb dX10_fits_5 (by decide) (fun c5 => ?_) (fun c5 => ?_)
  · have c5 : v2.toInt = 0 := z5 rfl (by decide) c5
    refine lv_iconst (v := (-1)) hx hb dX10_fits_19 (by decide) ?_
    have zr0 : ((-1) : Int32).toInt = (-1) := by decide
    rw [hQ]
    exact W.iret (v := ((-1))) hx hb hr (fun t ht hW => ⟨⟨(-1), (), rfl, ⟨by (try dsimp only); omega, by (try dsimp only); omega, fun kc kT q_fr q_fp q_gfY q_gfF q_gfP q_fR q_pl q_cn q_frf hc hb h => by unfold sV_fit; rw [if_neg (by omega)]; ⟩, trivial⟩, hS.F ht⟩) hS.2.2 dX10_fits_20
  · have c5 : ¬ v2.toInt = 0 := z6 rfl (by decide) c5
    refine lv_aload_n hx hb dX10_fits_8 rfl (lv_at hl 0 rfl) ?_
    refine va_get (D := (dC, dI)) (ci := 10) (v := .ref mi) (C := RX10) (T := TX10) (N := 17) hx hb hts iX10 hown hK hP 0 rfl rfl 10 (by decide) (hts _ qw366) (fun _ h9 => h9) rfl dX10_fits_9 ?_
    refine lv_iload_n hx hb dX10_fits_12 rfl (lv_at hl 1 rfl) ?_
    obtain ⟨hPc, hDc⟩ := zc2 (wc := [(mi, .inr (6, [.ref aC, .ref g0, .ref sd, .ref mW, .long mt, .int lf, .ref mV, .ref mA, .ref mT])), (aC, .inr (1, [.ref aR, .ref aB, .ref aP, .int nb, .int np])), (aB, .inl (cI, 24, .inl fb)), (g0, .inr (7, [.ref gY, .ref gF, .ref gP, .int gpn, .int glt, .int gsh, .int gwd, .int gpu, .int gmo]))]) hP hT [4, 1, 2, 3] (by decide +kernel) rfl
    have hFc := zfr hS hA
    refine va_calli (va_runV (As := [.int p0]) (rest := []) ⟨hx, hb, hml, hown, hts⟩ (g_X6_fitting l dC dI cI cJ mi p0 aC g0 sd mW mt lf mV mA mT aR aB aP nb np fb gY gF gP gpn glt gsh gwd gpu gmo H.size (by omega)) (cwV 1 hts (zgV qw819 qw820 qw821 qw106 qw822) rfl rfl rfl hd_X6_fitting ⟨by rw [hR]; exact Nat.le_of_ble_eq_true rfl, by rw [hR]; exact Nat.le_of_ble_eq_true rfl⟩) (zPWV hPc hK hDc (va_recv (q := (RX6, TX6, 9)) hK hP (ci := 6) (q0 := 4) rfl rfl) (zV_call hV hS hFc)) rfl rfl hl.1 rfl (lv_room (Nat.le_of_ble_eq_true rfl)) dX10_fits_13 ⟨Nat.zero_le _, Nat.zero_le _⟩) hS (fun q _ h => hFc q h) hFc (fun v13 u13 t H locs ht hvm hw hB hz1 hk1 hS9 => ?_)
    replace hP := zkeep hP hk1
    replace hS := hS9
    clear hPc hDc hFc hk1 hz1 hvm hS9
    obtain ⟨f13_0, f13_1, f13_2⟩ : (10 ≤ v13.toInt) ∧ (v13.toInt ≤ 1023) ∧ (v13 = zFit (cBt glt p0) (cBt gsh p0) (fb (4 * p0.toInt.toNat))) := hw
    have F13 := f13_2
    refine lv_goto (tgt := 20) hx hb dX10_fits_16 (by decide) ?_
    rw [hQ]
    exact W.iret (v := v13) hx hb hr (fun t ht hW => ⟨⟨v13, (), rfl, ⟨by (try dsimp only); omega, by (try dsimp only); omega, fun kc kT q_fr q_fp q_gfY q_gfF q_gfP q_fR q_pl q_cn q_frf hc hb h => by unfold sV_fit; rw [if_pos (by omega)]; rw [zSc_lt h.1, zSc_sh h.1, ← hc.2.1 _ (by omega)]; exact F13⟩, trivial⟩, hS.F ht⟩) hS.2.2 dX10_fits_20
set_option maxHeartbeats 4000000 in
set_option maxRecDepth 100000 in
theorem g_X10_payByDraws (l : Launch) (dC : Nat → ClassId) (dI : Nat → Nat → Nat) (cI cJ : ClassId) (h0 : Nat) (tp : Nat) (h0_courtReader : Value) (h0_lawReader : Value) (h0_draft : Value) (aC : Nat) (h0_laws : Value) (g0 : Nat) (k0 : Nat) (ac : Nat) (sd : Nat) (mi : Nat) (dw : Nat) (rf : Nat) (lc : Int32) (lh : Int32) (br : Int32) (hi : Int32) (aR : Nat) (aB : Nat) (aP : Nat) (nb : Int32) (np : Int32) (gY : Nat) (gF : Nat) (gP : Nat) (gpn : Int32) (glt : Int32) (gsh : Int32) (gwd : Int32) (gpu : Int32) (gmo : Int32) (gfY : Nat → Int32) (x0 : Int64) (sz : Nat) (n_gpn : 0 ≤ gpn.toInt ∧ gpn.toInt ≤ 20) (n_gwd : (-1) ≤ gwd.toInt ∧ gwd.toInt ≤ 5) (n_hi : 0 ≤ hi.toInt ∧ hi.toInt ≤ 1) (n_lc : 0 ≤ lc.toInt ∧ lc.toInt ≤ 4) (n_nb : 0 ≤ nb.toInt ∧ nb.toInt ≤ 6) (n_np : 0 ≤ np.toInt ∧ np.toInt ≤ 5)    : Met l yX10_payByDraws (.code yX10_payByDraws cX10_payByDraws 2 none :: wA) ({ frames := 1, cells := 0, slots := 0, locals := 30 }) (zP (dC, dI) [(cI, .int), (cJ, .long)] [.ref h0] sz [(h0, .inr (10, [.ref tp, h0_courtReader, h0_lawReader, h0_draft, .ref aC, h0_laws, .ref g0, .ref k0, .ref ac, .ref sd, .ref mi, .ref dw, .ref rf, .int lc, .int lh, .int br, .int hi])), (aC, .inr (1, [.ref aR, .ref aB, .ref aP, .int nb, .int np])), (g0, .inr (7, [.ref gY, .ref gF, .ref gP, .int gpn, .int glt, .int gsh, .int gwd, .int gpu, .int gmo])), (gY, .inl (cI, 6, .inl gfY)), (dw, .inr (3, [.long x0]))]) (va_Qv (fun (u : (Nat → Int32) × Int64) => (∀ (npq : Int) (kS : zS) (q_gfF q_gfP : Nat → Int32), 1 ≤ nb.toInt → zSc nb.toInt npq kS gfY q_gfF q_gfP gpn glt gsh gwd gpu gmo → zSc nb.toInt npq (sDq nb br kS x0) u.1 q_gfF q_gfP gpn glt gsh gwd gpu gmo ∧ u.2 = sDx br x0)) (fun (u : (Nat → Int32) × Int64) (t : State) => va_P (dC, dI) vwCl [(h0, .inr (10, [.ref tp, h0_courtReader, h0_lawReader, h0_draft, .ref aC, h0_laws, .ref g0, .ref k0, .ref ac, .ref sd, .ref mi, .ref dw, .ref rf, .int lc, .int lh, .int br, .int hi])), (aC, .inr (1, [.ref aR, .ref aB, .ref aP, .int nb, .int np])), (g0, .inr (7, [.ref gY, .ref gF, .ref gP, .int gpn, .int glt, .int gsh, .int gwd, .int gpu, .int gmo])), (gY, .inl (cI, 6, .inl u.1)), (dw, .inr (3, [.long u.2]))] t.heap ∧ va_D (va_A [(h0, .inr (10, [.ref tp, h0_courtReader, h0_lawReader, h0_draft, .ref aC, h0_laws, .ref g0, .ref k0, .ref ac, .ref sd, .ref mi, .ref dw, .ref rf, .int lc, .int lh, .int br, .int hi])), (aC, .inr (1, [.ref aR, .ref aB, .ref aP, .int nb, .int np])), (g0, .inr (7, [.ref gY, .ref gF, .ref gP, .int gpn, .int glt, .int gsh, .int gwd, .int gpu, .int gmo])), (gY, .inl (cI, 6, .inl gfY)), (dw, .inr (3, [.long x0]))] sz) [(h0, .inr (10, [.ref tp, h0_courtReader, h0_lawReader, h0_draft, .ref aC, h0_laws, .ref g0, .ref k0, .ref ac, .ref sd, .ref mi, .ref dw, .ref rf, .int lc, .int lh, .int br, .int hi])), (aC, .inr (1, [.ref aR, .ref aB, .ref aP, .int nb, .int np])), (g0, .inr (7, [.ref gY, .ref gF, .ref gP, .int gpn, .int glt, .int gsh, .int gwd, .int gpu, .int gmo])), (gY, .inl (cI, 6, .inl u.1)), (dw, .inr (3, [.long u.2]))]) (va_A [(h0, .inr (10, [.ref tp, h0_courtReader, h0_lawReader, h0_draft, .ref aC, h0_laws, .ref g0, .ref k0, .ref ac, .ref sd, .ref mi, .ref dw, .ref rf, .int lc, .int lh, .int br, .int hi])), (aC, .inr (1, [.ref aR, .ref aB, .ref aP, .int nb, .int np])), (g0, .inr (7, [.ref gY, .ref gF, .ref gP, .int gpn, .int glt, .int gsh, .int gwd, .int gpu, .int gmo])), (gY, .inl (cI, 6, .inl gfY)), (dw, .inr (3, [.long x0]))] sz)) 0 0 (va_A [(h0, .inr (10, [.ref tp, h0_courtReader, h0_lawReader, h0_draft, .ref aC, h0_laws, .ref g0, .ref k0, .ref ac, .ref sd, .ref mi, .ref dw, .ref rf, .int lc, .int lh, .int br, .int hi])), (aC, .inr (1, [.ref aR, .ref aB, .ref aP, .int nb, .int np])), (g0, .inr (7, [.ref gY, .ref gF, .ref gP, .int gpn, .int glt, .int gsh, .int gwd, .int gpu, .int gmo])), (gY, .inl (cI, 6, .inl gfY)), (dw, .inr (3, [.long x0]))] sz) := by
  refine Met.ofW (cc := cX10_payByDraws) (maxL := 2) (ret := none) (by decide) rfl ?_
  intro p e s m args below meth c s₁ B hml hv
  have y_gpn : zHid (0 ≤ gpn.toInt ∧ gpn.toInt ≤ 20) := n_gpn
  have y_gwd : zHid ((-1) ≤ gwd.toInt ∧ gwd.toInt ≤ 5) := n_gwd
  have y_hi : zHid (0 ≤ hi.toInt ∧ hi.toInt ≤ 1) := n_hi
  have y_lc : zHid (0 ≤ lc.toInt ∧ lc.toInt ≤ 4) := n_lc
  have y_np : zHid (0 ≤ np.toInt ∧ np.toInt ≤ 5) := n_np
  clear n_gpn n_gwd n_hi n_lc n_np
  obtain ⟨hargs, hsz, hP, hK, hT⟩ := hv
  have hx := B.exec
  have hb := B.bytes
  have hr := B.returns
  have hts : ∀ w ∈ wA, w.before args s = true := fun w h => atoms_spec (ws := .code yX10_payByDraws cX10_payByDraws 2 none :: wA) B.pre w (List.mem_cons_of_mem _ h)
  have hown : s.vm.findClass RX10 = some m.cls := findClass_of_methodNamed B.named
  have hlocks := B.notSynchronized
  subst hsz
  have hD := hT.self (sz := s.heap.size)
  generalize hAe : va_A [(h0, .inr (10, [.ref tp, h0_courtReader, h0_lawReader, h0_draft, .ref aC, h0_laws, .ref g0, .ref k0, .ref ac, .ref sd, .ref mi, .ref dw, .ref rf, .int lc, .int lh, .int br, .int hi])), (aC, .inr (1, [.ref aR, .ref aB, .ref aP, .int nb, .int np])), (g0, .inr (7, [.ref gY, .ref gF, .ref gP, .int gpn, .int glt, .int gsh, .int gwd, .int gpu, .int gmo])), (gY, .inl (cI, 6, .inl gfY)), (dw, .inr (3, [.long x0]))] s.heap.size = A at hD ⊢
  have hA : ∀ q : Nat, s.heap.size ≤ q → A q := fun q h => by rw [← hAe]; exact Or.inr h
  have hl := lv_entry ([.ref h0]) (n := 2) (Nat.le_of_ble_eq_true rfl)
  rw [show entryFrame m args 2 = entryFrame m ([.ref h0] : List Value).toArray 2 by rw [hargs], lg_entry_eq]
  generalize (lg_sl ([.ref h0]) ++ List.replicate (2 - (lg_sl ([.ref h0])).length) Slot.unset).toArray = ls at hl ⊢
  have hl : lv_has ls 2 [(0, .ref h0)] := hl
  refine zstart (fun H hH => ?_)
  rw [← hH] at hP
  have hS : va_S A s.heap H [] := by rw [hH]; exact va_S.rf
  generalize ([] : List Loc) = locs at hS ⊢
  refine zgen (fun R Q hR hQ => ?_)
  refine lv_aload_n hx hb dX10_payByDraws_0 rfl (lv_at hl 0 rfl) ?_
  refine va_get (D := (dC, dI)) (ci := 10) (v := .ref dw) (C := RX10) (T := TX10) (N := 17) hx hb hts iX10 hown hK hP 0 rfl rfl 11 (by decide) (hts _ qw367) (fun _ h9 => h9) rfl dX10_payByDraws_1 ?_
  refine lv_bipush (v := 10) hx hb dX10_payByDraws_4 (by decide) ?_
  obtain ⟨hPc, hDc, hFc⟩ := zc3 (wc := [(dw, .inr (3, [.long x0]))]) hP hD hS hA [4] (by decide +kernel) rfl
  refine va_calli (va_runV (As := [.int 10]) (rest := []) ⟨hx, hb, hml, hown, hts⟩ (g_X3_below_10 l dC dI cI cJ dw 10 x0 H.size (by decide)) (cwV 1 hts (zgV qw784 qw785 qw786 qw107 qw787) rfl rfl rfl hd_X3_below ⟨by rw [hR]; exact Nat.le_of_ble_eq_true rfl, by rw [hR]; exact Nat.le_of_ble_eq_true rfl⟩) (zPV hPc hK hDc (va_recv (q := (RX3, TX3, 1)) hK hP (ci := 3) (q0 := 4) rfl rfl)) rfl rfl hl.1 rfl (lv_room (Nat.le_of_ble_eq_true rfl)) dX10_payByDraws_6 ⟨Nat.zero_le _, Nat.zero_le _⟩) hS (fun q _ h => hFc q h) hFc (fun v6 u6 t H locs ht hvm hw hB hz1 hk1 hS9 => ?_)
  obtain ⟨u6_0, rfl⟩ : ∃ z, z = u6 := ⟨_, rfl⟩
  obtain ⟨hP9, hD9⟩ := zj2 (wX := [(h0, .inr (10, [.ref tp, h0_courtReader, h0_lawReader, h0_draft, .ref aC, h0_laws, .ref g0, .ref k0, .ref ac, .ref sd, .ref mi, .ref dw, .ref rf, .int lc, .int lh, .int br, .int hi])), (aC, .inr (1, [.ref aR, .ref aB, .ref aP, .int nb, .int np])), (g0, .inr (7, [.ref gY, .ref gF, .ref gP, .int gpn, .int glt, .int gsh, .int gwd, .int gpu, .int gmo])), (gY, .inl (cI, 6, .inl gfY)), (dw, .inr (3, [.long u6_0]))]) hP hD hk1 hFc ht hB [4] [(false, 0), (false, 1), (false, 2), (false, 3), (true, 0)] rfl (by decide +kernel) (by decide +kernel) rfl
  clear hP hD hS hPc hDc hFc hB hk1 hz1 hvm
  have hP := hP9
  have hD := hD9
  have hS := hS9
  clear hP9 hD9 hS9
  have zn6_10 : (10 : Int32).toInt = 10 := by decide
  obtain ⟨f6_0, f6_1, f6_2, f6_3, f6_4⟩ : (0 ≤ v6.toInt) ∧ (v6.toInt ≤ 9) ∧ (v6.toInt < (10 : Int32).toInt ∨ (10 : Int32).toInt < 1) ∧ (1 ≤ (10 : Int32).toInt → v6 = sDr (sNx x0) 10) ∧ (u6_0 = sNx x0) := hw
  have F6 := f6_3
  have F6_1 := f6_4
  refine lv_aload_n hx hb dX10_payByDraws_9 rfl (lv_at hl 0 rfl) ?_
  refine va_get (D := (dC, dI)) (ci := 10) (v := .int br) (C := RX10) (T := TX10) (N := 17) hx hb hts iX10 hown hK hP 0 rfl rfl 15 (by decide) (hts _ qw371) (fun _ h9 => h9) rfl dX10_payByDraws_10 ?_
  refine lv_icmp_lt (tgt := 17) hx hb dX10_payByDraws_13 (by decide) (fun c13 => ?_) (fun c13 => ?_)
  · have c13 : v6.toInt < br.toInt := z1 rfl rfl c13
    refine lv_aload_n hx hb dX10_payByDraws_17 rfl (lv_at hl 0 rfl) ?_
    refine va_get (D := (dC, dI)) (ci := 10) (v := .ref dw) (C := RX10) (T := TX10) (N := 17) hx hb hts iX10 hown hK hP 0 rfl rfl 11 (by decide) (hts _ qw367) (fun _ h9 => h9) rfl dX10_payByDraws_18 ?_
    refine lv_aload_n hx hb dX10_payByDraws_21 rfl (lv_at hl 0 rfl) ?_
    refine va_get (D := (dC, dI)) (ci := 10) (v := .ref aC) (C := RX10) (T := TX10) (N := 17) hx hb hts iX10 hown hK hP 0 rfl rfl 4 (by decide) (hts _ qw360) (fun _ h9 => h9) rfl dX10_payByDraws_22 ?_
    refine va_get (D := (dC, dI)) (ci := 1) (v := .int nb) (C := RX1) (T := TX1) (N := 5) hx hb hts iX1 hown hK hP 1 rfl rfl 3 (by decide) (hts _ qw195) (fun _ h9 => h9) rfl dX10_payByDraws_25 ?_
    obtain ⟨hPc, hDc, hFc⟩ := zc3 (wc := [(dw, .inr (3, [.long u6_0]))]) hP hD hS hA [4] (by decide +kernel) rfl
    refine va_calli (va_runV (As := [.int nb]) (rest := []) ⟨hx, hb, hml, hown, hts⟩ (g_X3_below_6 l dC dI cI cJ dw nb u6_0 H.size n_nb) (cwV 1 hts (zgV qw784 qw785 qw786 qw107 qw787) rfl rfl rfl hd_X3_below ⟨by rw [hR]; exact Nat.le_of_ble_eq_true rfl, by rw [hR]; exact Nat.le_of_ble_eq_true rfl⟩) (zPV hPc hK hDc (va_recv (q := (RX3, TX3, 1)) hK hP (ci := 3) (q0 := 4) rfl rfl)) rfl rfl hl.1 rfl (lv_room (Nat.le_of_ble_eq_true rfl)) dX10_payByDraws_28 ⟨Nat.zero_le _, Nat.zero_le _⟩) hS (fun q _ h => hFc q h) hFc (fun v28 u28 t H locs ht hvm hw hB hz1 hk1 hS9 => ?_)
    obtain ⟨u28_0, rfl⟩ : ∃ z, z = u28 := ⟨_, rfl⟩
    obtain ⟨hP9, hD9⟩ := zj2 (wX := [(h0, .inr (10, [.ref tp, h0_courtReader, h0_lawReader, h0_draft, .ref aC, h0_laws, .ref g0, .ref k0, .ref ac, .ref sd, .ref mi, .ref dw, .ref rf, .int lc, .int lh, .int br, .int hi])), (aC, .inr (1, [.ref aR, .ref aB, .ref aP, .int nb, .int np])), (g0, .inr (7, [.ref gY, .ref gF, .ref gP, .int gpn, .int glt, .int gsh, .int gwd, .int gpu, .int gmo])), (gY, .inl (cI, 6, .inl gfY)), (dw, .inr (3, [.long u28_0]))]) hP hD hk1 hFc ht hB [4] [(false, 0), (false, 1), (false, 2), (false, 3), (true, 0)] rfl (by decide +kernel) (by decide +kernel) rfl
    clear hP hD hS hPc hDc hFc hB hk1 hz1 hvm
    have hP := hP9
    have hD := hD9
    have hS := hS9
    clear hP9 hD9 hS9
    obtain ⟨f28_0, f28_1, f28_2, f28_3, f28_4⟩ : (0 ≤ v28.toInt) ∧ (v28.toInt ≤ 5) ∧ (v28.toInt < nb.toInt ∨ nb.toInt < 1) ∧ (1 ≤ nb.toInt → v28 = sDr (sNx u6_0) nb) ∧ (u28_0 = sNx u6_0) := hw
    have F28 := f28_3
    have F28_1 := f28_4
    refine lv_istore_n (lv' := [(1, .int v28), (0, .ref h0)]) hx hb dX10_payByDraws_31 rfl hl (by decide) rfl (fun ls hl => ?_)
    refine lv_aload_n hx hb dX10_payByDraws_32 rfl (lv_at hl 1 rfl) ?_
    refine va_get (D := (dC, dI)) (ci := 10) (v := .ref g0) (C := RX10) (T := TX10) (N := 17) hx hb hts iX10 hown hK hP 0 rfl rfl 6 (by decide) (hts _ qw362) (fun _ h9 => h9) rfl dX10_payByDraws_33 ?_
    refine va_get (D := (dC, dI)) (ci := 7) (v := .ref gY) (C := RX7) (T := TX7) (N := 9) hx hb hts iX7 hown hK hP 2 rfl rfl 0 (by decide) (hts _ qw222) (fun _ h9 => h9) rfl dX10_payByDraws_36 ?_
    refine lv_iload_n hx hb dX10_payByDraws_39 rfl (lv_at hl 0 rfl) ?_
    refine lv_bipush (v := 9) hx hb dX10_payByDraws_40 (by decide) ?_
    refine lv_aload_n hx hb dX10_payByDraws_42 rfl (lv_at hl 1 rfl) ?_
    refine va_get (D := (dC, dI)) (ci := 10) (v := .ref g0) (C := RX10) (T := TX10) (N := 17) hx hb hts iX10 hown hK hP 0 rfl rfl 6 (by decide) (hts _ qw362) (fun _ h9 => h9) rfl dX10_payByDraws_43 ?_
    refine va_get (D := (dC, dI)) (ci := 7) (v := .ref gY) (C := RX7) (T := TX7) (N := 9) hx hb hts iX7 hown hK hP 2 rfl rfl 0 (by decide) (hts _ qw222) (fun _ h9 => h9) rfl dX10_payByDraws_46 ?_
    refine lv_iload_n hx hb dX10_payByDraws_49 rfl (lv_at hl 0 rfl) ?_
    refine va_iald hx hb hK hP 3 0 rfl rfl (vp_in_iff.mpr ⟨by omega, by omega⟩) dX10_payByDraws_50 ?_
    refine lv_topi (fun v50 e50 => ?_)
    refine lv_iconst (v := 1) hx hb dX10_payByDraws_51 (by decide) ?_
    refine lv_iadd hx hb dX10_payByDraws_52 ?_
    refine lv_topi (fun v52 e52 => ?_)
    refine va_mmin hx hb (by rw [hml]; exact hl.1.symm) hown (hts _ qw742) (hts _ qw569) (hts _ qw112) (hts _ qw570) (by rw [hR]; exact Nat.le_of_ble_eq_true rfl) (by rw [hR]; exact Nat.le_of_ble_eq_true rfl) (Nat.zero_le _) (Nat.zero_le _) dX10_payByDraws_53 ?_
    refine lv_topi (fun v53 e53 => ?_)
    have zc53_0 : (9 : Int32).toInt = 9 := by decide
    have i53 := zmmin e53
    refine va_iast hx hb hK hP hD hS 3 0 rfl rfl (vp_in_iff.mpr ⟨by omega, by omega⟩) dX10_payByDraws_56 (fun H locs hP9 hD9 hS9 => ?_)
    clear hP hD hS
    obtain ⟨v56_f, e56⟩ : ∃ g : Nat → Int32, g = upd gfY (v28).toNatClampNeg v53 := ⟨_, rfl⟩
    rw [← e56] at hP9 hD9
    obtain ⟨hP, hD⟩ := zst (wX := [(h0, .inr (10, [.ref tp, h0_courtReader, h0_lawReader, h0_draft, .ref aC, h0_laws, .ref g0, .ref k0, .ref ac, .ref sd, .ref mi, .ref dw, .ref rf, .int lc, .int lh, .int br, .int hi])), (aC, .inr (1, [.ref aR, .ref aB, .ref aP, .int nb, .int np])), (g0, .inr (7, [.ref gY, .ref gF, .ref gP, .int gpn, .int glt, .int gsh, .int gwd, .int gpu, .int gmo])), (gY, .inl (cI, 6, .inl v56_f)), (dw, .inr (3, [.long u28_0]))]) hP9 hD9 rfl
    have hS := hS9
    clear hP9 hD9 hS9
    rw [hQ]
    exact W.vret hx hb hr (fun t ht hW => ⟨⟨(v56_f, u28_0), rfl, (by (try dsimp only); exact fun npq kS q_gfF q_gfP hn h => by have a6 := F6 (by decide); have b28 : v28 = sDr (sNx (sNx x0)) nb := (by rw [F28 hn, F6_1]); have y50 : v50 = kS.1 v28.toInt.toNat := (zIxN (n := v28.toInt.toNat) e50 (by omega)).trans (h.1 _ (by omega)); have y53 : v53 = sMin 9 (kS.1 v28.toInt.toNat + 1) := (by unfold sMin; rw [e53, e52, y50]); unfold sDq sDx; rw [← a6, if_neg (by omega), if_neg (by omega), ← b28, ← y53]; exact ⟨zSc_Y h e56, by rw [F28_1, F6_1]⟩), ⟨by rw [ht]; exact hP, hD⟩⟩, hS.F ht⟩) hS.2.2 dX10_payByDraws_57
  · have c13 : br.toInt ≤ v6.toInt := z2 rfl rfl c13
    rw [hQ]
    exact W.vret hx hb hr (fun t ht hW => ⟨⟨(gfY, u6_0), rfl, (by (try dsimp only); exact fun npq kS q_gfF q_gfP hn h => by have a6 := F6 (by decide); unfold sDq sDx; rw [← a6, if_pos (by omega), if_pos (by omega)]; exact ⟨h, F6_1⟩), ⟨by rw [ht]; exact hP, hD⟩⟩, hS.F ht⟩) hS.2.2 dX10_payByDraws_16
