set_option maxHeartbeats 4000000 in
set_option maxRecDepth 100000 in
theorem g_X5_read (l : Launch) (dC : Nat → ClassId) (dI : Nat → Nat → Nat) (cI cJ : ClassId) (h0 : Nat) (tp : Nat) (lS : Nat) (sz5 : Int32) (h0_tape : Value) (fS : Nat → Int32) (tB : Nat) (tl : Int32) (ta : Int32) (fB : Nat → Int32) (sz : Nat) (n_sz5 : 0 ≤ sz5.toInt ∧ sz5.toInt ≤ 241) (n_ta : 0 ≤ ta.toInt ∧ ta.toInt ≤ 240) (n_tl : 0 ≤ tl.toInt ∧ tl.toInt ≤ 240) (hty : zTy tl fB) (ci_fS_zSt : zSt fS)  : Met l yX5_read (.code yX5_read cX5_read 4 (some .int) :: wA) ({ frames := 38, cells := 0, slots := 0, locals := 728 }) (zPW (dC, dI) [(cI, .int), (cJ, .long)] [.ref h0, .ref tp] sz [(h0, .inr (5, [.ref lS, .int sz5, h0_tape])), (lS, .inl (cI, 241, .inl fS)), (tp, .inr (9, [.ref tB, .int tl, .int ta])), (tB, .inl (cI, 260, .inl fB))] (va_A [(h0, .inr (5, [.ref lS, .int sz5, h0_tape])), (lS, .inl (cI, 241, .inl fS)), (tp, .inr (9, [.ref tB, .int tl, .int ta])), (tB, .inl (cI, 260, .inl fB))] sz)) (va_Qi (fun (r : Int32) (u : Int32 × (Nat → Int32) × Int32) => ((-1) ≤ r.toInt) ∧ (r.toInt ≤ 240) ∧ (0 ≤ u.1.toInt) ∧ (u.1.toInt ≤ 241) ∧ (0 ≤ u.2.2.toInt) ∧ (u.2.2.toInt ≤ 240) ∧ (sLaw (sB fB tl.toInt) tl.toInt = r.toInt) ∧ (r.toInt = -1 → (∃ fS0 : Nat → Int32, zEm fS0 0 (eLaw (sB fB tl.toInt) tl.toInt) u.2.1 u.1) ∧ (sCl (sB fB tl.toInt) tl.toInt 0).1 = 1) ∧ (zSt u.2.1)) (fun (u : Int32 × (Nat → Int32) × Int32) (t : State) => va_P (dC, dI) vwCl [(h0, .inr (5, [.ref lS, .int u.1, .ref tp])), (lS, .inl (cI, 241, .inl u.2.1)), (tp, .inr (9, [.ref tB, .int tl, .int u.2.2])), (tB, .inl (cI, 260, .inl fB))] t.heap ∧ va_D (va_A [(h0, .inr (5, [.ref lS, .int sz5, h0_tape])), (lS, .inl (cI, 241, .inl fS)), (tp, .inr (9, [.ref tB, .int tl, .int ta])), (tB, .inl (cI, 260, .inl fB))] sz) [(h0, .inr (5, [.ref lS, .int u.1, .ref tp])), (lS, .inl (cI, 241, .inl u.2.1)), (tp, .inr (9, [.ref tB, .int tl, .int u.2.2])), (tB, .inl (cI, 260, .inl fB))]) (va_A [(h0, .inr (5, [.ref lS, .int sz5, h0_tape])), (lS, .inl (cI, 241, .inl fS)), (tp, .inr (9, [.ref tB, .int tl, .int ta])), (tB, .inl (cI, 260, .inl fB))] sz)) 0 0 (va_A [(h0, .inr (5, [.ref lS, .int sz5, h0_tape])), (lS, .inl (cI, 241, .inl fS)), (tp, .inr (9, [.ref tB, .int tl, .int ta])), (tB, .inl (cI, 260, .inl fB))] sz) := by
  refine Met.ofW (cc := cX5_read) (maxL := 4) (ret := (some .int)) (by decide) rfl ?_
  intro p e s m args below meth c s₁ B hml hv
  obtain ⟨⟨hargs, hsz, hP, hK, hT⟩, hV⟩ := hv
  have hx := B.exec
  have hb := B.bytes
  have hr := B.returns
  have hts : ∀ w ∈ wA, w.before args s = true := fun w h => atoms_spec (ws := .code yX5_read cX5_read 4 (some .int) :: wA) B.pre w (List.mem_cons_of_mem _ h)
  have hown : s.vm.findClass RX5 = some m.cls := findClass_of_methodNamed B.named
  have hlocks := B.notSynchronized
  subst hsz
  have hD := hT.self (sz := s.heap.size)
  generalize hAe : va_A [(h0, .inr (5, [.ref lS, .int sz5, h0_tape])), (lS, .inl (cI, 241, .inl fS)), (tp, .inr (9, [.ref tB, .int tl, .int ta])), (tB, .inl (cI, 260, .inl fB))] s.heap.size = A at hD hV ⊢
  have hA : ∀ q : Nat, s.heap.size ≤ q → A q := fun q h => by rw [← hAe]; exact Or.inr h
  have hl := lv_entry ([.ref h0, .ref tp]) (n := 4) (Nat.le_of_ble_eq_true rfl)
  rw [show entryFrame m args 4 = entryFrame m ([.ref h0, .ref tp] : List Value).toArray 4 by rw [hargs], lg_entry_eq]
  generalize (lg_sl ([.ref h0, .ref tp]) ++ List.replicate (4 - (lg_sl ([.ref h0, .ref tp])).length) Slot.unset).toArray = ls at hl ⊢
  have hl : lv_has ls 4 [(0, .ref h0), (1, .ref tp)] := hl
  refine zstart (fun H hH => ?_)
  rw [← hH] at hP
  have hS : va_S A s.heap H [] := by rw [hH]; exact va_S.rf
  generalize ([] : List Loc) = locs at hS ⊢
  refine zgen (fun R Q hR hQ => ?_)
  refine lv_aload_n hx hb dX5_read_0 rfl (lv_at hl 0 rfl) ?_
  refine lv_aload_n hx hb dX5_read_1 rfl (lv_at hl 1 rfl) ?_
  refine va_put (D := (dC, dI)) (ci := 5) (v := .ref tp) (ty := .object "NinePortraits$Tape") (C := RX5) (T := TX5) (N := 3) hx hb hts iX5 tyX5 tyX5_ok nmX5 hown hK hP hD hS 0 rfl rfl 2 (by decide) (hts _ qw172) (fun _ h9 => h9) rfl (by decide +kernel) rfl rfl (Nat.le_of_ble_eq_true rfl) dX5_read_2 (fun H locs hP hD hS => ?_)
  have hP : va_P (dC, dI) vwCl [(h0, .inr (5, [.ref lS, .int sz5, .ref tp])), (lS, .inl (cI, 241, .inl fS)), (tp, .inr (9, [.ref tB, .int tl, .int ta])), (tB, .inl (cI, 260, .inl fB))] H := hP
  have hD : va_D A [(h0, .inr (5, [.ref lS, .int sz5, .ref tp])), (lS, .inl (cI, 241, .inl fS)), (tp, .inr (9, [.ref tB, .int tl, .int ta])), (tB, .inl (cI, 260, .inl fB))] := hD
  refine lv_aload_n hx hb dX5_read_5 rfl (lv_at hl 0 rfl) ?_
  refine va_get (D := (dC, dI)) (ci := 5) (v := .ref tp) (C := RX5) (T := TX5) (N := 3) hx hb hts iX5 hown hK hP 0 rfl rfl 2 (by decide) (hts _ qw172) (fun _ h9 => h9) rfl dX5_read_6 ?_
  refine lv_iconst (v := 0) hx hb dX5_read_9 (by decide) ?_
  refine va_put (D := (dC, dI)) (ci := 9) (v := .int 0) (ty := .int) (C := RX9) (T := TX9) (N := 3) hx hb hts iX9 tyX9 tyX9_ok nmX9 hown hK hP hD hS 2 rfl rfl 2 (by decide) (hts _ qw137) (fun _ h9 => h9) rfl (by decide +kernel) rfl rfl (Nat.le_of_ble_eq_true rfl) dX5_read_10 (fun H locs hP hD hS => ?_)
  have hP : va_P (dC, dI) vwCl [(h0, .inr (5, [.ref lS, .int sz5, .ref tp])), (lS, .inl (cI, 241, .inl fS)), (tp, .inr (9, [.ref tB, .int tl, .int 0])), (tB, .inl (cI, 260, .inl fB))] H := hP
  have hD : va_D A [(h0, .inr (5, [.ref lS, .int sz5, .ref tp])), (lS, .inl (cI, 241, .inl fS)), (tp, .inr (9, [.ref tB, .int tl, .int 0])), (tB, .inl (cI, 260, .inl fB))] := hD
  refine lv_aload_n hx hb dX5_read_13 rfl (lv_at hl 0 rfl) ?_
  refine lv_iconst (v := 0) hx hb dX5_read_14 (by decide) ?_
  refine va_put (D := (dC, dI)) (ci := 5) (v := .int 0) (ty := .int) (C := RX5) (T := TX5) (N := 3) hx hb hts iX5 tyX5 tyX5_ok nmX5 hown hK hP hD hS 0 rfl rfl 1 (by decide) (hts _ qw171) (fun _ h9 => h9) rfl (by decide +kernel) rfl rfl (Nat.le_of_ble_eq_true rfl) dX5_read_15 (fun H locs hP hD hS => ?_)
  have hP : va_P (dC, dI) vwCl [(h0, .inr (5, [.ref lS, .int 0, .ref tp])), (lS, .inl (cI, 241, .inl fS)), (tp, .inr (9, [.ref tB, .int tl, .int 0])), (tB, .inl (cI, 260, .inl fB))] H := hP
  have hD : va_D A [(h0, .inr (5, [.ref lS, .int 0, .ref tp])), (lS, .inl (cI, 241, .inl fS)), (tp, .inr (9, [.ref tB, .int tl, .int 0])), (tB, .inl (cI, 260, .inl fB))] := hD
  refine lv_aload_n hx hb dX5_read_18 rfl (lv_at hl 0 rfl) ?_
  have hPc := hP.sub (ws' := [(h0, .inr (5, [.ref lS, .int 0, .ref tp])), (lS, .inl (cI, 241, .inl fS)), (tp, .inr (9, [.ref tB, .int tl, .int 0])), (tB, .inl (cI, 260, .inl fB))]) [0, 1, 2, 3] rfl
  have hDc := hD.sub (ws' := [(h0, .inr (5, [.ref lS, .int 0, .ref tp])), (lS, .inl (cI, 241, .inl fS)), (tp, .inr (9, [.ref tB, .int tl, .int 0])), (tB, .inl (cI, 260, .inl fB))]) [0, 1, 2, 3] (by decide) rfl
  have hFc := va_free (wc := [(h0, .inr (5, [.ref lS, .int 0, .ref tp])), (lS, .inl (cI, 241, .inl fS)), (tp, .inr (9, [.ref tB, .int tl, .int 0])), (tB, .inl (cI, 260, .inl fB))]) hD hS hA [0, 1, 2, 3] rfl
  refine va_calli (va_runV (As := []) (rest := []) ⟨hx, hb, hml, hown, hts⟩ (g_X5_clause l dC dI cI cJ h0 lS 0 tp fS tB tl 0 fB H.size (by decide) (by decide) n_tl (hty) (by decide) ci_fS_zSt) (cwV 0 hts (zgV qw480 qw482 qw2 qw101 qw483) rfl rfl rfl hd_X5_clause ⟨by rw [hR]; exact Nat.le_of_ble_eq_true rfl, by rw [hR]; exact Nat.le_of_ble_eq_true rfl⟩) (zPWV hPc hK hDc (va_recv hK hP (ci := 5) (q0 := 0) rfl rfl) (zV_call hV hS hFc)) rfl rfl hl.1 rfl (lv_room (Nat.le_of_ble_eq_true rfl)) dX5_read_19 ⟨Nat.zero_le _, Nat.zero_le _⟩) hS (fun q _ h => hFc q h) hFc (fun v19 u19 t H locs ht hvm hw hB hz1 hk1 hS => ?_)
  obtain ⟨u19_0, u19_1, u19_2⟩ := u19
  obtain ⟨hP1, hD1⟩ := hB
  rw [ht] at hP1
  obtain ⟨hP, hD⟩ := va_join (wr := []) (w1 := [(h0, .inr (5, [.ref lS, .int u19_0, .ref tp])), (lS, .inl (cI, 241, .inl u19_1)), (tp, .inr (9, [.ref tB, .int tl, .int u19_2])), (tB, .inl (cI, 260, .inl fB))]) hP hD [0, 1, 2, 3] [] rfl rfl (by decide) (by decide) hk1 hFc hP1 hD1
  have hP : va_P (dC, dI) vwCl [(h0, .inr (5, [.ref lS, .int u19_0, .ref tp])), (lS, .inl (cI, 241, .inl u19_1)), (tp, .inr (9, [.ref tB, .int tl, .int u19_2])), (tB, .inl (cI, 260, .inl fB))] H := hP.sub [0, 1, 2, 3] rfl
  have hD : va_D A [(h0, .inr (5, [.ref lS, .int u19_0, .ref tp])), (lS, .inl (cI, 241, .inl u19_1)), (tp, .inr (9, [.ref tB, .int tl, .int u19_2])), (tB, .inl (cI, 260, .inl fB))] := hD.sub [0, 1, 2, 3] (by decide) rfl
  have zn19_0 : (0 : Int32).toInt = 0 := by decide
  obtain ⟨f19_0, f19_1, f19_2, f19_3, f19_4, f19_5, f19_6, f19_7, f19_8, f19_9, f19_10⟩ : (0 ≤ v19.toInt) ∧ (v19.toInt ≤ 1) ∧ (0 ≤ u19_0.toInt) ∧ (u19_0.toInt ≤ 241) ∧ (0 ≤ u19_2.toInt) ∧ (u19_2.toInt ≤ 240) ∧ (zF (sCl (sB fB tl.toInt) tl.toInt (0 : Int32).toInt) v19 u19_2) ∧ (¬ v19.toInt = 0 → (0 : Int32).toInt < u19_2.toInt) ∧ (¬ v19.toInt = 0 → u19_0.toInt + (0 : Int32).toInt ≤ (0 : Int32).toInt + u19_2.toInt) ∧ (¬ v19.toInt = 0 → zEm fS 0 (eCl (sB fB tl.toInt) tl.toInt (0 : Int32).toInt) u19_1 u19_0) ∧ (zSt u19_1) := hw
  have F19 := f19_6
  have F19_1 := f19_9
  refine lv_istore_n (lv' := [(2, .int v19), (0, .ref h0), (1, .ref tp)]) hx hb dX5_read_22 rfl hl (by decide) rfl (fun ls hl => ?_)
  refine lv_iconst (v := 0) hx hb dX5_read_23 (by decide) ?_
  have J25 : ∀ (n : Nat) (m25_A_lS : Nat → Int32) (m25_F_h0_1 : Int32) (m25_F_tp_2 : Int32) (m25_L_2 : Int32) (m25_L_3 : Int32), (0 ≤ m25_F_h0_1.toInt ∧ m25_F_h0_1.toInt ≤ 241) → (0 ≤ m25_F_tp_2.toInt ∧ m25_F_tp_2.toInt ≤ 240) → (0 ≤ m25_L_2.toInt ∧ m25_L_2.toInt ≤ 1) → (0 ≤ m25_L_3.toInt ∧ m25_L_3.toInt ≤ 240) → (¬ m25_L_2.toInt = 0 → m25_L_3.toInt ≤ m25_F_tp_2.toInt) → (zLr fB tl m25_L_2 m25_F_tp_2) → (¬ m25_L_2.toInt = 0 → m25_F_h0_1.toInt ≤ m25_F_tp_2.toInt) → (zLe fB tl m25_A_lS m25_F_h0_1 m25_L_2 m25_F_tp_2) → (zSt m25_A_lS) → (241 - m25_L_3.toInt).toNat = n → ∀ (H : Heap) (locs : List Loc) (ls : Array Slot), va_P (dC, dI) vwCl [(h0, .inr (5, [.ref lS, .int m25_F_h0_1, .ref tp])), (lS, .inl (cI, 241, .inl m25_A_lS)), (tp, .inr (9, [.ref tB, .int tl, .int m25_F_tp_2])), (tB, .inl (cI, 260, .inl fB))] H → va_D A [(h0, .inr (5, [.ref lS, .int m25_F_h0_1, .ref tp])), (lS, .inl (cI, 241, .inl m25_A_lS)), (tp, .inr (9, [.ref tB, .int tl, .int m25_F_tp_2])), (tB, .inl (cI, 260, .inl fB))] → va_S A s.heap H locs → lv_has ls 4 [(3, .int m25_L_3), (2, .int m25_L_2), (0, .ref h0), (1, .ref tp)] → W p l e R s m args below meth c H locs 0 0 Q (F0 m 25 ls []) := by
    intro n25
    induction n25 using Nat.strongRecOn with
    | _ n25 ih25 =>
      intro m25_A_lS m25_F_h0_1 m25_F_tp_2 m25_L_2 m25_L_3 jf25_0 jf25_1 jf25_2 jf25_3 jf25_4 jv25_0 jf25_6 jv25_1 jf25_8 hmu25 H locs ls hP hD hS hl
      refine lv_iload_n hx hb dX5_read_25 rfl (lv_at hl 0 rfl) ?_
      refine lv_aload_n hx hb dX5_read_26 rfl (lv_at hl 2 rfl) ?_
      refine va_get (D := (dC, dI)) (ci := 5) (v := .ref tp) (C := RX5) (T := TX5) (N := 3) hx hb hts iX5 hown hK hP 0 rfl rfl 2 (by decide) (hts _ qw172) (fun _ h9 => h9) rfl dX5_read_27 ?_
      refine va_get (D := (dC, dI)) (ci := 9) (v := .int tl) (C := RX9) (T := TX9) (N := 3) hx hb hts iX9 hown hK hP 2 rfl rfl 1 (by decide) (hts _ qw135) (fun _ h9 => h9) rfl dX5_read_30 ?_
      refine lv_icmp_ge (tgt := 63) hx hb dX5_read_33 (by decide) (fun c33 => ?_) (fun c33 => ?_)
      · have c33 : tl.toInt ≤ m25_L_3.toInt := z3 rfl rfl c33
        refine lv_iload_n hx hb dX5_read_63 rfl (lv_at hl 1 rfl) ?_
        refine lv_if_eq (tgt := 81) hx hb dX5_read_64 (by decide) (fun c64 => ?_) (fun c64 => ?_)
        · have c64 : m25_L_2.toInt = 0 := z5 rfl (by decide) c64
          refine lv_aload_n hx hb dX5_read_81 rfl (lv_at hl 2 rfl) ?_
          refine va_get (D := (dC, dI)) (ci := 5) (v := .ref tp) (C := RX5) (T := TX5) (N := 3) hx hb hts iX5 hown hK hP 0 rfl rfl 2 (by decide) (hts _ qw172) (fun _ h9 => h9) rfl dX5_read_82 ?_
          refine va_get (D := (dC, dI)) (ci := 9) (v := .int m25_F_tp_2) (C := RX9) (T := TX9) (N := 3) hx hb hts iX9 hown hK hP 2 rfl rfl 2 (by decide) (hts _ qw137) (fun _ h9 => h9) rfl dX5_read_85 ?_
          rw [hQ]
          exact W.iret (v := m25_F_tp_2) hx hb hr (fun t ht hW => ⟨⟨m25_F_tp_2, (m25_F_h0_1, m25_A_lS, m25_F_tp_2), rfl, ⟨by (try dsimp only); omega, by (try dsimp only); omega, by (try dsimp only); omega, by (try dsimp only); omega, by (try dsimp only); omega, by (try dsimp only); omega, zLrF jv25_0 (by omega), fun z => absurd z (by omega), jf25_8⟩, ⟨by rw [ht]; exact hP, hD⟩⟩, hS.F ht⟩) hS.2.2 dX5_read_88
        · have c64 : ¬ m25_L_2.toInt = 0 := z6 rfl (by decide) c64
          refine lv_aload_n hx hb dX5_read_67 rfl (lv_at hl 2 rfl) ?_
          refine va_get (D := (dC, dI)) (ci := 5) (v := .ref tp) (C := RX5) (T := TX5) (N := 3) hx hb hts iX5 hown hK hP 0 rfl rfl 2 (by decide) (hts _ qw172) (fun _ h9 => h9) rfl dX5_read_68 ?_
          have hPc := hP.sub (ws' := [(tp, .inr (9, [.ref tB, .int tl, .int m25_F_tp_2])), (tB, .inl (cI, 260, .inl fB))]) [2, 3] rfl
          have hDc := hD.sub (ws' := [(tp, .inr (9, [.ref tB, .int tl, .int m25_F_tp_2])), (tB, .inl (cI, 260, .inl fB))]) [2, 3] (by decide) rfl
          have hFc := va_free (wc := [(tp, .inr (9, [.ref tB, .int tl, .int m25_F_tp_2])), (tB, .inl (cI, 260, .inl fB))]) hD hS hA [2, 3] rfl
          refine va_calli (va_runV (As := []) (rest := []) ⟨hx, hb, hml, hown, hts⟩ (g_X9_peek l dC dI cI cJ tp tB tl m25_F_tp_2 fB H.size jf25_1 n_tl (hty)) (cwV 0 hts (zgV qw485 qw438 qw439 qw99 qw440) rfl rfl rfl hd_X9_peek ⟨by rw [hR]; exact Nat.le_of_ble_eq_true rfl, by rw [hR]; exact Nat.le_of_ble_eq_true rfl⟩) (zPV hPc hK hDc (va_recv hK hP (ci := 9) (q0 := 2) rfl rfl)) rfl rfl hl.1 rfl (lv_room (Nat.le_of_ble_eq_true rfl)) dX5_read_71 ⟨Nat.zero_le _, Nat.zero_le _⟩) hS (fun q _ h => hFc q h) hFc (fun v71 u71 t H locs ht hvm hw hB hz1 hk1 hS => ?_)
          obtain ⟨u71_0, rfl⟩ : ∃ z, z = u71 := ⟨_, rfl⟩
          obtain ⟨hP1, hD1⟩ := hB
          rw [ht] at hP1
          obtain ⟨hP, hD⟩ := va_join (wr := [(h0, .inr (5, [.ref lS, .int m25_F_h0_1, .ref tp])), (lS, .inl (cI, 241, .inl m25_A_lS))]) (w1 := [(tp, .inr (9, [.ref tB, .int tl, .int u71_0])), (tB, .inl (cI, 260, .inl fB))]) hP hD [2, 3] [0, 1] rfl rfl (by decide) (by decide) hk1 hFc hP1 hD1
          have hP : va_P (dC, dI) vwCl [(h0, .inr (5, [.ref lS, .int m25_F_h0_1, .ref tp])), (lS, .inl (cI, 241, .inl m25_A_lS)), (tp, .inr (9, [.ref tB, .int tl, .int u71_0])), (tB, .inl (cI, 260, .inl fB))] H := hP.sub [0, 1, 2, 3] rfl
          have hD : va_D A [(h0, .inr (5, [.ref lS, .int m25_F_h0_1, .ref tp])), (lS, .inl (cI, 241, .inl m25_A_lS)), (tp, .inr (9, [.ref tB, .int tl, .int u71_0])), (tB, .inl (cI, 260, .inl fB))] := hD.sub [0, 1, 2, 3] (by decide) rfl
          obtain ⟨f71_0, f71_1, f71_2, f71_3, f71_4⟩ : (0 ≤ u71_0.toInt) ∧ (u71_0.toInt ≤ 240) ∧ (¬ v71.toInt = 0 → u71_0.toInt < tl.toInt) ∧ (m25_F_tp_2.toInt ≤ u71_0.toInt) ∧ (zPK fB tl m25_F_tp_2 v71 u71_0) := hw
          have F71 := f71_4
          refine lv_if_ne (tgt := 81) hx hb dX5_read_74 (by decide) (fun c74 => ?_) (fun c74 => ?_)
          · have c74 : ¬ v71.toInt = 0 := z6 rfl (by decide) c74
            refine lv_aload_n hx hb dX5_read_81 rfl (lv_at hl 2 rfl) ?_
            refine va_get (D := (dC, dI)) (ci := 5) (v := .ref tp) (C := RX5) (T := TX5) (N := 3) hx hb hts iX5 hown hK hP 0 rfl rfl 2 (by decide) (hts _ qw172) (fun _ h9 => h9) rfl dX5_read_82 ?_
            refine va_get (D := (dC, dI)) (ci := 9) (v := .int u71_0) (C := RX9) (T := TX9) (N := 3) hx hb hts iX9 hown hK hP 2 rfl rfl 2 (by decide) (hts _ qw137) (fun _ h9 => h9) rfl dX5_read_85 ?_
            rw [hQ]
            exact W.iret (v := u71_0) hx hb hr (fun t ht hW => ⟨⟨u71_0, (m25_F_h0_1, m25_A_lS, u71_0), rfl, ⟨by (try dsimp only); omega, by (try dsimp only); omega, by (try dsimp only); omega, by (try dsimp only); omega, by (try dsimp only); omega, by (try dsimp only); omega, (zLrP jv25_0 (by omega) (Or.inl (by omega)) F71.1 F71.2).2 (by omega), fun z => absurd z (by omega), jf25_8⟩, ⟨by rw [ht]; exact hP, hD⟩⟩, hS.F ht⟩) hS.2.2 dX5_read_88
          · have c74 : v71.toInt = 0 := z5 rfl (by decide) c74
            refine lv_iconst (v := (-1)) hx hb dX5_read_77 (by decide) ?_
            refine lv_goto (tgt := 88) hx hb dX5_read_78 (by decide) ?_
            have zr0 : ((-1) : Int32).toInt = (-1) := by decide
            rw [hQ]
            exact W.iret (v := ((-1))) hx hb hr (fun t ht hW => ⟨⟨(-1), (m25_F_h0_1, m25_A_lS, u71_0), rfl, ⟨by (try dsimp only); omega, by (try dsimp only); omega, by (try dsimp only); omega, by (try dsimp only); omega, by (try dsimp only); omega, by (try dsimp only); omega, (zLrP jv25_0 (by omega) (Or.inl (by omega)) F71.1 F71.2).1 (by omega), fun _ => zLeE jv25_1 (by omega) (Or.inl (by omega)), jf25_8⟩, ⟨by rw [ht]; exact hP, hD⟩⟩, hS.F ht⟩) hS.2.2 dX5_read_88
      · have c33 : m25_L_3.toInt < tl.toInt := z4 rfl rfl c33
        refine lv_iload_n hx hb dX5_read_36 rfl (lv_at hl 1 rfl) ?_
        refine lv_if_eq (tgt := 63) hx hb dX5_read_37 (by decide) (fun c37 => ?_) (fun c37 => ?_)
        · have c37 : m25_L_2.toInt = 0 := z5 rfl (by decide) c37
          refine lv_iload_n hx hb dX5_read_63 rfl (lv_at hl 1 rfl) ?_
          refine lv_if_eq (tgt := 81) hx hb dX5_read_64 (by decide) (fun c64 => ?_) (fun c64 => by exfalso; have c64 : ¬ m25_L_2.toInt = 0 := z6 rfl (by decide) c64; omega)
          have c64 : m25_L_2.toInt = 0 := z5 rfl (by decide) c64
          refine lv_aload_n hx hb dX5_read_81 rfl (lv_at hl 2 rfl) ?_
          refine va_get (D := (dC, dI)) (ci := 5) (v := .ref tp) (C := RX5) (T := TX5) (N := 3) hx hb hts iX5 hown hK hP 0 rfl rfl 2 (by decide) (hts _ qw172) (fun _ h9 => h9) rfl dX5_read_82 ?_
          refine va_get (D := (dC, dI)) (ci := 9) (v := .int m25_F_tp_2) (C := RX9) (T := TX9) (N := 3) hx hb hts iX9 hown hK hP 2 rfl rfl 2 (by decide) (hts _ qw137) (fun _ h9 => h9) rfl dX5_read_85 ?_
          rw [hQ]
          exact W.iret (v := m25_F_tp_2) hx hb hr (fun t ht hW => ⟨⟨m25_F_tp_2, (m25_F_h0_1, m25_A_lS, m25_F_tp_2), rfl, ⟨by (try dsimp only); omega, by (try dsimp only); omega, by (try dsimp only); omega, by (try dsimp only); omega, by (try dsimp only); omega, by (try dsimp only); omega, zLrF jv25_0 (by omega), fun z => absurd z (by omega), jf25_8⟩, ⟨by rw [ht]; exact hP, hD⟩⟩, hS.F ht⟩) hS.2.2 dX5_read_88
        · have c37 : ¬ m25_L_2.toInt = 0 := z6 rfl (by decide) c37
          refine lv_aload_n hx hb dX5_read_40 rfl (lv_at hl 2 rfl) ?_
          refine va_get (D := (dC, dI)) (ci := 5) (v := .ref tp) (C := RX5) (T := TX5) (N := 3) hx hb hts iX5 hown hK hP 0 rfl rfl 2 (by decide) (hts _ qw172) (fun _ h9 => h9) rfl dX5_read_41 ?_
          refine lv_bipush (v := 59) hx hb dX5_read_44 (by decide) ?_
          have hPc := hP.sub (ws' := [(tp, .inr (9, [.ref tB, .int tl, .int m25_F_tp_2])), (tB, .inl (cI, 260, .inl fB))]) [2, 3] rfl
          have hDc := hD.sub (ws' := [(tp, .inr (9, [.ref tB, .int tl, .int m25_F_tp_2])), (tB, .inl (cI, 260, .inl fB))]) [2, 3] (by decide) rfl
          have hFc := va_free (wc := [(tp, .inr (9, [.ref tB, .int tl, .int m25_F_tp_2])), (tB, .inl (cI, 260, .inl fB))]) hD hS hA [2, 3] rfl
          refine va_calli (va_runV (As := [.int 59]) (rest := []) ⟨hx, hb, hml, hown, hts⟩ (g_X9_takes l dC dI cI cJ tp 59 tB tl m25_F_tp_2 fB H.size (by decide) jf25_1 n_tl (hty)) (cwV 1 hts (zgV qw484 qw472 qw473 qw99 qw474) rfl rfl rfl hd_X9_takes ⟨by rw [hR]; exact Nat.le_of_ble_eq_true rfl, by rw [hR]; exact Nat.le_of_ble_eq_true rfl⟩) (zPV hPc hK hDc (va_recv hK hP (ci := 9) (q0 := 2) rfl rfl)) rfl rfl hl.1 rfl (lv_room (Nat.le_of_ble_eq_true rfl)) dX5_read_46 ⟨Nat.zero_le _, Nat.zero_le _⟩) hS (fun q _ h => hFc q h) hFc (fun v46 u46 t H locs ht hvm hw hB hz1 hk1 hS => ?_)
          obtain ⟨u46_0, rfl⟩ : ∃ z, z = u46 := ⟨_, rfl⟩
          obtain ⟨hP1, hD1⟩ := hB
          rw [ht] at hP1
          obtain ⟨hP, hD⟩ := va_join (wr := [(h0, .inr (5, [.ref lS, .int m25_F_h0_1, .ref tp])), (lS, .inl (cI, 241, .inl m25_A_lS))]) (w1 := [(tp, .inr (9, [.ref tB, .int tl, .int u46_0])), (tB, .inl (cI, 260, .inl fB))]) hP hD [2, 3] [0, 1] rfl rfl (by decide) (by decide) hk1 hFc hP1 hD1
          have hP : va_P (dC, dI) vwCl [(h0, .inr (5, [.ref lS, .int m25_F_h0_1, .ref tp])), (lS, .inl (cI, 241, .inl m25_A_lS)), (tp, .inr (9, [.ref tB, .int tl, .int u46_0])), (tB, .inl (cI, 260, .inl fB))] H := hP.sub [0, 1, 2, 3] rfl
          have hD : va_D A [(h0, .inr (5, [.ref lS, .int m25_F_h0_1, .ref tp])), (lS, .inl (cI, 241, .inl m25_A_lS)), (tp, .inr (9, [.ref tB, .int tl, .int u46_0])), (tB, .inl (cI, 260, .inl fB))] := hD.sub [0, 1, 2, 3] (by decide) rfl
          obtain ⟨f46_0, f46_1, f46_2, f46_3, f46_4, f46_5⟩ : (0 ≤ v46.toInt) ∧ (v46.toInt ≤ 1) ∧ (0 ≤ u46_0.toInt) ∧ (u46_0.toInt ≤ 240) ∧ (m25_F_tp_2.toInt ≤ u46_0.toInt) ∧ (zTk fB tl m25_F_tp_2 59 v46 u46_0) := hw
          have F46 := f46_5
          refine lv_if_eq (tgt := 63) hx hb dX5_read_49 (by decide) (fun c49 => ?_) (fun c49 => ?_)
          · have c49 : v46.toInt = 0 := z5 rfl (by decide) c49
            refine lv_iload_n hx hb dX5_read_63 rfl (lv_at hl 1 rfl) ?_
            refine lv_if_eq (tgt := 81) hx hb dX5_read_64 (by decide) (fun c64 => by exfalso; have c64 : m25_L_2.toInt = 0 := z5 rfl (by decide) c64; omega) (fun c64 => ?_)
            have c64 : ¬ m25_L_2.toInt = 0 := z6 rfl (by decide) c64
            refine lv_aload_n hx hb dX5_read_67 rfl (lv_at hl 2 rfl) ?_
            refine va_get (D := (dC, dI)) (ci := 5) (v := .ref tp) (C := RX5) (T := TX5) (N := 3) hx hb hts iX5 hown hK hP 0 rfl rfl 2 (by decide) (hts _ qw172) (fun _ h9 => h9) rfl dX5_read_68 ?_
            have hPc := hP.sub (ws' := [(tp, .inr (9, [.ref tB, .int tl, .int u46_0])), (tB, .inl (cI, 260, .inl fB))]) [2, 3] rfl
            have hDc := hD.sub (ws' := [(tp, .inr (9, [.ref tB, .int tl, .int u46_0])), (tB, .inl (cI, 260, .inl fB))]) [2, 3] (by decide) rfl
            have hFc := va_free (wc := [(tp, .inr (9, [.ref tB, .int tl, .int u46_0])), (tB, .inl (cI, 260, .inl fB))]) hD hS hA [2, 3] rfl
            refine va_calli (va_runV (As := []) (rest := []) ⟨hx, hb, hml, hown, hts⟩ (g_X9_peek l dC dI cI cJ tp tB tl u46_0 fB H.size ⟨f46_2, f46_3⟩ n_tl (hty)) (cwV 0 hts (zgV qw485 qw438 qw439 qw99 qw440) rfl rfl rfl hd_X9_peek ⟨by rw [hR]; exact Nat.le_of_ble_eq_true rfl, by rw [hR]; exact Nat.le_of_ble_eq_true rfl⟩) (zPV hPc hK hDc (va_recv hK hP (ci := 9) (q0 := 2) rfl rfl)) rfl rfl hl.1 rfl (lv_room (Nat.le_of_ble_eq_true rfl)) dX5_read_71 ⟨Nat.zero_le _, Nat.zero_le _⟩) hS (fun q _ h => hFc q h) hFc (fun v71 u71 t H locs ht hvm hw hB hz1 hk1 hS => ?_)
            obtain ⟨u71_0, rfl⟩ : ∃ z, z = u71 := ⟨_, rfl⟩
            obtain ⟨hP1, hD1⟩ := hB
            rw [ht] at hP1
            obtain ⟨hP, hD⟩ := va_join (wr := [(h0, .inr (5, [.ref lS, .int m25_F_h0_1, .ref tp])), (lS, .inl (cI, 241, .inl m25_A_lS))]) (w1 := [(tp, .inr (9, [.ref tB, .int tl, .int u71_0])), (tB, .inl (cI, 260, .inl fB))]) hP hD [2, 3] [0, 1] rfl rfl (by decide) (by decide) hk1 hFc hP1 hD1
            have hP : va_P (dC, dI) vwCl [(h0, .inr (5, [.ref lS, .int m25_F_h0_1, .ref tp])), (lS, .inl (cI, 241, .inl m25_A_lS)), (tp, .inr (9, [.ref tB, .int tl, .int u71_0])), (tB, .inl (cI, 260, .inl fB))] H := hP.sub [0, 1, 2, 3] rfl
            have hD : va_D A [(h0, .inr (5, [.ref lS, .int m25_F_h0_1, .ref tp])), (lS, .inl (cI, 241, .inl m25_A_lS)), (tp, .inr (9, [.ref tB, .int tl, .int u71_0])), (tB, .inl (cI, 260, .inl fB))] := hD.sub [0, 1, 2, 3] (by decide) rfl
            obtain ⟨f71_0, f71_1, f71_2, f71_3, f71_4⟩ : (0 ≤ u71_0.toInt) ∧ (u71_0.toInt ≤ 240) ∧ (¬ v71.toInt = 0 → u71_0.toInt < tl.toInt) ∧ (u46_0.toInt ≤ u71_0.toInt) ∧ (zPK fB tl u46_0 v71 u71_0) := hw
            have F71 := f71_4
            refine lv_if_ne (tgt := 81) hx hb dX5_read_74 (by decide) (fun c74 => ?_) (fun c74 => ?_)
            · have c74 : ¬ v71.toInt = 0 := z6 rfl (by decide) c74
              refine lv_aload_n hx hb dX5_read_81 rfl (lv_at hl 2 rfl) ?_
              refine va_get (D := (dC, dI)) (ci := 5) (v := .ref tp) (C := RX5) (T := TX5) (N := 3) hx hb hts iX5 hown hK hP 0 rfl rfl 2 (by decide) (hts _ qw172) (fun _ h9 => h9) rfl dX5_read_82 ?_
              refine va_get (D := (dC, dI)) (ci := 9) (v := .int u71_0) (C := RX9) (T := TX9) (N := 3) hx hb hts iX9 hown hK hP 2 rfl rfl 2 (by decide) (hts _ qw137) (fun _ h9 => h9) rfl dX5_read_85 ?_
              rw [hQ]
              exact W.iret (v := u71_0) hx hb hr (fun t ht hW => ⟨⟨u71_0, (m25_F_h0_1, m25_A_lS, u71_0), rfl, ⟨by (try dsimp only); omega, by (try dsimp only); omega, by (try dsimp only); omega, by (try dsimp only); omega, by (try dsimp only); omega, by (try dsimp only); omega, (zLrP jv25_0 (by omega) (Or.inr (zTk_n F46 (by omega) (by decide))) (zTk_s F46 (by omega) F71.1) F71.2).2 (by omega), fun z => absurd z (by omega), jf25_8⟩, ⟨by rw [ht]; exact hP, hD⟩⟩, hS.F ht⟩) hS.2.2 dX5_read_88
            · have c74 : v71.toInt = 0 := z5 rfl (by decide) c74
              refine lv_iconst (v := (-1)) hx hb dX5_read_77 (by decide) ?_
              refine lv_goto (tgt := 88) hx hb dX5_read_78 (by decide) ?_
              have zr0 : ((-1) : Int32).toInt = (-1) := by decide
              rw [hQ]
              exact W.iret (v := ((-1))) hx hb hr (fun t ht hW => ⟨⟨(-1), (m25_F_h0_1, m25_A_lS, u71_0), rfl, ⟨by (try dsimp only); omega, by (try dsimp only); omega, by (try dsimp only); omega, by (try dsimp only); omega, by (try dsimp only); omega, by (try dsimp only); omega, (zLrP jv25_0 (by omega) (Or.inr (zTk_n F46 (by omega) (by decide))) (zTk_s F46 (by omega) F71.1) F71.2).1 (by omega), fun _ => zLeE jv25_1 (by omega) (Or.inr (zTk_n F46 (by omega) (by decide))), jf25_8⟩, ⟨by rw [ht]; exact hP, hD⟩⟩, hS.F ht⟩) hS.2.2 dX5_read_88
          · have c49 : ¬ v46.toInt = 0 := z6 rfl (by decide) c49
            refine lv_aload_n hx hb dX5_read_52 rfl (lv_at hl 2 rfl) ?_
            have hPc := hP.sub (ws' := [(h0, .inr (5, [.ref lS, .int m25_F_h0_1, .ref tp])), (lS, .inl (cI, 241, .inl m25_A_lS)), (tp, .inr (9, [.ref tB, .int tl, .int u46_0])), (tB, .inl (cI, 260, .inl fB))]) [0, 1, 2, 3] rfl
            have hDc := hD.sub (ws' := [(h0, .inr (5, [.ref lS, .int m25_F_h0_1, .ref tp])), (lS, .inl (cI, 241, .inl m25_A_lS)), (tp, .inr (9, [.ref tB, .int tl, .int u46_0])), (tB, .inl (cI, 260, .inl fB))]) [0, 1, 2, 3] (by decide) rfl
            have hFc := va_free (wc := [(h0, .inr (5, [.ref lS, .int m25_F_h0_1, .ref tp])), (lS, .inl (cI, 241, .inl m25_A_lS)), (tp, .inr (9, [.ref tB, .int tl, .int u46_0])), (tB, .inl (cI, 260, .inl fB))]) hD hS hA [0, 1, 2, 3] rfl
            refine va_calli (va_runV (As := []) (rest := []) ⟨hx, hb, hml, hown, hts⟩ (g_X5_clause l dC dI cI cJ h0 lS m25_F_h0_1 tp m25_A_lS tB tl u46_0 fB H.size jf25_0 ⟨f46_2, f46_3⟩ n_tl (hty) (by omega) jf25_8) (cwV 0 hts (zgV qw480 qw482 qw2 qw101 qw483) rfl rfl rfl hd_X5_clause ⟨by rw [hR]; exact Nat.le_of_ble_eq_true rfl, by rw [hR]; exact Nat.le_of_ble_eq_true rfl⟩) (zPWV hPc hK hDc (va_recv hK hP (ci := 5) (q0 := 0) rfl rfl) (zV_call hV hS hFc)) rfl rfl hl.1 rfl (lv_room (Nat.le_of_ble_eq_true rfl)) dX5_read_53 ⟨Nat.zero_le _, Nat.zero_le _⟩) hS (fun q _ h => hFc q h) hFc (fun v53 u53 t H locs ht hvm hw hB hz1 hk1 hS => ?_)
            obtain ⟨u53_0, u53_1, u53_2⟩ := u53
            obtain ⟨hP1, hD1⟩ := hB
            rw [ht] at hP1
            obtain ⟨hP, hD⟩ := va_join (wr := []) (w1 := [(h0, .inr (5, [.ref lS, .int u53_0, .ref tp])), (lS, .inl (cI, 241, .inl u53_1)), (tp, .inr (9, [.ref tB, .int tl, .int u53_2])), (tB, .inl (cI, 260, .inl fB))]) hP hD [0, 1, 2, 3] [] rfl rfl (by decide) (by decide) hk1 hFc hP1 hD1
            have hP : va_P (dC, dI) vwCl [(h0, .inr (5, [.ref lS, .int u53_0, .ref tp])), (lS, .inl (cI, 241, .inl u53_1)), (tp, .inr (9, [.ref tB, .int tl, .int u53_2])), (tB, .inl (cI, 260, .inl fB))] H := hP.sub [0, 1, 2, 3] rfl
            have hD : va_D A [(h0, .inr (5, [.ref lS, .int u53_0, .ref tp])), (lS, .inl (cI, 241, .inl u53_1)), (tp, .inr (9, [.ref tB, .int tl, .int u53_2])), (tB, .inl (cI, 260, .inl fB))] := hD.sub [0, 1, 2, 3] (by decide) rfl
            obtain ⟨f53_0, f53_1, f53_2, f53_3, f53_4, f53_5, f53_6, f53_7, f53_8, f53_9, f53_10⟩ : (0 ≤ v53.toInt) ∧ (v53.toInt ≤ 1) ∧ (0 ≤ u53_0.toInt) ∧ (u53_0.toInt ≤ 241) ∧ (0 ≤ u53_2.toInt) ∧ (u53_2.toInt ≤ 240) ∧ (zF (sCl (sB fB tl.toInt) tl.toInt u46_0.toInt) v53 u53_2) ∧ (¬ v53.toInt = 0 → u46_0.toInt < u53_2.toInt) ∧ (¬ v53.toInt = 0 → u53_0.toInt + u46_0.toInt ≤ m25_F_h0_1.toInt + u53_2.toInt) ∧ (¬ v53.toInt = 0 → zEm m25_A_lS m25_F_h0_1 (eCl (sB fB tl.toInt) tl.toInt u46_0.toInt) u53_1 u53_0) ∧ (zSt u53_1) := hw
            have F53 := f53_6
            have F53_1 := f53_9
            refine lv_istore_n (lv' := [(2, .int v53), (3, .int m25_L_3), (0, .ref h0), (1, .ref tp)]) hx hb dX5_read_56 rfl hl (by decide) rfl (fun ls hl => ?_)
            obtain ⟨v57, e57⟩ : ∃ y : Int32, y = m25_L_3 + Int32.ofInt (1) := ⟨_, rfl⟩
            refine lv_iinc (v := v57) (lv' := [(3, .int v57), (2, .int v53), (0, .ref h0), (1, .ref tp)]) hx hb dX5_read_57 hl (k := 1) rfl e57.symm (by decide) rfl (fun ls hl => ?_)
            have i57 : v57.toInt = m25_L_3.toInt + 1 := zaddI e57 (by decide) (by omega) (by omega)
            refine lv_goto (tgt := 25) hx hb dX5_read_60 (by decide) ?_
            exact ih25 _ (by omega) u53_1 u53_0 u53_2 v53 v57 ⟨f53_2, f53_3⟩ ⟨f53_4, f53_5⟩ ⟨f53_0, f53_1⟩ (by omega) (by omega) (zLrS jv25_0 (by omega) F46 (by omega) F53 (by omega) (by omega) (by omega)) (by omega) (zLeS jv25_1 (by omega) F46 (by omega) F53 (fun z => by omega) F53_1) f53_10 rfl H locs ls hP hD hS (lv_sub hl [0, 1, 2, 3] rfl)
  refine lv_istore_n (lv' := [(3, .int 0), (2, .int v19), (0, .ref h0), (1, .ref tp)]) hx hb dX5_read_24 rfl hl (by decide) rfl (fun ls hl => ?_)
  have zj25_m25_L_3 : (0 : Int32).toInt = 0 := by decide
  exact J25 _ u19_1 u19_0 u19_2 v19 0 ⟨f19_2, f19_3⟩ ⟨f19_4, f19_5⟩ ⟨f19_0, f19_1⟩ (by decide) (by omega) (zLr0 F19 (by omega) (by omega)) (by omega) (zLe0 F19 F19_1) f19_10 rfl H locs ls hP hD hS (lv_sub hl [0, 1, 2, 3] rfl)
