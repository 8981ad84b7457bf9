set_option maxHeartbeats 4000000 in
set_option maxRecDepth 100000 in
theorem g_X5_condition_0_1 (l : Launch) (dC : Nat → ClassId) (dI : Nat → Nat → Nat) (cI cJ : ClassId) (h0 : Nat) (lS : Nat) (sz5 : Int32) (tp : Nat) (fS : Nat → Int32) (tB : Nat) (tl : Int32) (ta : Int32) (fB : Nat → Int32) (sz : Nat) (n_sz5 : 0 ≤ sz5.toInt ∧ sz5.toInt ≤ 241) (n_ta : 0 ≤ ta.toInt ∧ ta.toInt ≤ 240) (n_tl : 0 ≤ tl.toInt ∧ tl.toInt ≤ 240) (hty : zTy tl fB) (hsz : sz5.toInt ≤ ta.toInt) (ci_fS_zSt : zSt fS)  : Met l yX5_condition (.code yX5_condition cX5_condition 6 (some .boolean) :: wA) ({ frames := 36, cells := 0, slots := 0, locals := 665 }) (zPW (dC, dI) [(cI, .int), (cJ, .long)] [.ref h0, .int 0, .int 1] sz [(h0, .inr (5, [.ref lS, .int sz5, .ref tp])), (lS, .inl (cI, 241, .inl fS)), (tp, .inr (9, [.ref tB, .int tl, .int ta])), (tB, .inl (cI, 260, .inl fB))] (va_A [(h0, .inr (5, [.ref lS, .int sz5, .ref tp])), (lS, .inl (cI, 241, .inl fS)), (tp, .inr (9, [.ref tB, .int tl, .int ta])), (tB, .inl (cI, 260, .inl fB))] sz)) (va_Qi (fun (r : Int32) (u : Int32 × (Nat → Int32) × Int32) => (0 ≤ r.toInt) ∧ (r.toInt ≤ 1) ∧ (0 ≤ u.1.toInt) ∧ (u.1.toInt ≤ 241) ∧ (0 ≤ u.2.2.toInt) ∧ (u.2.2.toInt ≤ 240) ∧ (zF (sGo (sB fB tl.toInt) tl.toInt ta.toInt) r u.2.2) ∧ (¬ r.toInt = 0 → ta.toInt < u.2.2.toInt) ∧ (¬ r.toInt = 0 → u.1.toInt + ta.toInt ≤ sz5.toInt + u.2.2.toInt) ∧ (¬ r.toInt = 0 → zEm fS sz5 (eGo (sB fB tl.toInt) tl.toInt ta.toInt) u.2.1 u.1) ∧ (zSt u.2.1)) (fun (u : Int32 × (Nat → Int32) × Int32) (t : State) => va_P (dC, dI) vwCl [(h0, .inr (5, [.ref lS, .int u.1, .ref tp])), (lS, .inl (cI, 241, .inl u.2.1)), (tp, .inr (9, [.ref tB, .int tl, .int u.2.2])), (tB, .inl (cI, 260, .inl fB))] t.heap ∧ va_D (va_A [(h0, .inr (5, [.ref lS, .int sz5, .ref tp])), (lS, .inl (cI, 241, .inl fS)), (tp, .inr (9, [.ref tB, .int tl, .int ta])), (tB, .inl (cI, 260, .inl fB))] sz) [(h0, .inr (5, [.ref lS, .int u.1, .ref tp])), (lS, .inl (cI, 241, .inl u.2.1)), (tp, .inr (9, [.ref tB, .int tl, .int u.2.2])), (tB, .inl (cI, 260, .inl fB))]) (va_A [(h0, .inr (5, [.ref lS, .int sz5, .ref tp])), (lS, .inl (cI, 241, .inl fS)), (tp, .inr (9, [.ref tB, .int tl, .int ta])), (tB, .inl (cI, 260, .inl fB))] sz)) 0 0 (va_A [(h0, .inr (5, [.ref lS, .int sz5, .ref tp])), (lS, .inl (cI, 241, .inl fS)), (tp, .inr (9, [.ref tB, .int tl, .int ta])), (tB, .inl (cI, 260, .inl fB))] sz) := by
  refine Met.ofW (cc := cX5_condition) (maxL := 6) (ret := (some .boolean)) (by decide) rfl ?_
  intro p e s m args below meth c s₁ B hml hv
  obtain ⟨⟨hargs, hsz, hP, hK, hT⟩, hV⟩ := hv
  have hx := B.exec
  have hb := B.bytes
  have hr := B.returns
  have hts : ∀ w ∈ wA, w.before args s = true := fun w h => atoms_spec (ws := .code yX5_condition cX5_condition 6 (some .boolean) :: wA) B.pre w (List.mem_cons_of_mem _ h)
  have hown : s.vm.findClass RX5 = some m.cls := findClass_of_methodNamed B.named
  have hlocks := B.notSynchronized
  subst hsz
  have hD := hT.self (sz := s.heap.size)
  generalize hAe : va_A [(h0, .inr (5, [.ref lS, .int sz5, .ref tp])), (lS, .inl (cI, 241, .inl fS)), (tp, .inr (9, [.ref tB, .int tl, .int ta])), (tB, .inl (cI, 260, .inl fB))] s.heap.size = A at hD hV ⊢
  have hA : ∀ q : Nat, s.heap.size ≤ q → A q := fun q h => by rw [← hAe]; exact Or.inr h
  have hl := lv_entry ([.ref h0, .int 0, .int 1]) (n := 6) (Nat.le_of_ble_eq_true rfl)
  rw [show entryFrame m args 6 = entryFrame m ([.ref h0, .int 0, .int 1] : List Value).toArray 6 by rw [hargs], lg_entry_eq]
  generalize (lg_sl ([.ref h0, .int 0, .int 1]) ++ List.replicate (6 - (lg_sl ([.ref h0, .int 0, .int 1])).length) Slot.unset).toArray = ls at hl ⊢
  have hl : lv_has ls 6 [(0, .ref h0), (1, .int 0), (2, .int 1)] := hl
  refine zstart (fun H hH => ?_)
  rw [← hH] at hP
  have hS : va_S A s.heap H [] := by rw [hH]; exact va_S.rf
  generalize ([] : List Loc) = locs at hS ⊢
  refine zgen (fun R Q hR hQ => ?_)
  refine lv_aload_n hx hb dX5_condition_0 rfl (lv_at hl 0 rfl) ?_
  refine lv_iload_n hx hb dX5_condition_1 rfl (lv_at hl 1 rfl) ?_
  refine lv_iload_n hx hb dX5_condition_2 rfl (lv_at hl 2 rfl) ?_
  have hPc := hP.sub (ws' := [(h0, .inr (5, [.ref lS, .int sz5, .ref tp])), (lS, .inl (cI, 241, .inl fS)), (tp, .inr (9, [.ref tB, .int tl, .int ta])), (tB, .inl (cI, 260, .inl fB))]) [0, 1, 2, 3] rfl
  have hDc := hD.sub (ws' := [(h0, .inr (5, [.ref lS, .int sz5, .ref tp])), (lS, .inl (cI, 241, .inl fS)), (tp, .inr (9, [.ref tB, .int tl, .int ta])), (tB, .inl (cI, 260, .inl fB))]) [0, 1, 2, 3] (by decide) rfl
  have hFc := va_free (wc := [(h0, .inr (5, [.ref lS, .int sz5, .ref tp])), (lS, .inl (cI, 241, .inl fS)), (tp, .inr (9, [.ref tB, .int tl, .int ta])), (tB, .inl (cI, 260, .inl fB))]) hD hS hA [0, 1, 2, 3] rfl
  refine va_calli (va_runV (As := [.int 0, .int 1]) (rest := []) ⟨hx, hb, hml, hown, hts⟩ (g_X5_unit_0_1 l dC dI cI cJ h0 lS sz5 tp fS tB tl ta fB H.size n_sz5 n_ta n_tl (hty) (by omega) ci_fS_zSt) (cwV 2 hts (zgV qw511 qw513 qw7 qw101 qw514) rfl rfl rfl hd_X5_unit ⟨by rw [hR]; exact Nat.le_of_ble_eq_true rfl, by rw [hR]; exact Nat.le_of_ble_eq_true rfl⟩) (zPWV hPc hK hDc (va_recv hK hP (ci := 5) (q0 := 0) rfl rfl) (zV_call hV hS hFc)) rfl rfl hl.1 rfl (lv_room (Nat.le_of_ble_eq_true rfl)) dX5_condition_3 ⟨Nat.zero_le _, Nat.zero_le _⟩) hS (fun q _ h => hFc q h) hFc (fun v3 u3 t H locs ht hvm hw hB hz1 hk1 hS => ?_)
  obtain ⟨u3_0, u3_1, u3_2⟩ := u3
  obtain ⟨hP1, hD1⟩ := hB
  rw [ht] at hP1
  obtain ⟨hP, hD⟩ := va_join (wr := []) (w1 := [(h0, .inr (5, [.ref lS, .int u3_0, .ref tp])), (lS, .inl (cI, 241, .inl u3_1)), (tp, .inr (9, [.ref tB, .int tl, .int u3_2])), (tB, .inl (cI, 260, .inl fB))]) hP hD [0, 1, 2, 3] [] rfl rfl (by decide) (by decide) hk1 hFc hP1 hD1
  have hP : va_P (dC, dI) vwCl [(h0, .inr (5, [.ref lS, .int u3_0, .ref tp])), (lS, .inl (cI, 241, .inl u3_1)), (tp, .inr (9, [.ref tB, .int tl, .int u3_2])), (tB, .inl (cI, 260, .inl fB))] H := hP.sub [0, 1, 2, 3] rfl
  have hD : va_D A [(h0, .inr (5, [.ref lS, .int u3_0, .ref tp])), (lS, .inl (cI, 241, .inl u3_1)), (tp, .inr (9, [.ref tB, .int tl, .int u3_2])), (tB, .inl (cI, 260, .inl fB))] := hD.sub [0, 1, 2, 3] (by decide) rfl
  obtain ⟨f3_0, f3_1, f3_2, f3_3, f3_4, f3_5, f3_6, f3_7, f3_8, f3_9, f3_10⟩ : (0 ≤ v3.toInt) ∧ (v3.toInt ≤ 1) ∧ (0 ≤ u3_0.toInt) ∧ (u3_0.toInt ≤ 241) ∧ (0 ≤ u3_2.toInt) ∧ (u3_2.toInt ≤ 240) ∧ (zF (sCmp (sB fB tl.toInt) tl.toInt (sSum (sB fB tl.toInt) tl.toInt 6) ta.toInt) v3 u3_2) ∧ (¬ v3.toInt = 0 → ta.toInt < u3_2.toInt) ∧ (¬ v3.toInt = 0 → u3_0.toInt + ta.toInt ≤ sz5.toInt + u3_2.toInt) ∧ (¬ v3.toInt = 0 → zEm fS sz5 (eCmp (sB fB tl.toInt) tl.toInt (eSum (sB fB tl.toInt) tl.toInt 6) ta.toInt) u3_1 u3_0) ∧ (zSt u3_1) := hw
  have F3 := f3_6
  have F3_1 := f3_9
  refine lv_if_ne (tgt := 11) hx hb dX5_condition_6 (by decide) (fun c6 => ?_) (fun c6 => ?_)
  · have c6 : ¬ v3.toInt = 0 := z6 rfl (by decide) c6
    refine lv_iconst (v := 0) hx hb dX5_condition_11 (by decide) ?_
    refine lv_istore_n (lv' := [(3, .int 0), (0, .ref h0), (1, .int 0), (2, .int 1)]) hx hb dX5_condition_12 rfl hl (by decide) rfl (fun ls hl => ?_)
    refine lv_aload_n hx hb dX5_condition_13 rfl (lv_at hl 1 rfl) ?_
    refine va_get (D := (dC, dI)) (ci := 5) (v := .ref tp) (C := RX5) (T := TX5) (N := 3) hx hb hts iX5 hown hK hP 0 rfl rfl 2 (by decide) (hts _ qw172) (fun _ h9 => h9) rfl dX5_condition_14 ?_
    have hPc := hP.sub (ws' := [(tp, .inr (9, [.ref tB, .int tl, .int u3_2])), (tB, .inl (cI, 260, .inl fB))]) [2, 3] rfl
    have hDc := hD.sub (ws' := [(tp, .inr (9, [.ref tB, .int tl, .int u3_2])), (tB, .inl (cI, 260, .inl fB))]) [2, 3] (by decide) rfl
    have hFc := va_free (wc := [(tp, .inr (9, [.ref tB, .int tl, .int u3_2])), (tB, .inl (cI, 260, .inl fB))]) hD hS hA [2, 3] rfl
    refine va_calli (va_runV (As := []) (rest := []) ⟨hx, hb, hml, hown, hts⟩ (g_X9_peek l dC dI cI cJ tp tB tl u3_2 fB H.size ⟨f3_4, f3_5⟩ n_tl (hty)) (cwV 0 hts (zgV qw485 qw438 qw439 qw99 qw440) rfl rfl rfl hd_X9_peek ⟨by rw [hR]; exact Nat.le_of_ble_eq_true rfl, by rw [hR]; exact Nat.le_of_ble_eq_true rfl⟩) (zPV hPc hK hDc (va_recv hK hP (ci := 9) (q0 := 2) rfl rfl)) rfl rfl hl.1 rfl (lv_room (Nat.le_of_ble_eq_true rfl)) dX5_condition_17 ⟨Nat.zero_le _, Nat.zero_le _⟩) hS (fun q _ h => hFc q h) hFc (fun v17 u17 t H locs ht hvm hw hB hz1 hk1 hS => ?_)
    obtain ⟨u17_0, rfl⟩ : ∃ z, z = u17 := ⟨_, rfl⟩
    obtain ⟨hP1, hD1⟩ := hB
    rw [ht] at hP1
    obtain ⟨hP, hD⟩ := va_join (wr := [(h0, .inr (5, [.ref lS, .int u3_0, .ref tp])), (lS, .inl (cI, 241, .inl u3_1))]) (w1 := [(tp, .inr (9, [.ref tB, .int tl, .int u17_0])), (tB, .inl (cI, 260, .inl fB))]) hP hD [2, 3] [0, 1] rfl rfl (by decide) (by decide) hk1 hFc hP1 hD1
    have hP : va_P (dC, dI) vwCl [(h0, .inr (5, [.ref lS, .int u3_0, .ref tp])), (lS, .inl (cI, 241, .inl u3_1)), (tp, .inr (9, [.ref tB, .int tl, .int u17_0])), (tB, .inl (cI, 260, .inl fB))] H := hP.sub [0, 1, 2, 3] rfl
    have hD : va_D A [(h0, .inr (5, [.ref lS, .int u3_0, .ref tp])), (lS, .inl (cI, 241, .inl u3_1)), (tp, .inr (9, [.ref tB, .int tl, .int u17_0])), (tB, .inl (cI, 260, .inl fB))] := hD.sub [0, 1, 2, 3] (by decide) rfl
    obtain ⟨f17_0, f17_1, f17_2, f17_3, f17_4⟩ : (0 ≤ u17_0.toInt) ∧ (u17_0.toInt ≤ 240) ∧ (¬ v17.toInt = 0 → u17_0.toInt < tl.toInt) ∧ (u3_2.toInt ≤ u17_0.toInt) ∧ (zPK fB tl u3_2 v17 u17_0) := hw
    have F17 := f17_4
    refine lv_istore (lv' := [(4, .int v17), (3, .int 0), (0, .ref h0), (1, .int 0), (2, .int 1)]) hx hb dX5_condition_20 hl (by decide) rfl (fun ls hl => ?_)
    refine lv_iconst (v := 0) hx hb dX5_condition_22 (by decide) ?_
    have J25 : ∀ (n : Nat) (m25_A_lS : Nat → Int32) (m25_F_h0_1 : Int32) (m25_F_tp_2 : Int32) (m25_L_3 : Int32) (m25_L_4 : Int32) (m25_L_5 : Int32), (0 ≤ m25_F_h0_1.toInt ∧ m25_F_h0_1.toInt ≤ 241) → (0 ≤ m25_F_tp_2.toInt ∧ m25_F_tp_2.toInt ≤ 240) → (0 ≤ m25_L_3.toInt ∧ m25_L_3.toInt ≤ 1) → (0 ≤ m25_L_5.toInt ∧ m25_L_5.toInt ≤ 240) → (¬ m25_L_4.toInt = 0 → m25_F_tp_2.toInt < tl.toInt) → (m25_L_5.toInt ≤ m25_F_tp_2.toInt) → (sGo (sB fB tl.toInt) tl.toInt ta.toInt = sLp (sB fB tl.toInt) tl.toInt oC (sUn (sB fB tl.toInt) tl.toInt 6) m25_F_tp_2.toInt) → (zSg fB tl m25_F_tp_2 m25_L_4) → (m25_F_h0_1.toInt + ta.toInt ≤ sz5.toInt + m25_F_tp_2.toInt) → (¬ m25_L_3.toInt = 0 → m25_F_h0_1.toInt + 1 + ta.toInt ≤ sz5.toInt + m25_F_tp_2.toInt) → (0 ≤ m25_L_3.toInt ∧ m25_L_3.toInt ≤ 1) → (zSe fB tl oC oD (sUn (sB fB tl.toInt) tl.toInt 6) (eUn (sB fB tl.toInt) tl.toInt 6) (eGo (sB fB tl.toInt) tl.toInt ta.toInt) fS sz5 m25_A_lS m25_F_h0_1 (124 * m25_L_3.toInt) m25_F_tp_2) → (zSt m25_A_lS) → (241 - m25_L_5.toInt).toNat = n → ∀ (H : Heap) (locs : List Loc) (ls : Array Slot), va_P (dC, dI) vwCl [(h0, .inr (5, [.ref lS, .int m25_F_h0_1, .ref tp])), (lS, .inl (cI, 241, .inl m25_A_lS)), (tp, .inr (9, [.ref tB, .int tl, .int m25_F_tp_2])), (tB, .inl (cI, 260, .inl fB))] H → va_D A [(h0, .inr (5, [.ref lS, .int m25_F_h0_1, .ref tp])), (lS, .inl (cI, 241, .inl m25_A_lS)), (tp, .inr (9, [.ref tB, .int tl, .int m25_F_tp_2])), (tB, .inl (cI, 260, .inl fB))] → va_S A s.heap H locs → lv_has ls 6 [(5, .int m25_L_5), (4, .int m25_L_4), (3, .int m25_L_3), (0, .ref h0), (1, .int 0), (2, .int 1)] → W p l e R s m args below meth c H locs 0 0 Q (F0 m 25 ls []) := by
      intro n25
      induction n25 using Nat.strongRecOn with
      | _ n25 ih25 =>
        intro m25_A_lS m25_F_h0_1 m25_F_tp_2 m25_L_3 m25_L_4 m25_L_5 jf25_0 jf25_1 jf25_2 jf25_3 jf25_4 jf25_5 jv25_0 jv25_1 jf25_8 jf25_9 jf25_10 jv25_2 jf25_12 hmu25 H locs ls hP hD hS hl
        refine lv_iload hx hb dX5_condition_25 (lv_at hl 0 rfl) ?_
        refine lv_aload_n hx hb dX5_condition_27 rfl (lv_at hl 3 rfl) ?_
        refine va_get (D := (dC, dI)) (ci := 5) (v := .ref tp) (C := RX5) (T := TX5) (N := 3) hx hb hts iX5 hown hK hP 0 rfl rfl 2 (by decide) (hts _ qw172) (fun _ h9 => h9) rfl dX5_condition_28 ?_
        refine va_get (D := (dC, dI)) (ci := 9) (v := .int tl) (C := RX9) (T := TX9) (N := 3) hx hb hts iX9 hown hK hP 2 rfl rfl 1 (by decide) (hts _ qw135) (fun _ h9 => h9) rfl dX5_condition_31 ?_
        have J127 : (sGo (sB fB tl.toInt) tl.toInt ta.toInt = (1, m25_F_tp_2.toInt)) → (∀ (g : Nat → Int32) (s : Int32), zEm m25_A_lS m25_F_h0_1 (eW (124 * m25_L_3.toInt)) g s → zEm fS sz5 (eGo (sB fB tl.toInt) tl.toInt ta.toInt) g s) → ∀ (H : Heap) (locs : List Loc) (ls : Array Slot), va_P (dC, dI) vwCl [(h0, .inr (5, [.ref lS, .int m25_F_h0_1, .ref tp])), (lS, .inl (cI, 241, .inl m25_A_lS)), (tp, .inr (9, [.ref tB, .int tl, .int m25_F_tp_2])), (tB, .inl (cI, 260, .inl fB))] H → va_D A [(h0, .inr (5, [.ref lS, .int m25_F_h0_1, .ref tp])), (lS, .inl (cI, 241, .inl m25_A_lS)), (tp, .inr (9, [.ref tB, .int tl, .int m25_F_tp_2])), (tB, .inl (cI, 260, .inl fB))] → va_S A s.heap H locs → lv_has ls 6 [(5, .int m25_L_5), (4, .int m25_L_4), (3, .int m25_L_3), (0, .ref h0), (1, .int 0), (2, .int 1)] → W p l e R s m args below meth c H locs 0 0 Q (F0 m 127 ls []) := by
          intro  jv127_0 jv127_1 H locs ls hP hD hS hl
          refine lv_iload_n hx hb dX5_condition_127 rfl (lv_at hl 2 rfl) ?_
          refine lv_if_eq (tgt := 138) hx hb dX5_condition_128 (by decide) (fun c128 => ?_) (fun c128 => ?_)
          · have c128 : m25_L_3.toInt = 0 := z5 rfl (by decide) c128
            refine lv_iconst (v := 1) hx hb dX5_condition_138 (by decide) ?_
            have zr0 : (1 : Int32).toInt = 1 := by decide
            rw [hQ]
            exact W.zret (v := 1) (ty := .boolean) hx hb hr rfl (fun t ht hW => ⟨⟨1, (m25_F_h0_1, m25_A_lS, m25_F_tp_2), rfl, ⟨by (try dsimp only); omega, by (try dsimp only); omega, by (try dsimp only); omega, by (try dsimp only); omega, by (try dsimp only); omega, by (try dsimp only); omega, zF1 (jv127_0), (fun _ => zFm (x := sGo (sB fB tl.toInt) tl.toInt) (sGo_mono (sB fB tl.toInt) tl.toInt) (zF1 (jv127_0))), by (try dsimp only); omega, (fun _ => jv127_1 _ _ (eW_0 (by omega))), jf25_12⟩, ⟨by rw [ht]; exact hP, hD⟩⟩, hS.F ht⟩) hS.2.2 dX5_condition_139
          · have c128 : ¬ m25_L_3.toInt = 0 := z6 rfl (by decide) c128
            refine lv_aload_n hx hb dX5_condition_131 rfl (lv_at hl 3 rfl) ?_
            refine lv_bipush (v := 124) hx hb dX5_condition_132 (by decide) ?_
            refine lv_iconst (v := 0) hx hb dX5_condition_134 (by decide) ?_
            have hPc := hP.sub (ws' := [(h0, .inr (5, [.ref lS, .int m25_F_h0_1, .ref tp])), (lS, .inl (cI, 241, .inl m25_A_lS))]) [0, 1] rfl
            have hDc := hD.sub (ws' := [(h0, .inr (5, [.ref lS, .int m25_F_h0_1, .ref tp])), (lS, .inl (cI, 241, .inl m25_A_lS))]) [0, 1] (by decide) rfl
            have hFc := va_free (wc := [(h0, .inr (5, [.ref lS, .int m25_F_h0_1, .ref tp])), (lS, .inl (cI, 241, .inl m25_A_lS))]) hD hS hA [0, 1] rfl
            refine va_callv (va_runV (As := [.int 124, .int 0]) (rest := []) ⟨hx, hb, hml, hown, hts⟩ (g_X5_put_0 l dC dI cI cJ h0 124 lS m25_F_h0_1 tp m25_A_lS H.size (by decide) jf25_0 jf25_12) (cwV 2 hts (zgV qw496 qw498 qw5 qw101 qw499) rfl rfl rfl hd_X5_put ⟨by rw [hR]; exact Nat.le_of_ble_eq_true rfl, by rw [hR]; exact Nat.le_of_ble_eq_true rfl⟩) (zPV hPc hK hDc (va_recv hK hP (ci := 5) (q0 := 0) rfl rfl)) rfl rfl hl.1 rfl (lv_room (Nat.le_of_ble_eq_true rfl)) dX5_condition_135 ⟨Nat.zero_le _, Nat.zero_le _⟩) hS (fun q _ h => hFc q h) hFc (fun u135 t H locs ht hvm hw hB hz1 hk1 hS => ?_)
            obtain ⟨u135_0, u135_1⟩ := u135
            obtain ⟨hP1, hD1⟩ := hB
            rw [ht] at hP1
            obtain ⟨hP, hD⟩ := va_join (wr := [(tp, .inr (9, [.ref tB, .int tl, .int m25_F_tp_2])), (tB, .inl (cI, 260, .inl fB))]) (w1 := [(h0, .inr (5, [.ref lS, .int u135_0, .ref tp])), (lS, .inl (cI, 241, .inl u135_1))]) hP hD [0, 1] [2, 3] rfl rfl (by decide) (by decide) hk1 hFc hP1 hD1
            have hP : va_P (dC, dI) vwCl [(h0, .inr (5, [.ref lS, .int u135_0, .ref tp])), (lS, .inl (cI, 241, .inl u135_1)), (tp, .inr (9, [.ref tB, .int tl, .int m25_F_tp_2])), (tB, .inl (cI, 260, .inl fB))] H := hP.sub [2, 3, 0, 1] rfl
            have hD : va_D A [(h0, .inr (5, [.ref lS, .int u135_0, .ref tp])), (lS, .inl (cI, 241, .inl u135_1)), (tp, .inr (9, [.ref tB, .int tl, .int m25_F_tp_2])), (tB, .inl (cI, 260, .inl fB))] := hD.sub [2, 3, 0, 1] (by decide) rfl
            have zn135_124 : (124 : Int32).toInt = 124 := by decide
            obtain ⟨f135_0, f135_1, f135_2, f135_3, f135_4⟩ : (1 ≤ u135_0.toInt) ∧ (u135_0.toInt ≤ 241) ∧ (u135_0.toInt ≤ m25_F_h0_1.toInt + 1 ∧ m25_F_h0_1.toInt ≤ u135_0.toInt) ∧ (m25_F_h0_1.toInt < 241 → zEm m25_A_lS m25_F_h0_1 [((124 : Int32).toInt, 0)] u135_1 u135_0) ∧ (zSt u135_1) := hw
            have F135 := f135_3
            refine lv_iconst (v := 1) hx hb dX5_condition_138 (by decide) ?_
            have zr0 : (1 : Int32).toInt = 1 := by decide
            rw [hQ]
            exact W.zret (v := 1) (ty := .boolean) hx hb hr rfl (fun t ht hW => ⟨⟨1, (u135_0, u135_1, m25_F_tp_2), rfl, ⟨by (try dsimp only); omega, by (try dsimp only); omega, by (try dsimp only); omega, by (try dsimp only); omega, by (try dsimp only); omega, by (try dsimp only); omega, zF1 (jv127_0), (fun _ => zFm (x := sGo (sB fB tl.toInt) tl.toInt) (sGo_mono (sB fB tl.toInt) tl.toInt) (zF1 (jv127_0))), by (try dsimp only); omega, (fun _ => jv127_1 _ _ (eW_1 (by omega) (by omega) (F135 (by omega)))), f135_4⟩, ⟨by rw [ht]; exact hP, hD⟩⟩, hS.F ht⟩) hS.2.2 dX5_condition_139
        refine lv_icmp_ge (tgt := 127) hx hb dX5_condition_34 (by decide) (fun c34 => ?_) (fun c34 => ?_)
        · have c34 : tl.toInt ≤ m25_L_5.toInt := z3 rfl rfl c34
          exact J127  (by first | exact fl_n jv25_0 jv25_1 (fun z => by have := oC_iff.mp z; omega) | exact fl_e jv25_0 (by omega)) (by first | exact fun g s hb => fse_e jv25_2 (Or.inr ⟨jv25_1, fun z => by have := oC_iff.mp z; omega⟩) hb (by omega) | exact fun g s hb => fse_e (t := m25_L_4) jv25_2 (Or.inl (by omega)) hb (by omega)) H locs ls hP hD hS (lv_sub hl [0, 1, 2, 3, 4, 5] rfl)
        · have c34 : m25_L_5.toInt < tl.toInt := z4 rfl rfl c34
          refine lv_iload hx hb dX5_condition_37 (lv_at hl 1 rfl) ?_
          refine lv_bipush (v := 38) hx hb dX5_condition_39 (by decide) ?_
          refine lv_icmp_eq (tgt := 51) hx hb dX5_condition_41 (by decide) (fun c41 => ?_) (fun c41 => ?_)
          · have c41 : m25_L_4.toInt = 38 := z5 rfl (by decide) c41
            refine lv_iload hx hb dX5_condition_51 (lv_at hl 1 rfl) ?_
            refine lv_bipush (v := 124) hx hb dX5_condition_53 (by decide) ?_
            refine lv_icmp_ne (tgt := 69) hx hb dX5_condition_55 (by decide) (fun c55 => ?_) (fun c55 => by exfalso; have c55 : m25_L_4.toInt = 124 := z5 rfl (by decide) c55; omega)
            have c55 : ¬ m25_L_4.toInt = 124 := z6 rfl (by decide) c55
            refine lv_aload_n hx hb dX5_condition_69 rfl (lv_at hl 3 rfl) ?_
            refine va_get (D := (dC, dI)) (ci := 5) (v := .ref tp) (C := RX5) (T := TX5) (N := 3) hx hb hts iX5 hown hK hP 0 rfl rfl 2 (by decide) (hts _ qw172) (fun _ h9 => h9) rfl dX5_condition_70 ?_
            refine lv_dup hx hb dX5_condition_73 rfl ?_
            refine va_get (D := (dC, dI)) (ci := 9) (v := .int m25_F_tp_2) (C := RX9) (T := TX9) (N := 3) hx hb hts iX9 hown hK hP 2 rfl rfl 2 (by decide) (hts _ qw137) (fun _ h9 => h9) rfl dX5_condition_74 ?_
            refine lv_iconst (v := 1) hx hb dX5_condition_77 (by decide) ?_
            refine lv_iadd hx hb dX5_condition_78 ?_
            refine lv_topi (fun v78 e78 => ?_)
            have i78 : v78.toInt = m25_F_tp_2.toInt + 1 := zadd e78 rfl (by decide) (by omega) (by omega)
            refine va_put (D := (dC, dI)) (ci := 9) (v := .int v78) (ty := .int) (C := RX9) (T := TX9) (N := 3) hx hb hts iX9 tyX9 tyX9_ok nmX9 hown hK hP hD hS 2 rfl rfl 2 (by decide) (hts _ qw137) (fun _ h9 => h9) rfl (by decide +kernel) rfl rfl (Nat.le_of_ble_eq_true rfl) dX5_condition_79 (fun H locs hP hD hS => ?_)
            have hP : va_P (dC, dI) vwCl [(h0, .inr (5, [.ref lS, .int m25_F_h0_1, .ref tp])), (lS, .inl (cI, 241, .inl m25_A_lS)), (tp, .inr (9, [.ref tB, .int tl, .int v78])), (tB, .inl (cI, 260, .inl fB))] H := hP
            have hD : va_D A [(h0, .inr (5, [.ref lS, .int m25_F_h0_1, .ref tp])), (lS, .inl (cI, 241, .inl m25_A_lS)), (tp, .inr (9, [.ref tB, .int tl, .int v78])), (tB, .inl (cI, 260, .inl fB))] := hD
            refine lv_aload_n hx hb dX5_condition_82 rfl (lv_at hl 3 rfl) ?_
            refine lv_iload_n hx hb dX5_condition_83 rfl (lv_at hl 4 rfl) ?_
            refine lv_iconst (v := 0) hx hb dX5_condition_84 (by decide) ?_
            have hPc := hP.sub (ws' := [(h0, .inr (5, [.ref lS, .int m25_F_h0_1, .ref tp])), (lS, .inl (cI, 241, .inl m25_A_lS)), (tp, .inr (9, [.ref tB, .int tl, .int v78])), (tB, .inl (cI, 260, .inl fB))]) [0, 1, 2, 3] rfl
            have hDc := hD.sub (ws' := [(h0, .inr (5, [.ref lS, .int m25_F_h0_1, .ref tp])), (lS, .inl (cI, 241, .inl m25_A_lS)), (tp, .inr (9, [.ref tB, .int tl, .int v78])), (tB, .inl (cI, 260, .inl fB))]) [0, 1, 2, 3] (by decide) rfl
            have hFc := va_free (wc := [(h0, .inr (5, [.ref lS, .int m25_F_h0_1, .ref tp])), (lS, .inl (cI, 241, .inl m25_A_lS)), (tp, .inr (9, [.ref tB, .int tl, .int v78])), (tB, .inl (cI, 260, .inl fB))]) hD hS hA [0, 1, 2, 3] rfl
            refine va_calli (va_runV (As := [.int 0, .int 0]) (rest := []) ⟨hx, hb, hml, hown, hts⟩ (zD_U6 l dC dI cI cJ h0 0 lS m25_F_h0_1 tp m25_A_lS tB tl v78 fB H.size (by decide) jf25_0 (by omega) n_tl (hty) (by omega) (by decide) jf25_12) (cwV 2 hts (zgV qw511 qw513 qw7 qw101 qw514) rfl rfl rfl hd_X5_unit ⟨by rw [hR]; exact Nat.le_of_ble_eq_true rfl, by rw [hR]; exact Nat.le_of_ble_eq_true rfl⟩) (zPWV hPc hK hDc (va_recv hK hP (ci := 5) (q0 := 0) rfl rfl) (zV_call hV hS hFc)) rfl rfl hl.1 rfl (lv_room (Nat.le_of_ble_eq_true rfl)) dX5_condition_85 ⟨Nat.zero_le _, Nat.zero_le _⟩) hS (fun q _ h => hFc q h) hFc (fun v85 u85 t H locs ht hvm hw hB hz1 hk1 hS => ?_)
            obtain ⟨u85_0, u85_1, u85_2⟩ := u85
            obtain ⟨hP1, hD1⟩ := hB
            rw [ht] at hP1
            obtain ⟨hP, hD⟩ := va_join (wr := []) (w1 := [(h0, .inr (5, [.ref lS, .int u85_0, .ref tp])), (lS, .inl (cI, 241, .inl u85_1)), (tp, .inr (9, [.ref tB, .int tl, .int u85_2])), (tB, .inl (cI, 260, .inl fB))]) hP hD [0, 1, 2, 3] [] rfl rfl (by decide) (by decide) hk1 hFc hP1 hD1
            have hP : va_P (dC, dI) vwCl [(h0, .inr (5, [.ref lS, .int u85_0, .ref tp])), (lS, .inl (cI, 241, .inl u85_1)), (tp, .inr (9, [.ref tB, .int tl, .int u85_2])), (tB, .inl (cI, 260, .inl fB))] H := hP.sub [0, 1, 2, 3] rfl
            have hD : va_D A [(h0, .inr (5, [.ref lS, .int u85_0, .ref tp])), (lS, .inl (cI, 241, .inl u85_1)), (tp, .inr (9, [.ref tB, .int tl, .int u85_2])), (tB, .inl (cI, 260, .inl fB))] := hD.sub [0, 1, 2, 3] (by decide) rfl
            obtain ⟨f85_0, f85_1, f85_2, f85_3, f85_4, f85_5, f85_6, f85_7, f85_8, f85_9, f85_10⟩ : (0 ≤ v85.toInt) ∧ (v85.toInt ≤ 1) ∧ (0 ≤ u85_0.toInt) ∧ (u85_0.toInt ≤ 241) ∧ (0 ≤ u85_2.toInt) ∧ (u85_2.toInt ≤ 240) ∧ (zF (sUn (sB fB tl.toInt) tl.toInt 6 v78.toInt) v85 u85_2) ∧ (¬ v85.toInt = 0 → v78.toInt < u85_2.toInt) ∧ (¬ v85.toInt = 0 → u85_0.toInt + v78.toInt ≤ m25_F_h0_1.toInt + u85_2.toInt) ∧ (¬ v85.toInt = 0 → zEm m25_A_lS m25_F_h0_1 (eUn (sB fB tl.toInt) tl.toInt 6 v78.toInt) u85_1 u85_0) ∧ (zSt u85_1) := hw
            have F85 := f85_6
            have F85_1 := f85_9
            refine lv_if_ne (tgt := 93) hx hb dX5_condition_88 (by decide) (fun c88 => ?_) (fun c88 => ?_)
            · have c88 : ¬ v85.toInt = 0 := z6 rfl (by decide) c88
              refine lv_iload hx hb dX5_condition_93 (lv_at hl 1 rfl) ?_
              refine lv_bipush (v := 38) hx hb dX5_condition_95 (by decide) ?_
              refine lv_icmp_ne (tgt := 110) hx hb dX5_condition_97 (by decide) (fun c97 => by exfalso; have c97 : ¬ m25_L_4.toInt = 38 := z6 rfl (by decide) c97; omega) (fun c97 => ?_)
              have c97 : m25_L_4.toInt = 38 := z5 rfl (by decide) c97
              refine lv_aload_n hx hb dX5_condition_100 rfl (lv_at hl 3 rfl) ?_
              refine lv_bipush (v := 38) hx hb dX5_condition_101 (by decide) ?_
              refine lv_iconst (v := 0) hx hb dX5_condition_103 (by decide) ?_
              have hPc := hP.sub (ws' := [(h0, .inr (5, [.ref lS, .int u85_0, .ref tp])), (lS, .inl (cI, 241, .inl u85_1))]) [0, 1] rfl
              have hDc := hD.sub (ws' := [(h0, .inr (5, [.ref lS, .int u85_0, .ref tp])), (lS, .inl (cI, 241, .inl u85_1))]) [0, 1] (by decide) rfl
              have hFc := va_free (wc := [(h0, .inr (5, [.ref lS, .int u85_0, .ref tp])), (lS, .inl (cI, 241, .inl u85_1))]) hD hS hA [0, 1] rfl
              refine va_callv (va_runV (As := [.int 38, .int 0]) (rest := []) ⟨hx, hb, hml, hown, hts⟩ (g_X5_put_0 l dC dI cI cJ h0 38 lS u85_0 tp u85_1 H.size (by decide) ⟨f85_2, f85_3⟩ f85_10) (cwV 2 hts (zgV qw496 qw498 qw5 qw101 qw499) rfl rfl rfl hd_X5_put ⟨by rw [hR]; exact Nat.le_of_ble_eq_true rfl, by rw [hR]; exact Nat.le_of_ble_eq_true rfl⟩) (zPV hPc hK hDc (va_recv hK hP (ci := 5) (q0 := 0) rfl rfl)) rfl rfl hl.1 rfl (lv_room (Nat.le_of_ble_eq_true rfl)) dX5_condition_104 ⟨Nat.zero_le _, Nat.zero_le _⟩) hS (fun q _ h => hFc q h) hFc (fun u104 t H locs ht hvm hw hB hz1 hk1 hS => ?_)
              obtain ⟨u104_0, u104_1⟩ := u104
              obtain ⟨hP1, hD1⟩ := hB
              rw [ht] at hP1
              obtain ⟨hP, hD⟩ := va_join (wr := [(tp, .inr (9, [.ref tB, .int tl, .int u85_2])), (tB, .inl (cI, 260, .inl fB))]) (w1 := [(h0, .inr (5, [.ref lS, .int u104_0, .ref tp])), (lS, .inl (cI, 241, .inl u104_1))]) hP hD [0, 1] [2, 3] rfl rfl (by decide) (by decide) hk1 hFc hP1 hD1
              have hP : va_P (dC, dI) vwCl [(h0, .inr (5, [.ref lS, .int u104_0, .ref tp])), (lS, .inl (cI, 241, .inl u104_1)), (tp, .inr (9, [.ref tB, .int tl, .int u85_2])), (tB, .inl (cI, 260, .inl fB))] H := hP.sub [2, 3, 0, 1] rfl
              have hD : va_D A [(h0, .inr (5, [.ref lS, .int u104_0, .ref tp])), (lS, .inl (cI, 241, .inl u104_1)), (tp, .inr (9, [.ref tB, .int tl, .int u85_2])), (tB, .inl (cI, 260, .inl fB))] := hD.sub [2, 3, 0, 1] (by decide) rfl
              have zn104_38 : (38 : Int32).toInt = 38 := by decide
              obtain ⟨f104_0, f104_1, f104_2, f104_3, f104_4⟩ : (1 ≤ u104_0.toInt) ∧ (u104_0.toInt ≤ 241) ∧ (u104_0.toInt ≤ u85_0.toInt + 1 ∧ u85_0.toInt ≤ u104_0.toInt) ∧ (u85_0.toInt < 241 → zEm u85_1 u85_0 [((38 : Int32).toInt, 0)] u104_1 u104_0) ∧ (zSt u104_1) := hw
              have F104 := f104_3
              refine lv_goto (tgt := 112) hx hb dX5_condition_107 (by decide) ?_
              refine lv_aload_n hx hb dX5_condition_112 rfl (lv_at hl 3 rfl) ?_
              refine va_get (D := (dC, dI)) (ci := 5) (v := .ref tp) (C := RX5) (T := TX5) (N := 3) hx hb hts iX5 hown hK hP 0 rfl rfl 2 (by decide) (hts _ qw172) (fun _ h9 => h9) rfl dX5_condition_113 ?_
              have hPc := hP.sub (ws' := [(tp, .inr (9, [.ref tB, .int tl, .int u85_2])), (tB, .inl (cI, 260, .inl fB))]) [2, 3] rfl
              have hDc := hD.sub (ws' := [(tp, .inr (9, [.ref tB, .int tl, .int u85_2])), (tB, .inl (cI, 260, .inl fB))]) [2, 3] (by decide) rfl
              have hFc := va_free (wc := [(tp, .inr (9, [.ref tB, .int tl, .int u85_2])), (tB, .inl (cI, 260, .inl fB))]) hD hS hA [2, 3] rfl
              refine va_calli (va_runV (As := []) (rest := []) ⟨hx, hb, hml, hown, hts⟩ (g_X9_peek l dC dI cI cJ tp tB tl u85_2 fB H.size ⟨f85_4, f85_5⟩ n_tl (hty)) (cwV 0 hts (zgV qw485 qw438 qw439 qw99 qw440) rfl rfl rfl hd_X9_peek ⟨by rw [hR]; exact Nat.le_of_ble_eq_true rfl, by rw [hR]; exact Nat.le_of_ble_eq_true rfl⟩) (zPV hPc hK hDc (va_recv hK hP (ci := 9) (q0 := 2) rfl rfl)) rfl rfl hl.1 rfl (lv_room (Nat.le_of_ble_eq_true rfl)) dX5_condition_116 ⟨Nat.zero_le _, Nat.zero_le _⟩) hS (fun q _ h => hFc q h) hFc (fun v116 u116 t H locs ht hvm hw hB hz1 hk1 hS => ?_)
              obtain ⟨u116_0, rfl⟩ : ∃ z, z = u116 := ⟨_, rfl⟩
              obtain ⟨hP1, hD1⟩ := hB
              rw [ht] at hP1
              obtain ⟨hP, hD⟩ := va_join (wr := [(h0, .inr (5, [.ref lS, .int u104_0, .ref tp])), (lS, .inl (cI, 241, .inl u104_1))]) (w1 := [(tp, .inr (9, [.ref tB, .int tl, .int u116_0])), (tB, .inl (cI, 260, .inl fB))]) hP hD [2, 3] [0, 1] rfl rfl (by decide) (by decide) hk1 hFc hP1 hD1
              have hP : va_P (dC, dI) vwCl [(h0, .inr (5, [.ref lS, .int u104_0, .ref tp])), (lS, .inl (cI, 241, .inl u104_1)), (tp, .inr (9, [.ref tB, .int tl, .int u116_0])), (tB, .inl (cI, 260, .inl fB))] H := hP.sub [0, 1, 2, 3] rfl
              have hD : va_D A [(h0, .inr (5, [.ref lS, .int u104_0, .ref tp])), (lS, .inl (cI, 241, .inl u104_1)), (tp, .inr (9, [.ref tB, .int tl, .int u116_0])), (tB, .inl (cI, 260, .inl fB))] := hD.sub [0, 1, 2, 3] (by decide) rfl
              obtain ⟨f116_0, f116_1, f116_2, f116_3, f116_4⟩ : (0 ≤ u116_0.toInt) ∧ (u116_0.toInt ≤ 240) ∧ (¬ v116.toInt = 0 → u116_0.toInt < tl.toInt) ∧ (u85_2.toInt ≤ u116_0.toInt) ∧ (zPK fB tl u85_2 v116 u116_0) := hw
              have F116 := f116_4
              refine lv_istore (lv' := [(4, .int v116), (5, .int m25_L_5), (3, .int m25_L_3), (0, .ref h0), (1, .int 0), (2, .int 1)]) hx hb dX5_condition_119 hl (by decide) rfl (fun ls hl => ?_)
              obtain ⟨v121, e121⟩ : ∃ y : Int32, y = m25_L_5 + Int32.ofInt (1) := ⟨_, rfl⟩
              refine lv_iinc (v := v121) (lv' := [(5, .int v121), (4, .int v116), (3, .int m25_L_3), (0, .ref h0), (1, .int 0), (2, .int 1)]) hx hb dX5_condition_121 hl (k := 1) rfl e121.symm (by decide) rfl (fun ls hl => ?_)
              have i121 : v121.toInt = m25_L_5.toInt + 1 := zaddI e121 (by decide) (by omega) (by omega)
              refine lv_goto (tgt := 25) hx hb dX5_condition_124 (by decide) ?_
              exact ih25 _ (by omega) u104_1 u104_0 u116_0 m25_L_3 v116 v121 (by omega) ⟨f116_0, f116_1⟩ jf25_2 (by omega) (by omega) (by omega) (fl_s jv25_0 jv25_1 (oC_iff.mpr (by omega)) (by decide) i78 F85 (by omega) (by omega) F116) (F116.2) (by omega) (by omega) (by omega) (by first | exact fse_y jv25_2 jv25_1 (oC_iff.mpr (by omega)) (by decide) i78 F85 (by omega) (by omega) F116 (oD_iff.mpr (by omega)) (F85_1 (by omega)) (F104 (by omega)) (by omega) (by omega) (by omega) | exact fse_n jv25_2 jv25_1 (oC_iff.mpr (by omega)) (by decide) i78 F85 (by omega) (by omega) F116 (fun z => by have := oD_iff.mp z; omega) (eW_0 (by omega)) (F85_1 (by omega)) (by omega) (by omega) (by omega) | exact fse_n jv25_2 jv25_1 (oC_iff.mpr (by omega)) (by decide) i78 F85 (by omega) (by omega) F116 (fun z => by have := oD_iff.mp z; omega) (eW_1 (by omega) (by omega) (F66 (by omega))) (F85_1 (by omega)) (by omega) (by omega) (by omega)) f104_4 rfl H locs ls hP hD hS (lv_sub hl [0, 1, 2, 3, 4, 5] rfl)
            · have c88 : v85.toInt = 0 := z5 rfl (by decide) c88
              refine lv_iconst (v := 0) hx hb dX5_condition_91 (by decide) ?_
              have zr0 : (0 : Int32).toInt = 0 := by decide
              rw [hQ]
              exact W.zret (v := 0) (ty := .boolean) hx hb hr rfl (fun t ht hW => ⟨⟨0, (u85_0, u85_1, u85_2), rfl, ⟨by (try dsimp only); omega, by (try dsimp only); omega, by (try dsimp only); omega, by (try dsimp only); omega, by (try dsimp only); omega, by (try dsimp only); omega, zF0 (fl_x jv25_0 jv25_1 (oC_iff.mpr (by omega)) (by decide) i78 F85 (by omega)), (fun z => absurd (by decide) z), by (try dsimp only); omega, (fun z => absurd (by decide) z), f85_10⟩, ⟨by rw [ht]; exact hP, hD⟩⟩, hS.F ht⟩) hS.2.2 dX5_condition_92
          · have c41 : ¬ m25_L_4.toInt = 38 := z6 rfl (by decide) c41
            refine lv_iload hx hb dX5_condition_44 (lv_at hl 1 rfl) ?_
            refine lv_bipush (v := 124) hx hb dX5_condition_46 (by decide) ?_
            refine lv_icmp_ne (tgt := 127) hx hb dX5_condition_48 (by decide) (fun c48 => ?_) (fun c48 => ?_)
            · have c48 : ¬ m25_L_4.toInt = 124 := z6 rfl (by decide) c48
              exact J127  (by first | exact fl_n jv25_0 jv25_1 (fun z => by have := oC_iff.mp z; omega) | exact fl_e jv25_0 (by omega)) (by first | exact fun g s hb => fse_e jv25_2 (Or.inr ⟨jv25_1, fun z => by have := oC_iff.mp z; omega⟩) hb (by omega) | exact fun g s hb => fse_e (t := m25_L_4) jv25_2 (Or.inl (by omega)) hb (by omega)) H locs ls hP hD hS (lv_sub hl [0, 1, 2, 3, 4, 5] rfl)
            · have c48 : m25_L_4.toInt = 124 := z5 rfl (by decide) c48
              refine lv_iload hx hb dX5_condition_51 (lv_at hl 1 rfl) ?_
              refine lv_bipush (v := 124) hx hb dX5_condition_53 (by decide) ?_
              refine lv_icmp_ne (tgt := 69) hx hb dX5_condition_55 (by decide) (fun c55 => by exfalso; have c55 : ¬ m25_L_4.toInt = 124 := z6 rfl (by decide) c55; omega) (fun c55 => ?_)
              have c55 : m25_L_4.toInt = 124 := z5 rfl (by decide) c55
              refine lv_iload_n hx hb dX5_condition_58 rfl (lv_at hl 2 rfl) ?_
              refine lv_if_eq (tgt := 69) hx hb dX5_condition_59 (by decide) (fun c59 => ?_) (fun c59 => ?_)
              · have c59 : m25_L_3.toInt = 0 := z5 rfl (by decide) c59
                refine lv_aload_n hx hb dX5_condition_69 rfl (lv_at hl 3 rfl) ?_
                refine va_get (D := (dC, dI)) (ci := 5) (v := .ref tp) (C := RX5) (T := TX5) (N := 3) hx hb hts iX5 hown hK hP 0 rfl rfl 2 (by decide) (hts _ qw172) (fun _ h9 => h9) rfl dX5_condition_70 ?_
                refine lv_dup hx hb dX5_condition_73 rfl ?_
                refine va_get (D := (dC, dI)) (ci := 9) (v := .int m25_F_tp_2) (C := RX9) (T := TX9) (N := 3) hx hb hts iX9 hown hK hP 2 rfl rfl 2 (by decide) (hts _ qw137) (fun _ h9 => h9) rfl dX5_condition_74 ?_
                refine lv_iconst (v := 1) hx hb dX5_condition_77 (by decide) ?_
                refine lv_iadd hx hb dX5_condition_78 ?_
                refine lv_topi (fun v78 e78 => ?_)
                have i78 : v78.toInt = m25_F_tp_2.toInt + 1 := zadd e78 rfl (by decide) (by omega) (by omega)
                refine va_put (D := (dC, dI)) (ci := 9) (v := .int v78) (ty := .int) (C := RX9) (T := TX9) (N := 3) hx hb hts iX9 tyX9 tyX9_ok nmX9 hown hK hP hD hS 2 rfl rfl 2 (by decide) (hts _ qw137) (fun _ h9 => h9) rfl (by decide +kernel) rfl rfl (Nat.le_of_ble_eq_true rfl) dX5_condition_79 (fun H locs hP hD hS => ?_)
                have hP : va_P (dC, dI) vwCl [(h0, .inr (5, [.ref lS, .int m25_F_h0_1, .ref tp])), (lS, .inl (cI, 241, .inl m25_A_lS)), (tp, .inr (9, [.ref tB, .int tl, .int v78])), (tB, .inl (cI, 260, .inl fB))] H := hP
                have hD : va_D A [(h0, .inr (5, [.ref lS, .int m25_F_h0_1, .ref tp])), (lS, .inl (cI, 241, .inl m25_A_lS)), (tp, .inr (9, [.ref tB, .int tl, .int v78])), (tB, .inl (cI, 260, .inl fB))] := hD
                refine lv_aload_n hx hb dX5_condition_82 rfl (lv_at hl 3 rfl) ?_
                refine lv_iload_n hx hb dX5_condition_83 rfl (lv_at hl 4 rfl) ?_
                refine lv_iconst (v := 0) hx hb dX5_condition_84 (by decide) ?_
                have hPc := hP.sub (ws' := [(h0, .inr (5, [.ref lS, .int m25_F_h0_1, .ref tp])), (lS, .inl (cI, 241, .inl m25_A_lS)), (tp, .inr (9, [.ref tB, .int tl, .int v78])), (tB, .inl (cI, 260, .inl fB))]) [0, 1, 2, 3] rfl
                have hDc := hD.sub (ws' := [(h0, .inr (5, [.ref lS, .int m25_F_h0_1, .ref tp])), (lS, .inl (cI, 241, .inl m25_A_lS)), (tp, .inr (9, [.ref tB, .int tl, .int v78])), (tB, .inl (cI, 260, .inl fB))]) [0, 1, 2, 3] (by decide) rfl
                have hFc := va_free (wc := [(h0, .inr (5, [.ref lS, .int m25_F_h0_1, .ref tp])), (lS, .inl (cI, 241, .inl m25_A_lS)), (tp, .inr (9, [.ref tB, .int tl, .int v78])), (tB, .inl (cI, 260, .inl fB))]) hD hS hA [0, 1, 2, 3] rfl
                refine va_calli (va_runV (As := [.int 0, .int 0]) (rest := []) ⟨hx, hb, hml, hown, hts⟩ (zD_U6 l dC dI cI cJ h0 0 lS m25_F_h0_1 tp m25_A_lS tB tl v78 fB H.size (by decide) jf25_0 (by omega) n_tl (hty) (by omega) (by decide) jf25_12) (cwV 2 hts (zgV qw511 qw513 qw7 qw101 qw514) rfl rfl rfl hd_X5_unit ⟨by rw [hR]; exact Nat.le_of_ble_eq_true rfl, by rw [hR]; exact Nat.le_of_ble_eq_true rfl⟩) (zPWV hPc hK hDc (va_recv hK hP (ci := 5) (q0 := 0) rfl rfl) (zV_call hV hS hFc)) rfl rfl hl.1 rfl (lv_room (Nat.le_of_ble_eq_true rfl)) dX5_condition_85 ⟨Nat.zero_le _, Nat.zero_le _⟩) hS (fun q _ h => hFc q h) hFc (fun v85 u85 t H locs ht hvm hw hB hz1 hk1 hS => ?_)
                obtain ⟨u85_0, u85_1, u85_2⟩ := u85
                obtain ⟨hP1, hD1⟩ := hB
                rw [ht] at hP1
                obtain ⟨hP, hD⟩ := va_join (wr := []) (w1 := [(h0, .inr (5, [.ref lS, .int u85_0, .ref tp])), (lS, .inl (cI, 241, .inl u85_1)), (tp, .inr (9, [.ref tB, .int tl, .int u85_2])), (tB, .inl (cI, 260, .inl fB))]) hP hD [0, 1, 2, 3] [] rfl rfl (by decide) (by decide) hk1 hFc hP1 hD1
                have hP : va_P (dC, dI) vwCl [(h0, .inr (5, [.ref lS, .int u85_0, .ref tp])), (lS, .inl (cI, 241, .inl u85_1)), (tp, .inr (9, [.ref tB, .int tl, .int u85_2])), (tB, .inl (cI, 260, .inl fB))] H := hP.sub [0, 1, 2, 3] rfl
                have hD : va_D A [(h0, .inr (5, [.ref lS, .int u85_0, .ref tp])), (lS, .inl (cI, 241, .inl u85_1)), (tp, .inr (9, [.ref tB, .int tl, .int u85_2])), (tB, .inl (cI, 260, .inl fB))] := hD.sub [0, 1, 2, 3] (by decide) rfl
                obtain ⟨f85_0, f85_1, f85_2, f85_3, f85_4, f85_5, f85_6, f85_7, f85_8, f85_9, f85_10⟩ : (0 ≤ v85.toInt) ∧ (v85.toInt ≤ 1) ∧ (0 ≤ u85_0.toInt) ∧ (u85_0.toInt ≤ 241) ∧ (0 ≤ u85_2.toInt) ∧ (u85_2.toInt ≤ 240) ∧ (zF (sUn (sB fB tl.toInt) tl.toInt 6 v78.toInt) v85 u85_2) ∧ (¬ v85.toInt = 0 → v78.toInt < u85_2.toInt) ∧ (¬ v85.toInt = 0 → u85_0.toInt + v78.toInt ≤ m25_F_h0_1.toInt + u85_2.toInt) ∧ (¬ v85.toInt = 0 → zEm m25_A_lS m25_F_h0_1 (eUn (sB fB tl.toInt) tl.toInt 6 v78.toInt) u85_1 u85_0) ∧ (zSt u85_1) := hw
                have F85 := f85_6
                have F85_1 := f85_9
                refine lv_if_ne (tgt := 93) hx hb dX5_condition_88 (by decide) (fun c88 => ?_) (fun c88 => ?_)
                · have c88 : ¬ v85.toInt = 0 := z6 rfl (by decide) c88
                  refine lv_iload hx hb dX5_condition_93 (lv_at hl 1 rfl) ?_
                  refine lv_bipush (v := 38) hx hb dX5_condition_95 (by decide) ?_
                  refine lv_icmp_ne (tgt := 110) hx hb dX5_condition_97 (by decide) (fun c97 => ?_) (fun c97 => by exfalso; have c97 : m25_L_4.toInt = 38 := z5 rfl (by decide) c97; omega)
                  have c97 : ¬ m25_L_4.toInt = 38 := z6 rfl (by decide) c97
                  refine lv_iconst (v := 1) hx hb dX5_condition_110 (by decide) ?_
                  refine lv_istore_n (lv' := [(3, .int 1), (5, .int m25_L_5), (4, .int m25_L_4), (0, .ref h0), (1, .int 0), (2, .int 1)]) hx hb dX5_condition_111 rfl hl (by decide) rfl (fun ls hl => ?_)
                  refine lv_aload_n hx hb dX5_condition_112 rfl (lv_at hl 3 rfl) ?_
                  refine va_get (D := (dC, dI)) (ci := 5) (v := .ref tp) (C := RX5) (T := TX5) (N := 3) hx hb hts iX5 hown hK hP 0 rfl rfl 2 (by decide) (hts _ qw172) (fun _ h9 => h9) rfl dX5_condition_113 ?_
                  have hPc := hP.sub (ws' := [(tp, .inr (9, [.ref tB, .int tl, .int u85_2])), (tB, .inl (cI, 260, .inl fB))]) [2, 3] rfl
                  have hDc := hD.sub (ws' := [(tp, .inr (9, [.ref tB, .int tl, .int u85_2])), (tB, .inl (cI, 260, .inl fB))]) [2, 3] (by decide) rfl
                  have hFc := va_free (wc := [(tp, .inr (9, [.ref tB, .int tl, .int u85_2])), (tB, .inl (cI, 260, .inl fB))]) hD hS hA [2, 3] rfl
                  refine va_calli (va_runV (As := []) (rest := []) ⟨hx, hb, hml, hown, hts⟩ (g_X9_peek l dC dI cI cJ tp tB tl u85_2 fB H.size ⟨f85_4, f85_5⟩ n_tl (hty)) (cwV 0 hts (zgV qw485 qw438 qw439 qw99 qw440) rfl rfl rfl hd_X9_peek ⟨by rw [hR]; exact Nat.le_of_ble_eq_true rfl, by rw [hR]; exact Nat.le_of_ble_eq_true rfl⟩) (zPV hPc hK hDc (va_recv hK hP (ci := 9) (q0 := 2) rfl rfl)) rfl rfl hl.1 rfl (lv_room (Nat.le_of_ble_eq_true rfl)) dX5_condition_116 ⟨Nat.zero_le _, Nat.zero_le _⟩) hS (fun q _ h => hFc q h) hFc (fun v116 u116 t H locs ht hvm hw hB hz1 hk1 hS => ?_)
                  obtain ⟨u116_0, rfl⟩ : ∃ z, z = u116 := ⟨_, rfl⟩
                  obtain ⟨hP1, hD1⟩ := hB
                  rw [ht] at hP1
                  obtain ⟨hP, hD⟩ := va_join (wr := [(h0, .inr (5, [.ref lS, .int u85_0, .ref tp])), (lS, .inl (cI, 241, .inl u85_1))]) (w1 := [(tp, .inr (9, [.ref tB, .int tl, .int u116_0])), (tB, .inl (cI, 260, .inl fB))]) hP hD [2, 3] [0, 1] rfl rfl (by decide) (by decide) hk1 hFc hP1 hD1
                  have hP : va_P (dC, dI) vwCl [(h0, .inr (5, [.ref lS, .int u85_0, .ref tp])), (lS, .inl (cI, 241, .inl u85_1)), (tp, .inr (9, [.ref tB, .int tl, .int u116_0])), (tB, .inl (cI, 260, .inl fB))] H := hP.sub [0, 1, 2, 3] rfl
                  have hD : va_D A [(h0, .inr (5, [.ref lS, .int u85_0, .ref tp])), (lS, .inl (cI, 241, .inl u85_1)), (tp, .inr (9, [.ref tB, .int tl, .int u116_0])), (tB, .inl (cI, 260, .inl fB))] := hD.sub [0, 1, 2, 3] (by decide) rfl
                  obtain ⟨f116_0, f116_1, f116_2, f116_3, f116_4⟩ : (0 ≤ u116_0.toInt) ∧ (u116_0.toInt ≤ 240) ∧ (¬ v116.toInt = 0 → u116_0.toInt < tl.toInt) ∧ (u85_2.toInt ≤ u116_0.toInt) ∧ (zPK fB tl u85_2 v116 u116_0) := hw
                  have F116 := f116_4
                  refine lv_istore (lv' := [(4, .int v116), (3, .int 1), (5, .int m25_L_5), (0, .ref h0), (1, .int 0), (2, .int 1)]) hx hb dX5_condition_119 hl (by decide) rfl (fun ls hl => ?_)
                  obtain ⟨v121, e121⟩ : ∃ y : Int32, y = m25_L_5 + Int32.ofInt (1) := ⟨_, rfl⟩
                  refine lv_iinc (v := v121) (lv' := [(5, .int v121), (4, .int v116), (3, .int 1), (0, .ref h0), (1, .int 0), (2, .int 1)]) hx hb dX5_condition_121 hl (k := 2) rfl e121.symm (by decide) rfl (fun ls hl => ?_)
                  have i121 : v121.toInt = m25_L_5.toInt + 1 := zaddI e121 (by decide) (by omega) (by omega)
                  refine lv_goto (tgt := 25) hx hb dX5_condition_124 (by decide) ?_
                  have zj25_m25_L_3 : (1 : Int32).toInt = 1 := by decide
                  exact ih25 _ (by omega) u85_1 u85_0 u116_0 1 v116 v121 ⟨f85_2, f85_3⟩ ⟨f116_0, f116_1⟩ (by decide) (by omega) (by omega) (by omega) (fl_s jv25_0 jv25_1 (oC_iff.mpr (by omega)) (by decide) i78 F85 (by omega) (by omega) F116) (F116.2) (by omega) (by omega) (by omega) (by first | exact fse_y jv25_2 jv25_1 (oC_iff.mpr (by omega)) (by decide) i78 F85 (by omega) (by omega) F116 (oD_iff.mpr (by omega)) (F85_1 (by omega)) (F104 (by omega)) (by omega) (by omega) (by omega) | exact fse_n jv25_2 jv25_1 (oC_iff.mpr (by omega)) (by decide) i78 F85 (by omega) (by omega) F116 (fun z => by have := oD_iff.mp z; omega) (eW_0 (by omega)) (F85_1 (by omega)) (by omega) (by omega) (by omega) | exact fse_n jv25_2 jv25_1 (oC_iff.mpr (by omega)) (by decide) i78 F85 (by omega) (by omega) F116 (fun z => by have := oD_iff.mp z; omega) (eW_1 (by omega) (by omega) (F66 (by omega))) (F85_1 (by omega)) (by omega) (by omega) (by omega)) f85_10 rfl H locs ls hP hD hS (lv_sub hl [0, 1, 2, 3, 4, 5] rfl)
                · have c88 : v85.toInt = 0 := z5 rfl (by decide) c88
                  refine lv_iconst (v := 0) hx hb dX5_condition_91 (by decide) ?_
                  have zr0 : (0 : Int32).toInt = 0 := by decide
                  rw [hQ]
                  exact W.zret (v := 0) (ty := .boolean) hx hb hr rfl (fun t ht hW => ⟨⟨0, (u85_0, u85_1, u85_2), rfl, ⟨by (try dsimp only); omega, by (try dsimp only); omega, by (try dsimp only); omega, by (try dsimp only); omega, by (try dsimp only); omega, by (try dsimp only); omega, zF0 (fl_x jv25_0 jv25_1 (oC_iff.mpr (by omega)) (by decide) i78 F85 (by omega)), (fun z => absurd (by decide) z), by (try dsimp only); omega, (fun z => absurd (by decide) z), f85_10⟩, ⟨by rw [ht]; exact hP, hD⟩⟩, hS.F ht⟩) hS.2.2 dX5_condition_92
              · have c59 : ¬ m25_L_3.toInt = 0 := z6 rfl (by decide) c59
                refine lv_aload_n hx hb dX5_condition_62 rfl (lv_at hl 3 rfl) ?_
                refine lv_bipush (v := 124) hx hb dX5_condition_63 (by decide) ?_
                refine lv_iconst (v := 0) hx hb dX5_condition_65 (by decide) ?_
                have hPc := hP.sub (ws' := [(h0, .inr (5, [.ref lS, .int m25_F_h0_1, .ref tp])), (lS, .inl (cI, 241, .inl m25_A_lS))]) [0, 1] rfl
                have hDc := hD.sub (ws' := [(h0, .inr (5, [.ref lS, .int m25_F_h0_1, .ref tp])), (lS, .inl (cI, 241, .inl m25_A_lS))]) [0, 1] (by decide) rfl
                have hFc := va_free (wc := [(h0, .inr (5, [.ref lS, .int m25_F_h0_1, .ref tp])), (lS, .inl (cI, 241, .inl m25_A_lS))]) hD hS hA [0, 1] rfl
                refine va_callv (va_runV (As := [.int 124, .int 0]) (rest := []) ⟨hx, hb, hml, hown, hts⟩ (g_X5_put_0 l dC dI cI cJ h0 124 lS m25_F_h0_1 tp m25_A_lS H.size (by decide) jf25_0 jf25_12) (cwV 2 hts (zgV qw496 qw498 qw5 qw101 qw499) rfl rfl rfl hd_X5_put ⟨by rw [hR]; exact Nat.le_of_ble_eq_true rfl, by rw [hR]; exact Nat.le_of_ble_eq_true rfl⟩) (zPV hPc hK hDc (va_recv hK hP (ci := 5) (q0 := 0) rfl rfl)) rfl rfl hl.1 rfl (lv_room (Nat.le_of_ble_eq_true rfl)) dX5_condition_66 ⟨Nat.zero_le _, Nat.zero_le _⟩) hS (fun q _ h => hFc q h) hFc (fun u66 t H locs ht hvm hw hB hz1 hk1 hS => ?_)
                obtain ⟨u66_0, u66_1⟩ := u66
                obtain ⟨hP1, hD1⟩ := hB
                rw [ht] at hP1
                obtain ⟨hP, hD⟩ := va_join (wr := [(tp, .inr (9, [.ref tB, .int tl, .int m25_F_tp_2])), (tB, .inl (cI, 260, .inl fB))]) (w1 := [(h0, .inr (5, [.ref lS, .int u66_0, .ref tp])), (lS, .inl (cI, 241, .inl u66_1))]) hP hD [0, 1] [2, 3] rfl rfl (by decide) (by decide) hk1 hFc hP1 hD1
                have hP : va_P (dC, dI) vwCl [(h0, .inr (5, [.ref lS, .int u66_0, .ref tp])), (lS, .inl (cI, 241, .inl u66_1)), (tp, .inr (9, [.ref tB, .int tl, .int m25_F_tp_2])), (tB, .inl (cI, 260, .inl fB))] H := hP.sub [2, 3, 0, 1] rfl
                have hD : va_D A [(h0, .inr (5, [.ref lS, .int u66_0, .ref tp])), (lS, .inl (cI, 241, .inl u66_1)), (tp, .inr (9, [.ref tB, .int tl, .int m25_F_tp_2])), (tB, .inl (cI, 260, .inl fB))] := hD.sub [2, 3, 0, 1] (by decide) rfl
                have zn66_124 : (124 : Int32).toInt = 124 := by decide
                obtain ⟨f66_0, f66_1, f66_2, f66_3, f66_4⟩ : (1 ≤ u66_0.toInt) ∧ (u66_0.toInt ≤ 241) ∧ (u66_0.toInt ≤ m25_F_h0_1.toInt + 1 ∧ m25_F_h0_1.toInt ≤ u66_0.toInt) ∧ (m25_F_h0_1.toInt < 241 → zEm m25_A_lS m25_F_h0_1 [((124 : Int32).toInt, 0)] u66_1 u66_0) ∧ (zSt u66_1) := hw
                have F66 := f66_3
                refine lv_aload_n hx hb dX5_condition_69 rfl (lv_at hl 3 rfl) ?_
                refine va_get (D := (dC, dI)) (ci := 5) (v := .ref tp) (C := RX5) (T := TX5) (N := 3) hx hb hts iX5 hown hK hP 0 rfl rfl 2 (by decide) (hts _ qw172) (fun _ h9 => h9) rfl dX5_condition_70 ?_
                refine lv_dup hx hb dX5_condition_73 rfl ?_
                refine va_get (D := (dC, dI)) (ci := 9) (v := .int m25_F_tp_2) (C := RX9) (T := TX9) (N := 3) hx hb hts iX9 hown hK hP 2 rfl rfl 2 (by decide) (hts _ qw137) (fun _ h9 => h9) rfl dX5_condition_74 ?_
                refine lv_iconst (v := 1) hx hb dX5_condition_77 (by decide) ?_
                refine lv_iadd hx hb dX5_condition_78 ?_
                refine lv_topi (fun v78 e78 => ?_)
                have i78 : v78.toInt = m25_F_tp_2.toInt + 1 := zadd e78 rfl (by decide) (by omega) (by omega)
                refine va_put (D := (dC, dI)) (ci := 9) (v := .int v78) (ty := .int) (C := RX9) (T := TX9) (N := 3) hx hb hts iX9 tyX9 tyX9_ok nmX9 hown hK hP hD hS 2 rfl rfl 2 (by decide) (hts _ qw137) (fun _ h9 => h9) rfl (by decide +kernel) rfl rfl (Nat.le_of_ble_eq_true rfl) dX5_condition_79 (fun H locs hP hD hS => ?_)
                have hP : va_P (dC, dI) vwCl [(h0, .inr (5, [.ref lS, .int u66_0, .ref tp])), (lS, .inl (cI, 241, .inl u66_1)), (tp, .inr (9, [.ref tB, .int tl, .int v78])), (tB, .inl (cI, 260, .inl fB))] H := hP
                have hD : va_D A [(h0, .inr (5, [.ref lS, .int u66_0, .ref tp])), (lS, .inl (cI, 241, .inl u66_1)), (tp, .inr (9, [.ref tB, .int tl, .int v78])), (tB, .inl (cI, 260, .inl fB))] := hD
                refine lv_aload_n hx hb dX5_condition_82 rfl (lv_at hl 3 rfl) ?_
                refine lv_iload_n hx hb dX5_condition_83 rfl (lv_at hl 4 rfl) ?_
                refine lv_iconst (v := 0) hx hb dX5_condition_84 (by decide) ?_
                have hPc := hP.sub (ws' := [(h0, .inr (5, [.ref lS, .int u66_0, .ref tp])), (lS, .inl (cI, 241, .inl u66_1)), (tp, .inr (9, [.ref tB, .int tl, .int v78])), (tB, .inl (cI, 260, .inl fB))]) [0, 1, 2, 3] rfl
                have hDc := hD.sub (ws' := [(h0, .inr (5, [.ref lS, .int u66_0, .ref tp])), (lS, .inl (cI, 241, .inl u66_1)), (tp, .inr (9, [.ref tB, .int tl, .int v78])), (tB, .inl (cI, 260, .inl fB))]) [0, 1, 2, 3] (by decide) rfl
                have hFc := va_free (wc := [(h0, .inr (5, [.ref lS, .int u66_0, .ref tp])), (lS, .inl (cI, 241, .inl u66_1)), (tp, .inr (9, [.ref tB, .int tl, .int v78])), (tB, .inl (cI, 260, .inl fB))]) hD hS hA [0, 1, 2, 3] rfl
                refine va_calli (va_runV (As := [.int 0, .int 0]) (rest := []) ⟨hx, hb, hml, hown, hts⟩ (zD_U6 l dC dI cI cJ h0 0 lS u66_0 tp u66_1 tB tl v78 fB H.size (by decide) (by omega) (by omega) n_tl (hty) (by omega) (by decide) f66_4) (cwV 2 hts (zgV qw511 qw513 qw7 qw101 qw514) rfl rfl rfl hd_X5_unit ⟨by rw [hR]; exact Nat.le_of_ble_eq_true rfl, by rw [hR]; exact Nat.le_of_ble_eq_true rfl⟩) (zPWV hPc hK hDc (va_recv hK hP (ci := 5) (q0 := 0) rfl rfl) (zV_call hV hS hFc)) rfl rfl hl.1 rfl (lv_room (Nat.le_of_ble_eq_true rfl)) dX5_condition_85 ⟨Nat.zero_le _, Nat.zero_le _⟩) hS (fun q _ h => hFc q h) hFc (fun v85 u85 t H locs ht hvm hw hB hz1 hk1 hS => ?_)
                obtain ⟨u85_0, u85_1, u85_2⟩ := u85
                obtain ⟨hP1, hD1⟩ := hB
                rw [ht] at hP1
                obtain ⟨hP, hD⟩ := va_join (wr := []) (w1 := [(h0, .inr (5, [.ref lS, .int u85_0, .ref tp])), (lS, .inl (cI, 241, .inl u85_1)), (tp, .inr (9, [.ref tB, .int tl, .int u85_2])), (tB, .inl (cI, 260, .inl fB))]) hP hD [0, 1, 2, 3] [] rfl rfl (by decide) (by decide) hk1 hFc hP1 hD1
                have hP : va_P (dC, dI) vwCl [(h0, .inr (5, [.ref lS, .int u85_0, .ref tp])), (lS, .inl (cI, 241, .inl u85_1)), (tp, .inr (9, [.ref tB, .int tl, .int u85_2])), (tB, .inl (cI, 260, .inl fB))] H := hP.sub [0, 1, 2, 3] rfl
                have hD : va_D A [(h0, .inr (5, [.ref lS, .int u85_0, .ref tp])), (lS, .inl (cI, 241, .inl u85_1)), (tp, .inr (9, [.ref tB, .int tl, .int u85_2])), (tB, .inl (cI, 260, .inl fB))] := hD.sub [0, 1, 2, 3] (by decide) rfl
                obtain ⟨f85_0, f85_1, f85_2, f85_3, f85_4, f85_5, f85_6, f85_7, f85_8, f85_9, f85_10⟩ : (0 ≤ v85.toInt) ∧ (v85.toInt ≤ 1) ∧ (0 ≤ u85_0.toInt) ∧ (u85_0.toInt ≤ 241) ∧ (0 ≤ u85_2.toInt) ∧ (u85_2.toInt ≤ 240) ∧ (zF (sUn (sB fB tl.toInt) tl.toInt 6 v78.toInt) v85 u85_2) ∧ (¬ v85.toInt = 0 → v78.toInt < u85_2.toInt) ∧ (¬ v85.toInt = 0 → u85_0.toInt + v78.toInt ≤ u66_0.toInt + u85_2.toInt) ∧ (¬ v85.toInt = 0 → zEm u66_1 u66_0 (eUn (sB fB tl.toInt) tl.toInt 6 v78.toInt) u85_1 u85_0) ∧ (zSt u85_1) := hw
                have F85 := f85_6
                have F85_1 := f85_9
                refine lv_if_ne (tgt := 93) hx hb dX5_condition_88 (by decide) (fun c88 => ?_) (fun c88 => ?_)
                · have c88 : ¬ v85.toInt = 0 := z6 rfl (by decide) c88
                  refine lv_iload hx hb dX5_condition_93 (lv_at hl 1 rfl) ?_
                  refine lv_bipush (v := 38) hx hb dX5_condition_95 (by decide) ?_
                  refine lv_icmp_ne (tgt := 110) hx hb dX5_condition_97 (by decide) (fun c97 => ?_) (fun c97 => by exfalso; have c97 : m25_L_4.toInt = 38 := z5 rfl (by decide) c97; omega)
                  have c97 : ¬ m25_L_4.toInt = 38 := z6 rfl (by decide) c97
                  refine lv_iconst (v := 1) hx hb dX5_condition_110 (by decide) ?_
                  refine lv_istore_n (lv' := [(3, .int 1), (5, .int m25_L_5), (4, .int m25_L_4), (0, .ref h0), (1, .int 0), (2, .int 1)]) hx hb dX5_condition_111 rfl hl (by decide) rfl (fun ls hl => ?_)
                  refine lv_aload_n hx hb dX5_condition_112 rfl (lv_at hl 3 rfl) ?_
                  refine va_get (D := (dC, dI)) (ci := 5) (v := .ref tp) (C := RX5) (T := TX5) (N := 3) hx hb hts iX5 hown hK hP 0 rfl rfl 2 (by decide) (hts _ qw172) (fun _ h9 => h9) rfl dX5_condition_113 ?_
                  have hPc := hP.sub (ws' := [(tp, .inr (9, [.ref tB, .int tl, .int u85_2])), (tB, .inl (cI, 260, .inl fB))]) [2, 3] rfl
                  have hDc := hD.sub (ws' := [(tp, .inr (9, [.ref tB, .int tl, .int u85_2])), (tB, .inl (cI, 260, .inl fB))]) [2, 3] (by decide) rfl
                  have hFc := va_free (wc := [(tp, .inr (9, [.ref tB, .int tl, .int u85_2])), (tB, .inl (cI, 260, .inl fB))]) hD hS hA [2, 3] rfl
                  refine va_calli (va_runV (As := []) (rest := []) ⟨hx, hb, hml, hown, hts⟩ (g_X9_peek l dC dI cI cJ tp tB tl u85_2 fB H.size ⟨f85_4, f85_5⟩ n_tl (hty)) (cwV 0 hts (zgV qw485 qw438 qw439 qw99 qw440) rfl rfl rfl hd_X9_peek ⟨by rw [hR]; exact Nat.le_of_ble_eq_true rfl, by rw [hR]; exact Nat.le_of_ble_eq_true rfl⟩) (zPV hPc hK hDc (va_recv hK hP (ci := 9) (q0 := 2) rfl rfl)) rfl rfl hl.1 rfl (lv_room (Nat.le_of_ble_eq_true rfl)) dX5_condition_116 ⟨Nat.zero_le _, Nat.zero_le _⟩) hS (fun q _ h => hFc q h) hFc (fun v116 u116 t H locs ht hvm hw hB hz1 hk1 hS => ?_)
                  obtain ⟨u116_0, rfl⟩ : ∃ z, z = u116 := ⟨_, rfl⟩
                  obtain ⟨hP1, hD1⟩ := hB
                  rw [ht] at hP1
                  obtain ⟨hP, hD⟩ := va_join (wr := [(h0, .inr (5, [.ref lS, .int u85_0, .ref tp])), (lS, .inl (cI, 241, .inl u85_1))]) (w1 := [(tp, .inr (9, [.ref tB, .int tl, .int u116_0])), (tB, .inl (cI, 260, .inl fB))]) hP hD [2, 3] [0, 1] rfl rfl (by decide) (by decide) hk1 hFc hP1 hD1
                  have hP : va_P (dC, dI) vwCl [(h0, .inr (5, [.ref lS, .int u85_0, .ref tp])), (lS, .inl (cI, 241, .inl u85_1)), (tp, .inr (9, [.ref tB, .int tl, .int u116_0])), (tB, .inl (cI, 260, .inl fB))] H := hP.sub [0, 1, 2, 3] rfl
                  have hD : va_D A [(h0, .inr (5, [.ref lS, .int u85_0, .ref tp])), (lS, .inl (cI, 241, .inl u85_1)), (tp, .inr (9, [.ref tB, .int tl, .int u116_0])), (tB, .inl (cI, 260, .inl fB))] := hD.sub [0, 1, 2, 3] (by decide) rfl
                  obtain ⟨f116_0, f116_1, f116_2, f116_3, f116_4⟩ : (0 ≤ u116_0.toInt) ∧ (u116_0.toInt ≤ 240) ∧ (¬ v116.toInt = 0 → u116_0.toInt < tl.toInt) ∧ (u85_2.toInt ≤ u116_0.toInt) ∧ (zPK fB tl u85_2 v116 u116_0) := hw
                  have F116 := f116_4
                  refine lv_istore (lv' := [(4, .int v116), (3, .int 1), (5, .int m25_L_5), (0, .ref h0), (1, .int 0), (2, .int 1)]) hx hb dX5_condition_119 hl (by decide) rfl (fun ls hl => ?_)
                  obtain ⟨v121, e121⟩ : ∃ y : Int32, y = m25_L_5 + Int32.ofInt (1) := ⟨_, rfl⟩
                  refine lv_iinc (v := v121) (lv' := [(5, .int v121), (4, .int v116), (3, .int 1), (0, .ref h0), (1, .int 0), (2, .int 1)]) hx hb dX5_condition_121 hl (k := 2) rfl e121.symm (by decide) rfl (fun ls hl => ?_)
                  have i121 : v121.toInt = m25_L_5.toInt + 1 := zaddI e121 (by decide) (by omega) (by omega)
                  refine lv_goto (tgt := 25) hx hb dX5_condition_124 (by decide) ?_
                  have zj25_m25_L_3 : (1 : Int32).toInt = 1 := by decide
                  exact ih25 _ (by omega) u85_1 u85_0 u116_0 1 v116 v121 ⟨f85_2, f85_3⟩ ⟨f116_0, f116_1⟩ (by decide) (by omega) (by omega) (by omega) (fl_s jv25_0 jv25_1 (oC_iff.mpr (by omega)) (by decide) i78 F85 (by omega) (by omega) F116) (F116.2) (by omega) (by omega) (by omega) (by first | exact fse_y jv25_2 jv25_1 (oC_iff.mpr (by omega)) (by decide) i78 F85 (by omega) (by omega) F116 (oD_iff.mpr (by omega)) (F85_1 (by omega)) (F104 (by omega)) (by omega) (by omega) (by omega) | exact fse_n jv25_2 jv25_1 (oC_iff.mpr (by omega)) (by decide) i78 F85 (by omega) (by omega) F116 (fun z => by have := oD_iff.mp z; omega) (eW_0 (by omega)) (F85_1 (by omega)) (by omega) (by omega) (by omega) | exact fse_n jv25_2 jv25_1 (oC_iff.mpr (by omega)) (by decide) i78 F85 (by omega) (by omega) F116 (fun z => by have := oD_iff.mp z; omega) (eW_1 (by omega) (by omega) (F66 (by omega))) (F85_1 (by omega)) (by omega) (by omega) (by omega)) f85_10 rfl H locs ls hP hD hS (lv_sub hl [0, 1, 2, 3, 4, 5] rfl)
                · have c88 : v85.toInt = 0 := z5 rfl (by decide) c88
                  refine lv_iconst (v := 0) hx hb dX5_condition_91 (by decide) ?_
                  have zr0 : (0 : Int32).toInt = 0 := by decide
                  rw [hQ]
                  exact W.zret (v := 0) (ty := .boolean) hx hb hr rfl (fun t ht hW => ⟨⟨0, (u85_0, u85_1, u85_2), rfl, ⟨by (try dsimp only); omega, by (try dsimp only); omega, by (try dsimp only); omega, by (try dsimp only); omega, by (try dsimp only); omega, by (try dsimp only); omega, zF0 (fl_x jv25_0 jv25_1 (oC_iff.mpr (by omega)) (by decide) i78 F85 (by omega)), (fun z => absurd (by decide) z), by (try dsimp only); omega, (fun z => absurd (by decide) z), f85_10⟩, ⟨by rw [ht]; exact hP, hD⟩⟩, hS.F ht⟩) hS.2.2 dX5_condition_92
    refine lv_istore (lv' := [(5, .int 0), (4, .int v17), (3, .int 0), (0, .ref h0), (1, .int 0), (2, .int 1)]) hx hb dX5_condition_23 hl (by decide) rfl (fun ls hl => ?_)
    have zj25_m25_L_3 : (0 : Int32).toInt = 0 := by decide
    have zj25_m25_L_5 : (0 : Int32).toInt = 0 := by decide
    exact J25 _ u3_1 u3_0 u17_0 0 v17 0 ⟨f3_2, f3_3⟩ ⟨f17_0, f17_1⟩ (by decide) (by decide) (by omega) (by omega) (fg_b F3 (by omega) F17) (F17.2) (by omega) (by omega) (by omega) (fse_b rfl F3 (by omega) F17 (F3_1 (by omega)) (by decide)) f3_10 rfl H locs ls hP hD hS (lv_sub hl [0, 1, 2, 3, 4, 5] rfl)
  · have c6 : v3.toInt = 0 := z5 rfl (by decide) c6
    refine lv_iconst (v := 0) hx hb dX5_condition_9 (by decide) ?_
    have zr0 : (0 : Int32).toInt = 0 := by decide
    rw [hQ]
    exact W.zret (v := 0) (ty := .boolean) hx hb hr rfl (fun t ht hW => ⟨⟨0, (u3_0, u3_1, u3_2), rfl, ⟨by (try dsimp only); omega, by (try dsimp only); omega, by (try dsimp only); omega, by (try dsimp only); omega, by (try dsimp only); omega, by (try dsimp only); omega, zF0 (fg_0 F3 (by omega)), (fun z => absurd (by decide) z), by (try dsimp only); omega, (fun z => absurd (by decide) z), f3_10⟩, ⟨by rw [ht]; exact hP, hD⟩⟩, hS.F ht⟩) hS.2.2 dX5_condition_10
