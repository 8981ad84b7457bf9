set_option maxHeartbeats 4000000 in
set_option maxRecDepth 100000 in
theorem g_X5_sum_k (l : Launch) (K fr lo : Nat) (ihA : zQ_X5_atom l K fr lo) (hfr : 0 ≤ fr) (hlo : 22 ≤ lo) : zQ_X5_sum l K (fr + 1) (lo + 40) := by
  intro dC dI cI cJ h0 p0 lS sz5 tp fS tB tl ta fB sz n_p0 n_sz5 n_ta n_tl hty hsz hKd ci_fS_zSt
  refine Met.ofW (cc := cX5_sum) (maxL := 6) (ret := (some .boolean)) (by decide) rfl ?_
  intro p e s m args below meth c s₁ B hml hv
  obtain ⟨⟨hargs, hsz, hP, hK, hT⟩, hV⟩ := hv
  have hx := B.exec
  have hb := B.bytes
  have hr := B.returns
  have hts : ∀ w ∈ wA, w.before args s = true := fun w h => atoms_spec (ws := .code yX5_sum cX5_sum 6 (some .boolean) :: wA) B.pre w (List.mem_cons_of_mem _ h)
  have hown : s.vm.findClass RX5 = some m.cls := findClass_of_methodNamed B.named
  have hlocks := B.notSynchronized
  subst hsz
  have hD := hT.self (sz := s.heap.size)
  generalize hAe : va_A [(h0, .inr (5, [.ref lS, .int sz5, .ref tp])), (lS, .inl (cI, 241, .inl fS)), (tp, .inr (9, [.ref tB, .int tl, .int ta])), (tB, .inl (cI, 260, .inl fB))] s.heap.size = A at hD hV ⊢
  have hA : ∀ q : Nat, s.heap.size ≤ q → A q := fun q h => by rw [← hAe]; exact Or.inr h
  have hl := lv_entry ([.ref h0, .int p0]) (n := 6) (Nat.le_of_ble_eq_true rfl)
  rw [show entryFrame m args 6 = entryFrame m ([.ref h0, .int p0] : List Value).toArray 6 by rw [hargs], lg_entry_eq]
  generalize (lg_sl ([.ref h0, .int p0]) ++ List.replicate (6 - (lg_sl ([.ref h0, .int p0])).length) Slot.unset).toArray = ls at hl ⊢
  have hl : lv_has ls 6 [(0, .ref h0), (1, .int p0)] := hl
  refine zstart (fun H hH => ?_)
  rw [← hH] at hP
  have hS : va_S A s.heap H [] := by rw [hH]; exact va_S.rf
  generalize ([] : List Loc) = locs at hS ⊢
  refine zgen (fun R Q hR hQ => ?_)
  have hRf : R.frames = fr + 1 := by rw [hR]; rfl
  have hRl : R.locals = lo + 40 := by rw [hR]; rfl
  refine lv_aload_n hx hb dX5_sum_0 rfl (lv_at hl 0 rfl) ?_
  refine lv_iload_n hx hb dX5_sum_1 rfl (lv_at hl 1 rfl) ?_
  have hPc := hP.sub (ws' := [(h0, .inr (5, [.ref lS, .int sz5, .ref tp])), (lS, .inl (cI, 241, .inl fS)), (tp, .inr (9, [.ref tB, .int tl, .int ta])), (tB, .inl (cI, 260, .inl fB))]) [0, 1, 2, 3] rfl
  have hDc := hD.sub (ws' := [(h0, .inr (5, [.ref lS, .int sz5, .ref tp])), (lS, .inl (cI, 241, .inl fS)), (tp, .inr (9, [.ref tB, .int tl, .int ta])), (tB, .inl (cI, 260, .inl fB))]) [0, 1, 2, 3] (by decide) rfl
  have hFc := va_free (wc := [(h0, .inr (5, [.ref lS, .int sz5, .ref tp])), (lS, .inl (cI, 241, .inl fS)), (tp, .inr (9, [.ref tB, .int tl, .int ta])), (tB, .inl (cI, 260, .inl fB))]) hD hS hA [0, 1, 2, 3] rfl
  refine va_calli (va_runV (As := [.int p0]) (rest := []) ⟨hx, hb, hml, hown, hts⟩ (ihA dC dI cI cJ h0 p0 lS sz5 tp fS tB tl ta fB H.size n_p0 n_sz5 n_ta n_tl (hty) (by omega) (by omega) ci_fS_zSt) (cwV 1 hts (zgV qw490 qw492 qw4 qw101 qw493) rfl rfl rfl hd_X5_atom ⟨by (try dsimp only) <;> omega, by (try dsimp only) <;> omega⟩) (zPWV hPc hK hDc (va_recv hK hP (ci := 5) (q0 := 0) rfl rfl) (zV_call hV hS hFc)) rfl rfl hl.1 rfl (lv_room (Nat.le_of_ble_eq_true rfl)) dX5_sum_2 ⟨Nat.zero_le _, Nat.zero_le _⟩) hS (fun q _ h => hFc q h) hFc (fun v2 u2 t H locs ht hvm hw hB hz1 hk1 hS => ?_)
  obtain ⟨u2_0, u2_1, u2_2⟩ := u2
  obtain ⟨hP1, hD1⟩ := hB
  rw [ht] at hP1
  obtain ⟨hP, hD⟩ := va_join (wr := []) (w1 := [(h0, .inr (5, [.ref lS, .int u2_0, .ref tp])), (lS, .inl (cI, 241, .inl u2_1)), (tp, .inr (9, [.ref tB, .int tl, .int u2_2])), (tB, .inl (cI, 260, .inl fB))]) hP hD [0, 1, 2, 3] [] rfl rfl (by decide) (by decide) hk1 hFc hP1 hD1
  have hP : va_P (dC, dI) vwCl [(h0, .inr (5, [.ref lS, .int u2_0, .ref tp])), (lS, .inl (cI, 241, .inl u2_1)), (tp, .inr (9, [.ref tB, .int tl, .int u2_2])), (tB, .inl (cI, 260, .inl fB))] H := hP.sub [0, 1, 2, 3] rfl
  have hD : va_D A [(h0, .inr (5, [.ref lS, .int u2_0, .ref tp])), (lS, .inl (cI, 241, .inl u2_1)), (tp, .inr (9, [.ref tB, .int tl, .int u2_2])), (tB, .inl (cI, 260, .inl fB))] := hD.sub [0, 1, 2, 3] (by decide) rfl
  obtain ⟨f2_0, f2_1, f2_2, f2_3, f2_4, f2_5, f2_6, f2_7, f2_8, f2_9, f2_10⟩ : (0 ≤ v2.toInt) ∧ (v2.toInt ≤ 1) ∧ (0 ≤ u2_0.toInt) ∧ (u2_0.toInt ≤ 241) ∧ (0 ≤ u2_2.toInt) ∧ (u2_2.toInt ≤ 240) ∧ (zF (sAtm (sB fB tl.toInt) tl.toInt K ta.toInt) v2 u2_2) ∧ (¬ v2.toInt = 0 → ta.toInt < u2_2.toInt) ∧ (¬ v2.toInt = 0 → u2_0.toInt + ta.toInt ≤ sz5.toInt + u2_2.toInt) ∧ (¬ v2.toInt = 0 → zEm fS sz5 (eAtm (sB fB tl.toInt) tl.toInt K ta.toInt) u2_1 u2_0) ∧ (zSt u2_1) := hw
  have F2 := f2_6
  have F2_1 := f2_9
  refine lv_if_ne (tgt := 10) hx hb dX5_sum_5 (by decide) (fun c5 => ?_) (fun c5 => ?_)
  · have c5 : ¬ v2.toInt = 0 := z6 rfl (by decide) c5
    refine lv_iconst (v := 0) hx hb dX5_sum_10 (by decide) ?_
    refine lv_istore_n (lv' := [(2, .int 0), (0, .ref h0), (1, .int p0)]) hx hb dX5_sum_11 rfl hl (by decide) rfl (fun ls hl => ?_)
    refine lv_aload_n hx hb dX5_sum_12 rfl (lv_at hl 1 rfl) ?_
    refine va_get (D := (dC, dI)) (ci := 5) (v := .ref tp) (C := RX5) (T := TX5) (N := 3) hx hb hts iX5 hown hK hP 0 rfl rfl 2 (by decide) (hts _ qw172) (fun _ h9 => h9) rfl dX5_sum_13 ?_
    have hPc := hP.sub (ws' := [(tp, .inr (9, [.ref tB, .int tl, .int u2_2])), (tB, .inl (cI, 260, .inl fB))]) [2, 3] rfl
    have hDc := hD.sub (ws' := [(tp, .inr (9, [.ref tB, .int tl, .int u2_2])), (tB, .inl (cI, 260, .inl fB))]) [2, 3] (by decide) rfl
    have hFc := va_free (wc := [(tp, .inr (9, [.ref tB, .int tl, .int u2_2])), (tB, .inl (cI, 260, .inl fB))]) hD hS hA [2, 3] rfl
    refine va_calli (va_runV (As := []) (rest := []) ⟨hx, hb, hml, hown, hts⟩ (g_X9_peek l dC dI cI cJ tp tB tl u2_2 fB H.size ⟨f2_4, f2_5⟩ n_tl (hty)) (cwV 0 hts (zgV qw485 qw438 qw439 qw99 qw440) rfl rfl rfl hd_X9_peek ⟨by (try dsimp only) <;> omega, by (try dsimp only) <;> omega⟩) (zPV hPc hK hDc (va_recv hK hP (ci := 9) (q0 := 2) rfl rfl)) rfl rfl hl.1 rfl (lv_room (Nat.le_of_ble_eq_true rfl)) dX5_sum_16 ⟨Nat.zero_le _, Nat.zero_le _⟩) hS (fun q _ h => hFc q h) hFc (fun v16 u16 t H locs ht hvm hw hB hz1 hk1 hS => ?_)
    obtain ⟨u16_0, rfl⟩ : ∃ z, z = u16 := ⟨_, rfl⟩
    obtain ⟨hP1, hD1⟩ := hB
    rw [ht] at hP1
    obtain ⟨hP, hD⟩ := va_join (wr := [(h0, .inr (5, [.ref lS, .int u2_0, .ref tp])), (lS, .inl (cI, 241, .inl u2_1))]) (w1 := [(tp, .inr (9, [.ref tB, .int tl, .int u16_0])), (tB, .inl (cI, 260, .inl fB))]) hP hD [2, 3] [0, 1] rfl rfl (by decide) (by decide) hk1 hFc hP1 hD1
    have hP : va_P (dC, dI) vwCl [(h0, .inr (5, [.ref lS, .int u2_0, .ref tp])), (lS, .inl (cI, 241, .inl u2_1)), (tp, .inr (9, [.ref tB, .int tl, .int u16_0])), (tB, .inl (cI, 260, .inl fB))] H := hP.sub [0, 1, 2, 3] rfl
    have hD : va_D A [(h0, .inr (5, [.ref lS, .int u2_0, .ref tp])), (lS, .inl (cI, 241, .inl u2_1)), (tp, .inr (9, [.ref tB, .int tl, .int u16_0])), (tB, .inl (cI, 260, .inl fB))] := hD.sub [0, 1, 2, 3] (by decide) rfl
    obtain ⟨f16_0, f16_1, f16_2, f16_3, f16_4⟩ : (0 ≤ u16_0.toInt) ∧ (u16_0.toInt ≤ 240) ∧ (¬ v16.toInt = 0 → u16_0.toInt < tl.toInt) ∧ (u2_2.toInt ≤ u16_0.toInt) ∧ (zPK fB tl u2_2 v16 u16_0) := hw
    have F16 := f16_4
    refine lv_istore_n (lv' := [(3, .int v16), (2, .int 0), (0, .ref h0), (1, .int p0)]) hx hb dX5_sum_19 rfl hl (by decide) rfl (fun ls hl => ?_)
    refine lv_iconst (v := 0) hx hb dX5_sum_20 (by decide) ?_
    have J23 : ∀ (n : Nat) (m23_A_lS : Nat → Int32) (m23_F_h0_1 : Int32) (m23_F_tp_2 : Int32) (m23_L_2 : Int32) (m23_L_3 : Int32) (m23_L_4 : Int32), (0 ≤ m23_F_h0_1.toInt ∧ m23_F_h0_1.toInt ≤ 241) → (0 ≤ m23_F_tp_2.toInt ∧ m23_F_tp_2.toInt ≤ 240) → (0 ≤ m23_L_2.toInt ∧ m23_L_2.toInt ≤ 46) → (0 ≤ m23_L_4.toInt ∧ m23_L_4.toInt ≤ 240) → (¬ m23_L_3.toInt = 0 → m23_F_tp_2.toInt < tl.toInt) → (m23_L_4.toInt ≤ m23_F_tp_2.toInt) → (sSum (sB fB tl.toInt) tl.toInt K ta.toInt = sLp (sB fB tl.toInt) tl.toInt oA (sAtm (sB fB tl.toInt) tl.toInt K) m23_F_tp_2.toInt) → (zSg fB tl m23_F_tp_2 m23_L_3) → (m23_F_h0_1.toInt + ta.toInt ≤ sz5.toInt + m23_F_tp_2.toInt) → (¬ m23_L_2.toInt = 0 → m23_F_h0_1.toInt + 1 + ta.toInt ≤ sz5.toInt + m23_F_tp_2.toInt) → (zSe fB tl oA oM (sAtm (sB fB tl.toInt) tl.toInt K) (eAtm (sB fB tl.toInt) tl.toInt K) (eSum (sB fB tl.toInt) tl.toInt K ta.toInt) fS sz5 m23_A_lS m23_F_h0_1 m23_L_2.toInt m23_F_tp_2) → (zSt m23_A_lS) → (241 - m23_L_4.toInt).toNat = n → ∀ (H : Heap) (locs : List Loc) (ls : Array Slot), va_P (dC, dI) vwCl [(h0, .inr (5, [.ref lS, .int m23_F_h0_1, .ref tp])), (lS, .inl (cI, 241, .inl m23_A_lS)), (tp, .inr (9, [.ref tB, .int tl, .int m23_F_tp_2])), (tB, .inl (cI, 260, .inl fB))] H → va_D A [(h0, .inr (5, [.ref lS, .int m23_F_h0_1, .ref tp])), (lS, .inl (cI, 241, .inl m23_A_lS)), (tp, .inr (9, [.ref tB, .int tl, .int m23_F_tp_2])), (tB, .inl (cI, 260, .inl fB))] → va_S A s.heap H locs → lv_has ls 6 [(4, .int m23_L_4), (3, .int m23_L_3), (2, .int m23_L_2), (0, .ref h0), (1, .int p0)] → W p l e R s m args below meth c H locs 0 0 Q (F0 m 23 ls []) := by
      intro n23
      induction n23 using Nat.strongRecOn with
      | _ n23 ih23 =>
        intro m23_A_lS m23_F_h0_1 m23_F_tp_2 m23_L_2 m23_L_3 m23_L_4 jf23_0 jf23_1 jf23_2 jf23_3 jf23_4 jf23_5 jv23_0 jv23_1 jf23_8 jf23_9 jv23_2 jf23_11 hmu23 H locs ls hP hD hS hl
        refine lv_iload hx hb dX5_sum_23 (lv_at hl 0 rfl) ?_
        refine lv_aload_n hx hb dX5_sum_25 rfl (lv_at hl 3 rfl) ?_
        refine va_get (D := (dC, dI)) (ci := 5) (v := .ref tp) (C := RX5) (T := TX5) (N := 3) hx hb hts iX5 hown hK hP 0 rfl rfl 2 (by decide) (hts _ qw172) (fun _ h9 => h9) rfl dX5_sum_26 ?_
        refine va_get (D := (dC, dI)) (ci := 9) (v := .int tl) (C := RX9) (T := TX9) (N := 3) hx hb hts iX9 hown hK hP 2 rfl rfl 1 (by decide) (hts _ qw135) (fun _ h9 => h9) rfl dX5_sum_29 ?_
        have J129 : (sSum (sB fB tl.toInt) tl.toInt K ta.toInt = (1, m23_F_tp_2.toInt)) → (∀ (g : Nat → Int32) (s : Int32), zEm m23_A_lS m23_F_h0_1 (eW m23_L_2.toInt) g s → zEm fS sz5 (eSum (sB fB tl.toInt) tl.toInt K ta.toInt) g s) → ∀ (H : Heap) (locs : List Loc) (ls : Array Slot), va_P (dC, dI) vwCl [(h0, .inr (5, [.ref lS, .int m23_F_h0_1, .ref tp])), (lS, .inl (cI, 241, .inl m23_A_lS)), (tp, .inr (9, [.ref tB, .int tl, .int m23_F_tp_2])), (tB, .inl (cI, 260, .inl fB))] H → va_D A [(h0, .inr (5, [.ref lS, .int m23_F_h0_1, .ref tp])), (lS, .inl (cI, 241, .inl m23_A_lS)), (tp, .inr (9, [.ref tB, .int tl, .int m23_F_tp_2])), (tB, .inl (cI, 260, .inl fB))] → va_S A s.heap H locs → lv_has ls 6 [(4, .int m23_L_4), (3, .int m23_L_3), (2, .int m23_L_2), (0, .ref h0), (1, .int p0)] → W p l e R s m args below meth c H locs 0 0 Q (F0 m 129 ls []) := by
          intro  jv129_0 jv129_1 H locs ls hP hD hS hl
          refine lv_iload_n hx hb dX5_sum_129 rfl (lv_at hl 2 rfl) ?_
          refine lv_if_eq (tgt := 139) hx hb dX5_sum_130 (by decide) (fun c130 => ?_) (fun c130 => ?_)
          · have c130 : m23_L_2.toInt = 0 := z5 rfl (by decide) c130
            refine lv_iconst (v := 1) hx hb dX5_sum_139 (by decide) ?_
            have zr0 : (1 : Int32).toInt = 1 := by decide
            rw [hQ]
            exact W.zret (v := 1) (ty := .boolean) hx hb hr rfl (fun t ht hW => ⟨⟨1, (m23_F_h0_1, m23_A_lS, m23_F_tp_2), rfl, ⟨by (try dsimp only); omega, by (try dsimp only); omega, by (try dsimp only); omega, by (try dsimp only); omega, by (try dsimp only); omega, by (try dsimp only); omega, zF1 (jv129_0), (fun _ => zFm (x := sSum (sB fB tl.toInt) tl.toInt K) (sSum_mono (sB fB tl.toInt) tl.toInt K) (zF1 (jv129_0))), by (try dsimp only); omega, (fun _ => jv129_1 _ _ (eW_0 (by omega))), jf23_11⟩, ⟨by rw [ht]; exact hP, hD⟩⟩, hS.F ht⟩) hS.2.2 dX5_sum_140
          · have c130 : ¬ m23_L_2.toInt = 0 := z6 rfl (by decide) c130
            refine lv_aload_n hx hb dX5_sum_133 rfl (lv_at hl 3 rfl) ?_
            refine lv_iload_n hx hb dX5_sum_134 rfl (lv_at hl 2 rfl) ?_
            refine lv_iconst (v := 0) hx hb dX5_sum_135 (by decide) ?_
            have hPc := hP.sub (ws' := [(h0, .inr (5, [.ref lS, .int m23_F_h0_1, .ref tp])), (lS, .inl (cI, 241, .inl m23_A_lS))]) [0, 1] rfl
            have hDc := hD.sub (ws' := [(h0, .inr (5, [.ref lS, .int m23_F_h0_1, .ref tp])), (lS, .inl (cI, 241, .inl m23_A_lS))]) [0, 1] (by decide) rfl
            have hFc := va_free (wc := [(h0, .inr (5, [.ref lS, .int m23_F_h0_1, .ref tp])), (lS, .inl (cI, 241, .inl m23_A_lS))]) hD hS hA [0, 1] rfl
            refine va_callv (va_runV (As := [.int m23_L_2, .int 0]) (rest := []) ⟨hx, hb, hml, hown, hts⟩ (g_X5_put_0 l dC dI cI cJ h0 m23_L_2 lS m23_F_h0_1 tp m23_A_lS H.size (by omega) jf23_0 jf23_11) (cwV 2 hts (zgV qw496 qw498 qw5 qw101 qw499) rfl rfl rfl hd_X5_put ⟨by (try dsimp only) <;> omega, by (try dsimp only) <;> omega⟩) (zPV hPc hK hDc (va_recv hK hP (ci := 5) (q0 := 0) rfl rfl)) rfl rfl hl.1 rfl (lv_room (Nat.le_of_ble_eq_true rfl)) dX5_sum_136 ⟨Nat.zero_le _, Nat.zero_le _⟩) hS (fun q _ h => hFc q h) hFc (fun u136 t H locs ht hvm hw hB hz1 hk1 hS => ?_)
            obtain ⟨u136_0, u136_1⟩ := u136
            obtain ⟨hP1, hD1⟩ := hB
            rw [ht] at hP1
            obtain ⟨hP, hD⟩ := va_join (wr := [(tp, .inr (9, [.ref tB, .int tl, .int m23_F_tp_2])), (tB, .inl (cI, 260, .inl fB))]) (w1 := [(h0, .inr (5, [.ref lS, .int u136_0, .ref tp])), (lS, .inl (cI, 241, .inl u136_1))]) hP hD [0, 1] [2, 3] rfl rfl (by decide) (by decide) hk1 hFc hP1 hD1
            have hP : va_P (dC, dI) vwCl [(h0, .inr (5, [.ref lS, .int u136_0, .ref tp])), (lS, .inl (cI, 241, .inl u136_1)), (tp, .inr (9, [.ref tB, .int tl, .int m23_F_tp_2])), (tB, .inl (cI, 260, .inl fB))] H := hP.sub [2, 3, 0, 1] rfl
            have hD : va_D A [(h0, .inr (5, [.ref lS, .int u136_0, .ref tp])), (lS, .inl (cI, 241, .inl u136_1)), (tp, .inr (9, [.ref tB, .int tl, .int m23_F_tp_2])), (tB, .inl (cI, 260, .inl fB))] := hD.sub [2, 3, 0, 1] (by decide) rfl
            obtain ⟨f136_0, f136_1, f136_2, f136_3, f136_4⟩ : (1 ≤ u136_0.toInt) ∧ (u136_0.toInt ≤ 241) ∧ (u136_0.toInt ≤ m23_F_h0_1.toInt + 1 ∧ m23_F_h0_1.toInt ≤ u136_0.toInt) ∧ (m23_F_h0_1.toInt < 241 → zEm m23_A_lS m23_F_h0_1 [(m23_L_2.toInt, 0)] u136_1 u136_0) ∧ (zSt u136_1) := hw
            have F136 := f136_3
            refine lv_iconst (v := 1) hx hb dX5_sum_139 (by decide) ?_
            have zr0 : (1 : Int32).toInt = 1 := by decide
            rw [hQ]
            exact W.zret (v := 1) (ty := .boolean) hx hb hr rfl (fun t ht hW => ⟨⟨1, (u136_0, u136_1, m23_F_tp_2), rfl, ⟨by (try dsimp only); omega, by (try dsimp only); omega, by (try dsimp only); omega, by (try dsimp only); omega, by (try dsimp only); omega, by (try dsimp only); omega, zF1 (jv129_0), (fun _ => zFm (x := sSum (sB fB tl.toInt) tl.toInt K) (sSum_mono (sB fB tl.toInt) tl.toInt K) (zF1 (jv129_0))), by (try dsimp only); omega, (fun _ => jv129_1 _ _ (eW_1 (by omega) rfl (F136 (by omega)))), f136_4⟩, ⟨by rw [ht]; exact hP, hD⟩⟩, hS.F ht⟩) hS.2.2 dX5_sum_140
        refine lv_icmp_ge (tgt := 129) hx hb dX5_sum_32 (by decide) (fun c32 => ?_) (fun c32 => ?_)
        · have c32 : tl.toInt ≤ m23_L_4.toInt := z3 rfl rfl c32
          exact J129  (by first | exact fl_n jv23_0 jv23_1 (zIs_f F36 (by omega)) | exact fl_e jv23_0 (by omega)) (by first | exact fun g s hb => fse_e jv23_2 (Or.inr ⟨jv23_1, zIs_f F36 (by omega)⟩) hb (by omega) | exact fun g s hb => fse_e (t := m23_L_3) jv23_2 (Or.inl (by omega)) hb (by omega)) H locs ls hP hD hS (lv_sub hl [0, 1, 2, 3, 4] rfl)
        · have c32 : m23_L_4.toInt < tl.toInt := z4 rfl rfl c32
          refine lv_iload_n hx hb dX5_sum_35 rfl (lv_at hl 1 rfl) ?_
          have hPc : va_P (dC, dI) vwCl [] H := zP0
          have hDc : va_D (fun _ => True) [] := zD0
          have hFc := zfr hS hA
          refine va_calli (va_runS (As := [.int m23_L_3]) (rest := []) ⟨hx, hb, hml, hown, hts⟩ (g_X5_isArithmetic l dC dI cI cJ m23_L_3 H.size) (cwS 1 hts (zgS qw501 qw502 qw101 qw503) rfl rfl rfl hd_X5_isArithmetic ⟨by (try dsimp only) <;> omega, by (try dsimp only) <;> omega⟩) (zPS hPc hK hDc) rfl rfl hl.1 rfl (lv_room (Nat.le_of_ble_eq_true rfl)) dX5_sum_36 ⟨Nat.zero_le _, Nat.zero_le _⟩) hS (fun q _ h => hFc q h) hFc (fun v36 u36 t H locs ht hvm hw hB hz1 hk1 hS => ?_)
          have hP := zkeep hP hk1
          obtain ⟨f36_0, f36_1, f36_2, f36_3⟩ : (0 ≤ v36.toInt) ∧ (v36.toInt ≤ 1) ∧ (¬ v36.toInt = 0 → (42 ≤ m23_L_3.toInt ∧ m23_L_3.toInt ≤ 47)) ∧ (zIs (oA m23_L_3.toInt) v36) := hw
          have F36 := f36_3
          refine lv_if_eq (tgt := 129) hx hb dX5_sum_39 (by decide) (fun c39 => ?_) (fun c39 => ?_)
          · have c39 : v36.toInt = 0 := z5 rfl (by decide) c39
            exact J129  (by first | exact fl_n jv23_0 jv23_1 (zIs_f F36 (by omega)) | exact fl_e jv23_0 (by omega)) (by first | exact fun g s hb => fse_e jv23_2 (Or.inr ⟨jv23_1, zIs_f F36 (by omega)⟩) hb (by omega) | exact fun g s hb => fse_e (t := m23_L_3) jv23_2 (Or.inl (by omega)) hb (by omega)) H locs ls hP hD hS (lv_sub hl [0, 1, 2, 3, 4] rfl)
          · have c39 : ¬ v36.toInt = 0 := z6 rfl (by decide) c39
            refine lv_iload_n hx hb dX5_sum_42 rfl (lv_at hl 1 rfl) ?_
            refine lv_bipush (v := 42) hx hb dX5_sum_43 (by decide) ?_
            refine lv_icmp_eq (tgt := 54) hx hb dX5_sum_45 (by decide) (fun c45 => ?_) (fun c45 => ?_)
            · have c45 : m23_L_3.toInt = 42 := z5 rfl (by decide) c45
              refine lv_iconst (v := 1) hx hb dX5_sum_54 (by decide) ?_
              refine lv_goto (tgt := 59) hx hb dX5_sum_55 (by decide) ?_
              refine lv_istore (lv' := [(5, .int 1), (4, .int m23_L_4), (3, .int m23_L_3), (2, .int m23_L_2), (0, .ref h0), (1, .int p0)]) hx hb dX5_sum_59 hl (by decide) rfl (fun ls hl => ?_)
              refine lv_iload hx hb dX5_sum_61 (lv_at hl 0 rfl) ?_
              refine lv_if_ne (tgt := 76) hx hb dX5_sum_63 (by decide) (fun _ => ?_) (fun c => absurd c (by decide))
              refine lv_aload_n hx hb dX5_sum_76 rfl (lv_at hl 4 rfl) ?_
              refine va_get (D := (dC, dI)) (ci := 5) (v := .ref tp) (C := RX5) (T := TX5) (N := 3) hx hb hts iX5 hown hK hP 0 rfl rfl 2 (by decide) (hts _ qw172) (fun _ h9 => h9) rfl dX5_sum_77 ?_
              refine lv_dup hx hb dX5_sum_80 rfl ?_
              refine va_get (D := (dC, dI)) (ci := 9) (v := .int m23_F_tp_2) (C := RX9) (T := TX9) (N := 3) hx hb hts iX9 hown hK hP 2 rfl rfl 2 (by decide) (hts _ qw137) (fun _ h9 => h9) rfl dX5_sum_81 ?_
              refine lv_iconst (v := 1) hx hb dX5_sum_84 (by decide) ?_
              refine lv_iadd hx hb dX5_sum_85 ?_
              refine lv_topi (fun v85 e85 => ?_)
              have i85 : v85.toInt = m23_F_tp_2.toInt + 1 := zadd e85 rfl (by decide) (by omega) (by omega)
              refine va_put (D := (dC, dI)) (ci := 9) (v := .int v85) (ty := .int) (C := RX9) (T := TX9) (N := 3) hx hb hts iX9 tyX9 tyX9_ok nmX9 hown hK hP hD hS 2 rfl rfl 2 (by decide) (hts _ qw137) (fun _ h9 => h9) rfl (by decide +kernel) rfl rfl (Nat.le_of_ble_eq_true rfl) dX5_sum_86 (fun H locs hP hD hS => ?_)
              have hP : va_P (dC, dI) vwCl [(h0, .inr (5, [.ref lS, .int m23_F_h0_1, .ref tp])), (lS, .inl (cI, 241, .inl m23_A_lS)), (tp, .inr (9, [.ref tB, .int tl, .int v85])), (tB, .inl (cI, 260, .inl fB))] H := hP
              have hD : va_D A [(h0, .inr (5, [.ref lS, .int m23_F_h0_1, .ref tp])), (lS, .inl (cI, 241, .inl m23_A_lS)), (tp, .inr (9, [.ref tB, .int tl, .int v85])), (tB, .inl (cI, 260, .inl fB))] := hD
              refine lv_aload_n hx hb dX5_sum_89 rfl (lv_at hl 4 rfl) ?_
              refine lv_iload_n hx hb dX5_sum_90 rfl (lv_at hl 5 rfl) ?_
              have hPc := hP.sub (ws' := [(h0, .inr (5, [.ref lS, .int m23_F_h0_1, .ref tp])), (lS, .inl (cI, 241, .inl m23_A_lS)), (tp, .inr (9, [.ref tB, .int tl, .int v85])), (tB, .inl (cI, 260, .inl fB))]) [0, 1, 2, 3] rfl
              have hDc := hD.sub (ws' := [(h0, .inr (5, [.ref lS, .int m23_F_h0_1, .ref tp])), (lS, .inl (cI, 241, .inl m23_A_lS)), (tp, .inr (9, [.ref tB, .int tl, .int v85])), (tB, .inl (cI, 260, .inl fB))]) [0, 1, 2, 3] (by decide) rfl
              have hFc := va_free (wc := [(h0, .inr (5, [.ref lS, .int m23_F_h0_1, .ref tp])), (lS, .inl (cI, 241, .inl m23_A_lS)), (tp, .inr (9, [.ref tB, .int tl, .int v85])), (tB, .inl (cI, 260, .inl fB))]) hD hS hA [0, 1, 2, 3] rfl
              refine va_calli (va_runV (As := [.int p0]) (rest := []) ⟨hx, hb, hml, hown, hts⟩ (ihA dC dI cI cJ h0 p0 lS m23_F_h0_1 tp m23_A_lS tB tl v85 fB H.size n_p0 jf23_0 (by omega) n_tl (hty) (by omega) (by omega) jf23_11) (cwV 1 hts (zgV qw490 qw492 qw4 qw101 qw493) rfl rfl rfl hd_X5_atom ⟨by (try dsimp only) <;> omega, by (try dsimp only) <;> omega⟩) (zPWV hPc hK hDc (va_recv hK hP (ci := 5) (q0 := 0) rfl rfl) (zV_call hV hS hFc)) rfl rfl hl.1 rfl (lv_room (Nat.le_of_ble_eq_true rfl)) dX5_sum_91 ⟨Nat.zero_le _, Nat.zero_le _⟩) hS (fun q _ h => hFc q h) hFc (fun v91 u91 t H locs ht hvm hw hB hz1 hk1 hS => ?_)
              obtain ⟨u91_0, u91_1, u91_2⟩ := u91
              obtain ⟨hP1, hD1⟩ := hB
              rw [ht] at hP1
              obtain ⟨hP, hD⟩ := va_join (wr := []) (w1 := [(h0, .inr (5, [.ref lS, .int u91_0, .ref tp])), (lS, .inl (cI, 241, .inl u91_1)), (tp, .inr (9, [.ref tB, .int tl, .int u91_2])), (tB, .inl (cI, 260, .inl fB))]) hP hD [0, 1, 2, 3] [] rfl rfl (by decide) (by decide) hk1 hFc hP1 hD1
              have hP : va_P (dC, dI) vwCl [(h0, .inr (5, [.ref lS, .int u91_0, .ref tp])), (lS, .inl (cI, 241, .inl u91_1)), (tp, .inr (9, [.ref tB, .int tl, .int u91_2])), (tB, .inl (cI, 260, .inl fB))] H := hP.sub [0, 1, 2, 3] rfl
              have hD : va_D A [(h0, .inr (5, [.ref lS, .int u91_0, .ref tp])), (lS, .inl (cI, 241, .inl u91_1)), (tp, .inr (9, [.ref tB, .int tl, .int u91_2])), (tB, .inl (cI, 260, .inl fB))] := hD.sub [0, 1, 2, 3] (by decide) rfl
              obtain ⟨f91_0, f91_1, f91_2, f91_3, f91_4, f91_5, f91_6, f91_7, f91_8, f91_9, f91_10⟩ : (0 ≤ v91.toInt) ∧ (v91.toInt ≤ 1) ∧ (0 ≤ u91_0.toInt) ∧ (u91_0.toInt ≤ 241) ∧ (0 ≤ u91_2.toInt) ∧ (u91_2.toInt ≤ 240) ∧ (zF (sAtm (sB fB tl.toInt) tl.toInt K v85.toInt) v91 u91_2) ∧ (¬ v91.toInt = 0 → v85.toInt < u91_2.toInt) ∧ (¬ v91.toInt = 0 → u91_0.toInt + v85.toInt ≤ m23_F_h0_1.toInt + u91_2.toInt) ∧ (¬ v91.toInt = 0 → zEm m23_A_lS m23_F_h0_1 (eAtm (sB fB tl.toInt) tl.toInt K v85.toInt) u91_1 u91_0) ∧ (zSt u91_1) := hw
              have F91 := f91_6
              have F91_1 := f91_9
              refine lv_if_ne (tgt := 99) hx hb dX5_sum_94 (by decide) (fun c94 => ?_) (fun c94 => ?_)
              · have c94 : ¬ v91.toInt = 0 := z6 rfl (by decide) c94
                refine lv_iload hx hb dX5_sum_99 (lv_at hl 0 rfl) ?_
                refine lv_if_eq (tgt := 113) hx hb dX5_sum_101 (by decide) (fun c => absurd c (by decide)) (fun _ => ?_)
                refine lv_aload_n hx hb dX5_sum_104 rfl (lv_at hl 4 rfl) ?_
                refine lv_iload_n hx hb dX5_sum_105 rfl (lv_at hl 2 rfl) ?_
                refine lv_iconst (v := 0) hx hb dX5_sum_106 (by decide) ?_
                have hPc := hP.sub (ws' := [(h0, .inr (5, [.ref lS, .int u91_0, .ref tp])), (lS, .inl (cI, 241, .inl u91_1))]) [0, 1] rfl
                have hDc := hD.sub (ws' := [(h0, .inr (5, [.ref lS, .int u91_0, .ref tp])), (lS, .inl (cI, 241, .inl u91_1))]) [0, 1] (by decide) rfl
                have hFc := va_free (wc := [(h0, .inr (5, [.ref lS, .int u91_0, .ref tp])), (lS, .inl (cI, 241, .inl u91_1))]) hD hS hA [0, 1] rfl
                refine va_callv (va_runV (As := [.int m23_L_3, .int 0]) (rest := []) ⟨hx, hb, hml, hown, hts⟩ (g_X5_put_0 l dC dI cI cJ h0 m23_L_3 lS u91_0 tp u91_1 H.size (by omega) ⟨f91_2, f91_3⟩ f91_10) (cwV 2 hts (zgV qw496 qw498 qw5 qw101 qw499) rfl rfl rfl hd_X5_put ⟨by (try dsimp only) <;> omega, by (try dsimp only) <;> omega⟩) (zPV hPc hK hDc (va_recv hK hP (ci := 5) (q0 := 0) rfl rfl)) rfl rfl hl.1 rfl (lv_room (Nat.le_of_ble_eq_true rfl)) dX5_sum_107 ⟨Nat.zero_le _, Nat.zero_le _⟩) hS (fun q _ h => hFc q h) hFc (fun u107 t H locs ht hvm hw hB hz1 hk1 hS => ?_)
                obtain ⟨u107_0, u107_1⟩ := u107
                obtain ⟨hP1, hD1⟩ := hB
                rw [ht] at hP1
                obtain ⟨hP, hD⟩ := va_join (wr := [(tp, .inr (9, [.ref tB, .int tl, .int u91_2])), (tB, .inl (cI, 260, .inl fB))]) (w1 := [(h0, .inr (5, [.ref lS, .int u107_0, .ref tp])), (lS, .inl (cI, 241, .inl u107_1))]) hP hD [0, 1] [2, 3] rfl rfl (by decide) (by decide) hk1 hFc hP1 hD1
                have hP : va_P (dC, dI) vwCl [(h0, .inr (5, [.ref lS, .int u107_0, .ref tp])), (lS, .inl (cI, 241, .inl u107_1)), (tp, .inr (9, [.ref tB, .int tl, .int u91_2])), (tB, .inl (cI, 260, .inl fB))] H := hP.sub [2, 3, 0, 1] rfl
                have hD : va_D A [(h0, .inr (5, [.ref lS, .int u107_0, .ref tp])), (lS, .inl (cI, 241, .inl u107_1)), (tp, .inr (9, [.ref tB, .int tl, .int u91_2])), (tB, .inl (cI, 260, .inl fB))] := hD.sub [2, 3, 0, 1] (by decide) rfl
                obtain ⟨f107_0, f107_1, f107_2, f107_3, f107_4⟩ : (1 ≤ u107_0.toInt) ∧ (u107_0.toInt ≤ 241) ∧ (u107_0.toInt ≤ u91_0.toInt + 1 ∧ u91_0.toInt ≤ u107_0.toInt) ∧ (u91_0.toInt < 241 → zEm u91_1 u91_0 [(m23_L_3.toInt, 0)] u107_1 u107_0) ∧ (zSt u107_1) := hw
                have F107 := f107_3
                refine lv_goto (tgt := 115) hx hb dX5_sum_110 (by decide) ?_
                refine lv_aload_n hx hb dX5_sum_115 rfl (lv_at hl 4 rfl) ?_
                refine va_get (D := (dC, dI)) (ci := 5) (v := .ref tp) (C := RX5) (T := TX5) (N := 3) hx hb hts iX5 hown hK hP 0 rfl rfl 2 (by decide) (hts _ qw172) (fun _ h9 => h9) rfl dX5_sum_116 ?_
                have hPc := hP.sub (ws' := [(tp, .inr (9, [.ref tB, .int tl, .int u91_2])), (tB, .inl (cI, 260, .inl fB))]) [2, 3] rfl
                have hDc := hD.sub (ws' := [(tp, .inr (9, [.ref tB, .int tl, .int u91_2])), (tB, .inl (cI, 260, .inl fB))]) [2, 3] (by decide) rfl
                have hFc := va_free (wc := [(tp, .inr (9, [.ref tB, .int tl, .int u91_2])), (tB, .inl (cI, 260, .inl fB))]) hD hS hA [2, 3] rfl
                refine va_calli (va_runV (As := []) (rest := []) ⟨hx, hb, hml, hown, hts⟩ (g_X9_peek l dC dI cI cJ tp tB tl u91_2 fB H.size ⟨f91_4, f91_5⟩ n_tl (hty)) (cwV 0 hts (zgV qw485 qw438 qw439 qw99 qw440) rfl rfl rfl hd_X9_peek ⟨by (try dsimp only) <;> omega, by (try dsimp only) <;> omega⟩) (zPV hPc hK hDc (va_recv hK hP (ci := 9) (q0 := 2) rfl rfl)) rfl rfl hl.1 rfl (lv_room (Nat.le_of_ble_eq_true rfl)) dX5_sum_119 ⟨Nat.zero_le _, Nat.zero_le _⟩) hS (fun q _ h => hFc q h) hFc (fun v119 u119 t H locs ht hvm hw hB hz1 hk1 hS => ?_)
                obtain ⟨u119_0, rfl⟩ : ∃ z, z = u119 := ⟨_, rfl⟩
                obtain ⟨hP1, hD1⟩ := hB
                rw [ht] at hP1
                obtain ⟨hP, hD⟩ := va_join (wr := [(h0, .inr (5, [.ref lS, .int u107_0, .ref tp])), (lS, .inl (cI, 241, .inl u107_1))]) (w1 := [(tp, .inr (9, [.ref tB, .int tl, .int u119_0])), (tB, .inl (cI, 260, .inl fB))]) hP hD [2, 3] [0, 1] rfl rfl (by decide) (by decide) hk1 hFc hP1 hD1
                have hP : va_P (dC, dI) vwCl [(h0, .inr (5, [.ref lS, .int u107_0, .ref tp])), (lS, .inl (cI, 241, .inl u107_1)), (tp, .inr (9, [.ref tB, .int tl, .int u119_0])), (tB, .inl (cI, 260, .inl fB))] H := hP.sub [0, 1, 2, 3] rfl
                have hD : va_D A [(h0, .inr (5, [.ref lS, .int u107_0, .ref tp])), (lS, .inl (cI, 241, .inl u107_1)), (tp, .inr (9, [.ref tB, .int tl, .int u119_0])), (tB, .inl (cI, 260, .inl fB))] := hD.sub [0, 1, 2, 3] (by decide) rfl
                obtain ⟨f119_0, f119_1, f119_2, f119_3, f119_4⟩ : (0 ≤ u119_0.toInt) ∧ (u119_0.toInt ≤ 240) ∧ (¬ v119.toInt = 0 → u119_0.toInt < tl.toInt) ∧ (u91_2.toInt ≤ u119_0.toInt) ∧ (zPK fB tl u91_2 v119 u119_0) := hw
                have F119 := f119_4
                refine lv_istore_n (lv' := [(3, .int v119), (5, .int 1), (4, .int m23_L_4), (2, .int m23_L_2), (0, .ref h0), (1, .int p0)]) hx hb dX5_sum_122 rfl hl (by decide) rfl (fun ls hl => ?_)
                obtain ⟨v123, e123⟩ : ∃ y : Int32, y = m23_L_4 + Int32.ofInt (1) := ⟨_, rfl⟩
                refine lv_iinc (v := v123) (lv' := [(4, .int v123), (3, .int v119), (5, .int 1), (2, .int m23_L_2), (0, .ref h0), (1, .int p0)]) hx hb dX5_sum_123 hl (k := 2) rfl e123.symm (by decide) rfl (fun ls hl => ?_)
                have i123 : v123.toInt = m23_L_4.toInt + 1 := zaddI e123 (by decide) (by omega) (by omega)
                refine lv_goto (tgt := 23) hx hb dX5_sum_126 (by decide) ?_
                exact ih23 _ (by omega) u107_1 u107_0 u119_0 m23_L_2 v119 v123 (by omega) ⟨f119_0, f119_1⟩ jf23_2 (by omega) (by omega) (by omega) (fl_s jv23_0 jv23_1 (zIs_t F36 (by omega)) (by decide) i85 F91 (by omega) (by omega) F119) (F119.2) (by omega) (by omega) (by first | exact fse_y jv23_2 jv23_1 (zIs_t F36 (by omega)) (by decide) i85 F91 (by omega) (by omega) F119 (oM_iff.mpr (by omega)) (F91_1 (by omega)) (F107 (by omega)) rfl (by omega) (by omega) | exact fse_n jv23_2 jv23_1 (zIs_t F36 (by omega)) (by decide) i85 F91 (by omega) (by omega) F119 (fun z => by have := oM_iff.mp z; omega) (eW_0 (by omega)) (F91_1 (by omega)) rfl (by omega) (by omega) | exact fse_n jv23_2 jv23_1 (zIs_t F36 (by omega)) (by decide) i85 F91 (by omega) (by omega) F119 (fun z => by have := oM_iff.mp z; omega) (eW_1 (by omega) rfl (F73 (by omega))) (F91_1 (by omega)) rfl (by omega) (by omega)) f107_4 rfl H locs ls hP hD hS (lv_sub hl [0, 1, 3, 4, 5] rfl)
              · have c94 : v91.toInt = 0 := z5 rfl (by decide) c94
                refine lv_iconst (v := 0) hx hb dX5_sum_97 (by decide) ?_
                have zr0 : (0 : Int32).toInt = 0 := by decide
                rw [hQ]
                exact W.zret (v := 0) (ty := .boolean) hx hb hr rfl (fun t ht hW => ⟨⟨0, (u91_0, u91_1, u91_2), rfl, ⟨by (try dsimp only); omega, by (try dsimp only); omega, by (try dsimp only); omega, by (try dsimp only); omega, by (try dsimp only); omega, by (try dsimp only); omega, zF0 (fl_x jv23_0 jv23_1 (zIs_t F36 (by omega)) (by decide) i85 F91 (by omega)), (fun z => absurd (by decide) z), by (try dsimp only); omega, (fun z => absurd (by decide) z), f91_10⟩, ⟨by rw [ht]; exact hP, hD⟩⟩, hS.F ht⟩) hS.2.2 dX5_sum_98
            · have c45 : ¬ m23_L_3.toInt = 42 := z6 rfl (by decide) c45
              refine lv_iload_n hx hb dX5_sum_48 rfl (lv_at hl 1 rfl) ?_
              refine lv_bipush (v := 47) hx hb dX5_sum_49 (by decide) ?_
              refine lv_icmp_ne (tgt := 58) hx hb dX5_sum_51 (by decide) (fun c51 => ?_) (fun c51 => ?_)
              · have c51 : ¬ m23_L_3.toInt = 47 := z6 rfl (by decide) c51
                refine lv_iconst (v := 0) hx hb dX5_sum_58 (by decide) ?_
                refine lv_istore (lv' := [(5, .int 0), (4, .int m23_L_4), (3, .int m23_L_3), (2, .int m23_L_2), (0, .ref h0), (1, .int p0)]) hx hb dX5_sum_59 hl (by decide) rfl (fun ls hl => ?_)
                refine lv_iload hx hb dX5_sum_61 (lv_at hl 0 rfl) ?_
                refine lv_if_ne (tgt := 76) hx hb dX5_sum_63 (by decide) (fun c => absurd (by decide) c) (fun _ => ?_)
                refine lv_iload_n hx hb dX5_sum_66 rfl (lv_at hl 3 rfl) ?_
                refine lv_if_eq (tgt := 76) hx hb dX5_sum_67 (by decide) (fun c67 => ?_) (fun c67 => ?_)
                · have c67 : m23_L_2.toInt = 0 := z5 rfl (by decide) c67
                  refine lv_aload_n hx hb dX5_sum_76 rfl (lv_at hl 4 rfl) ?_
                  refine va_get (D := (dC, dI)) (ci := 5) (v := .ref tp) (C := RX5) (T := TX5) (N := 3) hx hb hts iX5 hown hK hP 0 rfl rfl 2 (by decide) (hts _ qw172) (fun _ h9 => h9) rfl dX5_sum_77 ?_
                  refine lv_dup hx hb dX5_sum_80 rfl ?_
                  refine va_get (D := (dC, dI)) (ci := 9) (v := .int m23_F_tp_2) (C := RX9) (T := TX9) (N := 3) hx hb hts iX9 hown hK hP 2 rfl rfl 2 (by decide) (hts _ qw137) (fun _ h9 => h9) rfl dX5_sum_81 ?_
                  refine lv_iconst (v := 1) hx hb dX5_sum_84 (by decide) ?_
                  refine lv_iadd hx hb dX5_sum_85 ?_
                  refine lv_topi (fun v85 e85 => ?_)
                  have i85 : v85.toInt = m23_F_tp_2.toInt + 1 := zadd e85 rfl (by decide) (by omega) (by omega)
                  refine va_put (D := (dC, dI)) (ci := 9) (v := .int v85) (ty := .int) (C := RX9) (T := TX9) (N := 3) hx hb hts iX9 tyX9 tyX9_ok nmX9 hown hK hP hD hS 2 rfl rfl 2 (by decide) (hts _ qw137) (fun _ h9 => h9) rfl (by decide +kernel) rfl rfl (Nat.le_of_ble_eq_true rfl) dX5_sum_86 (fun H locs hP hD hS => ?_)
                  have hP : va_P (dC, dI) vwCl [(h0, .inr (5, [.ref lS, .int m23_F_h0_1, .ref tp])), (lS, .inl (cI, 241, .inl m23_A_lS)), (tp, .inr (9, [.ref tB, .int tl, .int v85])), (tB, .inl (cI, 260, .inl fB))] H := hP
                  have hD : va_D A [(h0, .inr (5, [.ref lS, .int m23_F_h0_1, .ref tp])), (lS, .inl (cI, 241, .inl m23_A_lS)), (tp, .inr (9, [.ref tB, .int tl, .int v85])), (tB, .inl (cI, 260, .inl fB))] := hD
                  refine lv_aload_n hx hb dX5_sum_89 rfl (lv_at hl 4 rfl) ?_
                  refine lv_iload_n hx hb dX5_sum_90 rfl (lv_at hl 5 rfl) ?_
                  have hPc := hP.sub (ws' := [(h0, .inr (5, [.ref lS, .int m23_F_h0_1, .ref tp])), (lS, .inl (cI, 241, .inl m23_A_lS)), (tp, .inr (9, [.ref tB, .int tl, .int v85])), (tB, .inl (cI, 260, .inl fB))]) [0, 1, 2, 3] rfl
                  have hDc := hD.sub (ws' := [(h0, .inr (5, [.ref lS, .int m23_F_h0_1, .ref tp])), (lS, .inl (cI, 241, .inl m23_A_lS)), (tp, .inr (9, [.ref tB, .int tl, .int v85])), (tB, .inl (cI, 260, .inl fB))]) [0, 1, 2, 3] (by decide) rfl
                  have hFc := va_free (wc := [(h0, .inr (5, [.ref lS, .int m23_F_h0_1, .ref tp])), (lS, .inl (cI, 241, .inl m23_A_lS)), (tp, .inr (9, [.ref tB, .int tl, .int v85])), (tB, .inl (cI, 260, .inl fB))]) hD hS hA [0, 1, 2, 3] rfl
                  refine va_calli (va_runV (As := [.int p0]) (rest := []) ⟨hx, hb, hml, hown, hts⟩ (ihA dC dI cI cJ h0 p0 lS m23_F_h0_1 tp m23_A_lS tB tl v85 fB H.size n_p0 jf23_0 (by omega) n_tl (hty) (by omega) (by omega) jf23_11) (cwV 1 hts (zgV qw490 qw492 qw4 qw101 qw493) rfl rfl rfl hd_X5_atom ⟨by (try dsimp only) <;> omega, by (try dsimp only) <;> omega⟩) (zPWV hPc hK hDc (va_recv hK hP (ci := 5) (q0 := 0) rfl rfl) (zV_call hV hS hFc)) rfl rfl hl.1 rfl (lv_room (Nat.le_of_ble_eq_true rfl)) dX5_sum_91 ⟨Nat.zero_le _, Nat.zero_le _⟩) hS (fun q _ h => hFc q h) hFc (fun v91 u91 t H locs ht hvm hw hB hz1 hk1 hS => ?_)
                  obtain ⟨u91_0, u91_1, u91_2⟩ := u91
                  obtain ⟨hP1, hD1⟩ := hB
                  rw [ht] at hP1
                  obtain ⟨hP, hD⟩ := va_join (wr := []) (w1 := [(h0, .inr (5, [.ref lS, .int u91_0, .ref tp])), (lS, .inl (cI, 241, .inl u91_1)), (tp, .inr (9, [.ref tB, .int tl, .int u91_2])), (tB, .inl (cI, 260, .inl fB))]) hP hD [0, 1, 2, 3] [] rfl rfl (by decide) (by decide) hk1 hFc hP1 hD1
                  have hP : va_P (dC, dI) vwCl [(h0, .inr (5, [.ref lS, .int u91_0, .ref tp])), (lS, .inl (cI, 241, .inl u91_1)), (tp, .inr (9, [.ref tB, .int tl, .int u91_2])), (tB, .inl (cI, 260, .inl fB))] H := hP.sub [0, 1, 2, 3] rfl
                  have hD : va_D A [(h0, .inr (5, [.ref lS, .int u91_0, .ref tp])), (lS, .inl (cI, 241, .inl u91_1)), (tp, .inr (9, [.ref tB, .int tl, .int u91_2])), (tB, .inl (cI, 260, .inl fB))] := hD.sub [0, 1, 2, 3] (by decide) rfl
                  obtain ⟨f91_0, f91_1, f91_2, f91_3, f91_4, f91_5, f91_6, f91_7, f91_8, f91_9, f91_10⟩ : (0 ≤ v91.toInt) ∧ (v91.toInt ≤ 1) ∧ (0 ≤ u91_0.toInt) ∧ (u91_0.toInt ≤ 241) ∧ (0 ≤ u91_2.toInt) ∧ (u91_2.toInt ≤ 240) ∧ (zF (sAtm (sB fB tl.toInt) tl.toInt K v85.toInt) v91 u91_2) ∧ (¬ v91.toInt = 0 → v85.toInt < u91_2.toInt) ∧ (¬ v91.toInt = 0 → u91_0.toInt + v85.toInt ≤ m23_F_h0_1.toInt + u91_2.toInt) ∧ (¬ v91.toInt = 0 → zEm m23_A_lS m23_F_h0_1 (eAtm (sB fB tl.toInt) tl.toInt K v85.toInt) u91_1 u91_0) ∧ (zSt u91_1) := hw
                  have F91 := f91_6
                  have F91_1 := f91_9
                  refine lv_if_ne (tgt := 99) hx hb dX5_sum_94 (by decide) (fun c94 => ?_) (fun c94 => ?_)
                  · have c94 : ¬ v91.toInt = 0 := z6 rfl (by decide) c94
                    refine lv_iload hx hb dX5_sum_99 (lv_at hl 0 rfl) ?_
                    refine lv_if_eq (tgt := 113) hx hb dX5_sum_101 (by decide) (fun _ => ?_) (fun c => absurd (by decide) c)
                    refine lv_iload_n hx hb dX5_sum_113 rfl (lv_at hl 2 rfl) ?_
                    refine lv_istore_n (lv' := [(2, .int m23_L_3), (5, .int 0), (4, .int m23_L_4), (3, .int m23_L_3), (0, .ref h0), (1, .int p0)]) hx hb dX5_sum_114 rfl hl (by decide) rfl (fun ls hl => ?_)
                    refine lv_aload_n hx hb dX5_sum_115 rfl (lv_at hl 4 rfl) ?_
                    refine va_get (D := (dC, dI)) (ci := 5) (v := .ref tp) (C := RX5) (T := TX5) (N := 3) hx hb hts iX5 hown hK hP 0 rfl rfl 2 (by decide) (hts _ qw172) (fun _ h9 => h9) rfl dX5_sum_116 ?_
                    have hPc := hP.sub (ws' := [(tp, .inr (9, [.ref tB, .int tl, .int u91_2])), (tB, .inl (cI, 260, .inl fB))]) [2, 3] rfl
                    have hDc := hD.sub (ws' := [(tp, .inr (9, [.ref tB, .int tl, .int u91_2])), (tB, .inl (cI, 260, .inl fB))]) [2, 3] (by decide) rfl
                    have hFc := va_free (wc := [(tp, .inr (9, [.ref tB, .int tl, .int u91_2])), (tB, .inl (cI, 260, .inl fB))]) hD hS hA [2, 3] rfl
                    refine va_calli (va_runV (As := []) (rest := []) ⟨hx, hb, hml, hown, hts⟩ (g_X9_peek l dC dI cI cJ tp tB tl u91_2 fB H.size ⟨f91_4, f91_5⟩ n_tl (hty)) (cwV 0 hts (zgV qw485 qw438 qw439 qw99 qw440) rfl rfl rfl hd_X9_peek ⟨by (try dsimp only) <;> omega, by (try dsimp only) <;> omega⟩) (zPV hPc hK hDc (va_recv hK hP (ci := 9) (q0 := 2) rfl rfl)) rfl rfl hl.1 rfl (lv_room (Nat.le_of_ble_eq_true rfl)) dX5_sum_119 ⟨Nat.zero_le _, Nat.zero_le _⟩) hS (fun q _ h => hFc q h) hFc (fun v119 u119 t H locs ht hvm hw hB hz1 hk1 hS => ?_)
                    obtain ⟨u119_0, rfl⟩ : ∃ z, z = u119 := ⟨_, rfl⟩
                    obtain ⟨hP1, hD1⟩ := hB
                    rw [ht] at hP1
                    obtain ⟨hP, hD⟩ := va_join (wr := [(h0, .inr (5, [.ref lS, .int u91_0, .ref tp])), (lS, .inl (cI, 241, .inl u91_1))]) (w1 := [(tp, .inr (9, [.ref tB, .int tl, .int u119_0])), (tB, .inl (cI, 260, .inl fB))]) hP hD [2, 3] [0, 1] rfl rfl (by decide) (by decide) hk1 hFc hP1 hD1
                    have hP : va_P (dC, dI) vwCl [(h0, .inr (5, [.ref lS, .int u91_0, .ref tp])), (lS, .inl (cI, 241, .inl u91_1)), (tp, .inr (9, [.ref tB, .int tl, .int u119_0])), (tB, .inl (cI, 260, .inl fB))] H := hP.sub [0, 1, 2, 3] rfl
                    have hD : va_D A [(h0, .inr (5, [.ref lS, .int u91_0, .ref tp])), (lS, .inl (cI, 241, .inl u91_1)), (tp, .inr (9, [.ref tB, .int tl, .int u119_0])), (tB, .inl (cI, 260, .inl fB))] := hD.sub [0, 1, 2, 3] (by decide) rfl
                    obtain ⟨f119_0, f119_1, f119_2, f119_3, f119_4⟩ : (0 ≤ u119_0.toInt) ∧ (u119_0.toInt ≤ 240) ∧ (¬ v119.toInt = 0 → u119_0.toInt < tl.toInt) ∧ (u91_2.toInt ≤ u119_0.toInt) ∧ (zPK fB tl u91_2 v119 u119_0) := hw
                    have F119 := f119_4
                    refine lv_istore_n (lv' := [(3, .int v119), (2, .int m23_L_3), (5, .int 0), (4, .int m23_L_4), (0, .ref h0), (1, .int p0)]) hx hb dX5_sum_122 rfl hl (by decide) rfl (fun ls hl => ?_)
                    obtain ⟨v123, e123⟩ : ∃ y : Int32, y = m23_L_4 + Int32.ofInt (1) := ⟨_, rfl⟩
                    refine lv_iinc (v := v123) (lv' := [(4, .int v123), (3, .int v119), (2, .int m23_L_3), (5, .int 0), (0, .ref h0), (1, .int p0)]) hx hb dX5_sum_123 hl (k := 3) rfl e123.symm (by decide) rfl (fun ls hl => ?_)
                    have i123 : v123.toInt = m23_L_4.toInt + 1 := zaddI e123 (by decide) (by omega) (by omega)
                    refine lv_goto (tgt := 23) hx hb dX5_sum_126 (by decide) ?_
                    exact ih23 _ (by omega) u91_1 u91_0 u119_0 m23_L_3 v119 v123 ⟨f91_2, f91_3⟩ ⟨f119_0, f119_1⟩ (by omega) (by omega) (by omega) (by omega) (fl_s jv23_0 jv23_1 (zIs_t F36 (by omega)) (by decide) i85 F91 (by omega) (by omega) F119) (F119.2) (by omega) (by omega) (by first | exact fse_y jv23_2 jv23_1 (zIs_t F36 (by omega)) (by decide) i85 F91 (by omega) (by omega) F119 (oM_iff.mpr (by omega)) (F91_1 (by omega)) (F107 (by omega)) rfl (by omega) (by omega) | exact fse_n jv23_2 jv23_1 (zIs_t F36 (by omega)) (by decide) i85 F91 (by omega) (by omega) F119 (fun z => by have := oM_iff.mp z; omega) (eW_0 (by omega)) (F91_1 (by omega)) rfl (by omega) (by omega) | exact fse_n jv23_2 jv23_1 (zIs_t F36 (by omega)) (by decide) i85 F91 (by omega) (by omega) F119 (fun z => by have := oM_iff.mp z; omega) (eW_1 (by omega) rfl (F73 (by omega))) (F91_1 (by omega)) rfl (by omega) (by omega)) f91_10 rfl H locs ls hP hD hS (lv_sub hl [0, 1, 2, 4, 5] rfl)
                  · have c94 : v91.toInt = 0 := z5 rfl (by decide) c94
                    refine lv_iconst (v := 0) hx hb dX5_sum_97 (by decide) ?_
                    have zr0 : (0 : Int32).toInt = 0 := by decide
                    rw [hQ]
                    exact W.zret (v := 0) (ty := .boolean) hx hb hr rfl (fun t ht hW => ⟨⟨0, (u91_0, u91_1, u91_2), rfl, ⟨by (try dsimp only); omega, by (try dsimp only); omega, by (try dsimp only); omega, by (try dsimp only); omega, by (try dsimp only); omega, by (try dsimp only); omega, zF0 (fl_x jv23_0 jv23_1 (zIs_t F36 (by omega)) (by decide) i85 F91 (by omega)), (fun z => absurd (by decide) z), by (try dsimp only); omega, (fun z => absurd (by decide) z), f91_10⟩, ⟨by rw [ht]; exact hP, hD⟩⟩, hS.F ht⟩) hS.2.2 dX5_sum_98
                · have c67 : ¬ m23_L_2.toInt = 0 := z6 rfl (by decide) c67
                  refine lv_aload_n hx hb dX5_sum_70 rfl (lv_at hl 4 rfl) ?_
                  refine lv_iload_n hx hb dX5_sum_71 rfl (lv_at hl 3 rfl) ?_
                  refine lv_iconst (v := 0) hx hb dX5_sum_72 (by decide) ?_
                  have hPc := hP.sub (ws' := [(h0, .inr (5, [.ref lS, .int m23_F_h0_1, .ref tp])), (lS, .inl (cI, 241, .inl m23_A_lS))]) [0, 1] rfl
                  have hDc := hD.sub (ws' := [(h0, .inr (5, [.ref lS, .int m23_F_h0_1, .ref tp])), (lS, .inl (cI, 241, .inl m23_A_lS))]) [0, 1] (by decide) rfl
                  have hFc := va_free (wc := [(h0, .inr (5, [.ref lS, .int m23_F_h0_1, .ref tp])), (lS, .inl (cI, 241, .inl m23_A_lS))]) hD hS hA [0, 1] rfl
                  refine va_callv (va_runV (As := [.int m23_L_2, .int 0]) (rest := []) ⟨hx, hb, hml, hown, hts⟩ (g_X5_put_0 l dC dI cI cJ h0 m23_L_2 lS m23_F_h0_1 tp m23_A_lS H.size (by omega) jf23_0 jf23_11) (cwV 2 hts (zgV qw496 qw498 qw5 qw101 qw499) rfl rfl rfl hd_X5_put ⟨by (try dsimp only) <;> omega, by (try dsimp only) <;> omega⟩) (zPV hPc hK hDc (va_recv hK hP (ci := 5) (q0 := 0) rfl rfl)) rfl rfl hl.1 rfl (lv_room (Nat.le_of_ble_eq_true rfl)) dX5_sum_73 ⟨Nat.zero_le _, Nat.zero_le _⟩) hS (fun q _ h => hFc q h) hFc (fun u73 t H locs ht hvm hw hB hz1 hk1 hS => ?_)
                  obtain ⟨u73_0, u73_1⟩ := u73
                  obtain ⟨hP1, hD1⟩ := hB
                  rw [ht] at hP1
                  obtain ⟨hP, hD⟩ := va_join (wr := [(tp, .inr (9, [.ref tB, .int tl, .int m23_F_tp_2])), (tB, .inl (cI, 260, .inl fB))]) (w1 := [(h0, .inr (5, [.ref lS, .int u73_0, .ref tp])), (lS, .inl (cI, 241, .inl u73_1))]) hP hD [0, 1] [2, 3] rfl rfl (by decide) (by decide) hk1 hFc hP1 hD1
                  have hP : va_P (dC, dI) vwCl [(h0, .inr (5, [.ref lS, .int u73_0, .ref tp])), (lS, .inl (cI, 241, .inl u73_1)), (tp, .inr (9, [.ref tB, .int tl, .int m23_F_tp_2])), (tB, .inl (cI, 260, .inl fB))] H := hP.sub [2, 3, 0, 1] rfl
                  have hD : va_D A [(h0, .inr (5, [.ref lS, .int u73_0, .ref tp])), (lS, .inl (cI, 241, .inl u73_1)), (tp, .inr (9, [.ref tB, .int tl, .int m23_F_tp_2])), (tB, .inl (cI, 260, .inl fB))] := hD.sub [2, 3, 0, 1] (by decide) rfl
                  obtain ⟨f73_0, f73_1, f73_2, f73_3, f73_4⟩ : (1 ≤ u73_0.toInt) ∧ (u73_0.toInt ≤ 241) ∧ (u73_0.toInt ≤ m23_F_h0_1.toInt + 1 ∧ m23_F_h0_1.toInt ≤ u73_0.toInt) ∧ (m23_F_h0_1.toInt < 241 → zEm m23_A_lS m23_F_h0_1 [(m23_L_2.toInt, 0)] u73_1 u73_0) ∧ (zSt u73_1) := hw
                  have F73 := f73_3
                  refine lv_aload_n hx hb dX5_sum_76 rfl (lv_at hl 4 rfl) ?_
                  refine va_get (D := (dC, dI)) (ci := 5) (v := .ref tp) (C := RX5) (T := TX5) (N := 3) hx hb hts iX5 hown hK hP 0 rfl rfl 2 (by decide) (hts _ qw172) (fun _ h9 => h9) rfl dX5_sum_77 ?_
                  refine lv_dup hx hb dX5_sum_80 rfl ?_
                  refine va_get (D := (dC, dI)) (ci := 9) (v := .int m23_F_tp_2) (C := RX9) (T := TX9) (N := 3) hx hb hts iX9 hown hK hP 2 rfl rfl 2 (by decide) (hts _ qw137) (fun _ h9 => h9) rfl dX5_sum_81 ?_
                  refine lv_iconst (v := 1) hx hb dX5_sum_84 (by decide) ?_
                  refine lv_iadd hx hb dX5_sum_85 ?_
                  refine lv_topi (fun v85 e85 => ?_)
                  have i85 : v85.toInt = m23_F_tp_2.toInt + 1 := zadd e85 rfl (by decide) (by omega) (by omega)
                  refine va_put (D := (dC, dI)) (ci := 9) (v := .int v85) (ty := .int) (C := RX9) (T := TX9) (N := 3) hx hb hts iX9 tyX9 tyX9_ok nmX9 hown hK hP hD hS 2 rfl rfl 2 (by decide) (hts _ qw137) (fun _ h9 => h9) rfl (by decide +kernel) rfl rfl (Nat.le_of_ble_eq_true rfl) dX5_sum_86 (fun H locs hP hD hS => ?_)
                  have hP : va_P (dC, dI) vwCl [(h0, .inr (5, [.ref lS, .int u73_0, .ref tp])), (lS, .inl (cI, 241, .inl u73_1)), (tp, .inr (9, [.ref tB, .int tl, .int v85])), (tB, .inl (cI, 260, .inl fB))] H := hP
                  have hD : va_D A [(h0, .inr (5, [.ref lS, .int u73_0, .ref tp])), (lS, .inl (cI, 241, .inl u73_1)), (tp, .inr (9, [.ref tB, .int tl, .int v85])), (tB, .inl (cI, 260, .inl fB))] := hD
                  refine lv_aload_n hx hb dX5_sum_89 rfl (lv_at hl 4 rfl) ?_
                  refine lv_iload_n hx hb dX5_sum_90 rfl (lv_at hl 5 rfl) ?_
                  have hPc := hP.sub (ws' := [(h0, .inr (5, [.ref lS, .int u73_0, .ref tp])), (lS, .inl (cI, 241, .inl u73_1)), (tp, .inr (9, [.ref tB, .int tl, .int v85])), (tB, .inl (cI, 260, .inl fB))]) [0, 1, 2, 3] rfl
                  have hDc := hD.sub (ws' := [(h0, .inr (5, [.ref lS, .int u73_0, .ref tp])), (lS, .inl (cI, 241, .inl u73_1)), (tp, .inr (9, [.ref tB, .int tl, .int v85])), (tB, .inl (cI, 260, .inl fB))]) [0, 1, 2, 3] (by decide) rfl
                  have hFc := va_free (wc := [(h0, .inr (5, [.ref lS, .int u73_0, .ref tp])), (lS, .inl (cI, 241, .inl u73_1)), (tp, .inr (9, [.ref tB, .int tl, .int v85])), (tB, .inl (cI, 260, .inl fB))]) hD hS hA [0, 1, 2, 3] rfl
                  refine va_calli (va_runV (As := [.int p0]) (rest := []) ⟨hx, hb, hml, hown, hts⟩ (ihA dC dI cI cJ h0 p0 lS u73_0 tp u73_1 tB tl v85 fB H.size n_p0 (by omega) (by omega) n_tl (hty) (by omega) (by omega) f73_4) (cwV 1 hts (zgV qw490 qw492 qw4 qw101 qw493) rfl rfl rfl hd_X5_atom ⟨by (try dsimp only) <;> omega, by (try dsimp only) <;> omega⟩) (zPWV hPc hK hDc (va_recv hK hP (ci := 5) (q0 := 0) rfl rfl) (zV_call hV hS hFc)) rfl rfl hl.1 rfl (lv_room (Nat.le_of_ble_eq_true rfl)) dX5_sum_91 ⟨Nat.zero_le _, Nat.zero_le _⟩) hS (fun q _ h => hFc q h) hFc (fun v91 u91 t H locs ht hvm hw hB hz1 hk1 hS => ?_)
                  obtain ⟨u91_0, u91_1, u91_2⟩ := u91
                  obtain ⟨hP1, hD1⟩ := hB
                  rw [ht] at hP1
                  obtain ⟨hP, hD⟩ := va_join (wr := []) (w1 := [(h0, .inr (5, [.ref lS, .int u91_0, .ref tp])), (lS, .inl (cI, 241, .inl u91_1)), (tp, .inr (9, [.ref tB, .int tl, .int u91_2])), (tB, .inl (cI, 260, .inl fB))]) hP hD [0, 1, 2, 3] [] rfl rfl (by decide) (by decide) hk1 hFc hP1 hD1
                  have hP : va_P (dC, dI) vwCl [(h0, .inr (5, [.ref lS, .int u91_0, .ref tp])), (lS, .inl (cI, 241, .inl u91_1)), (tp, .inr (9, [.ref tB, .int tl, .int u91_2])), (tB, .inl (cI, 260, .inl fB))] H := hP.sub [0, 1, 2, 3] rfl
                  have hD : va_D A [(h0, .inr (5, [.ref lS, .int u91_0, .ref tp])), (lS, .inl (cI, 241, .inl u91_1)), (tp, .inr (9, [.ref tB, .int tl, .int u91_2])), (tB, .inl (cI, 260, .inl fB))] := hD.sub [0, 1, 2, 3] (by decide) rfl
                  obtain ⟨f91_0, f91_1, f91_2, f91_3, f91_4, f91_5, f91_6, f91_7, f91_8, f91_9, f91_10⟩ : (0 ≤ v91.toInt) ∧ (v91.toInt ≤ 1) ∧ (0 ≤ u91_0.toInt) ∧ (u91_0.toInt ≤ 241) ∧ (0 ≤ u91_2.toInt) ∧ (u91_2.toInt ≤ 240) ∧ (zF (sAtm (sB fB tl.toInt) tl.toInt K v85.toInt) v91 u91_2) ∧ (¬ v91.toInt = 0 → v85.toInt < u91_2.toInt) ∧ (¬ v91.toInt = 0 → u91_0.toInt + v85.toInt ≤ u73_0.toInt + u91_2.toInt) ∧ (¬ v91.toInt = 0 → zEm u73_1 u73_0 (eAtm (sB fB tl.toInt) tl.toInt K v85.toInt) u91_1 u91_0) ∧ (zSt u91_1) := hw
                  have F91 := f91_6
                  have F91_1 := f91_9
                  refine lv_if_ne (tgt := 99) hx hb dX5_sum_94 (by decide) (fun c94 => ?_) (fun c94 => ?_)
                  · have c94 : ¬ v91.toInt = 0 := z6 rfl (by decide) c94
                    refine lv_iload hx hb dX5_sum_99 (lv_at hl 0 rfl) ?_
                    refine lv_if_eq (tgt := 113) hx hb dX5_sum_101 (by decide) (fun _ => ?_) (fun c => absurd (by decide) c)
                    refine lv_iload_n hx hb dX5_sum_113 rfl (lv_at hl 2 rfl) ?_
                    refine lv_istore_n (lv' := [(2, .int m23_L_3), (5, .int 0), (4, .int m23_L_4), (3, .int m23_L_3), (0, .ref h0), (1, .int p0)]) hx hb dX5_sum_114 rfl hl (by decide) rfl (fun ls hl => ?_)
                    refine lv_aload_n hx hb dX5_sum_115 rfl (lv_at hl 4 rfl) ?_
                    refine va_get (D := (dC, dI)) (ci := 5) (v := .ref tp) (C := RX5) (T := TX5) (N := 3) hx hb hts iX5 hown hK hP 0 rfl rfl 2 (by decide) (hts _ qw172) (fun _ h9 => h9) rfl dX5_sum_116 ?_
                    have hPc := hP.sub (ws' := [(tp, .inr (9, [.ref tB, .int tl, .int u91_2])), (tB, .inl (cI, 260, .inl fB))]) [2, 3] rfl
                    have hDc := hD.sub (ws' := [(tp, .inr (9, [.ref tB, .int tl, .int u91_2])), (tB, .inl (cI, 260, .inl fB))]) [2, 3] (by decide) rfl
                    have hFc := va_free (wc := [(tp, .inr (9, [.ref tB, .int tl, .int u91_2])), (tB, .inl (cI, 260, .inl fB))]) hD hS hA [2, 3] rfl
                    refine va_calli (va_runV (As := []) (rest := []) ⟨hx, hb, hml, hown, hts⟩ (g_X9_peek l dC dI cI cJ tp tB tl u91_2 fB H.size ⟨f91_4, f91_5⟩ n_tl (hty)) (cwV 0 hts (zgV qw485 qw438 qw439 qw99 qw440) rfl rfl rfl hd_X9_peek ⟨by (try dsimp only) <;> omega, by (try dsimp only) <;> omega⟩) (zPV hPc hK hDc (va_recv hK hP (ci := 9) (q0 := 2) rfl rfl)) rfl rfl hl.1 rfl (lv_room (Nat.le_of_ble_eq_true rfl)) dX5_sum_119 ⟨Nat.zero_le _, Nat.zero_le _⟩) hS (fun q _ h => hFc q h) hFc (fun v119 u119 t H locs ht hvm hw hB hz1 hk1 hS => ?_)
                    obtain ⟨u119_0, rfl⟩ : ∃ z, z = u119 := ⟨_, rfl⟩
                    obtain ⟨hP1, hD1⟩ := hB
                    rw [ht] at hP1
                    obtain ⟨hP, hD⟩ := va_join (wr := [(h0, .inr (5, [.ref lS, .int u91_0, .ref tp])), (lS, .inl (cI, 241, .inl u91_1))]) (w1 := [(tp, .inr (9, [.ref tB, .int tl, .int u119_0])), (tB, .inl (cI, 260, .inl fB))]) hP hD [2, 3] [0, 1] rfl rfl (by decide) (by decide) hk1 hFc hP1 hD1
                    have hP : va_P (dC, dI) vwCl [(h0, .inr (5, [.ref lS, .int u91_0, .ref tp])), (lS, .inl (cI, 241, .inl u91_1)), (tp, .inr (9, [.ref tB, .int tl, .int u119_0])), (tB, .inl (cI, 260, .inl fB))] H := hP.sub [0, 1, 2, 3] rfl
                    have hD : va_D A [(h0, .inr (5, [.ref lS, .int u91_0, .ref tp])), (lS, .inl (cI, 241, .inl u91_1)), (tp, .inr (9, [.ref tB, .int tl, .int u119_0])), (tB, .inl (cI, 260, .inl fB))] := hD.sub [0, 1, 2, 3] (by decide) rfl
                    obtain ⟨f119_0, f119_1, f119_2, f119_3, f119_4⟩ : (0 ≤ u119_0.toInt) ∧ (u119_0.toInt ≤ 240) ∧ (¬ v119.toInt = 0 → u119_0.toInt < tl.toInt) ∧ (u91_2.toInt ≤ u119_0.toInt) ∧ (zPK fB tl u91_2 v119 u119_0) := hw
                    have F119 := f119_4
                    refine lv_istore_n (lv' := [(3, .int v119), (2, .int m23_L_3), (5, .int 0), (4, .int m23_L_4), (0, .ref h0), (1, .int p0)]) hx hb dX5_sum_122 rfl hl (by decide) rfl (fun ls hl => ?_)
                    obtain ⟨v123, e123⟩ : ∃ y : Int32, y = m23_L_4 + Int32.ofInt (1) := ⟨_, rfl⟩
                    refine lv_iinc (v := v123) (lv' := [(4, .int v123), (3, .int v119), (2, .int m23_L_3), (5, .int 0), (0, .ref h0), (1, .int p0)]) hx hb dX5_sum_123 hl (k := 3) rfl e123.symm (by decide) rfl (fun ls hl => ?_)
                    have i123 : v123.toInt = m23_L_4.toInt + 1 := zaddI e123 (by decide) (by omega) (by omega)
                    refine lv_goto (tgt := 23) hx hb dX5_sum_126 (by decide) ?_
                    exact ih23 _ (by omega) u91_1 u91_0 u119_0 m23_L_3 v119 v123 ⟨f91_2, f91_3⟩ ⟨f119_0, f119_1⟩ (by omega) (by omega) (by omega) (by omega) (fl_s jv23_0 jv23_1 (zIs_t F36 (by omega)) (by decide) i85 F91 (by omega) (by omega) F119) (F119.2) (by omega) (by omega) (by first | exact fse_y jv23_2 jv23_1 (zIs_t F36 (by omega)) (by decide) i85 F91 (by omega) (by omega) F119 (oM_iff.mpr (by omega)) (F91_1 (by omega)) (F107 (by omega)) rfl (by omega) (by omega) | exact fse_n jv23_2 jv23_1 (zIs_t F36 (by omega)) (by decide) i85 F91 (by omega) (by omega) F119 (fun z => by have := oM_iff.mp z; omega) (eW_0 (by omega)) (F91_1 (by omega)) rfl (by omega) (by omega) | exact fse_n jv23_2 jv23_1 (zIs_t F36 (by omega)) (by decide) i85 F91 (by omega) (by omega) F119 (fun z => by have := oM_iff.mp z; omega) (eW_1 (by omega) rfl (F73 (by omega))) (F91_1 (by omega)) rfl (by omega) (by omega)) f91_10 rfl H locs ls hP hD hS (lv_sub hl [0, 1, 2, 4, 5] rfl)
                  · have c94 : v91.toInt = 0 := z5 rfl (by decide) c94
                    refine lv_iconst (v := 0) hx hb dX5_sum_97 (by decide) ?_
                    have zr0 : (0 : Int32).toInt = 0 := by decide
                    rw [hQ]
                    exact W.zret (v := 0) (ty := .boolean) hx hb hr rfl (fun t ht hW => ⟨⟨0, (u91_0, u91_1, u91_2), rfl, ⟨by (try dsimp only); omega, by (try dsimp only); omega, by (try dsimp only); omega, by (try dsimp only); omega, by (try dsimp only); omega, by (try dsimp only); omega, zF0 (fl_x jv23_0 jv23_1 (zIs_t F36 (by omega)) (by decide) i85 F91 (by omega)), (fun z => absurd (by decide) z), by (try dsimp only); omega, (fun z => absurd (by decide) z), f91_10⟩, ⟨by rw [ht]; exact hP, hD⟩⟩, hS.F ht⟩) hS.2.2 dX5_sum_98
              · have c51 : m23_L_3.toInt = 47 := z5 rfl (by decide) c51
                refine lv_iconst (v := 1) hx hb dX5_sum_54 (by decide) ?_
                refine lv_goto (tgt := 59) hx hb dX5_sum_55 (by decide) ?_
                refine lv_istore (lv' := [(5, .int 1), (4, .int m23_L_4), (3, .int m23_L_3), (2, .int m23_L_2), (0, .ref h0), (1, .int p0)]) hx hb dX5_sum_59 hl (by decide) rfl (fun ls hl => ?_)
                refine lv_iload hx hb dX5_sum_61 (lv_at hl 0 rfl) ?_
                refine lv_if_ne (tgt := 76) hx hb dX5_sum_63 (by decide) (fun _ => ?_) (fun c => absurd c (by decide))
                refine lv_aload_n hx hb dX5_sum_76 rfl (lv_at hl 4 rfl) ?_
                refine va_get (D := (dC, dI)) (ci := 5) (v := .ref tp) (C := RX5) (T := TX5) (N := 3) hx hb hts iX5 hown hK hP 0 rfl rfl 2 (by decide) (hts _ qw172) (fun _ h9 => h9) rfl dX5_sum_77 ?_
                refine lv_dup hx hb dX5_sum_80 rfl ?_
                refine va_get (D := (dC, dI)) (ci := 9) (v := .int m23_F_tp_2) (C := RX9) (T := TX9) (N := 3) hx hb hts iX9 hown hK hP 2 rfl rfl 2 (by decide) (hts _ qw137) (fun _ h9 => h9) rfl dX5_sum_81 ?_
                refine lv_iconst (v := 1) hx hb dX5_sum_84 (by decide) ?_
                refine lv_iadd hx hb dX5_sum_85 ?_
                refine lv_topi (fun v85 e85 => ?_)
                have i85 : v85.toInt = m23_F_tp_2.toInt + 1 := zadd e85 rfl (by decide) (by omega) (by omega)
                refine va_put (D := (dC, dI)) (ci := 9) (v := .int v85) (ty := .int) (C := RX9) (T := TX9) (N := 3) hx hb hts iX9 tyX9 tyX9_ok nmX9 hown hK hP hD hS 2 rfl rfl 2 (by decide) (hts _ qw137) (fun _ h9 => h9) rfl (by decide +kernel) rfl rfl (Nat.le_of_ble_eq_true rfl) dX5_sum_86 (fun H locs hP hD hS => ?_)
                have hP : va_P (dC, dI) vwCl [(h0, .inr (5, [.ref lS, .int m23_F_h0_1, .ref tp])), (lS, .inl (cI, 241, .inl m23_A_lS)), (tp, .inr (9, [.ref tB, .int tl, .int v85])), (tB, .inl (cI, 260, .inl fB))] H := hP
                have hD : va_D A [(h0, .inr (5, [.ref lS, .int m23_F_h0_1, .ref tp])), (lS, .inl (cI, 241, .inl m23_A_lS)), (tp, .inr (9, [.ref tB, .int tl, .int v85])), (tB, .inl (cI, 260, .inl fB))] := hD
                refine lv_aload_n hx hb dX5_sum_89 rfl (lv_at hl 4 rfl) ?_
                refine lv_iload_n hx hb dX5_sum_90 rfl (lv_at hl 5 rfl) ?_
                have hPc := hP.sub (ws' := [(h0, .inr (5, [.ref lS, .int m23_F_h0_1, .ref tp])), (lS, .inl (cI, 241, .inl m23_A_lS)), (tp, .inr (9, [.ref tB, .int tl, .int v85])), (tB, .inl (cI, 260, .inl fB))]) [0, 1, 2, 3] rfl
                have hDc := hD.sub (ws' := [(h0, .inr (5, [.ref lS, .int m23_F_h0_1, .ref tp])), (lS, .inl (cI, 241, .inl m23_A_lS)), (tp, .inr (9, [.ref tB, .int tl, .int v85])), (tB, .inl (cI, 260, .inl fB))]) [0, 1, 2, 3] (by decide) rfl
                have hFc := va_free (wc := [(h0, .inr (5, [.ref lS, .int m23_F_h0_1, .ref tp])), (lS, .inl (cI, 241, .inl m23_A_lS)), (tp, .inr (9, [.ref tB, .int tl, .int v85])), (tB, .inl (cI, 260, .inl fB))]) hD hS hA [0, 1, 2, 3] rfl
                refine va_calli (va_runV (As := [.int p0]) (rest := []) ⟨hx, hb, hml, hown, hts⟩ (ihA dC dI cI cJ h0 p0 lS m23_F_h0_1 tp m23_A_lS tB tl v85 fB H.size n_p0 jf23_0 (by omega) n_tl (hty) (by omega) (by omega) jf23_11) (cwV 1 hts (zgV qw490 qw492 qw4 qw101 qw493) rfl rfl rfl hd_X5_atom ⟨by (try dsimp only) <;> omega, by (try dsimp only) <;> omega⟩) (zPWV hPc hK hDc (va_recv hK hP (ci := 5) (q0 := 0) rfl rfl) (zV_call hV hS hFc)) rfl rfl hl.1 rfl (lv_room (Nat.le_of_ble_eq_true rfl)) dX5_sum_91 ⟨Nat.zero_le _, Nat.zero_le _⟩) hS (fun q _ h => hFc q h) hFc (fun v91 u91 t H locs ht hvm hw hB hz1 hk1 hS => ?_)
                obtain ⟨u91_0, u91_1, u91_2⟩ := u91
                obtain ⟨hP1, hD1⟩ := hB
                rw [ht] at hP1
                obtain ⟨hP, hD⟩ := va_join (wr := []) (w1 := [(h0, .inr (5, [.ref lS, .int u91_0, .ref tp])), (lS, .inl (cI, 241, .inl u91_1)), (tp, .inr (9, [.ref tB, .int tl, .int u91_2])), (tB, .inl (cI, 260, .inl fB))]) hP hD [0, 1, 2, 3] [] rfl rfl (by decide) (by decide) hk1 hFc hP1 hD1
                have hP : va_P (dC, dI) vwCl [(h0, .inr (5, [.ref lS, .int u91_0, .ref tp])), (lS, .inl (cI, 241, .inl u91_1)), (tp, .inr (9, [.ref tB, .int tl, .int u91_2])), (tB, .inl (cI, 260, .inl fB))] H := hP.sub [0, 1, 2, 3] rfl
                have hD : va_D A [(h0, .inr (5, [.ref lS, .int u91_0, .ref tp])), (lS, .inl (cI, 241, .inl u91_1)), (tp, .inr (9, [.ref tB, .int tl, .int u91_2])), (tB, .inl (cI, 260, .inl fB))] := hD.sub [0, 1, 2, 3] (by decide) rfl
                obtain ⟨f91_0, f91_1, f91_2, f91_3, f91_4, f91_5, f91_6, f91_7, f91_8, f91_9, f91_10⟩ : (0 ≤ v91.toInt) ∧ (v91.toInt ≤ 1) ∧ (0 ≤ u91_0.toInt) ∧ (u91_0.toInt ≤ 241) ∧ (0 ≤ u91_2.toInt) ∧ (u91_2.toInt ≤ 240) ∧ (zF (sAtm (sB fB tl.toInt) tl.toInt K v85.toInt) v91 u91_2) ∧ (¬ v91.toInt = 0 → v85.toInt < u91_2.toInt) ∧ (¬ v91.toInt = 0 → u91_0.toInt + v85.toInt ≤ m23_F_h0_1.toInt + u91_2.toInt) ∧ (¬ v91.toInt = 0 → zEm m23_A_lS m23_F_h0_1 (eAtm (sB fB tl.toInt) tl.toInt K v85.toInt) u91_1 u91_0) ∧ (zSt u91_1) := hw
                have F91 := f91_6
                have F91_1 := f91_9
                refine lv_if_ne (tgt := 99) hx hb dX5_sum_94 (by decide) (fun c94 => ?_) (fun c94 => ?_)
                · have c94 : ¬ v91.toInt = 0 := z6 rfl (by decide) c94
                  refine lv_iload hx hb dX5_sum_99 (lv_at hl 0 rfl) ?_
                  refine lv_if_eq (tgt := 113) hx hb dX5_sum_101 (by decide) (fun c => absurd c (by decide)) (fun _ => ?_)
                  refine lv_aload_n hx hb dX5_sum_104 rfl (lv_at hl 4 rfl) ?_
                  refine lv_iload_n hx hb dX5_sum_105 rfl (lv_at hl 2 rfl) ?_
                  refine lv_iconst (v := 0) hx hb dX5_sum_106 (by decide) ?_
                  have hPc := hP.sub (ws' := [(h0, .inr (5, [.ref lS, .int u91_0, .ref tp])), (lS, .inl (cI, 241, .inl u91_1))]) [0, 1] rfl
                  have hDc := hD.sub (ws' := [(h0, .inr (5, [.ref lS, .int u91_0, .ref tp])), (lS, .inl (cI, 241, .inl u91_1))]) [0, 1] (by decide) rfl
                  have hFc := va_free (wc := [(h0, .inr (5, [.ref lS, .int u91_0, .ref tp])), (lS, .inl (cI, 241, .inl u91_1))]) hD hS hA [0, 1] rfl
                  refine va_callv (va_runV (As := [.int m23_L_3, .int 0]) (rest := []) ⟨hx, hb, hml, hown, hts⟩ (g_X5_put_0 l dC dI cI cJ h0 m23_L_3 lS u91_0 tp u91_1 H.size (by omega) ⟨f91_2, f91_3⟩ f91_10) (cwV 2 hts (zgV qw496 qw498 qw5 qw101 qw499) rfl rfl rfl hd_X5_put ⟨by (try dsimp only) <;> omega, by (try dsimp only) <;> omega⟩) (zPV hPc hK hDc (va_recv hK hP (ci := 5) (q0 := 0) rfl rfl)) rfl rfl hl.1 rfl (lv_room (Nat.le_of_ble_eq_true rfl)) dX5_sum_107 ⟨Nat.zero_le _, Nat.zero_le _⟩) hS (fun q _ h => hFc q h) hFc (fun u107 t H locs ht hvm hw hB hz1 hk1 hS => ?_)
                  obtain ⟨u107_0, u107_1⟩ := u107
                  obtain ⟨hP1, hD1⟩ := hB
                  rw [ht] at hP1
                  obtain ⟨hP, hD⟩ := va_join (wr := [(tp, .inr (9, [.ref tB, .int tl, .int u91_2])), (tB, .inl (cI, 260, .inl fB))]) (w1 := [(h0, .inr (5, [.ref lS, .int u107_0, .ref tp])), (lS, .inl (cI, 241, .inl u107_1))]) hP hD [0, 1] [2, 3] rfl rfl (by decide) (by decide) hk1 hFc hP1 hD1
                  have hP : va_P (dC, dI) vwCl [(h0, .inr (5, [.ref lS, .int u107_0, .ref tp])), (lS, .inl (cI, 241, .inl u107_1)), (tp, .inr (9, [.ref tB, .int tl, .int u91_2])), (tB, .inl (cI, 260, .inl fB))] H := hP.sub [2, 3, 0, 1] rfl
                  have hD : va_D A [(h0, .inr (5, [.ref lS, .int u107_0, .ref tp])), (lS, .inl (cI, 241, .inl u107_1)), (tp, .inr (9, [.ref tB, .int tl, .int u91_2])), (tB, .inl (cI, 260, .inl fB))] := hD.sub [2, 3, 0, 1] (by decide) rfl
                  obtain ⟨f107_0, f107_1, f107_2, f107_3, f107_4⟩ : (1 ≤ u107_0.toInt) ∧ (u107_0.toInt ≤ 241) ∧ (u107_0.toInt ≤ u91_0.toInt + 1 ∧ u91_0.toInt ≤ u107_0.toInt) ∧ (u91_0.toInt < 241 → zEm u91_1 u91_0 [(m23_L_3.toInt, 0)] u107_1 u107_0) ∧ (zSt u107_1) := hw
                  have F107 := f107_3
                  refine lv_goto (tgt := 115) hx hb dX5_sum_110 (by decide) ?_
                  refine lv_aload_n hx hb dX5_sum_115 rfl (lv_at hl 4 rfl) ?_
                  refine va_get (D := (dC, dI)) (ci := 5) (v := .ref tp) (C := RX5) (T := TX5) (N := 3) hx hb hts iX5 hown hK hP 0 rfl rfl 2 (by decide) (hts _ qw172) (fun _ h9 => h9) rfl dX5_sum_116 ?_
                  have hPc := hP.sub (ws' := [(tp, .inr (9, [.ref tB, .int tl, .int u91_2])), (tB, .inl (cI, 260, .inl fB))]) [2, 3] rfl
                  have hDc := hD.sub (ws' := [(tp, .inr (9, [.ref tB, .int tl, .int u91_2])), (tB, .inl (cI, 260, .inl fB))]) [2, 3] (by decide) rfl
                  have hFc := va_free (wc := [(tp, .inr (9, [.ref tB, .int tl, .int u91_2])), (tB, .inl (cI, 260, .inl fB))]) hD hS hA [2, 3] rfl
                  refine va_calli (va_runV (As := []) (rest := []) ⟨hx, hb, hml, hown, hts⟩ (g_X9_peek l dC dI cI cJ tp tB tl u91_2 fB H.size ⟨f91_4, f91_5⟩ n_tl (hty)) (cwV 0 hts (zgV qw485 qw438 qw439 qw99 qw440) rfl rfl rfl hd_X9_peek ⟨by (try dsimp only) <;> omega, by (try dsimp only) <;> omega⟩) (zPV hPc hK hDc (va_recv hK hP (ci := 9) (q0 := 2) rfl rfl)) rfl rfl hl.1 rfl (lv_room (Nat.le_of_ble_eq_true rfl)) dX5_sum_119 ⟨Nat.zero_le _, Nat.zero_le _⟩) hS (fun q _ h => hFc q h) hFc (fun v119 u119 t H locs ht hvm hw hB hz1 hk1 hS => ?_)
                  obtain ⟨u119_0, rfl⟩ : ∃ z, z = u119 := ⟨_, rfl⟩
                  obtain ⟨hP1, hD1⟩ := hB
                  rw [ht] at hP1
                  obtain ⟨hP, hD⟩ := va_join (wr := [(h0, .inr (5, [.ref lS, .int u107_0, .ref tp])), (lS, .inl (cI, 241, .inl u107_1))]) (w1 := [(tp, .inr (9, [.ref tB, .int tl, .int u119_0])), (tB, .inl (cI, 260, .inl fB))]) hP hD [2, 3] [0, 1] rfl rfl (by decide) (by decide) hk1 hFc hP1 hD1
                  have hP : va_P (dC, dI) vwCl [(h0, .inr (5, [.ref lS, .int u107_0, .ref tp])), (lS, .inl (cI, 241, .inl u107_1)), (tp, .inr (9, [.ref tB, .int tl, .int u119_0])), (tB, .inl (cI, 260, .inl fB))] H := hP.sub [0, 1, 2, 3] rfl
                  have hD : va_D A [(h0, .inr (5, [.ref lS, .int u107_0, .ref tp])), (lS, .inl (cI, 241, .inl u107_1)), (tp, .inr (9, [.ref tB, .int tl, .int u119_0])), (tB, .inl (cI, 260, .inl fB))] := hD.sub [0, 1, 2, 3] (by decide) rfl
                  obtain ⟨f119_0, f119_1, f119_2, f119_3, f119_4⟩ : (0 ≤ u119_0.toInt) ∧ (u119_0.toInt ≤ 240) ∧ (¬ v119.toInt = 0 → u119_0.toInt < tl.toInt) ∧ (u91_2.toInt ≤ u119_0.toInt) ∧ (zPK fB tl u91_2 v119 u119_0) := hw
                  have F119 := f119_4
                  refine lv_istore_n (lv' := [(3, .int v119), (5, .int 1), (4, .int m23_L_4), (2, .int m23_L_2), (0, .ref h0), (1, .int p0)]) hx hb dX5_sum_122 rfl hl (by decide) rfl (fun ls hl => ?_)
                  obtain ⟨v123, e123⟩ : ∃ y : Int32, y = m23_L_4 + Int32.ofInt (1) := ⟨_, rfl⟩
                  refine lv_iinc (v := v123) (lv' := [(4, .int v123), (3, .int v119), (5, .int 1), (2, .int m23_L_2), (0, .ref h0), (1, .int p0)]) hx hb dX5_sum_123 hl (k := 2) rfl e123.symm (by decide) rfl (fun ls hl => ?_)
                  have i123 : v123.toInt = m23_L_4.toInt + 1 := zaddI e123 (by decide) (by omega) (by omega)
                  refine lv_goto (tgt := 23) hx hb dX5_sum_126 (by decide) ?_
                  exact ih23 _ (by omega) u107_1 u107_0 u119_0 m23_L_2 v119 v123 (by omega) ⟨f119_0, f119_1⟩ jf23_2 (by omega) (by omega) (by omega) (fl_s jv23_0 jv23_1 (zIs_t F36 (by omega)) (by decide) i85 F91 (by omega) (by omega) F119) (F119.2) (by omega) (by omega) (by first | exact fse_y jv23_2 jv23_1 (zIs_t F36 (by omega)) (by decide) i85 F91 (by omega) (by omega) F119 (oM_iff.mpr (by omega)) (F91_1 (by omega)) (F107 (by omega)) rfl (by omega) (by omega) | exact fse_n jv23_2 jv23_1 (zIs_t F36 (by omega)) (by decide) i85 F91 (by omega) (by omega) F119 (fun z => by have := oM_iff.mp z; omega) (eW_0 (by omega)) (F91_1 (by omega)) rfl (by omega) (by omega) | exact fse_n jv23_2 jv23_1 (zIs_t F36 (by omega)) (by decide) i85 F91 (by omega) (by omega) F119 (fun z => by have := oM_iff.mp z; omega) (eW_1 (by omega) rfl (F73 (by omega))) (F91_1 (by omega)) rfl (by omega) (by omega)) f107_4 rfl H locs ls hP hD hS (lv_sub hl [0, 1, 3, 4, 5] rfl)
                · have c94 : v91.toInt = 0 := z5 rfl (by decide) c94
                  refine lv_iconst (v := 0) hx hb dX5_sum_97 (by decide) ?_
                  have zr0 : (0 : Int32).toInt = 0 := by decide
                  rw [hQ]
                  exact W.zret (v := 0) (ty := .boolean) hx hb hr rfl (fun t ht hW => ⟨⟨0, (u91_0, u91_1, u91_2), rfl, ⟨by (try dsimp only); omega, by (try dsimp only); omega, by (try dsimp only); omega, by (try dsimp only); omega, by (try dsimp only); omega, by (try dsimp only); omega, zF0 (fl_x jv23_0 jv23_1 (zIs_t F36 (by omega)) (by decide) i85 F91 (by omega)), (fun z => absurd (by decide) z), by (try dsimp only); omega, (fun z => absurd (by decide) z), f91_10⟩, ⟨by rw [ht]; exact hP, hD⟩⟩, hS.F ht⟩) hS.2.2 dX5_sum_98
    refine lv_istore (lv' := [(4, .int 0), (3, .int v16), (2, .int 0), (0, .ref h0), (1, .int p0)]) hx hb dX5_sum_21 hl (by decide) rfl (fun ls hl => ?_)
    have zj23_m23_L_2 : (0 : Int32).toInt = 0 := by decide
    have zj23_m23_L_4 : (0 : Int32).toInt = 0 := by decide
    exact J23 _ u2_1 u2_0 u16_0 0 v16 0 ⟨f2_2, f2_3⟩ ⟨f16_0, f16_1⟩ (by decide) (by decide) (by omega) (by omega) (sSum_tm (fl_b F2 (by omega) F16)) (F16.2) (by omega) (by omega) (fse_b (eSum_eq _ _ _ _) F2 (by omega) F16 (F2_1 (by omega)) (by decide)) f2_10 rfl H locs ls hP hD hS (lv_sub hl [0, 1, 2, 3, 4] rfl)
  · have c5 : v2.toInt = 0 := z5 rfl (by decide) c5
    refine lv_iconst (v := 0) hx hb dX5_sum_8 (by decide) ?_
    have zr0 : (0 : Int32).toInt = 0 := by decide
    rw [hQ]
    exact W.zret (v := 0) (ty := .boolean) hx hb hr rfl (fun t ht hW => ⟨⟨0, (u2_0, u2_1, u2_2), rfl, ⟨by (try dsimp only); omega, by (try dsimp only); omega, by (try dsimp only); omega, by (try dsimp only); omega, by (try dsimp only); omega, by (try dsimp only); omega, zF0 (sSum_tm (fl_0 F2 (by omega))), (fun z => absurd (by decide) z), by (try dsimp only); omega, (fun z => absurd (by decide) z), f2_10⟩, ⟨by rw [ht]; exact hP, hD⟩⟩, hS.F ht⟩) hS.2.2 dX5_sum_9
