set_option maxHeartbeats 4000000 in
set_option maxRecDepth 100000 in
theorem g_X9_peek (l : Launch) (dC : Nat → ClassId) (dI : Nat → Nat → Nat) (cI cJ : ClassId) (h0 : Nat) (tB : Nat) (tl : Int32) (ta : Int32) (fB : Nat → Int32) (sz : Nat) (n_ta : 0 ≤ ta.toInt ∧ ta.toInt ≤ 240) (n_tl : 0 ≤ tl.toInt ∧ tl.toInt ≤ 240) (hty : zTy tl fB)   : Met l yX9_peek (.code yX9_peek cX9_peek 1 (some .int) :: wA) ({ frames := 0, cells := 0, slots := 0, locals := 0 }) (zP (dC, dI) [(cI, .int), (cJ, .long)] [.ref h0] sz [(h0, .inr (9, [.ref tB, .int tl, .int ta])), (tB, .inl (cI, 260, .inl fB))]) (va_Qi (fun (r : Int32) (u : Int32) => (0 ≤ u.toInt) ∧ (u.toInt ≤ 240) ∧ (¬ r.toInt = 0 → u.toInt < tl.toInt) ∧ (ta.toInt ≤ u.toInt) ∧ (zPK fB tl ta r u)) (fun (u : Int32) (t : State) => va_P (dC, dI) vwCl [(h0, .inr (9, [.ref tB, .int tl, .int u])), (tB, .inl (cI, 260, .inl fB))] t.heap ∧ va_D (va_A [(h0, .inr (9, [.ref tB, .int tl, .int ta])), (tB, .inl (cI, 260, .inl fB))] sz) [(h0, .inr (9, [.ref tB, .int tl, .int u])), (tB, .inl (cI, 260, .inl fB))]) (va_A [(h0, .inr (9, [.ref tB, .int tl, .int ta])), (tB, .inl (cI, 260, .inl fB))] sz)) 0 0 (va_A [(h0, .inr (9, [.ref tB, .int tl, .int ta])), (tB, .inl (cI, 260, .inl fB))] sz) := by
  refine Met.ofW (cc := cX9_peek) (maxL := 1) (ret := (some .int)) (by decide) rfl ?_
  intro p e s m args below meth c s₁ B hml hv
  obtain ⟨hargs, hsz, hP, hK, hT⟩ := hv
  have hx := B.exec
  have hb := B.bytes
  have hr := B.returns
  have hts : ∀ w ∈ wA, w.before args s = true := fun w h => atoms_spec (ws := .code yX9_peek cX9_peek 1 (some .int) :: wA) B.pre w (List.mem_cons_of_mem _ h)
  have hown : s.vm.findClass RX9 = some m.cls := findClass_of_methodNamed B.named
  have hlocks := B.notSynchronized
  subst hsz
  have hD := hT.self (sz := s.heap.size)
  generalize hAe : va_A [(h0, .inr (9, [.ref tB, .int tl, .int ta])), (tB, .inl (cI, 260, .inl fB))] s.heap.size = A at hD ⊢
  have hA : ∀ q : Nat, s.heap.size ≤ q → A q := fun q h => by rw [← hAe]; exact Or.inr h
  have hl := lv_entry ([.ref h0]) (n := 1) (Nat.le_of_ble_eq_true rfl)
  rw [show entryFrame m args 1 = entryFrame m ([.ref h0] : List Value).toArray 1 by rw [hargs], lg_entry_eq]
  generalize (lg_sl ([.ref h0]) ++ List.replicate (1 - (lg_sl ([.ref h0])).length) Slot.unset).toArray = ls at hl ⊢
  have hl : lv_has ls 1 [(0, .ref h0)] := hl
  refine zstart (fun H hH => ?_)
  rw [← hH] at hP
  have hS : va_S A s.heap H [] := by rw [hH]; exact va_S.rf
  generalize ([] : List Loc) = locs at hS ⊢
  refine zgen (fun R Q hR hQ => ?_)
  have J0 : ∀ (n : Nat) (m0_F_h0_2 : Int32), (0 ≤ m0_F_h0_2.toInt ∧ m0_F_h0_2.toInt ≤ 240) → (ta.toInt ≤ m0_F_h0_2.toInt) → (sk (sB fB tl.toInt) tl.toInt ta.toInt = sk (sB fB tl.toInt) tl.toInt m0_F_h0_2.toInt) → (241 - m0_F_h0_2.toInt).toNat = n → ∀ (H : Heap) (locs : List Loc) (ls : Array Slot), va_P (dC, dI) vwCl [(h0, .inr (9, [.ref tB, .int tl, .int m0_F_h0_2])), (tB, .inl (cI, 260, .inl fB))] H → va_D A [(h0, .inr (9, [.ref tB, .int tl, .int m0_F_h0_2])), (tB, .inl (cI, 260, .inl fB))] → va_S A s.heap H locs → lv_has ls 1 [(0, .ref h0)] → W p l e R s m args below meth c H locs 0 0 Q (F0 m 0 ls []) := by
    intro n0
    induction n0 using Nat.strongRecOn with
    | _ n0 ih0 =>
      intro m0_F_h0_2 jf0_0 jf0_1 jv0_0 hmu0 H locs ls hP hD hS hl
      refine lv_aload_n hx hb dX9_peek_0 rfl (lv_at hl 0 rfl) ?_
      refine va_get (D := (dC, dI)) (ci := 9) (v := .int m0_F_h0_2) (C := RX9) (T := TX9) (N := 3) hx hb hts iX9 hown hK hP 0 rfl rfl 2 (by decide) (hts _ qw139) (fun _ h9 => h9) rfl dX9_peek_1 ?_
      refine lv_aload_n hx hb dX9_peek_4 rfl (lv_at hl 0 rfl) ?_
      refine va_get (D := (dC, dI)) (ci := 9) (v := .int tl) (C := RX9) (T := TX9) (N := 3) hx hb hts iX9 hown hK hP 0 rfl rfl 1 (by decide) (hts _ qw134) (fun _ h9 => h9) rfl dX9_peek_5 ?_
      refine lv_icmp_ge (tgt := 38) hx hb dX9_peek_8 (by decide) (fun c8 => ?_) (fun c8 => ?_)
      · have c8 : tl.toInt ≤ m0_F_h0_2.toInt := z3 rfl rfl c8
        refine lv_aload_n hx hb dX9_peek_38 rfl (lv_at hl 0 rfl) ?_
        refine va_get (D := (dC, dI)) (ci := 9) (v := .int m0_F_h0_2) (C := RX9) (T := TX9) (N := 3) hx hb hts iX9 hown hK hP 0 rfl rfl 2 (by decide) (hts _ qw139) (fun _ h9 => h9) rfl dX9_peek_39 ?_
        refine lv_aload_n hx hb dX9_peek_42 rfl (lv_at hl 0 rfl) ?_
        refine va_get (D := (dC, dI)) (ci := 9) (v := .int tl) (C := RX9) (T := TX9) (N := 3) hx hb hts iX9 hown hK hP 0 rfl rfl 1 (by decide) (hts _ qw134) (fun _ h9 => h9) rfl dX9_peek_43 ?_
        refine lv_icmp_ge (tgt := 61) hx hb dX9_peek_46 (by decide) (fun c46 => ?_) (fun c46 => ?_)
        · have c46 : tl.toInt ≤ m0_F_h0_2.toInt := z3 rfl rfl c46
          refine lv_iconst (v := 0) hx hb dX9_peek_61 (by decide) ?_
          have zr0 : (0 : Int32).toInt = 0 := by decide
          rw [hQ]
          exact W.iret (v := 0) hx hb hr (fun t ht hW => ⟨⟨0, m0_F_h0_2, rfl, ⟨by (try dsimp only); omega, by (try dsimp only); omega, by (try dsimp only); omega, by (try dsimp only); omega, zpkA jv0_0 (by omega)⟩, ⟨by rw [ht]; exact hP, hD⟩⟩, hS.F ht⟩) hS.2.2 dX9_peek_62
        · have c46 : m0_F_h0_2.toInt < tl.toInt := z4 rfl rfl c46
          refine lv_aload_n hx hb dX9_peek_49 rfl (lv_at hl 0 rfl) ?_
          refine va_get (D := (dC, dI)) (ci := 9) (v := .ref tB) (C := RX9) (T := TX9) (N := 3) hx hb hts iX9 hown hK hP 0 rfl rfl 0 (by decide) (hts _ qw132) (fun _ h9 => h9) rfl dX9_peek_50 ?_
          refine lv_aload_n hx hb dX9_peek_53 rfl (lv_at hl 0 rfl) ?_
          refine va_get (D := (dC, dI)) (ci := 9) (v := .int m0_F_h0_2) (C := RX9) (T := TX9) (N := 3) hx hb hts iX9 hown hK hP 0 rfl rfl 2 (by decide) (hts _ qw139) (fun _ h9 => h9) rfl dX9_peek_54 ?_
          refine va_iald hx hb hK hP 1 0 rfl rfl (vp_in_iff.mpr ⟨by omega, by omega⟩) dX9_peek_57 ?_
          refine lv_topi (fun v57 e57 => ?_)
          refine lv_goto (tgt := 62) hx hb dX9_peek_58 (by decide) ?_
          rw [hQ]
          exact W.iret (v := v57) hx hb hr (fun t ht hW => ⟨⟨v57, m0_F_h0_2, rfl, ⟨by (try dsimp only); omega, by (try dsimp only); omega, by (try dsimp only); omega, by (try dsimp only); omega, by (try dsimp only); first | exact zpkB jv0_0 (by omega) (by omega) e19 (by omega) e57 hty | (exfalso; omega)⟩, ⟨by rw [ht]; exact hP, hD⟩⟩, hS.F ht⟩) hS.2.2 dX9_peek_62
      · have c8 : m0_F_h0_2.toInt < tl.toInt := z4 rfl rfl c8
        refine lv_aload_n hx hb dX9_peek_11 rfl (lv_at hl 0 rfl) ?_
        refine va_get (D := (dC, dI)) (ci := 9) (v := .ref tB) (C := RX9) (T := TX9) (N := 3) hx hb hts iX9 hown hK hP 0 rfl rfl 0 (by decide) (hts _ qw132) (fun _ h9 => h9) rfl dX9_peek_12 ?_
        refine lv_aload_n hx hb dX9_peek_15 rfl (lv_at hl 0 rfl) ?_
        refine va_get (D := (dC, dI)) (ci := 9) (v := .int m0_F_h0_2) (C := RX9) (T := TX9) (N := 3) hx hb hts iX9 hown hK hP 0 rfl rfl 2 (by decide) (hts _ qw139) (fun _ h9 => h9) rfl dX9_peek_16 ?_
        refine va_iald hx hb hK hP 1 0 rfl rfl (vp_in_iff.mpr ⟨by omega, by omega⟩) dX9_peek_19 ?_
        refine lv_topi (fun v19 e19 => ?_)
        refine lv_bipush (v := 32) hx hb dX9_peek_20 (by decide) ?_
        refine lv_icmp_ne (tgt := 38) hx hb dX9_peek_22 (by decide) (fun c22 => ?_) (fun c22 => ?_)
        · have c22 : ¬ v19.toInt = 32 := z6 rfl (by decide) c22
          refine lv_aload_n hx hb dX9_peek_38 rfl (lv_at hl 0 rfl) ?_
          refine va_get (D := (dC, dI)) (ci := 9) (v := .int m0_F_h0_2) (C := RX9) (T := TX9) (N := 3) hx hb hts iX9 hown hK hP 0 rfl rfl 2 (by decide) (hts _ qw139) (fun _ h9 => h9) rfl dX9_peek_39 ?_
          refine lv_aload_n hx hb dX9_peek_42 rfl (lv_at hl 0 rfl) ?_
          refine va_get (D := (dC, dI)) (ci := 9) (v := .int tl) (C := RX9) (T := TX9) (N := 3) hx hb hts iX9 hown hK hP 0 rfl rfl 1 (by decide) (hts _ qw134) (fun _ h9 => h9) rfl dX9_peek_43 ?_
          refine lv_icmp_ge (tgt := 61) hx hb dX9_peek_46 (by decide) (fun c46 => ?_) (fun c46 => ?_)
          · have c46 : tl.toInt ≤ m0_F_h0_2.toInt := z3 rfl rfl c46
            refine lv_iconst (v := 0) hx hb dX9_peek_61 (by decide) ?_
            have zr0 : (0 : Int32).toInt = 0 := by decide
            rw [hQ]
            exact W.iret (v := 0) hx hb hr (fun t ht hW => ⟨⟨0, m0_F_h0_2, rfl, ⟨by (try dsimp only); omega, by (try dsimp only); omega, by (try dsimp only); omega, by (try dsimp only); omega, zpkA jv0_0 (by omega)⟩, ⟨by rw [ht]; exact hP, hD⟩⟩, hS.F ht⟩) hS.2.2 dX9_peek_62
          · have c46 : m0_F_h0_2.toInt < tl.toInt := z4 rfl rfl c46
            refine lv_aload_n hx hb dX9_peek_49 rfl (lv_at hl 0 rfl) ?_
            refine va_get (D := (dC, dI)) (ci := 9) (v := .ref tB) (C := RX9) (T := TX9) (N := 3) hx hb hts iX9 hown hK hP 0 rfl rfl 0 (by decide) (hts _ qw132) (fun _ h9 => h9) rfl dX9_peek_50 ?_
            refine lv_aload_n hx hb dX9_peek_53 rfl (lv_at hl 0 rfl) ?_
            refine va_get (D := (dC, dI)) (ci := 9) (v := .int m0_F_h0_2) (C := RX9) (T := TX9) (N := 3) hx hb hts iX9 hown hK hP 0 rfl rfl 2 (by decide) (hts _ qw139) (fun _ h9 => h9) rfl dX9_peek_54 ?_
            refine va_iald hx hb hK hP 1 0 rfl rfl (vp_in_iff.mpr ⟨by omega, by omega⟩) dX9_peek_57 ?_
            refine lv_topi (fun v57 e57 => ?_)
            refine lv_goto (tgt := 62) hx hb dX9_peek_58 (by decide) ?_
            rw [hQ]
            exact W.iret (v := v57) hx hb hr (fun t ht hW => ⟨⟨v57, m0_F_h0_2, rfl, ⟨by (try dsimp only); omega, by (try dsimp only); omega, by (try dsimp only); omega, by (try dsimp only); omega, by (try dsimp only); first | exact zpkB jv0_0 (by omega) (by omega) e19 (by omega) e57 hty | (exfalso; omega)⟩, ⟨by rw [ht]; exact hP, hD⟩⟩, hS.F ht⟩) hS.2.2 dX9_peek_62
        · have c22 : v19.toInt = 32 := z5 rfl (by decide) c22
          refine lv_aload_n hx hb dX9_peek_25 rfl (lv_at hl 0 rfl) ?_
          refine lv_dup hx hb dX9_peek_26 rfl ?_
          refine va_get (D := (dC, dI)) (ci := 9) (v := .int m0_F_h0_2) (C := RX9) (T := TX9) (N := 3) hx hb hts iX9 hown hK hP 0 rfl rfl 2 (by decide) (hts _ qw139) (fun _ h9 => h9) rfl dX9_peek_27 ?_
          refine lv_iconst (v := 1) hx hb dX9_peek_30 (by decide) ?_
          refine lv_iadd hx hb dX9_peek_31 ?_
          refine lv_topi (fun v31 e31 => ?_)
          have i31 : v31.toInt = m0_F_h0_2.toInt + 1 := zadd e31 rfl (by decide) (by omega) (by omega)
          refine va_put (D := (dC, dI)) (ci := 9) (v := .int v31) (ty := .int) (C := RX9) (T := TX9) (N := 3) hx hb hts iX9 tyX9 tyX9_ok nmX9 hown hK hP hD hS 0 rfl rfl 2 (by decide) (hts _ qw139) (fun _ h9 => h9) rfl (by decide +kernel) rfl rfl (Nat.le_of_ble_eq_true rfl) dX9_peek_32 (fun H locs hP9 hD9 hS9 => ?_)
          clear hP hD hS
          obtain ⟨hP, hD⟩ := zst (wX := [(h0, .inr (9, [.ref tB, .int tl, .int v31])), (tB, .inl (cI, 260, .inl fB))]) hP9 hD9 rfl
          have hS := hS9
          clear hP9 hD9 hS9
          refine lv_goto (tgt := 0) hx hb dX9_peek_35 (by decide) ?_
          exact ih0 _ (by omega) v31 (by omega) (by omega) (zpkS jv0_0 (by omega) (by omega) e19 (by omega) i31) rfl H locs ls hP hD hS (lv_sub hl [0] rfl)
  exact J0 _ ta n_ta (by omega) (rfl) rfl H locs ls hP hD hS (lv_sub hl [0] rfl)
set_option maxHeartbeats 4000000 in
set_option maxRecDepth 100000 in
theorem g_X9_takes (l : Launch) (dC : Nat → ClassId) (dI : Nat → Nat → Nat) (cI cJ : ClassId) (h0 : Nat) (p0 : Int32) (tB : Nat) (tl : Int32) (ta : Int32) (fB : Nat → Int32) (sz : Nat) (n_p0 : 1 ≤ p0.toInt ∧ p0.toInt ≤ 255) (n_ta : 0 ≤ ta.toInt ∧ ta.toInt ≤ 240) (n_tl : 0 ≤ tl.toInt ∧ tl.toInt ≤ 240) (hty : zTy tl fB)   : Met l yX9_takes (.code yX9_takes cX9_takes 2 (some .boolean) :: wA) ({ frames := 1, cells := 0, slots := 0, locals := 20 }) (zP (dC, dI) [(cI, .int), (cJ, .long)] [.ref h0, .int p0] sz [(h0, .inr (9, [.ref tB, .int tl, .int ta])), (tB, .inl (cI, 260, .inl fB))]) (va_Qi (fun (r : Int32) (u : Int32) => (0 ≤ r.toInt) ∧ (r.toInt ≤ 1) ∧ (0 ≤ u.toInt) ∧ (u.toInt ≤ 240) ∧ (ta.toInt ≤ u.toInt) ∧ (zTk fB tl ta p0 r u)) (fun (u : Int32) (t : State) => va_P (dC, dI) vwCl [(h0, .inr (9, [.ref tB, .int tl, .int u])), (tB, .inl (cI, 260, .inl fB))] t.heap ∧ va_D (va_A [(h0, .inr (9, [.ref tB, .int tl, .int ta])), (tB, .inl (cI, 260, .inl fB))] sz) [(h0, .inr (9, [.ref tB, .int tl, .int u])), (tB, .inl (cI, 260, .inl fB))]) (va_A [(h0, .inr (9, [.ref tB, .int tl, .int ta])), (tB, .inl (cI, 260, .inl fB))] sz)) 0 0 (va_A [(h0, .inr (9, [.ref tB, .int tl, .int ta])), (tB, .inl (cI, 260, .inl fB))] sz) := by
  refine Met.ofW (cc := cX9_takes) (maxL := 2) (ret := (some .boolean)) (by decide) rfl ?_
  intro p e s m args below meth c s₁ B hml hv
  obtain ⟨hargs, hsz, hP, hK, hT⟩ := hv
  have hx := B.exec
  have hb := B.bytes
  have hr := B.returns
  have hts : ∀ w ∈ wA, w.before args s = true := fun w h => atoms_spec (ws := .code yX9_takes cX9_takes 2 (some .boolean) :: wA) B.pre w (List.mem_cons_of_mem _ h)
  have hown : s.vm.findClass RX9 = some m.cls := findClass_of_methodNamed B.named
  have hlocks := B.notSynchronized
  subst hsz
  have hD := hT.self (sz := s.heap.size)
  generalize hAe : va_A [(h0, .inr (9, [.ref tB, .int tl, .int ta])), (tB, .inl (cI, 260, .inl fB))] s.heap.size = A at hD ⊢
  have hA : ∀ q : Nat, s.heap.size ≤ q → A q := fun q h => by rw [← hAe]; exact Or.inr h
  have hl := lv_entry ([.ref h0, .int p0]) (n := 2) (Nat.le_of_ble_eq_true rfl)
  rw [show entryFrame m args 2 = entryFrame m ([.ref h0, .int p0] : List Value).toArray 2 by rw [hargs], lg_entry_eq]
  generalize (lg_sl ([.ref h0, .int p0]) ++ List.replicate (2 - (lg_sl ([.ref h0, .int p0])).length) Slot.unset).toArray = ls at hl ⊢
  have hl : lv_has ls 2 [(0, .ref h0), (1, .int p0)] := hl
  refine zstart (fun H hH => ?_)
  rw [← hH] at hP
  have hS : va_S A s.heap H [] := by rw [hH]; exact va_S.rf
  generalize ([] : List Loc) = locs at hS ⊢
  refine zgen (fun R Q hR hQ => ?_)
  refine lv_aload_n hx hb dX9_takes_0 rfl (lv_at hl 0 rfl) ?_
  obtain ⟨hPc, hDc, hFc⟩ := zc3 (wc := [(h0, .inr (9, [.ref tB, .int tl, .int ta])), (tB, .inl (cI, 260, .inl fB))]) hP hD hS hA [0, 1] (by decide +kernel) rfl
  refine va_calli (va_runV (As := []) (rest := []) ⟨hx, hb, hml, hown, hts⟩ (g_X9_peek l dC dI cI cJ h0 tB tl ta fB H.size n_ta n_tl (hty)) (cwV 0 hts (zgV qw475 qw438 qw439 qw99 qw440) rfl rfl rfl hd_X9_peek ⟨by rw [hR]; exact Nat.le_of_ble_eq_true rfl, by rw [hR]; exact Nat.le_of_ble_eq_true rfl⟩) (zPV hPc hK hDc (va_recv (q := (RX9, TX9, 3)) hK hP (ci := 9) (q0 := 0) rfl rfl)) rfl rfl hl.1 rfl (lv_room (Nat.le_of_ble_eq_true rfl)) dX9_takes_1 ⟨Nat.zero_le _, Nat.zero_le _⟩) hS (fun q _ h => hFc q h) hFc (fun v1 u1 t H locs ht hvm hw hB hz1 hk1 hS9 => ?_)
  obtain ⟨u1_0, rfl⟩ : ∃ z, z = u1 := ⟨_, rfl⟩
  obtain ⟨hP9, hD9⟩ := zj2 (wX := [(h0, .inr (9, [.ref tB, .int tl, .int u1_0])), (tB, .inl (cI, 260, .inl fB))]) hP hD hk1 hFc ht hB [0, 1] [(true, 0), (true, 1)] rfl (by decide +kernel) (by decide +kernel) rfl
  clear hP hD hS hPc hDc hFc hB hk1 hz1 hvm
  have hP := hP9
  have hD := hD9
  have hS := hS9
  clear hP9 hD9 hS9
  obtain ⟨f1_0, f1_1, f1_2, f1_3, f1_4⟩ : (0 ≤ u1_0.toInt) ∧ (u1_0.toInt ≤ 240) ∧ (¬ v1.toInt = 0 → u1_0.toInt < tl.toInt) ∧ (ta.toInt ≤ u1_0.toInt) ∧ (zPK fB tl ta v1 u1_0) := hw
  have F1 := f1_4
  refine lv_iload_n hx hb dX9_takes_4 rfl (lv_at hl 1 rfl) ?_
  refine lv_icmp_eq (tgt := 10) hx hb dX9_takes_5 (by decide) (fun c5 => ?_) (fun c5 => ?_)
  · have c5 : v1.toInt = p0.toInt := z5 rfl rfl c5
    refine lv_aload_n hx hb dX9_takes_10 rfl (lv_at hl 0 rfl) ?_
    refine lv_dup hx hb dX9_takes_11 rfl ?_
    refine va_get (D := (dC, dI)) (ci := 9) (v := .int u1_0) (C := RX9) (T := TX9) (N := 3) hx hb hts iX9 hown hK hP 0 rfl rfl 2 (by decide) (hts _ qw139) (fun _ h9 => h9) rfl dX9_takes_12 ?_
    refine lv_iconst (v := 1) hx hb dX9_takes_15 (by decide) ?_
    refine lv_iadd hx hb dX9_takes_16 ?_
    refine lv_topi (fun v16 e16 => ?_)
    have i16 : v16.toInt = u1_0.toInt + 1 := zadd e16 rfl (by decide) (by omega) (by omega)
    refine va_put (D := (dC, dI)) (ci := 9) (v := .int v16) (ty := .int) (C := RX9) (T := TX9) (N := 3) hx hb hts iX9 tyX9 tyX9_ok nmX9 hown hK hP hD hS 0 rfl rfl 2 (by decide) (hts _ qw139) (fun _ h9 => h9) rfl (by decide +kernel) rfl rfl (Nat.le_of_ble_eq_true rfl) dX9_takes_17 (fun H locs hP9 hD9 hS9 => ?_)
    clear hP hD hS
    obtain ⟨hP, hD⟩ := zst (wX := [(h0, .inr (9, [.ref tB, .int tl, .int v16])), (tB, .inl (cI, 260, .inl fB))]) hP9 hD9 rfl
    have hS := hS9
    clear hP9 hD9 hS9
    refine lv_iconst (v := 1) hx hb dX9_takes_20 (by decide) ?_
    have zr0 : (1 : Int32).toInt = 1 := by decide
    rw [hQ]
    exact W.zret (v := 1) (ty := .boolean) hx hb hr rfl (fun t ht hW => ⟨⟨1, v16, rfl, ⟨by (try dsimp only); omega, by (try dsimp only); omega, by (try dsimp only); omega, by (try dsimp only); omega, by (try dsimp only); omega, ztkY F1 (by omega) (by omega) i16⟩, ⟨by rw [ht]; exact hP, hD⟩⟩, hS.F ht⟩) hS.2.2 dX9_takes_21
  · have c5 : ¬ v1.toInt = p0.toInt := z6 rfl rfl c5
    refine lv_iconst (v := 0) hx hb dX9_takes_8 (by decide) ?_
    have zr0 : (0 : Int32).toInt = 0 := by decide
    rw [hQ]
    exact W.zret (v := 0) (ty := .boolean) hx hb hr rfl (fun t ht hW => ⟨⟨0, u1_0, rfl, ⟨by (try dsimp only); omega, by (try dsimp only); omega, by (try dsimp only); omega, by (try dsimp only); omega, by (try dsimp only); omega, ztkN F1 (by omega) (by omega)⟩, ⟨by rw [ht]; exact hP, hD⟩⟩, hS.F ht⟩) hS.2.2 dX9_takes_9
set_option maxHeartbeats 4000000 in
set_option maxRecDepth 100000 in
theorem g_X9_number_4 (l : Launch) (dC : Nat → ClassId) (dI : Nat → Nat → Nat) (cI cJ : ClassId) (h0 : Nat) (tB : Nat) (tl : Int32) (ta : Int32) (fB : Nat → Int32) (sz : Nat) (n_ta : 0 ≤ ta.toInt ∧ ta.toInt ≤ 240) (n_tl : 0 ≤ tl.toInt ∧ tl.toInt ≤ 240)    : Met l yX9_number (.code yX9_number cX9_number 5 (some .int) :: wA) ({ frames := 0, cells := 0, slots := 0, locals := 0 }) (zP (dC, dI) [(cI, .int), (cJ, .long)] [.ref h0, .int 4, .int 9999] sz [(h0, .inr (9, [.ref tB, .int tl, .int ta])), (tB, .inl (cI, 260, .inl fB))]) (va_Qi (fun (r : Int32) (u : Int32) => ((-1) ≤ r.toInt) ∧ (r.toInt ≤ 9999) ∧ (0 ≤ u.toInt) ∧ (u.toInt ≤ 240) ∧ (zN4 fB tl ta r u) ∧ (0 ≤ r.toInt → r.toInt = sNv (sB fB tl.toInt) ta.toInt)) (fun (u : Int32) (t : State) => va_P (dC, dI) vwCl [(h0, .inr (9, [.ref tB, .int tl, .int u])), (tB, .inl (cI, 260, .inl fB))] t.heap ∧ va_D (va_A [(h0, .inr (9, [.ref tB, .int tl, .int ta])), (tB, .inl (cI, 260, .inl fB))] sz) [(h0, .inr (9, [.ref tB, .int tl, .int u])), (tB, .inl (cI, 260, .inl fB))]) (va_A [(h0, .inr (9, [.ref tB, .int tl, .int ta])), (tB, .inl (cI, 260, .inl fB))] sz)) 0 0 (va_A [(h0, .inr (9, [.ref tB, .int tl, .int ta])), (tB, .inl (cI, 260, .inl fB))] sz) := by
  refine Met.ofW (cc := cX9_number) (maxL := 5) (ret := (some .int)) (by decide) rfl ?_
  intro p e s m args below meth c s₁ B hml hv
  obtain ⟨hargs, hsz, hP, hK, hT⟩ := hv
  have hx := B.exec
  have hb := B.bytes
  have hr := B.returns
  have hts : ∀ w ∈ wA, w.before args s = true := fun w h => atoms_spec (ws := .code yX9_number cX9_number 5 (some .int) :: wA) B.pre w (List.mem_cons_of_mem _ h)
  have hown : s.vm.findClass RX9 = some m.cls := findClass_of_methodNamed B.named
  have hlocks := B.notSynchronized
  subst hsz
  have hD := hT.self (sz := s.heap.size)
  generalize hAe : va_A [(h0, .inr (9, [.ref tB, .int tl, .int ta])), (tB, .inl (cI, 260, .inl fB))] s.heap.size = A at hD ⊢
  have hA : ∀ q : Nat, s.heap.size ≤ q → A q := fun q h => by rw [← hAe]; exact Or.inr h
  have hl := lv_entry ([.ref h0, .int 4, .int 9999]) (n := 5) (Nat.le_of_ble_eq_true rfl)
  rw [show entryFrame m args 5 = entryFrame m ([.ref h0, .int 4, .int 9999] : List Value).toArray 5 by rw [hargs], lg_entry_eq]
  generalize (lg_sl ([.ref h0, .int 4, .int 9999]) ++ List.replicate (5 - (lg_sl ([.ref h0, .int 4, .int 9999])).length) Slot.unset).toArray = ls at hl ⊢
  have hl : lv_has ls 5 [(0, .ref h0), (1, .int 4), (2, .int 9999)] := hl
  refine zstart (fun H hH => ?_)
  rw [← hH] at hP
  have hS : va_S A s.heap H [] := by rw [hH]; exact va_S.rf
  generalize ([] : List Loc) = locs at hS ⊢
  refine zgen (fun R Q hR hQ => ?_)
  refine lv_iconst (v := 0) hx hb dX9_number_0 (by decide) ?_
  refine lv_istore_n (lv' := [(3, .int 0), (0, .ref h0), (1, .int 4), (2, .int 9999)]) hx hb dX9_number_1 rfl hl (by decide) rfl (fun ls hl => ?_)
  refine lv_iconst (v := 0) hx hb dX9_number_2 (by decide) ?_
  have J5 : ∀ (n : Nat) (m5_F_h0_2 : Int32) (m5_L_3 : Int32) (m5_L_4 : Int32), (0 ≤ m5_F_h0_2.toInt ∧ m5_F_h0_2.toInt ≤ 240) → (0 ≤ m5_L_3.toInt ∧ m5_L_3.toInt ≤ 99999) → (0 ≤ m5_L_4.toInt ∧ m5_L_4.toInt ≤ 241) → (m5_F_h0_2.toInt = ta.toInt + m5_L_4.toInt ∧ 0 ≤ m5_L_4.toInt ∧ m5_L_4.toInt ≤ 4) → (zDg fB tl ta m5_F_h0_2) → (zB4 m5_L_4 m5_L_3) → (0 ≤ m5_L_3.toInt ∧ m5_L_3.toInt ≤ 9999) → (zVd fB tl ta m5_L_4 m5_L_3) → (241 - m5_F_h0_2.toInt).toNat = n → ∀ (H : Heap) (locs : List Loc) (ls : Array Slot), va_P (dC, dI) vwCl [(h0, .inr (9, [.ref tB, .int tl, .int m5_F_h0_2])), (tB, .inl (cI, 260, .inl fB))] H → va_D A [(h0, .inr (9, [.ref tB, .int tl, .int m5_F_h0_2])), (tB, .inl (cI, 260, .inl fB))] → va_S A s.heap H locs → lv_has ls 5 [(4, .int m5_L_4), (3, .int m5_L_3), (0, .ref h0), (1, .int 4), (2, .int 9999)] → W p l e R s m args below meth c H locs 0 0 Q (F0 m 5 ls []) := by
    intro n5
    induction n5 using Nat.strongRecOn with
    | _ n5 ih5 =>
      intro m5_F_h0_2 m5_L_3 m5_L_4 jf5_0 jf5_1 jf5_2 jf5_3 jv5_0 jv5_1 jv5_2 jv5_3 hmu5 H locs ls hP hD hS hl
      refine lv_aload_n hx hb dX9_number_5 rfl (lv_at hl 2 rfl) ?_
      refine va_get (D := (dC, dI)) (ci := 9) (v := .int m5_F_h0_2) (C := RX9) (T := TX9) (N := 3) hx hb hts iX9 hown hK hP 0 rfl rfl 2 (by decide) (hts _ qw139) (fun _ h9 => h9) rfl dX9_number_6 ?_
      refine lv_aload_n hx hb dX9_number_9 rfl (lv_at hl 2 rfl) ?_
      refine va_get (D := (dC, dI)) (ci := 9) (v := .int tl) (C := RX9) (T := TX9) (N := 3) hx hb hts iX9 hown hK hP 0 rfl rfl 1 (by decide) (hts _ qw134) (fun _ h9 => h9) rfl dX9_number_10 ?_
      refine lv_icmp_ge (tgt := 86) hx hb dX9_number_13 (by decide) (fun c13 => ?_) (fun c13 => ?_)
      · have c13 : tl.toInt ≤ m5_F_h0_2.toInt := z3 rfl rfl c13
        refine lv_iload hx hb dX9_number_86 (lv_at hl 0 rfl) ?_
        refine lv_if_ne (tgt := 93) hx hb dX9_number_88 (by decide) (fun c88 => ?_) (fun c88 => ?_)
        · have c88 : ¬ m5_L_4.toInt = 0 := z6 rfl (by decide) c88
          refine lv_iload_n hx hb dX9_number_93 rfl (lv_at hl 1 rfl) ?_
          refine lv_iload_n hx hb dX9_number_94 rfl (lv_at hl 4 rfl) ?_
          refine lv_icmp_le (tgt := 110) hx hb dX9_number_95 (by decide) (fun c95 => ?_) (fun c95 => ?_)
          · have c95 : m5_L_3.toInt ≤ 9999 := z3 rfl (by decide) c95
            refine lv_iload_n hx hb dX9_number_110 rfl (lv_at hl 1 rfl) ?_
            rw [hQ]
            exact W.iret (v := m5_L_3) hx hb hr (fun t ht hW => ⟨⟨m5_L_3, m5_F_h0_2, rfl, ⟨by (try dsimp only); omega, by (try dsimp only); omega, by (try dsimp only); omega, by (try dsimp only); omega, zn4B jv5_0 (by first | exact zndE (by omega) | exact zndL e24 (by omega) (by omega) (by omega) | exact zndH e38 (by omega) (by omega) (by omega)) (show m5_F_h0_2.toInt = ta.toInt + m5_L_4.toInt by omega) (by omega) (by omega) (by omega), fun _ => by rcases (zn4B (r := m5_L_3) (b := m5_F_h0_2) jv5_0 (by first | exact zndE (by omega) | exact zndL e24 (by omega) (by omega) (by omega) | exact zndH e38 (by omega) (by omega) (by omega)) (show m5_F_h0_2.toInt = ta.toInt + m5_L_4.toInt by omega) (by omega) (by omega) (by omega)) with z | z; (exfalso; omega); exact zVdE jv5_3 (by omega) z.2⟩, ⟨by rw [ht]; exact hP, hD⟩⟩, hS.F ht⟩) hS.2.2 dX9_number_111
          · have c95 : 9999 < m5_L_3.toInt := z4 rfl (by decide) c95
            refine lv_aload_n hx hb dX9_number_98 rfl (lv_at hl 2 rfl) ?_
            refine lv_dup hx hb dX9_number_99 rfl ?_
            refine va_get (D := (dC, dI)) (ci := 9) (v := .int m5_F_h0_2) (C := RX9) (T := TX9) (N := 3) hx hb hts iX9 hown hK hP 0 rfl rfl 2 (by decide) (hts _ qw139) (fun _ h9 => h9) rfl dX9_number_100 ?_
            refine lv_iconst (v := 1) hx hb dX9_number_103 (by decide) ?_
            refine lv_isub hx hb dX9_number_104 ?_
            refine lv_topi (fun v104 e104 => ?_)
            have i104 : v104.toInt = m5_F_h0_2.toInt - 1 ∧ 0 ≤ v104.toInt := (fun h => ⟨h, by omega⟩) (zsub e104 rfl (by decide) (by omega) (by omega))
            refine va_put (D := (dC, dI)) (ci := 9) (v := .int v104) (ty := .int) (C := RX9) (T := TX9) (N := 3) hx hb hts iX9 tyX9 tyX9_ok nmX9 hown hK hP hD hS 0 rfl rfl 2 (by decide) (hts _ qw139) (fun _ h9 => h9) rfl (by decide +kernel) rfl rfl (Nat.le_of_ble_eq_true rfl) dX9_number_105 (fun H locs hP9 hD9 hS9 => ?_)
            clear hP hD hS
            obtain ⟨hP, hD⟩ := zst (wX := [(h0, .inr (9, [.ref tB, .int tl, .int v104])), (tB, .inl (cI, 260, .inl fB))]) hP9 hD9 rfl
            have hS := hS9
            clear hP9 hD9 hS9
            refine lv_iconst (v := (-1)) hx hb dX9_number_108 (by decide) ?_
            have zr0 : ((-1) : Int32).toInt = (-1) := by decide
            rw [hQ]
            exact W.iret (v := ((-1))) hx hb hr (fun t ht hW => ⟨⟨(-1), v104, rfl, ⟨by (try dsimp only); omega, by (try dsimp only); omega, by (try dsimp only); omega, by (try dsimp only); omega, by exfalso; omega, fun z => absurd z (by decide)⟩, ⟨by rw [ht]; exact hP, hD⟩⟩, hS.F ht⟩) hS.2.2 dX9_number_109
        · have c88 : m5_L_4.toInt = 0 := z5 rfl (by decide) c88
          refine lv_iconst (v := (-1)) hx hb dX9_number_91 (by decide) ?_
          have zr0 : ((-1) : Int32).toInt = (-1) := by decide
          rw [hQ]
          exact W.iret (v := ((-1))) hx hb hr (fun t ht hW => ⟨⟨(-1), m5_F_h0_2, rfl, ⟨by (try dsimp only); omega, by (try dsimp only); omega, by (try dsimp only); omega, by (try dsimp only); omega, zn4C (by first | exact zndE (by omega) | exact zndL e24 (by omega) (by omega) (by omega) | exact zndH e38 (by omega) (by omega) (by omega)) (by omega), fun z => absurd z (by decide)⟩, ⟨by rw [ht]; exact hP, hD⟩⟩, hS.F ht⟩) hS.2.2 dX9_number_92
      · have c13 : m5_F_h0_2.toInt < tl.toInt := z4 rfl rfl c13
        refine lv_aload_n hx hb dX9_number_16 rfl (lv_at hl 2 rfl) ?_
        refine va_get (D := (dC, dI)) (ci := 9) (v := .ref tB) (C := RX9) (T := TX9) (N := 3) hx hb hts iX9 hown hK hP 0 rfl rfl 0 (by decide) (hts _ qw132) (fun _ h9 => h9) rfl dX9_number_17 ?_
        refine lv_aload_n hx hb dX9_number_20 rfl (lv_at hl 2 rfl) ?_
        refine va_get (D := (dC, dI)) (ci := 9) (v := .int m5_F_h0_2) (C := RX9) (T := TX9) (N := 3) hx hb hts iX9 hown hK hP 0 rfl rfl 2 (by decide) (hts _ qw139) (fun _ h9 => h9) rfl dX9_number_21 ?_
        refine va_iald hx hb hK hP 1 0 rfl rfl (vp_in_iff.mpr ⟨by omega, by omega⟩) dX9_number_24 ?_
        refine lv_topi (fun v24 e24 => ?_)
        refine lv_bipush (v := 48) hx hb dX9_number_25 (by decide) ?_
        refine lv_icmp_lt (tgt := 86) hx hb dX9_number_27 (by decide) (fun c27 => ?_) (fun c27 => ?_)
        · have c27 : v24.toInt < 48 := z1 rfl (by decide) c27
          refine lv_iload hx hb dX9_number_86 (lv_at hl 0 rfl) ?_
          refine lv_if_ne (tgt := 93) hx hb dX9_number_88 (by decide) (fun c88 => ?_) (fun c88 => ?_)
          · have c88 : ¬ m5_L_4.toInt = 0 := z6 rfl (by decide) c88
            refine lv_iload_n hx hb dX9_number_93 rfl (lv_at hl 1 rfl) ?_
            refine lv_iload_n hx hb dX9_number_94 rfl (lv_at hl 4 rfl) ?_
            refine lv_icmp_le (tgt := 110) hx hb dX9_number_95 (by decide) (fun c95 => ?_) (fun c95 => ?_)
            · have c95 : m5_L_3.toInt ≤ 9999 := z3 rfl (by decide) c95
              refine lv_iload_n hx hb dX9_number_110 rfl (lv_at hl 1 rfl) ?_
              rw [hQ]
              exact W.iret (v := m5_L_3) hx hb hr (fun t ht hW => ⟨⟨m5_L_3, m5_F_h0_2, rfl, ⟨by (try dsimp only); omega, by (try dsimp only); omega, by (try dsimp only); omega, by (try dsimp only); omega, zn4B jv5_0 (by first | exact zndE (by omega) | exact zndL e24 (by omega) (by omega) (by omega) | exact zndH e38 (by omega) (by omega) (by omega)) (show m5_F_h0_2.toInt = ta.toInt + m5_L_4.toInt by omega) (by omega) (by omega) (by omega), fun _ => by rcases (zn4B (r := m5_L_3) (b := m5_F_h0_2) jv5_0 (by first | exact zndE (by omega) | exact zndL e24 (by omega) (by omega) (by omega) | exact zndH e38 (by omega) (by omega) (by omega)) (show m5_F_h0_2.toInt = ta.toInt + m5_L_4.toInt by omega) (by omega) (by omega) (by omega)) with z | z; (exfalso; omega); exact zVdE jv5_3 (by omega) z.2⟩, ⟨by rw [ht]; exact hP, hD⟩⟩, hS.F ht⟩) hS.2.2 dX9_number_111
            · have c95 : 9999 < m5_L_3.toInt := z4 rfl (by decide) c95
              refine lv_aload_n hx hb dX9_number_98 rfl (lv_at hl 2 rfl) ?_
              refine lv_dup hx hb dX9_number_99 rfl ?_
              refine va_get (D := (dC, dI)) (ci := 9) (v := .int m5_F_h0_2) (C := RX9) (T := TX9) (N := 3) hx hb hts iX9 hown hK hP 0 rfl rfl 2 (by decide) (hts _ qw139) (fun _ h9 => h9) rfl dX9_number_100 ?_
              refine lv_iconst (v := 1) hx hb dX9_number_103 (by decide) ?_
              refine lv_isub hx hb dX9_number_104 ?_
              refine lv_topi (fun v104 e104 => ?_)
              have i104 : v104.toInt = m5_F_h0_2.toInt - 1 ∧ 0 ≤ v104.toInt := (fun h => ⟨h, by omega⟩) (zsub e104 rfl (by decide) (by omega) (by omega))
              refine va_put (D := (dC, dI)) (ci := 9) (v := .int v104) (ty := .int) (C := RX9) (T := TX9) (N := 3) hx hb hts iX9 tyX9 tyX9_ok nmX9 hown hK hP hD hS 0 rfl rfl 2 (by decide) (hts _ qw139) (fun _ h9 => h9) rfl (by decide +kernel) rfl rfl (Nat.le_of_ble_eq_true rfl) dX9_number_105 (fun H locs hP9 hD9 hS9 => ?_)
              clear hP hD hS
              obtain ⟨hP, hD⟩ := zst (wX := [(h0, .inr (9, [.ref tB, .int tl, .int v104])), (tB, .inl (cI, 260, .inl fB))]) hP9 hD9 rfl
              have hS := hS9
              clear hP9 hD9 hS9
              refine lv_iconst (v := (-1)) hx hb dX9_number_108 (by decide) ?_
              have zr0 : ((-1) : Int32).toInt = (-1) := by decide
              rw [hQ]
              exact W.iret (v := ((-1))) hx hb hr (fun t ht hW => ⟨⟨(-1), v104, rfl, ⟨by (try dsimp only); omega, by (try dsimp only); omega, by (try dsimp only); omega, by (try dsimp only); omega, by exfalso; omega, fun z => absurd z (by decide)⟩, ⟨by rw [ht]; exact hP, hD⟩⟩, hS.F ht⟩) hS.2.2 dX9_number_109
          · have c88 : m5_L_4.toInt = 0 := z5 rfl (by decide) c88
            refine lv_iconst (v := (-1)) hx hb dX9_number_91 (by decide) ?_
            have zr0 : ((-1) : Int32).toInt = (-1) := by decide
            rw [hQ]
            exact W.iret (v := ((-1))) hx hb hr (fun t ht hW => ⟨⟨(-1), m5_F_h0_2, rfl, ⟨by (try dsimp only); omega, by (try dsimp only); omega, by (try dsimp only); omega, by (try dsimp only); omega, zn4C (by first | exact zndE (by omega) | exact zndL e24 (by omega) (by omega) (by omega) | exact zndH e38 (by omega) (by omega) (by omega)) (by omega), fun z => absurd z (by decide)⟩, ⟨by rw [ht]; exact hP, hD⟩⟩, hS.F ht⟩) hS.2.2 dX9_number_92
        · have c27 : 48 ≤ v24.toInt := z2 rfl (by decide) c27
          refine lv_aload_n hx hb dX9_number_30 rfl (lv_at hl 2 rfl) ?_
          refine va_get (D := (dC, dI)) (ci := 9) (v := .ref tB) (C := RX9) (T := TX9) (N := 3) hx hb hts iX9 hown hK hP 0 rfl rfl 0 (by decide) (hts _ qw132) (fun _ h9 => h9) rfl dX9_number_31 ?_
          refine lv_aload_n hx hb dX9_number_34 rfl (lv_at hl 2 rfl) ?_
          refine va_get (D := (dC, dI)) (ci := 9) (v := .int m5_F_h0_2) (C := RX9) (T := TX9) (N := 3) hx hb hts iX9 hown hK hP 0 rfl rfl 2 (by decide) (hts _ qw139) (fun _ h9 => h9) rfl dX9_number_35 ?_
          refine va_iald hx hb hK hP 1 0 rfl rfl (vp_in_iff.mpr ⟨by omega, by omega⟩) dX9_number_38 ?_
          refine lv_topi (fun v38 e38 => ?_)
          refine lv_bipush (v := 57) hx hb dX9_number_39 (by decide) ?_
          refine lv_icmp_gt (tgt := 86) hx hb dX9_number_41 (by decide) (fun c41 => ?_) (fun c41 => ?_)
          · have c41 : 57 < v38.toInt := z1 (by decide) rfl c41
            refine lv_iload hx hb dX9_number_86 (lv_at hl 0 rfl) ?_
            refine lv_if_ne (tgt := 93) hx hb dX9_number_88 (by decide) (fun c88 => ?_) (fun c88 => ?_)
            · have c88 : ¬ m5_L_4.toInt = 0 := z6 rfl (by decide) c88
              refine lv_iload_n hx hb dX9_number_93 rfl (lv_at hl 1 rfl) ?_
              refine lv_iload_n hx hb dX9_number_94 rfl (lv_at hl 4 rfl) ?_
              refine lv_icmp_le (tgt := 110) hx hb dX9_number_95 (by decide) (fun c95 => ?_) (fun c95 => ?_)
              · have c95 : m5_L_3.toInt ≤ 9999 := z3 rfl (by decide) c95
                refine lv_iload_n hx hb dX9_number_110 rfl (lv_at hl 1 rfl) ?_
                rw [hQ]
                exact W.iret (v := m5_L_3) hx hb hr (fun t ht hW => ⟨⟨m5_L_3, m5_F_h0_2, rfl, ⟨by (try dsimp only); omega, by (try dsimp only); omega, by (try dsimp only); omega, by (try dsimp only); omega, zn4B jv5_0 (by first | exact zndE (by omega) | exact zndL e24 (by omega) (by omega) (by omega) | exact zndH e38 (by omega) (by omega) (by omega)) (show m5_F_h0_2.toInt = ta.toInt + m5_L_4.toInt by omega) (by omega) (by omega) (by omega), fun _ => by rcases (zn4B (r := m5_L_3) (b := m5_F_h0_2) jv5_0 (by first | exact zndE (by omega) | exact zndL e24 (by omega) (by omega) (by omega) | exact zndH e38 (by omega) (by omega) (by omega)) (show m5_F_h0_2.toInt = ta.toInt + m5_L_4.toInt by omega) (by omega) (by omega) (by omega)) with z | z; (exfalso; omega); exact zVdE jv5_3 (by omega) z.2⟩, ⟨by rw [ht]; exact hP, hD⟩⟩, hS.F ht⟩) hS.2.2 dX9_number_111
              · have c95 : 9999 < m5_L_3.toInt := z4 rfl (by decide) c95
                refine lv_aload_n hx hb dX9_number_98 rfl (lv_at hl 2 rfl) ?_
                refine lv_dup hx hb dX9_number_99 rfl ?_
                refine va_get (D := (dC, dI)) (ci := 9) (v := .int m5_F_h0_2) (C := RX9) (T := TX9) (N := 3) hx hb hts iX9 hown hK hP 0 rfl rfl 2 (by decide) (hts _ qw139) (fun _ h9 => h9) rfl dX9_number_100 ?_
                refine lv_iconst (v := 1) hx hb dX9_number_103 (by decide) ?_
                refine lv_isub hx hb dX9_number_104 ?_
                refine lv_topi (fun v104 e104 => ?_)
                have i104 : v104.toInt = m5_F_h0_2.toInt - 1 ∧ 0 ≤ v104.toInt := (fun h => ⟨h, by omega⟩) (zsub e104 rfl (by decide) (by omega) (by omega))
                refine va_put (D := (dC, dI)) (ci := 9) (v := .int v104) (ty := .int) (C := RX9) (T := TX9) (N := 3) hx hb hts iX9 tyX9 tyX9_ok nmX9 hown hK hP hD hS 0 rfl rfl 2 (by decide) (hts _ qw139) (fun _ h9 => h9) rfl (by decide +kernel) rfl rfl (Nat.le_of_ble_eq_true rfl) dX9_number_105 (fun H locs hP9 hD9 hS9 => ?_)
                clear hP hD hS
                obtain ⟨hP, hD⟩ := zst (wX := [(h0, .inr (9, [.ref tB, .int tl, .int v104])), (tB, .inl (cI, 260, .inl fB))]) hP9 hD9 rfl
                have hS := hS9
                clear hP9 hD9 hS9
                refine lv_iconst (v := (-1)) hx hb dX9_number_108 (by decide) ?_
                have zr0 : ((-1) : Int32).toInt = (-1) := by decide
                rw [hQ]
                exact W.iret (v := ((-1))) hx hb hr (fun t ht hW => ⟨⟨(-1), v104, rfl, ⟨by (try dsimp only); omega, by (try dsimp only); omega, by (try dsimp only); omega, by (try dsimp only); omega, by exfalso; omega, fun z => absurd z (by decide)⟩, ⟨by rw [ht]; exact hP, hD⟩⟩, hS.F ht⟩) hS.2.2 dX9_number_109
            · have c88 : m5_L_4.toInt = 0 := z5 rfl (by decide) c88
              refine lv_iconst (v := (-1)) hx hb dX9_number_91 (by decide) ?_
              have zr0 : ((-1) : Int32).toInt = (-1) := by decide
              rw [hQ]
              exact W.iret (v := ((-1))) hx hb hr (fun t ht hW => ⟨⟨(-1), m5_F_h0_2, rfl, ⟨by (try dsimp only); omega, by (try dsimp only); omega, by (try dsimp only); omega, by (try dsimp only); omega, zn4C (by first | exact zndE (by omega) | exact zndL e24 (by omega) (by omega) (by omega) | exact zndH e38 (by omega) (by omega) (by omega)) (by omega), fun z => absurd z (by decide)⟩, ⟨by rw [ht]; exact hP, hD⟩⟩, hS.F ht⟩) hS.2.2 dX9_number_92
          · have c41 : v38.toInt ≤ 57 := z2 (by decide) rfl c41
            refine lv_iload hx hb dX9_number_44 (lv_at hl 0 rfl) ?_
            refine lv_iload_n hx hb dX9_number_46 rfl (lv_at hl 3 rfl) ?_
            refine lv_icmp_ne (tgt := 52) hx hb dX9_number_47 (by decide) (fun c47 => ?_) (fun c47 => ?_)
            · have c47 : ¬ m5_L_4.toInt = 4 := z6 rfl (by decide) c47
              refine lv_bipush (v := 10) hx hb dX9_number_52 (by decide) ?_
              refine lv_iload_n hx hb dX9_number_54 rfl (lv_at hl 1 rfl) ?_
              refine lv_imul hx hb dX9_number_55 ?_
              refine lv_topi (fun v55 e55 => ?_)
              have i55 : v55.toInt = 10 * m5_L_3.toInt := zmul e55 (by decide) rfl (by omega) (by omega)
              refine lv_aload_n hx hb dX9_number_56 rfl (lv_at hl 2 rfl) ?_
              refine va_get (D := (dC, dI)) (ci := 9) (v := .ref tB) (C := RX9) (T := TX9) (N := 3) hx hb hts iX9 hown hK hP 0 rfl rfl 0 (by decide) (hts _ qw132) (fun _ h9 => h9) rfl dX9_number_57 ?_
              refine lv_aload_n hx hb dX9_number_60 rfl (lv_at hl 2 rfl) ?_
              refine va_get (D := (dC, dI)) (ci := 9) (v := .int m5_F_h0_2) (C := RX9) (T := TX9) (N := 3) hx hb hts iX9 hown hK hP 0 rfl rfl 2 (by decide) (hts _ qw139) (fun _ h9 => h9) rfl dX9_number_61 ?_
              refine va_iald hx hb hK hP 1 0 rfl rfl (vp_in_iff.mpr ⟨by omega, by omega⟩) dX9_number_64 ?_
              refine lv_topi (fun v64 e64 => ?_)
              have i64 : 48 ≤ v64.toInt ∧ v64.toInt ≤ 57 := ⟨by rw [e64, ← e24]; omega, by rw [e64, ← e38]; omega⟩
              refine lv_iadd hx hb dX9_number_65 ?_
              refine lv_topi (fun v65 e65 => ?_)
              have i65 : v65.toInt = v55.toInt + v64.toInt := zadd e65 rfl rfl (by omega) (by omega)
              refine lv_bipush (v := 48) hx hb dX9_number_66 (by decide) ?_
              refine lv_isub hx hb dX9_number_68 ?_
              refine lv_topi (fun v68 e68 => ?_)
              have i68 : v68.toInt = v65.toInt - 48 := zsub e68 rfl (by decide) (by omega) (by omega)
              refine lv_istore_n (lv' := [(3, .int v68), (4, .int m5_L_4), (0, .ref h0), (1, .int 4), (2, .int 9999)]) hx hb dX9_number_69 rfl hl (by decide) rfl (fun ls hl => ?_)
              obtain ⟨v70, e70⟩ : ∃ y : Int32, y = m5_L_4 + Int32.ofInt (1) := ⟨_, rfl⟩
              refine lv_iinc (v := v70) (lv' := [(4, .int v70), (3, .int v68), (0, .ref h0), (1, .int 4), (2, .int 9999)]) hx hb dX9_number_70 hl (k := 1) rfl e70.symm (by decide) rfl (fun ls hl => ?_)
              have i70 : v70.toInt = m5_L_4.toInt + 1 := zaddI e70 (by decide) (by omega) (by omega)
              refine lv_aload_n hx hb dX9_number_73 rfl (lv_at hl 2 rfl) ?_
              refine lv_dup hx hb dX9_number_74 rfl ?_
              refine va_get (D := (dC, dI)) (ci := 9) (v := .int m5_F_h0_2) (C := RX9) (T := TX9) (N := 3) hx hb hts iX9 hown hK hP 0 rfl rfl 2 (by decide) (hts _ qw139) (fun _ h9 => h9) rfl dX9_number_75 ?_
              refine lv_iconst (v := 1) hx hb dX9_number_78 (by decide) ?_
              refine lv_iadd hx hb dX9_number_79 ?_
              refine lv_topi (fun v79 e79 => ?_)
              have i79 : v79.toInt = m5_F_h0_2.toInt + 1 := zadd e79 rfl (by decide) (by omega) (by omega)
              refine va_put (D := (dC, dI)) (ci := 9) (v := .int v79) (ty := .int) (C := RX9) (T := TX9) (N := 3) hx hb hts iX9 tyX9 tyX9_ok nmX9 hown hK hP hD hS 0 rfl rfl 2 (by decide) (hts _ qw139) (fun _ h9 => h9) rfl (by decide +kernel) rfl rfl (Nat.le_of_ble_eq_true rfl) dX9_number_80 (fun H locs hP9 hD9 hS9 => ?_)
              clear hP hD hS
              obtain ⟨hP, hD⟩ := zst (wX := [(h0, .inr (9, [.ref tB, .int tl, .int v79])), (tB, .inl (cI, 260, .inl fB))]) hP9 hD9 rfl
              have hS := hS9
              clear hP9 hD9 hS9
              refine lv_goto (tgt := 5) hx hb dX9_number_83 (by decide) ?_
              exact ih5 _ (by omega) v79 v68 v70 (by omega) (by omega) (by omega) (by omega) (zDgS jv5_0 (by omega) (by omega) e24 e38 (by omega) (by omega) i79) (zB4S (x := v64) jv5_1 (by omega) (by omega) (by omega) (by omega) i70 (by omega)) (zB4b (zB4S (x := v64) jv5_1 (by omega) (by omega) (by omega) (by omega) i70 (by omega))) (zVdS (y := 0) jv5_3 (by omega) (by omega) (by omega) (by omega) e64 i70 (by omega)) rfl H locs ls hP hD hS (lv_sub hl [0, 1, 2, 3, 4] rfl)
            · have c47 : m5_L_4.toInt = 4 := z5 rfl (by decide) c47
              refine lv_iconst (v := (-1)) hx hb dX9_number_50 (by decide) ?_
              have zr0 : ((-1) : Int32).toInt = (-1) := by decide
              rw [hQ]
              exact W.iret (v := ((-1))) hx hb hr (fun t ht hW => ⟨⟨(-1), m5_F_h0_2, rfl, ⟨by (try dsimp only); omega, by (try dsimp only); omega, by (try dsimp only); omega, by (try dsimp only); omega, zn4A jv5_0 (by omega) (by omega) (by omega) e24 e38 (by omega) (by omega), fun z => absurd z (by decide)⟩, ⟨by rw [ht]; exact hP, hD⟩⟩, hS.F ht⟩) hS.2.2 dX9_number_51
  refine lv_istore (lv' := [(4, .int 0), (3, .int 0), (0, .ref h0), (1, .int 4), (2, .int 9999)]) hx hb dX9_number_3 hl (by decide) rfl (fun ls hl => ?_)
  have zj5_m5_L_3 : (0 : Int32).toInt = 0 := by decide
  have zj5_m5_L_4 : (0 : Int32).toInt = 0 := by decide
  exact J5 _ ta 0 0 n_ta (by decide) (by decide) (by omega) (zDg0) (zB40) (⟨by decide, by decide⟩) (zVd0) rfl H locs ls hP hD hS (lv_sub hl [0, 1, 2, 3, 4] rfl)
set_option maxHeartbeats 4000000 in
set_option maxRecDepth 100000 in
theorem g_X9_number_2 (l : Launch) (dC : Nat → ClassId) (dI : Nat → Nat → Nat) (cI cJ : ClassId) (h0 : Nat) (p1 : Int32) (tB : Nat) (tl : Int32) (ta : Int32) (fB : Nat → Int32) (sz : Nat) (n_p1 : 0 ≤ p1.toInt ∧ p1.toInt ≤ 99) (n_ta : 0 ≤ ta.toInt ∧ ta.toInt ≤ 240) (n_tl : 0 ≤ tl.toInt ∧ tl.toInt ≤ 240)    : Met l yX9_number (.code yX9_number cX9_number 5 (some .int) :: wA) ({ frames := 0, cells := 0, slots := 0, locals := 0 }) (zP (dC, dI) [(cI, .int), (cJ, .long)] [.ref h0, .int 2, .int p1] sz [(h0, .inr (9, [.ref tB, .int tl, .int ta])), (tB, .inl (cI, 260, .inl fB))]) (va_Qi (fun (r : Int32) (u : Int32) => ((-1) ≤ r.toInt) ∧ (r.toInt ≤ 99) ∧ (0 ≤ u.toInt) ∧ (u.toInt ≤ 240) ∧ (ta.toInt ≤ u.toInt) ∧ (zN2 fB tl ta p1 r u)) (fun (u : Int32) (t : State) => va_P (dC, dI) vwCl [(h0, .inr (9, [.ref tB, .int tl, .int u])), (tB, .inl (cI, 260, .inl fB))] t.heap ∧ va_D (va_A [(h0, .inr (9, [.ref tB, .int tl, .int ta])), (tB, .inl (cI, 260, .inl fB))] sz) [(h0, .inr (9, [.ref tB, .int tl, .int u])), (tB, .inl (cI, 260, .inl fB))]) (va_A [(h0, .inr (9, [.ref tB, .int tl, .int ta])), (tB, .inl (cI, 260, .inl fB))] sz)) 0 0 (va_A [(h0, .inr (9, [.ref tB, .int tl, .int ta])), (tB, .inl (cI, 260, .inl fB))] sz) := by
  refine Met.ofW (cc := cX9_number) (maxL := 5) (ret := (some .int)) (by decide) rfl ?_
  intro p e s m args below meth c s₁ B hml hv
  obtain ⟨hargs, hsz, hP, hK, hT⟩ := hv
  have hx := B.exec
  have hb := B.bytes
  have hr := B.returns
  have hts : ∀ w ∈ wA, w.before args s = true := fun w h => atoms_spec (ws := .code yX9_number cX9_number 5 (some .int) :: wA) B.pre w (List.mem_cons_of_mem _ h)
  have hown : s.vm.findClass RX9 = some m.cls := findClass_of_methodNamed B.named
  have hlocks := B.notSynchronized
  subst hsz
  have hD := hT.self (sz := s.heap.size)
  generalize hAe : va_A [(h0, .inr (9, [.ref tB, .int tl, .int ta])), (tB, .inl (cI, 260, .inl fB))] s.heap.size = A at hD ⊢
  have hA : ∀ q : Nat, s.heap.size ≤ q → A q := fun q h => by rw [← hAe]; exact Or.inr h
  have hl := lv_entry ([.ref h0, .int 2, .int p1]) (n := 5) (Nat.le_of_ble_eq_true rfl)
  rw [show entryFrame m args 5 = entryFrame m ([.ref h0, .int 2, .int p1] : List Value).toArray 5 by rw [hargs], lg_entry_eq]
  generalize (lg_sl ([.ref h0, .int 2, .int p1]) ++ List.replicate (5 - (lg_sl ([.ref h0, .int 2, .int p1])).length) Slot.unset).toArray = ls at hl ⊢
  have hl : lv_has ls 5 [(0, .ref h0), (1, .int 2), (2, .int p1)] := hl
  refine zstart (fun H hH => ?_)
  rw [← hH] at hP
  have hS : va_S A s.heap H [] := by rw [hH]; exact va_S.rf
  generalize ([] : List Loc) = locs at hS ⊢
  refine zgen (fun R Q hR hQ => ?_)
  refine lv_iconst (v := 0) hx hb dX9_number_0 (by decide) ?_
  refine lv_istore_n (lv' := [(3, .int 0), (0, .ref h0), (1, .int 2), (2, .int p1)]) hx hb dX9_number_1 rfl hl (by decide) rfl (fun ls hl => ?_)
  refine lv_iconst (v := 0) hx hb dX9_number_2 (by decide) ?_
  have J5 : ∀ (n : Nat) (m5_F_h0_2 : Int32) (m5_L_3 : Int32) (m5_L_4 : Int32), (0 ≤ m5_F_h0_2.toInt ∧ m5_F_h0_2.toInt ≤ 240) → (0 ≤ m5_L_3.toInt ∧ m5_L_3.toInt ≤ 99999) → (0 ≤ m5_L_4.toInt ∧ m5_L_4.toInt ≤ 241) → (m5_F_h0_2.toInt = ta.toInt + m5_L_4.toInt ∧ 0 ≤ m5_L_4.toInt ∧ m5_L_4.toInt ≤ 2) → (zDg fB tl ta m5_F_h0_2) → (zB2 m5_L_4 m5_L_3) → (0 ≤ m5_L_3.toInt ∧ m5_L_3.toInt ≤ 99) → (zV2 fB tl ta m5_L_4 m5_L_3) → (241 - m5_F_h0_2.toInt).toNat = n → ∀ (H : Heap) (locs : List Loc) (ls : Array Slot), va_P (dC, dI) vwCl [(h0, .inr (9, [.ref tB, .int tl, .int m5_F_h0_2])), (tB, .inl (cI, 260, .inl fB))] H → va_D A [(h0, .inr (9, [.ref tB, .int tl, .int m5_F_h0_2])), (tB, .inl (cI, 260, .inl fB))] → va_S A s.heap H locs → lv_has ls 5 [(4, .int m5_L_4), (3, .int m5_L_3), (0, .ref h0), (1, .int 2), (2, .int p1)] → W p l e R s m args below meth c H locs 0 0 Q (F0 m 5 ls []) := by
    intro n5
    induction n5 using Nat.strongRecOn with
    | _ n5 ih5 =>
      intro m5_F_h0_2 m5_L_3 m5_L_4 jf5_0 jf5_1 jf5_2 jf5_3 jv5_0 jv5_1 jv5_2 jv5_3 hmu5 H locs ls hP hD hS hl
      refine lv_aload_n hx hb dX9_number_5 rfl (lv_at hl 2 rfl) ?_
      refine va_get (D := (dC, dI)) (ci := 9) (v := .int m5_F_h0_2) (C := RX9) (T := TX9) (N := 3) hx hb hts iX9 hown hK hP 0 rfl rfl 2 (by decide) (hts _ qw139) (fun _ h9 => h9) rfl dX9_number_6 ?_
      refine lv_aload_n hx hb dX9_number_9 rfl (lv_at hl 2 rfl) ?_
      refine va_get (D := (dC, dI)) (ci := 9) (v := .int tl) (C := RX9) (T := TX9) (N := 3) hx hb hts iX9 hown hK hP 0 rfl rfl 1 (by decide) (hts _ qw134) (fun _ h9 => h9) rfl dX9_number_10 ?_
      refine lv_icmp_ge (tgt := 86) hx hb dX9_number_13 (by decide) (fun c13 => ?_) (fun c13 => ?_)
      · have c13 : tl.toInt ≤ m5_F_h0_2.toInt := z3 rfl rfl c13
        refine lv_iload hx hb dX9_number_86 (lv_at hl 0 rfl) ?_
        refine lv_if_ne (tgt := 93) hx hb dX9_number_88 (by decide) (fun c88 => ?_) (fun c88 => ?_)
        · have c88 : ¬ m5_L_4.toInt = 0 := z6 rfl (by decide) c88
          refine lv_iload_n hx hb dX9_number_93 rfl (lv_at hl 1 rfl) ?_
          refine lv_iload_n hx hb dX9_number_94 rfl (lv_at hl 4 rfl) ?_
          refine lv_icmp_le (tgt := 110) hx hb dX9_number_95 (by decide) (fun c95 => ?_) (fun c95 => ?_)
          · have c95 : m5_L_3.toInt ≤ p1.toInt := z3 rfl rfl c95
            refine lv_iload_n hx hb dX9_number_110 rfl (lv_at hl 1 rfl) ?_
            rw [hQ]
            exact W.iret (v := m5_L_3) hx hb hr (fun t ht hW => ⟨⟨m5_L_3, m5_F_h0_2, rfl, ⟨by (try dsimp only); omega, by (try dsimp only); omega, by (try dsimp only); omega, by (try dsimp only); omega, by (try dsimp only); omega, zn2B jv5_0 (by first | exact zndE (by omega) | exact zndL e24 (by omega) (by omega) (by omega) | exact zndH e38 (by omega) (by omega) (by omega)) (show m5_F_h0_2.toInt = ta.toInt + m5_L_4.toInt by omega) (by omega) (by omega) jv5_3 (by omega)⟩, ⟨by rw [ht]; exact hP, hD⟩⟩, hS.F ht⟩) hS.2.2 dX9_number_111
          · have c95 : p1.toInt < m5_L_3.toInt := z4 rfl rfl c95
            refine lv_aload_n hx hb dX9_number_98 rfl (lv_at hl 2 rfl) ?_
            refine lv_dup hx hb dX9_number_99 rfl ?_
            refine va_get (D := (dC, dI)) (ci := 9) (v := .int m5_F_h0_2) (C := RX9) (T := TX9) (N := 3) hx hb hts iX9 hown hK hP 0 rfl rfl 2 (by decide) (hts _ qw139) (fun _ h9 => h9) rfl dX9_number_100 ?_
            refine lv_iconst (v := 1) hx hb dX9_number_103 (by decide) ?_
            refine lv_isub hx hb dX9_number_104 ?_
            refine lv_topi (fun v104 e104 => ?_)
            have i104 : v104.toInt = m5_F_h0_2.toInt - 1 ∧ 0 ≤ v104.toInt := (fun h => ⟨h, by omega⟩) (zsub e104 rfl (by decide) (by omega) (by omega))
            refine va_put (D := (dC, dI)) (ci := 9) (v := .int v104) (ty := .int) (C := RX9) (T := TX9) (N := 3) hx hb hts iX9 tyX9 tyX9_ok nmX9 hown hK hP hD hS 0 rfl rfl 2 (by decide) (hts _ qw139) (fun _ h9 => h9) rfl (by decide +kernel) rfl rfl (Nat.le_of_ble_eq_true rfl) dX9_number_105 (fun H locs hP9 hD9 hS9 => ?_)
            clear hP hD hS
            obtain ⟨hP, hD⟩ := zst (wX := [(h0, .inr (9, [.ref tB, .int tl, .int v104])), (tB, .inl (cI, 260, .inl fB))]) hP9 hD9 rfl
            have hS := hS9
            clear hP9 hD9 hS9
            refine lv_iconst (v := (-1)) hx hb dX9_number_108 (by decide) ?_
            have zr0 : ((-1) : Int32).toInt = (-1) := by decide
            rw [hQ]
            exact W.iret (v := ((-1))) hx hb hr (fun t ht hW => ⟨⟨(-1), v104, rfl, ⟨by (try dsimp only); omega, by (try dsimp only); omega, by (try dsimp only); omega, by (try dsimp only); omega, by (try dsimp only); omega, zn2D jv5_0 (by first | exact zndE (by omega) | exact zndL e24 (by omega) (by omega) (by omega) | exact zndH e38 (by omega) (by omega) (by omega)) (show m5_F_h0_2.toInt = ta.toInt + m5_L_4.toInt by omega) (by omega) (by omega) jv5_3 (by omega) (by omega)⟩, ⟨by rw [ht]; exact hP, hD⟩⟩, hS.F ht⟩) hS.2.2 dX9_number_109
        · have c88 : m5_L_4.toInt = 0 := z5 rfl (by decide) c88
          refine lv_iconst (v := (-1)) hx hb dX9_number_91 (by decide) ?_
          have zr0 : ((-1) : Int32).toInt = (-1) := by decide
          rw [hQ]
          exact W.iret (v := ((-1))) hx hb hr (fun t ht hW => ⟨⟨(-1), m5_F_h0_2, rfl, ⟨by (try dsimp only); omega, by (try dsimp only); omega, by (try dsimp only); omega, by (try dsimp only); omega, by (try dsimp only); omega, zn2C (by first | exact zndE (by omega) | exact zndL e24 (by omega) (by omega) (by omega) | exact zndH e38 (by omega) (by omega) (by omega)) (by omega)⟩, ⟨by rw [ht]; exact hP, hD⟩⟩, hS.F ht⟩) hS.2.2 dX9_number_92
      · have c13 : m5_F_h0_2.toInt < tl.toInt := z4 rfl rfl c13
        refine lv_aload_n hx hb dX9_number_16 rfl (lv_at hl 2 rfl) ?_
        refine va_get (D := (dC, dI)) (ci := 9) (v := .ref tB) (C := RX9) (T := TX9) (N := 3) hx hb hts iX9 hown hK hP 0 rfl rfl 0 (by decide) (hts _ qw132) (fun _ h9 => h9) rfl dX9_number_17 ?_
        refine lv_aload_n hx hb dX9_number_20 rfl (lv_at hl 2 rfl) ?_
        refine va_get (D := (dC, dI)) (ci := 9) (v := .int m5_F_h0_2) (C := RX9) (T := TX9) (N := 3) hx hb hts iX9 hown hK hP 0 rfl rfl 2 (by decide) (hts _ qw139) (fun _ h9 => h9) rfl dX9_number_21 ?_
        refine va_iald hx hb hK hP 1 0 rfl rfl (vp_in_iff.mpr ⟨by omega, by omega⟩) dX9_number_24 ?_
        refine lv_topi (fun v24 e24 => ?_)
        refine lv_bipush (v := 48) hx hb dX9_number_25 (by decide) ?_
        refine lv_icmp_lt (tgt := 86) hx hb dX9_number_27 (by decide) (fun c27 => ?_) (fun c27 => ?_)
        · have c27 : v24.toInt < 48 := z1 rfl (by decide) c27
          refine lv_iload hx hb dX9_number_86 (lv_at hl 0 rfl) ?_
          refine lv_if_ne (tgt := 93) hx hb dX9_number_88 (by decide) (fun c88 => ?_) (fun c88 => ?_)
          · have c88 : ¬ m5_L_4.toInt = 0 := z6 rfl (by decide) c88
            refine lv_iload_n hx hb dX9_number_93 rfl (lv_at hl 1 rfl) ?_
            refine lv_iload_n hx hb dX9_number_94 rfl (lv_at hl 4 rfl) ?_
            refine lv_icmp_le (tgt := 110) hx hb dX9_number_95 (by decide) (fun c95 => ?_) (fun c95 => ?_)
            · have c95 : m5_L_3.toInt ≤ p1.toInt := z3 rfl rfl c95
              refine lv_iload_n hx hb dX9_number_110 rfl (lv_at hl 1 rfl) ?_
              rw [hQ]
              exact W.iret (v := m5_L_3) hx hb hr (fun t ht hW => ⟨⟨m5_L_3, m5_F_h0_2, rfl, ⟨by (try dsimp only); omega, by (try dsimp only); omega, by (try dsimp only); omega, by (try dsimp only); omega, by (try dsimp only); omega, zn2B jv5_0 (by first | exact zndE (by omega) | exact zndL e24 (by omega) (by omega) (by omega) | exact zndH e38 (by omega) (by omega) (by omega)) (show m5_F_h0_2.toInt = ta.toInt + m5_L_4.toInt by omega) (by omega) (by omega) jv5_3 (by omega)⟩, ⟨by rw [ht]; exact hP, hD⟩⟩, hS.F ht⟩) hS.2.2 dX9_number_111
            · have c95 : p1.toInt < m5_L_3.toInt := z4 rfl rfl c95
              refine lv_aload_n hx hb dX9_number_98 rfl (lv_at hl 2 rfl) ?_
              refine lv_dup hx hb dX9_number_99 rfl ?_
              refine va_get (D := (dC, dI)) (ci := 9) (v := .int m5_F_h0_2) (C := RX9) (T := TX9) (N := 3) hx hb hts iX9 hown hK hP 0 rfl rfl 2 (by decide) (hts _ qw139) (fun _ h9 => h9) rfl dX9_number_100 ?_
              refine lv_iconst (v := 1) hx hb dX9_number_103 (by decide) ?_
              refine lv_isub hx hb dX9_number_104 ?_
              refine lv_topi (fun v104 e104 => ?_)
              have i104 : v104.toInt = m5_F_h0_2.toInt - 1 ∧ 0 ≤ v104.toInt := (fun h => ⟨h, by omega⟩) (zsub e104 rfl (by decide) (by omega) (by omega))
              refine va_put (D := (dC, dI)) (ci := 9) (v := .int v104) (ty := .int) (C := RX9) (T := TX9) (N := 3) hx hb hts iX9 tyX9 tyX9_ok nmX9 hown hK hP hD hS 0 rfl rfl 2 (by decide) (hts _ qw139) (fun _ h9 => h9) rfl (by decide +kernel) rfl rfl (Nat.le_of_ble_eq_true rfl) dX9_number_105 (fun H locs hP9 hD9 hS9 => ?_)
              clear hP hD hS
              obtain ⟨hP, hD⟩ := zst (wX := [(h0, .inr (9, [.ref tB, .int tl, .int v104])), (tB, .inl (cI, 260, .inl fB))]) hP9 hD9 rfl
              have hS := hS9
              clear hP9 hD9 hS9
              refine lv_iconst (v := (-1)) hx hb dX9_number_108 (by decide) ?_
              have zr0 : ((-1) : Int32).toInt = (-1) := by decide
              rw [hQ]
              exact W.iret (v := ((-1))) hx hb hr (fun t ht hW => ⟨⟨(-1), v104, rfl, ⟨by (try dsimp only); omega, by (try dsimp only); omega, by (try dsimp only); omega, by (try dsimp only); omega, by (try dsimp only); omega, zn2D jv5_0 (by first | exact zndE (by omega) | exact zndL e24 (by omega) (by omega) (by omega) | exact zndH e38 (by omega) (by omega) (by omega)) (show m5_F_h0_2.toInt = ta.toInt + m5_L_4.toInt by omega) (by omega) (by omega) jv5_3 (by omega) (by omega)⟩, ⟨by rw [ht]; exact hP, hD⟩⟩, hS.F ht⟩) hS.2.2 dX9_number_109
          · have c88 : m5_L_4.toInt = 0 := z5 rfl (by decide) c88
            refine lv_iconst (v := (-1)) hx hb dX9_number_91 (by decide) ?_
            have zr0 : ((-1) : Int32).toInt = (-1) := by decide
            rw [hQ]
            exact W.iret (v := ((-1))) hx hb hr (fun t ht hW => ⟨⟨(-1), m5_F_h0_2, rfl, ⟨by (try dsimp only); omega, by (try dsimp only); omega, by (try dsimp only); omega, by (try dsimp only); omega, by (try dsimp only); omega, zn2C (by first | exact zndE (by omega) | exact zndL e24 (by omega) (by omega) (by omega) | exact zndH e38 (by omega) (by omega) (by omega)) (by omega)⟩, ⟨by rw [ht]; exact hP, hD⟩⟩, hS.F ht⟩) hS.2.2 dX9_number_92
        · have c27 : 48 ≤ v24.toInt := z2 rfl (by decide) c27
          refine lv_aload_n hx hb dX9_number_30 rfl (lv_at hl 2 rfl) ?_
          refine va_get (D := (dC, dI)) (ci := 9) (v := .ref tB) (C := RX9) (T := TX9) (N := 3) hx hb hts iX9 hown hK hP 0 rfl rfl 0 (by decide) (hts _ qw132) (fun _ h9 => h9) rfl dX9_number_31 ?_
          refine lv_aload_n hx hb dX9_number_34 rfl (lv_at hl 2 rfl) ?_
          refine va_get (D := (dC, dI)) (ci := 9) (v := .int m5_F_h0_2) (C := RX9) (T := TX9) (N := 3) hx hb hts iX9 hown hK hP 0 rfl rfl 2 (by decide) (hts _ qw139) (fun _ h9 => h9) rfl dX9_number_35 ?_
          refine va_iald hx hb hK hP 1 0 rfl rfl (vp_in_iff.mpr ⟨by omega, by omega⟩) dX9_number_38 ?_
          refine lv_topi (fun v38 e38 => ?_)
          refine lv_bipush (v := 57) hx hb dX9_number_39 (by decide) ?_
          refine lv_icmp_gt (tgt := 86) hx hb dX9_number_41 (by decide) (fun c41 => ?_) (fun c41 => ?_)
          · have c41 : 57 < v38.toInt := z1 (by decide) rfl c41
            refine lv_iload hx hb dX9_number_86 (lv_at hl 0 rfl) ?_
            refine lv_if_ne (tgt := 93) hx hb dX9_number_88 (by decide) (fun c88 => ?_) (fun c88 => ?_)
            · have c88 : ¬ m5_L_4.toInt = 0 := z6 rfl (by decide) c88
              refine lv_iload_n hx hb dX9_number_93 rfl (lv_at hl 1 rfl) ?_
              refine lv_iload_n hx hb dX9_number_94 rfl (lv_at hl 4 rfl) ?_
              refine lv_icmp_le (tgt := 110) hx hb dX9_number_95 (by decide) (fun c95 => ?_) (fun c95 => ?_)
              · have c95 : m5_L_3.toInt ≤ p1.toInt := z3 rfl rfl c95
                refine lv_iload_n hx hb dX9_number_110 rfl (lv_at hl 1 rfl) ?_
                rw [hQ]
                exact W.iret (v := m5_L_3) hx hb hr (fun t ht hW => ⟨⟨m5_L_3, m5_F_h0_2, rfl, ⟨by (try dsimp only); omega, by (try dsimp only); omega, by (try dsimp only); omega, by (try dsimp only); omega, by (try dsimp only); omega, zn2B jv5_0 (by first | exact zndE (by omega) | exact zndL e24 (by omega) (by omega) (by omega) | exact zndH e38 (by omega) (by omega) (by omega)) (show m5_F_h0_2.toInt = ta.toInt + m5_L_4.toInt by omega) (by omega) (by omega) jv5_3 (by omega)⟩, ⟨by rw [ht]; exact hP, hD⟩⟩, hS.F ht⟩) hS.2.2 dX9_number_111
              · have c95 : p1.toInt < m5_L_3.toInt := z4 rfl rfl c95
                refine lv_aload_n hx hb dX9_number_98 rfl (lv_at hl 2 rfl) ?_
                refine lv_dup hx hb dX9_number_99 rfl ?_
                refine va_get (D := (dC, dI)) (ci := 9) (v := .int m5_F_h0_2) (C := RX9) (T := TX9) (N := 3) hx hb hts iX9 hown hK hP 0 rfl rfl 2 (by decide) (hts _ qw139) (fun _ h9 => h9) rfl dX9_number_100 ?_
                refine lv_iconst (v := 1) hx hb dX9_number_103 (by decide) ?_
                refine lv_isub hx hb dX9_number_104 ?_
                refine lv_topi (fun v104 e104 => ?_)
                have i104 : v104.toInt = m5_F_h0_2.toInt - 1 ∧ 0 ≤ v104.toInt := (fun h => ⟨h, by omega⟩) (zsub e104 rfl (by decide) (by omega) (by omega))
                refine va_put (D := (dC, dI)) (ci := 9) (v := .int v104) (ty := .int) (C := RX9) (T := TX9) (N := 3) hx hb hts iX9 tyX9 tyX9_ok nmX9 hown hK hP hD hS 0 rfl rfl 2 (by decide) (hts _ qw139) (fun _ h9 => h9) rfl (by decide +kernel) rfl rfl (Nat.le_of_ble_eq_true rfl) dX9_number_105 (fun H locs hP9 hD9 hS9 => ?_)
                clear hP hD hS
                obtain ⟨hP, hD⟩ := zst (wX := [(h0, .inr (9, [.ref tB, .int tl, .int v104])), (tB, .inl (cI, 260, .inl fB))]) hP9 hD9 rfl
                have hS := hS9
                clear hP9 hD9 hS9
                refine lv_iconst (v := (-1)) hx hb dX9_number_108 (by decide) ?_
                have zr0 : ((-1) : Int32).toInt = (-1) := by decide
                rw [hQ]
                exact W.iret (v := ((-1))) hx hb hr (fun t ht hW => ⟨⟨(-1), v104, rfl, ⟨by (try dsimp only); omega, by (try dsimp only); omega, by (try dsimp only); omega, by (try dsimp only); omega, by (try dsimp only); omega, zn2D jv5_0 (by first | exact zndE (by omega) | exact zndL e24 (by omega) (by omega) (by omega) | exact zndH e38 (by omega) (by omega) (by omega)) (show m5_F_h0_2.toInt = ta.toInt + m5_L_4.toInt by omega) (by omega) (by omega) jv5_3 (by omega) (by omega)⟩, ⟨by rw [ht]; exact hP, hD⟩⟩, hS.F ht⟩) hS.2.2 dX9_number_109
            · have c88 : m5_L_4.toInt = 0 := z5 rfl (by decide) c88
              refine lv_iconst (v := (-1)) hx hb dX9_number_91 (by decide) ?_
              have zr0 : ((-1) : Int32).toInt = (-1) := by decide
              rw [hQ]
              exact W.iret (v := ((-1))) hx hb hr (fun t ht hW => ⟨⟨(-1), m5_F_h0_2, rfl, ⟨by (try dsimp only); omega, by (try dsimp only); omega, by (try dsimp only); omega, by (try dsimp only); omega, by (try dsimp only); omega, zn2C (by first | exact zndE (by omega) | exact zndL e24 (by omega) (by omega) (by omega) | exact zndH e38 (by omega) (by omega) (by omega)) (by omega)⟩, ⟨by rw [ht]; exact hP, hD⟩⟩, hS.F ht⟩) hS.2.2 dX9_number_92
          · have c41 : v38.toInt ≤ 57 := z2 (by decide) rfl c41
            refine lv_iload hx hb dX9_number_44 (lv_at hl 0 rfl) ?_
            refine lv_iload_n hx hb dX9_number_46 rfl (lv_at hl 3 rfl) ?_
            refine lv_icmp_ne (tgt := 52) hx hb dX9_number_47 (by decide) (fun c47 => ?_) (fun c47 => ?_)
            · have c47 : ¬ m5_L_4.toInt = 2 := z6 rfl (by decide) c47
              refine lv_bipush (v := 10) hx hb dX9_number_52 (by decide) ?_
              refine lv_iload_n hx hb dX9_number_54 rfl (lv_at hl 1 rfl) ?_
              refine lv_imul hx hb dX9_number_55 ?_
              refine lv_topi (fun v55 e55 => ?_)
              have i55 : v55.toInt = 10 * m5_L_3.toInt := zmul e55 (by decide) rfl (by omega) (by omega)
              refine lv_aload_n hx hb dX9_number_56 rfl (lv_at hl 2 rfl) ?_
              refine va_get (D := (dC, dI)) (ci := 9) (v := .ref tB) (C := RX9) (T := TX9) (N := 3) hx hb hts iX9 hown hK hP 0 rfl rfl 0 (by decide) (hts _ qw132) (fun _ h9 => h9) rfl dX9_number_57 ?_
              refine lv_aload_n hx hb dX9_number_60 rfl (lv_at hl 2 rfl) ?_
              refine va_get (D := (dC, dI)) (ci := 9) (v := .int m5_F_h0_2) (C := RX9) (T := TX9) (N := 3) hx hb hts iX9 hown hK hP 0 rfl rfl 2 (by decide) (hts _ qw139) (fun _ h9 => h9) rfl dX9_number_61 ?_
              refine va_iald hx hb hK hP 1 0 rfl rfl (vp_in_iff.mpr ⟨by omega, by omega⟩) dX9_number_64 ?_
              refine lv_topi (fun v64 e64 => ?_)
              have i64 : 48 ≤ v64.toInt ∧ v64.toInt ≤ 57 := ⟨by rw [e64, ← e24]; omega, by rw [e64, ← e38]; omega⟩
              refine lv_iadd hx hb dX9_number_65 ?_
              refine lv_topi (fun v65 e65 => ?_)
              have i65 : v65.toInt = v55.toInt + v64.toInt := zadd e65 rfl rfl (by omega) (by omega)
              refine lv_bipush (v := 48) hx hb dX9_number_66 (by decide) ?_
              refine lv_isub hx hb dX9_number_68 ?_
              refine lv_topi (fun v68 e68 => ?_)
              have i68 : v68.toInt = v65.toInt - 48 := zsub e68 rfl (by decide) (by omega) (by omega)
              refine lv_istore_n (lv' := [(3, .int v68), (4, .int m5_L_4), (0, .ref h0), (1, .int 2), (2, .int p1)]) hx hb dX9_number_69 rfl hl (by decide) rfl (fun ls hl => ?_)
              obtain ⟨v70, e70⟩ : ∃ y : Int32, y = m5_L_4 + Int32.ofInt (1) := ⟨_, rfl⟩
              refine lv_iinc (v := v70) (lv' := [(4, .int v70), (3, .int v68), (0, .ref h0), (1, .int 2), (2, .int p1)]) hx hb dX9_number_70 hl (k := 1) rfl e70.symm (by decide) rfl (fun ls hl => ?_)
              have i70 : v70.toInt = m5_L_4.toInt + 1 := zaddI e70 (by decide) (by omega) (by omega)
              refine lv_aload_n hx hb dX9_number_73 rfl (lv_at hl 2 rfl) ?_
              refine lv_dup hx hb dX9_number_74 rfl ?_
              refine va_get (D := (dC, dI)) (ci := 9) (v := .int m5_F_h0_2) (C := RX9) (T := TX9) (N := 3) hx hb hts iX9 hown hK hP 0 rfl rfl 2 (by decide) (hts _ qw139) (fun _ h9 => h9) rfl dX9_number_75 ?_
              refine lv_iconst (v := 1) hx hb dX9_number_78 (by decide) ?_
              refine lv_iadd hx hb dX9_number_79 ?_
              refine lv_topi (fun v79 e79 => ?_)
              have i79 : v79.toInt = m5_F_h0_2.toInt + 1 := zadd e79 rfl (by decide) (by omega) (by omega)
              refine va_put (D := (dC, dI)) (ci := 9) (v := .int v79) (ty := .int) (C := RX9) (T := TX9) (N := 3) hx hb hts iX9 tyX9 tyX9_ok nmX9 hown hK hP hD hS 0 rfl rfl 2 (by decide) (hts _ qw139) (fun _ h9 => h9) rfl (by decide +kernel) rfl rfl (Nat.le_of_ble_eq_true rfl) dX9_number_80 (fun H locs hP9 hD9 hS9 => ?_)
              clear hP hD hS
              obtain ⟨hP, hD⟩ := zst (wX := [(h0, .inr (9, [.ref tB, .int tl, .int v79])), (tB, .inl (cI, 260, .inl fB))]) hP9 hD9 rfl
              have hS := hS9
              clear hP9 hD9 hS9
              refine lv_goto (tgt := 5) hx hb dX9_number_83 (by decide) ?_
              exact ih5 _ (by omega) v79 v68 v70 (by omega) (by omega) (by omega) (by omega) (zDgS jv5_0 (by omega) (by omega) e24 e38 (by omega) (by omega) i79) (zB2S (x := v64) jv5_1 (by omega) (by omega) (by omega) (by omega) i70 (by omega)) (zB2b (zB2S (x := v64) jv5_1 (by omega) (by omega) (by omega) (by omega) i70 (by omega))) (zV2S jv5_3 (by omega) (by omega) (by omega) (by omega) (by omega) (by omega) e64 i70 (by omega)) rfl H locs ls hP hD hS (lv_sub hl [0, 1, 2, 3, 4] rfl)
            · have c47 : m5_L_4.toInt = 2 := z5 rfl (by decide) c47
              refine lv_iconst (v := (-1)) hx hb dX9_number_50 (by decide) ?_
              have zr0 : ((-1) : Int32).toInt = (-1) := by decide
              rw [hQ]
              exact W.iret (v := ((-1))) hx hb hr (fun t ht hW => ⟨⟨(-1), m5_F_h0_2, rfl, ⟨by (try dsimp only); omega, by (try dsimp only); omega, by (try dsimp only); omega, by (try dsimp only); omega, by (try dsimp only); omega, zn2A jv5_0 (by omega) (by omega) (by omega) e24 e38 (by omega) (by omega)⟩, ⟨by rw [ht]; exact hP, hD⟩⟩, hS.F ht⟩) hS.2.2 dX9_number_51
  refine lv_istore (lv' := [(4, .int 0), (3, .int 0), (0, .ref h0), (1, .int 2), (2, .int p1)]) hx hb dX9_number_3 hl (by decide) rfl (fun ls hl => ?_)
  have zj5_m5_L_3 : (0 : Int32).toInt = 0 := by decide
  have zj5_m5_L_4 : (0 : Int32).toInt = 0 := by decide
  exact J5 _ ta 0 0 n_ta (by decide) (by decide) (by omega) (zDg0) (zB20) (⟨by decide, by decide⟩) (zV20) rfl H locs ls hP hD hS (lv_sub hl [0, 1, 2, 3, 4] rfl)
set_option maxHeartbeats 4000000 in
set_option maxRecDepth 100000 in
theorem g_X9_add_0 (l : Launch) (dC : Nat → ClassId) (dI : Nat → Nat → Nat) (cI cJ : ClassId) (h0 : Nat) (p0 : Int32) (tB : Nat) (tl : Int32) (ta : Int32) (fB : Nat → Int32) (sz : Nat) (n_tl : 0 ≤ tl.toInt ∧ tl.toInt ≤ 240) (hty : zTy tl fB)   : Met l yX9_add (.code yX9_add cX9_add 4 none :: wA) ({ frames := 0, cells := 0, slots := 0, locals := 0 }) (zP (dC, dI) [(cI, .int), (cJ, .long)] [.ref h0, .int p0] sz [(h0, .inr (9, [.ref tB, .int tl, .int ta])), (tB, .inl (cI, 260, .inl fB))]) (va_Qv (fun (u : Int32 × (Nat → Int32)) => (0 ≤ u.1.toInt) ∧ (u.1.toInt ≤ 244) ∧ ((sB u.2 u.1.toInt, u.1.toInt) = sW p0 4 (sB fB tl.toInt, tl.toInt)) ∧ (zTy u.1 u.2)) (fun (u : Int32 × (Nat → Int32)) (t : State) => va_P (dC, dI) vwCl [(h0, .inr (9, [.ref tB, .int u.1, .int ta])), (tB, .inl (cI, 260, .inl u.2))] t.heap ∧ va_D (va_A [(h0, .inr (9, [.ref tB, .int tl, .int ta])), (tB, .inl (cI, 260, .inl fB))] sz) [(h0, .inr (9, [.ref tB, .int u.1, .int ta])), (tB, .inl (cI, 260, .inl u.2))]) (va_A [(h0, .inr (9, [.ref tB, .int tl, .int ta])), (tB, .inl (cI, 260, .inl fB))] sz)) 0 0 (va_A [(h0, .inr (9, [.ref tB, .int tl, .int ta])), (tB, .inl (cI, 260, .inl fB))] sz) := by
  refine Met.ofW (cc := cX9_add) (maxL := 4) (ret := none) (by decide) rfl ?_
  intro p e s m args below meth c s₁ B hml hv
  obtain ⟨hargs, hsz, hP, hK, hT⟩ := hv
  have hx := B.exec
  have hb := B.bytes
  have hr := B.returns
  have hts : ∀ w ∈ wA, w.before args s = true := fun w h => atoms_spec (ws := .code yX9_add cX9_add 4 none :: wA) B.pre w (List.mem_cons_of_mem _ h)
  have hown : s.vm.findClass RX9 = some m.cls := findClass_of_methodNamed B.named
  have hlocks := B.notSynchronized
  subst hsz
  have hD := hT.self (sz := s.heap.size)
  generalize hAe : va_A [(h0, .inr (9, [.ref tB, .int tl, .int ta])), (tB, .inl (cI, 260, .inl fB))] s.heap.size = A at hD ⊢
  have hA : ∀ q : Nat, s.heap.size ≤ q → A q := fun q h => by rw [← hAe]; exact Or.inr h
  have hl := lv_entry ([.ref h0, .int p0]) (n := 4) (Nat.le_of_ble_eq_true rfl)
  rw [show entryFrame m args 4 = entryFrame m ([.ref h0, .int p0] : List Value).toArray 4 by rw [hargs], lg_entry_eq]
  generalize (lg_sl ([.ref h0, .int p0]) ++ List.replicate (4 - (lg_sl ([.ref h0, .int p0])).length) Slot.unset).toArray = ls at hl ⊢
  have hl : lv_has ls 4 [(0, .ref h0), (1, .int p0)] := hl
  refine zstart (fun H hH => ?_)
  rw [← hH] at hP
  have hS : va_S A s.heap H [] := by rw [hH]; exact va_S.rf
  generalize ([] : List Loc) = locs at hS ⊢
  refine zgen (fun R Q hR hQ => ?_)
  refine lv_bipush (v := 24) hx hb dX9_add_0 (by decide) ?_
  have J3 : ∀ (n : Nat) (m3_A_tB : Nat → Int32) (m3_F_h0_1 : Int32) (m3_L_2 : Int32), (0 ≤ m3_F_h0_1.toInt ∧ m3_F_h0_1.toInt ≤ 260) → ((-8) ≤ m3_L_2.toInt ∧ m3_L_2.toInt ≤ 24) → (zAd fB tl p0 m3_A_tB m3_F_h0_1 m3_L_2) → (zTy m3_F_h0_1 m3_A_tB) → (m3_L_2.toInt - (-9)).toNat = n → ∀ (H : Heap) (locs : List Loc) (ls : Array Slot), va_P (dC, dI) vwCl [(h0, .inr (9, [.ref tB, .int m3_F_h0_1, .int ta])), (tB, .inl (cI, 260, .inl m3_A_tB))] H → va_D A [(h0, .inr (9, [.ref tB, .int m3_F_h0_1, .int ta])), (tB, .inl (cI, 260, .inl m3_A_tB))] → va_S A s.heap H locs → lv_has ls 4 [(2, .int m3_L_2), (0, .ref h0), (1, .int p0)] → W p l e R s m args below meth c H locs 0 0 Q (F0 m 3 ls []) := by
    intro n3
    induction n3 using Nat.strongRecOn with
    | _ n3 ih3 =>
      intro m3_A_tB m3_F_h0_1 m3_L_2 jf3_0 jf3_1 jv3_0 jv3_1 hmu3 H locs ls hP hD hS hl
      refine lv_iload_n hx hb dX9_add_3 rfl (lv_at hl 0 rfl) ?_
      refine lv_if_lt (tgt := 57) hx hb dX9_add_4 (by decide) (fun c4 => ?_) (fun c4 => ?_)
      · have c4 : m3_L_2.toInt < 0 := z1 rfl (by decide) c4
        have q57 : 0 ≤ m3_F_h0_1.toInt ∧ m3_F_h0_1.toInt ≤ 244 := ⟨by omega, by have := zAdB jv3_0; omega⟩
        rw [hQ]
        exact W.vret hx hb hr (fun t ht hW => ⟨⟨(m3_F_h0_1, m3_A_tB), rfl, ⟨by (try dsimp only); omega, by (try dsimp only); omega, zAdE jv3_0 (by omega), jv3_1⟩, ⟨by rw [ht]; exact hP, hD⟩⟩, hS.F ht⟩) hS.2.2 dX9_add_57
      · have c4 : 0 ≤ m3_L_2.toInt := z2 rfl (by decide) c4
        refine lv_iload_n hx hb dX9_add_7 rfl (lv_at hl 2 rfl) ?_
        refine lv_iload_n hx hb dX9_add_8 rfl (lv_at hl 0 rfl) ?_
        refine lv_iushr hx hb dX9_add_9 rfl ?_
        refine lv_topi (fun v9 e9 => ?_)
        refine lv_sipush (v := 255) hx hb dX9_add_10 (by decide) ?_
        refine lv_iand hx hb dX9_add_13 ?_
        refine lv_topi (fun v13 e13 => ?_)
        have i13 : 0 ≤ v13.toInt ∧ v13.toInt ≤ 255 := zandr e13 (by decide) (by decide)
        refine lv_istore_n (lv' := [(3, .int v13), (2, .int m3_L_2), (0, .ref h0), (1, .int p0)]) hx hb dX9_add_14 rfl hl (by decide) rfl (fun ls hl => ?_)
        refine lv_iload_n hx hb dX9_add_15 rfl (lv_at hl 0 rfl) ?_
        refine lv_if_eq (tgt := 51) hx hb dX9_add_16 (by decide) (fun c16 => ?_) (fun c16 => ?_)
        · have c16 : v13.toInt = 0 := z5 rfl (by decide) c16
          obtain ⟨v51, e51⟩ : ∃ y : Int32, y = m3_L_2 + Int32.ofInt (-8) := ⟨_, rfl⟩
          refine lv_iinc (v := v51) (lv' := [(2, .int v51), (3, .int v13), (0, .ref h0), (1, .int p0)]) hx hb dX9_add_51 hl (k := 1) rfl e51.symm (by decide) rfl (fun ls hl => ?_)
          have i51 : v51.toInt = m3_L_2.toInt + (-8) := zaddI e51 (by decide) (by omega) (by omega)
          refine lv_goto (tgt := 3) hx hb dX9_add_54 (by decide) ?_
          exact ih3 _ (by omega) m3_A_tB m3_F_h0_1 v51 jf3_0 (by omega) (by first | exact zAdS1 jv3_0 (by omega) e9 e13 (by omega) e40 i47 (by omega) (by omega) | exact zAdX jv3_0 (by omega) (by omega) (by omega) | exact zAdS0 jv3_0 (by omega) e9 e13 (by omega) (by omega)) (by first | exact zTyS jv3_1 e40 i47 (by omega) (by omega) (by omega) | exact jv3_1) rfl H locs ls hP hD hS (lv_sub hl [0, 2, 3] rfl)
        · have c16 : ¬ v13.toInt = 0 := z6 rfl (by decide) c16
          refine lv_aload_n hx hb dX9_add_19 rfl (lv_at hl 2 rfl) ?_
          refine va_get (D := (dC, dI)) (ci := 9) (v := .int m3_F_h0_1) (C := RX9) (T := TX9) (N := 3) hx hb hts iX9 hown hK hP 0 rfl rfl 1 (by decide) (hts _ qw134) (fun _ h9 => h9) rfl dX9_add_20 ?_
          refine lv_aload_n hx hb dX9_add_23 rfl (lv_at hl 2 rfl) ?_
          refine va_get (D := (dC, dI)) (ci := 9) (v := .ref tB) (C := RX9) (T := TX9) (N := 3) hx hb hts iX9 hown hK hP 0 rfl rfl 0 (by decide) (hts _ qw132) (fun _ h9 => h9) rfl dX9_add_24 ?_
          refine va_alen (v := 260) hx hb hK hP 1 0 rfl rfl rfl dX9_add_27 ?_
          refine lv_icmp_ge (tgt := 51) hx hb dX9_add_28 (by decide) (fun c28 => ?_) (fun c28 => ?_)
          · have c28 : 260 ≤ m3_F_h0_1.toInt := z3 (by decide) rfl c28
            obtain ⟨v51, e51⟩ : ∃ y : Int32, y = m3_L_2 + Int32.ofInt (-8) := ⟨_, rfl⟩
            refine lv_iinc (v := v51) (lv' := [(2, .int v51), (3, .int v13), (0, .ref h0), (1, .int p0)]) hx hb dX9_add_51 hl (k := 1) rfl e51.symm (by decide) rfl (fun ls hl => ?_)
            have i51 : v51.toInt = m3_L_2.toInt + (-8) := zaddI e51 (by decide) (by omega) (by omega)
            refine lv_goto (tgt := 3) hx hb dX9_add_54 (by decide) ?_
            exact ih3 _ (by omega) m3_A_tB m3_F_h0_1 v51 jf3_0 (by omega) (by first | exact zAdS1 jv3_0 (by omega) e9 e13 (by omega) e40 i47 (by omega) (by omega) | exact zAdX jv3_0 (by omega) (by omega) (by omega) | exact zAdS0 jv3_0 (by omega) e9 e13 (by omega) (by omega)) (by first | exact zTyS jv3_1 e40 i47 (by omega) (by omega) (by omega) | exact jv3_1) rfl H locs ls hP hD hS (lv_sub hl [0, 2, 3] rfl)
          · have c28 : m3_F_h0_1.toInt < 260 := z4 (by decide) rfl c28
            refine lv_aload_n hx hb dX9_add_31 rfl (lv_at hl 2 rfl) ?_
            refine va_get (D := (dC, dI)) (ci := 9) (v := .ref tB) (C := RX9) (T := TX9) (N := 3) hx hb hts iX9 hown hK hP 0 rfl rfl 0 (by decide) (hts _ qw132) (fun _ h9 => h9) rfl dX9_add_32 ?_
            refine lv_aload_n hx hb dX9_add_35 rfl (lv_at hl 2 rfl) ?_
            refine va_get (D := (dC, dI)) (ci := 9) (v := .int m3_F_h0_1) (C := RX9) (T := TX9) (N := 3) hx hb hts iX9 hown hK hP 0 rfl rfl 1 (by decide) (hts _ qw134) (fun _ h9 => h9) rfl dX9_add_36 ?_
            refine lv_iload_n hx hb dX9_add_39 rfl (lv_at hl 0 rfl) ?_
            refine va_iast hx hb hK hP hD hS 1 0 rfl rfl (vp_in_iff.mpr ⟨by omega, by omega⟩) dX9_add_40 (fun H locs hP9 hD9 hS9 => ?_)
            clear hP hD hS
            obtain ⟨v40_f, e40⟩ : ∃ g : Nat → Int32, g = upd m3_A_tB (m3_F_h0_1).toNatClampNeg v13 := ⟨_, rfl⟩
            rw [← e40] at hP9 hD9
            obtain ⟨hP, hD⟩ := zst (wX := [(h0, .inr (9, [.ref tB, .int m3_F_h0_1, .int ta])), (tB, .inl (cI, 260, .inl v40_f))]) hP9 hD9 rfl
            have hS := hS9
            clear hP9 hD9 hS9
            refine lv_aload_n hx hb dX9_add_41 rfl (lv_at hl 2 rfl) ?_
            refine lv_dup hx hb dX9_add_42 rfl ?_
            refine va_get (D := (dC, dI)) (ci := 9) (v := .int m3_F_h0_1) (C := RX9) (T := TX9) (N := 3) hx hb hts iX9 hown hK hP 0 rfl rfl 1 (by decide) (hts _ qw134) (fun _ h9 => h9) rfl dX9_add_43 ?_
            refine lv_iconst (v := 1) hx hb dX9_add_46 (by decide) ?_
            refine lv_iadd hx hb dX9_add_47 ?_
            refine lv_topi (fun v47 e47 => ?_)
            have i47 : v47.toInt = m3_F_h0_1.toInt + 1 := zadd e47 rfl (by decide) (by omega) (by omega)
            refine va_put (D := (dC, dI)) (ci := 9) (v := .int v47) (ty := .int) (C := RX9) (T := TX9) (N := 3) hx hb hts iX9 tyX9 tyX9_ok nmX9 hown hK hP hD hS 0 rfl rfl 1 (by decide) (hts _ qw134) (fun _ h9 => h9) rfl (by decide +kernel) rfl rfl (Nat.le_of_ble_eq_true rfl) dX9_add_48 (fun H locs hP9 hD9 hS9 => ?_)
            clear hP hD hS
            obtain ⟨hP, hD⟩ := zst (wX := [(h0, .inr (9, [.ref tB, .int v47, .int ta])), (tB, .inl (cI, 260, .inl v40_f))]) hP9 hD9 rfl
            have hS := hS9
            clear hP9 hD9 hS9
            obtain ⟨v51, e51⟩ : ∃ y : Int32, y = m3_L_2 + Int32.ofInt (-8) := ⟨_, rfl⟩
            refine lv_iinc (v := v51) (lv' := [(2, .int v51), (3, .int v13), (0, .ref h0), (1, .int p0)]) hx hb dX9_add_51 hl (k := 1) rfl e51.symm (by decide) rfl (fun ls hl => ?_)
            have i51 : v51.toInt = m3_L_2.toInt + (-8) := zaddI e51 (by decide) (by omega) (by omega)
            refine lv_goto (tgt := 3) hx hb dX9_add_54 (by decide) ?_
            exact ih3 _ (by omega) v40_f v47 v51 (by omega) (by omega) (by first | exact zAdS1 jv3_0 (by omega) e9 e13 (by omega) e40 i47 (by omega) (by omega) | exact zAdX jv3_0 (by omega) (by omega) (by omega) | exact zAdS0 jv3_0 (by omega) e9 e13 (by omega) (by omega)) (by first | exact zTyS jv3_1 e40 i47 (by omega) (by omega) (by omega) | exact jv3_1) rfl H locs ls hP hD hS (lv_sub hl [0, 2, 3] rfl)
  refine lv_istore_n (lv' := [(2, .int 24), (0, .ref h0), (1, .int p0)]) hx hb dX9_add_2 rfl hl (by decide) rfl (fun ls hl => ?_)
  have zj3_m3_L_2 : (24 : Int32).toInt = 24 := by decide
  exact J3 _ fB tl 24 (by omega) (by decide) (zAd0) (hty) rfl H locs ls hP hD hS (lv_sub hl [0, 1, 2] rfl)
set_option maxHeartbeats 4000000 in
set_option maxRecDepth 100000 in
theorem g_X9_add_1 (l : Launch) (dC : Nat → ClassId) (dI : Nat → Nat → Nat) (cI cJ : ClassId) (h0 : Nat) (p0 : Int32) (tB : Nat) (tl : Int32) (ta : Int32) (fB : Nat → Int32) (sz : Nat) (n_tl : 0 ≤ tl.toInt ∧ tl.toInt ≤ 244) (hty : zTy tl fB)   : Met l yX9_add (.code yX9_add cX9_add 4 none :: wA) ({ frames := 0, cells := 0, slots := 0, locals := 0 }) (zP (dC, dI) [(cI, .int), (cJ, .long)] [.ref h0, .int p0] sz [(h0, .inr (9, [.ref tB, .int tl, .int ta])), (tB, .inl (cI, 260, .inl fB))]) (va_Qv (fun (u : Int32 × (Nat → Int32)) => (0 ≤ u.1.toInt) ∧ (u.1.toInt ≤ 248) ∧ ((sB u.2 u.1.toInt, u.1.toInt) = sW p0 4 (sB fB tl.toInt, tl.toInt)) ∧ (zTy u.1 u.2)) (fun (u : Int32 × (Nat → Int32)) (t : State) => va_P (dC, dI) vwCl [(h0, .inr (9, [.ref tB, .int u.1, .int ta])), (tB, .inl (cI, 260, .inl u.2))] t.heap ∧ va_D (va_A [(h0, .inr (9, [.ref tB, .int tl, .int ta])), (tB, .inl (cI, 260, .inl fB))] sz) [(h0, .inr (9, [.ref tB, .int u.1, .int ta])), (tB, .inl (cI, 260, .inl u.2))]) (va_A [(h0, .inr (9, [.ref tB, .int tl, .int ta])), (tB, .inl (cI, 260, .inl fB))] sz)) 0 0 (va_A [(h0, .inr (9, [.ref tB, .int tl, .int ta])), (tB, .inl (cI, 260, .inl fB))] sz) := by
  refine Met.ofW (cc := cX9_add) (maxL := 4) (ret := none) (by decide) rfl ?_
  intro p e s m args below meth c s₁ B hml hv
  obtain ⟨hargs, hsz, hP, hK, hT⟩ := hv
  have hx := B.exec
  have hb := B.bytes
  have hr := B.returns
  have hts : ∀ w ∈ wA, w.before args s = true := fun w h => atoms_spec (ws := .code yX9_add cX9_add 4 none :: wA) B.pre w (List.mem_cons_of_mem _ h)
  have hown : s.vm.findClass RX9 = some m.cls := findClass_of_methodNamed B.named
  have hlocks := B.notSynchronized
  subst hsz
  have hD := hT.self (sz := s.heap.size)
  generalize hAe : va_A [(h0, .inr (9, [.ref tB, .int tl, .int ta])), (tB, .inl (cI, 260, .inl fB))] s.heap.size = A at hD ⊢
  have hA : ∀ q : Nat, s.heap.size ≤ q → A q := fun q h => by rw [← hAe]; exact Or.inr h
  have hl := lv_entry ([.ref h0, .int p0]) (n := 4) (Nat.le_of_ble_eq_true rfl)
  rw [show entryFrame m args 4 = entryFrame m ([.ref h0, .int p0] : List Value).toArray 4 by rw [hargs], lg_entry_eq]
  generalize (lg_sl ([.ref h0, .int p0]) ++ List.replicate (4 - (lg_sl ([.ref h0, .int p0])).length) Slot.unset).toArray = ls at hl ⊢
  have hl : lv_has ls 4 [(0, .ref h0), (1, .int p0)] := hl
  refine zstart (fun H hH => ?_)
  rw [← hH] at hP
  have hS : va_S A s.heap H [] := by rw [hH]; exact va_S.rf
  generalize ([] : List Loc) = locs at hS ⊢
  refine zgen (fun R Q hR hQ => ?_)
  refine lv_bipush (v := 24) hx hb dX9_add_0 (by decide) ?_
  have J3 : ∀ (n : Nat) (m3_A_tB : Nat → Int32) (m3_F_h0_1 : Int32) (m3_L_2 : Int32), (0 ≤ m3_F_h0_1.toInt ∧ m3_F_h0_1.toInt ≤ 260) → ((-8) ≤ m3_L_2.toInt ∧ m3_L_2.toInt ≤ 24) → (zAd fB tl p0 m3_A_tB m3_F_h0_1 m3_L_2) → (zTy m3_F_h0_1 m3_A_tB) → (m3_L_2.toInt - (-9)).toNat = n → ∀ (H : Heap) (locs : List Loc) (ls : Array Slot), va_P (dC, dI) vwCl [(h0, .inr (9, [.ref tB, .int m3_F_h0_1, .int ta])), (tB, .inl (cI, 260, .inl m3_A_tB))] H → va_D A [(h0, .inr (9, [.ref tB, .int m3_F_h0_1, .int ta])), (tB, .inl (cI, 260, .inl m3_A_tB))] → va_S A s.heap H locs → lv_has ls 4 [(2, .int m3_L_2), (0, .ref h0), (1, .int p0)] → W p l e R s m args below meth c H locs 0 0 Q (F0 m 3 ls []) := by
    intro n3
    induction n3 using Nat.strongRecOn with
    | _ n3 ih3 =>
      intro m3_A_tB m3_F_h0_1 m3_L_2 jf3_0 jf3_1 jv3_0 jv3_1 hmu3 H locs ls hP hD hS hl
      refine lv_iload_n hx hb dX9_add_3 rfl (lv_at hl 0 rfl) ?_
      refine lv_if_lt (tgt := 57) hx hb dX9_add_4 (by decide) (fun c4 => ?_) (fun c4 => ?_)
      · have c4 : m3_L_2.toInt < 0 := z1 rfl (by decide) c4
        have q57 : 0 ≤ m3_F_h0_1.toInt ∧ m3_F_h0_1.toInt ≤ 248 := ⟨by omega, by have := zAdB jv3_0; omega⟩
        rw [hQ]
        exact W.vret hx hb hr (fun t ht hW => ⟨⟨(m3_F_h0_1, m3_A_tB), rfl, ⟨by (try dsimp only); omega, by (try dsimp only); omega, zAdE jv3_0 (by omega), jv3_1⟩, ⟨by rw [ht]; exact hP, hD⟩⟩, hS.F ht⟩) hS.2.2 dX9_add_57
      · have c4 : 0 ≤ m3_L_2.toInt := z2 rfl (by decide) c4
        refine lv_iload_n hx hb dX9_add_7 rfl (lv_at hl 2 rfl) ?_
        refine lv_iload_n hx hb dX9_add_8 rfl (lv_at hl 0 rfl) ?_
        refine lv_iushr hx hb dX9_add_9 rfl ?_
        refine lv_topi (fun v9 e9 => ?_)
        refine lv_sipush (v := 255) hx hb dX9_add_10 (by decide) ?_
        refine lv_iand hx hb dX9_add_13 ?_
        refine lv_topi (fun v13 e13 => ?_)
        have i13 : 0 ≤ v13.toInt ∧ v13.toInt ≤ 255 := zandr e13 (by decide) (by decide)
        refine lv_istore_n (lv' := [(3, .int v13), (2, .int m3_L_2), (0, .ref h0), (1, .int p0)]) hx hb dX9_add_14 rfl hl (by decide) rfl (fun ls hl => ?_)
        refine lv_iload_n hx hb dX9_add_15 rfl (lv_at hl 0 rfl) ?_
        refine lv_if_eq (tgt := 51) hx hb dX9_add_16 (by decide) (fun c16 => ?_) (fun c16 => ?_)
        · have c16 : v13.toInt = 0 := z5 rfl (by decide) c16
          obtain ⟨v51, e51⟩ : ∃ y : Int32, y = m3_L_2 + Int32.ofInt (-8) := ⟨_, rfl⟩
          refine lv_iinc (v := v51) (lv' := [(2, .int v51), (3, .int v13), (0, .ref h0), (1, .int p0)]) hx hb dX9_add_51 hl (k := 1) rfl e51.symm (by decide) rfl (fun ls hl => ?_)
          have i51 : v51.toInt = m3_L_2.toInt + (-8) := zaddI e51 (by decide) (by omega) (by omega)
          refine lv_goto (tgt := 3) hx hb dX9_add_54 (by decide) ?_
          exact ih3 _ (by omega) m3_A_tB m3_F_h0_1 v51 jf3_0 (by omega) (by first | exact zAdS1 jv3_0 (by omega) e9 e13 (by omega) e40 i47 (by omega) (by omega) | exact zAdX jv3_0 (by omega) (by omega) (by omega) | exact zAdS0 jv3_0 (by omega) e9 e13 (by omega) (by omega)) (by first | exact zTyS jv3_1 e40 i47 (by omega) (by omega) (by omega) | exact jv3_1) rfl H locs ls hP hD hS (lv_sub hl [0, 2, 3] rfl)
        · have c16 : ¬ v13.toInt = 0 := z6 rfl (by decide) c16
          refine lv_aload_n hx hb dX9_add_19 rfl (lv_at hl 2 rfl) ?_
          refine va_get (D := (dC, dI)) (ci := 9) (v := .int m3_F_h0_1) (C := RX9) (T := TX9) (N := 3) hx hb hts iX9 hown hK hP 0 rfl rfl 1 (by decide) (hts _ qw134) (fun _ h9 => h9) rfl dX9_add_20 ?_
          refine lv_aload_n hx hb dX9_add_23 rfl (lv_at hl 2 rfl) ?_
          refine va_get (D := (dC, dI)) (ci := 9) (v := .ref tB) (C := RX9) (T := TX9) (N := 3) hx hb hts iX9 hown hK hP 0 rfl rfl 0 (by decide) (hts _ qw132) (fun _ h9 => h9) rfl dX9_add_24 ?_
          refine va_alen (v := 260) hx hb hK hP 1 0 rfl rfl rfl dX9_add_27 ?_
          refine lv_icmp_ge (tgt := 51) hx hb dX9_add_28 (by decide) (fun c28 => ?_) (fun c28 => ?_)
          · have c28 : 260 ≤ m3_F_h0_1.toInt := z3 (by decide) rfl c28
            obtain ⟨v51, e51⟩ : ∃ y : Int32, y = m3_L_2 + Int32.ofInt (-8) := ⟨_, rfl⟩
            refine lv_iinc (v := v51) (lv' := [(2, .int v51), (3, .int v13), (0, .ref h0), (1, .int p0)]) hx hb dX9_add_51 hl (k := 1) rfl e51.symm (by decide) rfl (fun ls hl => ?_)
            have i51 : v51.toInt = m3_L_2.toInt + (-8) := zaddI e51 (by decide) (by omega) (by omega)
            refine lv_goto (tgt := 3) hx hb dX9_add_54 (by decide) ?_
            exact ih3 _ (by omega) m3_A_tB m3_F_h0_1 v51 jf3_0 (by omega) (by first | exact zAdS1 jv3_0 (by omega) e9 e13 (by omega) e40 i47 (by omega) (by omega) | exact zAdX jv3_0 (by omega) (by omega) (by omega) | exact zAdS0 jv3_0 (by omega) e9 e13 (by omega) (by omega)) (by first | exact zTyS jv3_1 e40 i47 (by omega) (by omega) (by omega) | exact jv3_1) rfl H locs ls hP hD hS (lv_sub hl [0, 2, 3] rfl)
          · have c28 : m3_F_h0_1.toInt < 260 := z4 (by decide) rfl c28
            refine lv_aload_n hx hb dX9_add_31 rfl (lv_at hl 2 rfl) ?_
            refine va_get (D := (dC, dI)) (ci := 9) (v := .ref tB) (C := RX9) (T := TX9) (N := 3) hx hb hts iX9 hown hK hP 0 rfl rfl 0 (by decide) (hts _ qw132) (fun _ h9 => h9) rfl dX9_add_32 ?_
            refine lv_aload_n hx hb dX9_add_35 rfl (lv_at hl 2 rfl) ?_
            refine va_get (D := (dC, dI)) (ci := 9) (v := .int m3_F_h0_1) (C := RX9) (T := TX9) (N := 3) hx hb hts iX9 hown hK hP 0 rfl rfl 1 (by decide) (hts _ qw134) (fun _ h9 => h9) rfl dX9_add_36 ?_
            refine lv_iload_n hx hb dX9_add_39 rfl (lv_at hl 0 rfl) ?_
            refine va_iast hx hb hK hP hD hS 1 0 rfl rfl (vp_in_iff.mpr ⟨by omega, by omega⟩) dX9_add_40 (fun H locs hP9 hD9 hS9 => ?_)
            clear hP hD hS
            obtain ⟨v40_f, e40⟩ : ∃ g : Nat → Int32, g = upd m3_A_tB (m3_F_h0_1).toNatClampNeg v13 := ⟨_, rfl⟩
            rw [← e40] at hP9 hD9
            obtain ⟨hP, hD⟩ := zst (wX := [(h0, .inr (9, [.ref tB, .int m3_F_h0_1, .int ta])), (tB, .inl (cI, 260, .inl v40_f))]) hP9 hD9 rfl
            have hS := hS9
            clear hP9 hD9 hS9
            refine lv_aload_n hx hb dX9_add_41 rfl (lv_at hl 2 rfl) ?_
            refine lv_dup hx hb dX9_add_42 rfl ?_
            refine va_get (D := (dC, dI)) (ci := 9) (v := .int m3_F_h0_1) (C := RX9) (T := TX9) (N := 3) hx hb hts iX9 hown hK hP 0 rfl rfl 1 (by decide) (hts _ qw134) (fun _ h9 => h9) rfl dX9_add_43 ?_
            refine lv_iconst (v := 1) hx hb dX9_add_46 (by decide) ?_
            refine lv_iadd hx hb dX9_add_47 ?_
            refine lv_topi (fun v47 e47 => ?_)
            have i47 : v47.toInt = m3_F_h0_1.toInt + 1 := zadd e47 rfl (by decide) (by omega) (by omega)
            refine va_put (D := (dC, dI)) (ci := 9) (v := .int v47) (ty := .int) (C := RX9) (T := TX9) (N := 3) hx hb hts iX9 tyX9 tyX9_ok nmX9 hown hK hP hD hS 0 rfl rfl 1 (by decide) (hts _ qw134) (fun _ h9 => h9) rfl (by decide +kernel) rfl rfl (Nat.le_of_ble_eq_true rfl) dX9_add_48 (fun H locs hP9 hD9 hS9 => ?_)
            clear hP hD hS
            obtain ⟨hP, hD⟩ := zst (wX := [(h0, .inr (9, [.ref tB, .int v47, .int ta])), (tB, .inl (cI, 260, .inl v40_f))]) hP9 hD9 rfl
            have hS := hS9
            clear hP9 hD9 hS9
            obtain ⟨v51, e51⟩ : ∃ y : Int32, y = m3_L_2 + Int32.ofInt (-8) := ⟨_, rfl⟩
            refine lv_iinc (v := v51) (lv' := [(2, .int v51), (3, .int v13), (0, .ref h0), (1, .int p0)]) hx hb dX9_add_51 hl (k := 1) rfl e51.symm (by decide) rfl (fun ls hl => ?_)
            have i51 : v51.toInt = m3_L_2.toInt + (-8) := zaddI e51 (by decide) (by omega) (by omega)
            refine lv_goto (tgt := 3) hx hb dX9_add_54 (by decide) ?_
            exact ih3 _ (by omega) v40_f v47 v51 (by omega) (by omega) (by first | exact zAdS1 jv3_0 (by omega) e9 e13 (by omega) e40 i47 (by omega) (by omega) | exact zAdX jv3_0 (by omega) (by omega) (by omega) | exact zAdS0 jv3_0 (by omega) e9 e13 (by omega) (by omega)) (by first | exact zTyS jv3_1 e40 i47 (by omega) (by omega) (by omega) | exact jv3_1) rfl H locs ls hP hD hS (lv_sub hl [0, 2, 3] rfl)
  refine lv_istore_n (lv' := [(2, .int 24), (0, .ref h0), (1, .int p0)]) hx hb dX9_add_2 rfl hl (by decide) rfl (fun ls hl => ?_)
  have zj3_m3_L_2 : (24 : Int32).toInt = 24 := by decide
  exact J3 _ fB tl 24 (by omega) (by decide) (zAd0) (hty) rfl H locs ls hP hD hS (lv_sub hl [0, 1, 2] rfl)
set_option maxHeartbeats 4000000 in
set_option maxRecDepth 100000 in
theorem g_X9_add_2 (l : Launch) (dC : Nat → ClassId) (dI : Nat → Nat → Nat) (cI cJ : ClassId) (h0 : Nat) (p0 : Int32) (tB : Nat) (tl : Int32) (ta : Int32) (fB : Nat → Int32) (sz : Nat) (n_tl : 0 ≤ tl.toInt ∧ tl.toInt ≤ 248) (hty : zTy tl fB)   : Met l yX9_add (.code yX9_add cX9_add 4 none :: wA) ({ frames := 0, cells := 0, slots := 0, locals := 0 }) (zP (dC, dI) [(cI, .int), (cJ, .long)] [.ref h0, .int p0] sz [(h0, .inr (9, [.ref tB, .int tl, .int ta])), (tB, .inl (cI, 260, .inl fB))]) (va_Qv (fun (u : Int32 × (Nat → Int32)) => (0 ≤ u.1.toInt) ∧ (u.1.toInt ≤ 252) ∧ ((sB u.2 u.1.toInt, u.1.toInt) = sW p0 4 (sB fB tl.toInt, tl.toInt)) ∧ (zTy u.1 u.2)) (fun (u : Int32 × (Nat → Int32)) (t : State) => va_P (dC, dI) vwCl [(h0, .inr (9, [.ref tB, .int u.1, .int ta])), (tB, .inl (cI, 260, .inl u.2))] t.heap ∧ va_D (va_A [(h0, .inr (9, [.ref tB, .int tl, .int ta])), (tB, .inl (cI, 260, .inl fB))] sz) [(h0, .inr (9, [.ref tB, .int u.1, .int ta])), (tB, .inl (cI, 260, .inl u.2))]) (va_A [(h0, .inr (9, [.ref tB, .int tl, .int ta])), (tB, .inl (cI, 260, .inl fB))] sz)) 0 0 (va_A [(h0, .inr (9, [.ref tB, .int tl, .int ta])), (tB, .inl (cI, 260, .inl fB))] sz) := by
  refine Met.ofW (cc := cX9_add) (maxL := 4) (ret := none) (by decide) rfl ?_
  intro p e s m args below meth c s₁ B hml hv
  obtain ⟨hargs, hsz, hP, hK, hT⟩ := hv
  have hx := B.exec
  have hb := B.bytes
  have hr := B.returns
  have hts : ∀ w ∈ wA, w.before args s = true := fun w h => atoms_spec (ws := .code yX9_add cX9_add 4 none :: wA) B.pre w (List.mem_cons_of_mem _ h)
  have hown : s.vm.findClass RX9 = some m.cls := findClass_of_methodNamed B.named
  have hlocks := B.notSynchronized
  subst hsz
  have hD := hT.self (sz := s.heap.size)
  generalize hAe : va_A [(h0, .inr (9, [.ref tB, .int tl, .int ta])), (tB, .inl (cI, 260, .inl fB))] s.heap.size = A at hD ⊢
  have hA : ∀ q : Nat, s.heap.size ≤ q → A q := fun q h => by rw [← hAe]; exact Or.inr h
  have hl := lv_entry ([.ref h0, .int p0]) (n := 4) (Nat.le_of_ble_eq_true rfl)
  rw [show entryFrame m args 4 = entryFrame m ([.ref h0, .int p0] : List Value).toArray 4 by rw [hargs], lg_entry_eq]
  generalize (lg_sl ([.ref h0, .int p0]) ++ List.replicate (4 - (lg_sl ([.ref h0, .int p0])).length) Slot.unset).toArray = ls at hl ⊢
  have hl : lv_has ls 4 [(0, .ref h0), (1, .int p0)] := hl
  refine zstart (fun H hH => ?_)
  rw [← hH] at hP
  have hS : va_S A s.heap H [] := by rw [hH]; exact va_S.rf
  generalize ([] : List Loc) = locs at hS ⊢
  refine zgen (fun R Q hR hQ => ?_)
  refine lv_bipush (v := 24) hx hb dX9_add_0 (by decide) ?_
  have J3 : ∀ (n : Nat) (m3_A_tB : Nat → Int32) (m3_F_h0_1 : Int32) (m3_L_2 : Int32), (0 ≤ m3_F_h0_1.toInt ∧ m3_F_h0_1.toInt ≤ 260) → ((-8) ≤ m3_L_2.toInt ∧ m3_L_2.toInt ≤ 24) → (zAd fB tl p0 m3_A_tB m3_F_h0_1 m3_L_2) → (zTy m3_F_h0_1 m3_A_tB) → (m3_L_2.toInt - (-9)).toNat = n → ∀ (H : Heap) (locs : List Loc) (ls : Array Slot), va_P (dC, dI) vwCl [(h0, .inr (9, [.ref tB, .int m3_F_h0_1, .int ta])), (tB, .inl (cI, 260, .inl m3_A_tB))] H → va_D A [(h0, .inr (9, [.ref tB, .int m3_F_h0_1, .int ta])), (tB, .inl (cI, 260, .inl m3_A_tB))] → va_S A s.heap H locs → lv_has ls 4 [(2, .int m3_L_2), (0, .ref h0), (1, .int p0)] → W p l e R s m args below meth c H locs 0 0 Q (F0 m 3 ls []) := by
    intro n3
    induction n3 using Nat.strongRecOn with
    | _ n3 ih3 =>
      intro m3_A_tB m3_F_h0_1 m3_L_2 jf3_0 jf3_1 jv3_0 jv3_1 hmu3 H locs ls hP hD hS hl
      refine lv_iload_n hx hb dX9_add_3 rfl (lv_at hl 0 rfl) ?_
      refine lv_if_lt (tgt := 57) hx hb dX9_add_4 (by decide) (fun c4 => ?_) (fun c4 => ?_)
      · have c4 : m3_L_2.toInt < 0 := z1 rfl (by decide) c4
        have q57 : 0 ≤ m3_F_h0_1.toInt ∧ m3_F_h0_1.toInt ≤ 252 := ⟨by omega, by have := zAdB jv3_0; omega⟩
        rw [hQ]
        exact W.vret hx hb hr (fun t ht hW => ⟨⟨(m3_F_h0_1, m3_A_tB), rfl, ⟨by (try dsimp only); omega, by (try dsimp only); omega, zAdE jv3_0 (by omega), jv3_1⟩, ⟨by rw [ht]; exact hP, hD⟩⟩, hS.F ht⟩) hS.2.2 dX9_add_57
      · have c4 : 0 ≤ m3_L_2.toInt := z2 rfl (by decide) c4
        refine lv_iload_n hx hb dX9_add_7 rfl (lv_at hl 2 rfl) ?_
        refine lv_iload_n hx hb dX9_add_8 rfl (lv_at hl 0 rfl) ?_
        refine lv_iushr hx hb dX9_add_9 rfl ?_
        refine lv_topi (fun v9 e9 => ?_)
        refine lv_sipush (v := 255) hx hb dX9_add_10 (by decide) ?_
        refine lv_iand hx hb dX9_add_13 ?_
        refine lv_topi (fun v13 e13 => ?_)
        have i13 : 0 ≤ v13.toInt ∧ v13.toInt ≤ 255 := zandr e13 (by decide) (by decide)
        refine lv_istore_n (lv' := [(3, .int v13), (2, .int m3_L_2), (0, .ref h0), (1, .int p0)]) hx hb dX9_add_14 rfl hl (by decide) rfl (fun ls hl => ?_)
        refine lv_iload_n hx hb dX9_add_15 rfl (lv_at hl 0 rfl) ?_
        refine lv_if_eq (tgt := 51) hx hb dX9_add_16 (by decide) (fun c16 => ?_) (fun c16 => ?_)
        · have c16 : v13.toInt = 0 := z5 rfl (by decide) c16
          obtain ⟨v51, e51⟩ : ∃ y : Int32, y = m3_L_2 + Int32.ofInt (-8) := ⟨_, rfl⟩
          refine lv_iinc (v := v51) (lv' := [(2, .int v51), (3, .int v13), (0, .ref h0), (1, .int p0)]) hx hb dX9_add_51 hl (k := 1) rfl e51.symm (by decide) rfl (fun ls hl => ?_)
          have i51 : v51.toInt = m3_L_2.toInt + (-8) := zaddI e51 (by decide) (by omega) (by omega)
          refine lv_goto (tgt := 3) hx hb dX9_add_54 (by decide) ?_
          exact ih3 _ (by omega) m3_A_tB m3_F_h0_1 v51 jf3_0 (by omega) (by first | exact zAdS1 jv3_0 (by omega) e9 e13 (by omega) e40 i47 (by omega) (by omega) | exact zAdX jv3_0 (by omega) (by omega) (by omega) | exact zAdS0 jv3_0 (by omega) e9 e13 (by omega) (by omega)) (by first | exact zTyS jv3_1 e40 i47 (by omega) (by omega) (by omega) | exact jv3_1) rfl H locs ls hP hD hS (lv_sub hl [0, 2, 3] rfl)
        · have c16 : ¬ v13.toInt = 0 := z6 rfl (by decide) c16
          refine lv_aload_n hx hb dX9_add_19 rfl (lv_at hl 2 rfl) ?_
          refine va_get (D := (dC, dI)) (ci := 9) (v := .int m3_F_h0_1) (C := RX9) (T := TX9) (N := 3) hx hb hts iX9 hown hK hP 0 rfl rfl 1 (by decide) (hts _ qw134) (fun _ h9 => h9) rfl dX9_add_20 ?_
          refine lv_aload_n hx hb dX9_add_23 rfl (lv_at hl 2 rfl) ?_
          refine va_get (D := (dC, dI)) (ci := 9) (v := .ref tB) (C := RX9) (T := TX9) (N := 3) hx hb hts iX9 hown hK hP 0 rfl rfl 0 (by decide) (hts _ qw132) (fun _ h9 => h9) rfl dX9_add_24 ?_
          refine va_alen (v := 260) hx hb hK hP 1 0 rfl rfl rfl dX9_add_27 ?_
          refine lv_icmp_ge (tgt := 51) hx hb dX9_add_28 (by decide) (fun c28 => ?_) (fun c28 => ?_)
          · have c28 : 260 ≤ m3_F_h0_1.toInt := z3 (by decide) rfl c28
            obtain ⟨v51, e51⟩ : ∃ y : Int32, y = m3_L_2 + Int32.ofInt (-8) := ⟨_, rfl⟩
            refine lv_iinc (v := v51) (lv' := [(2, .int v51), (3, .int v13), (0, .ref h0), (1, .int p0)]) hx hb dX9_add_51 hl (k := 1) rfl e51.symm (by decide) rfl (fun ls hl => ?_)
            have i51 : v51.toInt = m3_L_2.toInt + (-8) := zaddI e51 (by decide) (by omega) (by omega)
            refine lv_goto (tgt := 3) hx hb dX9_add_54 (by decide) ?_
            exact ih3 _ (by omega) m3_A_tB m3_F_h0_1 v51 jf3_0 (by omega) (by first | exact zAdS1 jv3_0 (by omega) e9 e13 (by omega) e40 i47 (by omega) (by omega) | exact zAdX jv3_0 (by omega) (by omega) (by omega) | exact zAdS0 jv3_0 (by omega) e9 e13 (by omega) (by omega)) (by first | exact zTyS jv3_1 e40 i47 (by omega) (by omega) (by omega) | exact jv3_1) rfl H locs ls hP hD hS (lv_sub hl [0, 2, 3] rfl)
          · have c28 : m3_F_h0_1.toInt < 260 := z4 (by decide) rfl c28
            refine lv_aload_n hx hb dX9_add_31 rfl (lv_at hl 2 rfl) ?_
            refine va_get (D := (dC, dI)) (ci := 9) (v := .ref tB) (C := RX9) (T := TX9) (N := 3) hx hb hts iX9 hown hK hP 0 rfl rfl 0 (by decide) (hts _ qw132) (fun _ h9 => h9) rfl dX9_add_32 ?_
            refine lv_aload_n hx hb dX9_add_35 rfl (lv_at hl 2 rfl) ?_
            refine va_get (D := (dC, dI)) (ci := 9) (v := .int m3_F_h0_1) (C := RX9) (T := TX9) (N := 3) hx hb hts iX9 hown hK hP 0 rfl rfl 1 (by decide) (hts _ qw134) (fun _ h9 => h9) rfl dX9_add_36 ?_
            refine lv_iload_n hx hb dX9_add_39 rfl (lv_at hl 0 rfl) ?_
            refine va_iast hx hb hK hP hD hS 1 0 rfl rfl (vp_in_iff.mpr ⟨by omega, by omega⟩) dX9_add_40 (fun H locs hP9 hD9 hS9 => ?_)
            clear hP hD hS
            obtain ⟨v40_f, e40⟩ : ∃ g : Nat → Int32, g = upd m3_A_tB (m3_F_h0_1).toNatClampNeg v13 := ⟨_, rfl⟩
            rw [← e40] at hP9 hD9
            obtain ⟨hP, hD⟩ := zst (wX := [(h0, .inr (9, [.ref tB, .int m3_F_h0_1, .int ta])), (tB, .inl (cI, 260, .inl v40_f))]) hP9 hD9 rfl
            have hS := hS9
            clear hP9 hD9 hS9
            refine lv_aload_n hx hb dX9_add_41 rfl (lv_at hl 2 rfl) ?_
            refine lv_dup hx hb dX9_add_42 rfl ?_
            refine va_get (D := (dC, dI)) (ci := 9) (v := .int m3_F_h0_1) (C := RX9) (T := TX9) (N := 3) hx hb hts iX9 hown hK hP 0 rfl rfl 1 (by decide) (hts _ qw134) (fun _ h9 => h9) rfl dX9_add_43 ?_
            refine lv_iconst (v := 1) hx hb dX9_add_46 (by decide) ?_
            refine lv_iadd hx hb dX9_add_47 ?_
            refine lv_topi (fun v47 e47 => ?_)
            have i47 : v47.toInt = m3_F_h0_1.toInt + 1 := zadd e47 rfl (by decide) (by omega) (by omega)
            refine va_put (D := (dC, dI)) (ci := 9) (v := .int v47) (ty := .int) (C := RX9) (T := TX9) (N := 3) hx hb hts iX9 tyX9 tyX9_ok nmX9 hown hK hP hD hS 0 rfl rfl 1 (by decide) (hts _ qw134) (fun _ h9 => h9) rfl (by decide +kernel) rfl rfl (Nat.le_of_ble_eq_true rfl) dX9_add_48 (fun H locs hP9 hD9 hS9 => ?_)
            clear hP hD hS
            obtain ⟨hP, hD⟩ := zst (wX := [(h0, .inr (9, [.ref tB, .int v47, .int ta])), (tB, .inl (cI, 260, .inl v40_f))]) hP9 hD9 rfl
            have hS := hS9
            clear hP9 hD9 hS9
            obtain ⟨v51, e51⟩ : ∃ y : Int32, y = m3_L_2 + Int32.ofInt (-8) := ⟨_, rfl⟩
            refine lv_iinc (v := v51) (lv' := [(2, .int v51), (3, .int v13), (0, .ref h0), (1, .int p0)]) hx hb dX9_add_51 hl (k := 1) rfl e51.symm (by decide) rfl (fun ls hl => ?_)
            have i51 : v51.toInt = m3_L_2.toInt + (-8) := zaddI e51 (by decide) (by omega) (by omega)
            refine lv_goto (tgt := 3) hx hb dX9_add_54 (by decide) ?_
            exact ih3 _ (by omega) v40_f v47 v51 (by omega) (by omega) (by first | exact zAdS1 jv3_0 (by omega) e9 e13 (by omega) e40 i47 (by omega) (by omega) | exact zAdX jv3_0 (by omega) (by omega) (by omega) | exact zAdS0 jv3_0 (by omega) e9 e13 (by omega) (by omega)) (by first | exact zTyS jv3_1 e40 i47 (by omega) (by omega) (by omega) | exact jv3_1) rfl H locs ls hP hD hS (lv_sub hl [0, 2, 3] rfl)
  refine lv_istore_n (lv' := [(2, .int 24), (0, .ref h0), (1, .int p0)]) hx hb dX9_add_2 rfl hl (by decide) rfl (fun ls hl => ?_)
  have zj3_m3_L_2 : (24 : Int32).toInt = 24 := by decide
  exact J3 _ fB tl 24 (by omega) (by decide) (zAd0) (hty) rfl H locs ls hP hD hS (lv_sub hl [0, 1, 2] rfl)
set_option maxHeartbeats 4000000 in
set_option maxRecDepth 100000 in
theorem g_X9_add_3 (l : Launch) (dC : Nat → ClassId) (dI : Nat → Nat → Nat) (cI cJ : ClassId) (h0 : Nat) (p0 : Int32) (tB : Nat) (tl : Int32) (ta : Int32) (fB : Nat → Int32) (sz : Nat) (n_tl : 0 ≤ tl.toInt ∧ tl.toInt ≤ 252) (hty : zTy tl fB)   : Met l yX9_add (.code yX9_add cX9_add 4 none :: wA) ({ frames := 0, cells := 0, slots := 0, locals := 0 }) (zP (dC, dI) [(cI, .int), (cJ, .long)] [.ref h0, .int p0] sz [(h0, .inr (9, [.ref tB, .int tl, .int ta])), (tB, .inl (cI, 260, .inl fB))]) (va_Qv (fun (u : Int32 × (Nat → Int32)) => (0 ≤ u.1.toInt) ∧ (u.1.toInt ≤ 256) ∧ ((sB u.2 u.1.toInt, u.1.toInt) = sW p0 4 (sB fB tl.toInt, tl.toInt)) ∧ (zTy u.1 u.2)) (fun (u : Int32 × (Nat → Int32)) (t : State) => va_P (dC, dI) vwCl [(h0, .inr (9, [.ref tB, .int u.1, .int ta])), (tB, .inl (cI, 260, .inl u.2))] t.heap ∧ va_D (va_A [(h0, .inr (9, [.ref tB, .int tl, .int ta])), (tB, .inl (cI, 260, .inl fB))] sz) [(h0, .inr (9, [.ref tB, .int u.1, .int ta])), (tB, .inl (cI, 260, .inl u.2))]) (va_A [(h0, .inr (9, [.ref tB, .int tl, .int ta])), (tB, .inl (cI, 260, .inl fB))] sz)) 0 0 (va_A [(h0, .inr (9, [.ref tB, .int tl, .int ta])), (tB, .inl (cI, 260, .inl fB))] sz) := by
  refine Met.ofW (cc := cX9_add) (maxL := 4) (ret := none) (by decide) rfl ?_
  intro p e s m args below meth c s₁ B hml hv
  obtain ⟨hargs, hsz, hP, hK, hT⟩ := hv
  have hx := B.exec
  have hb := B.bytes
  have hr := B.returns
  have hts : ∀ w ∈ wA, w.before args s = true := fun w h => atoms_spec (ws := .code yX9_add cX9_add 4 none :: wA) B.pre w (List.mem_cons_of_mem _ h)
  have hown : s.vm.findClass RX9 = some m.cls := findClass_of_methodNamed B.named
  have hlocks := B.notSynchronized
  subst hsz
  have hD := hT.self (sz := s.heap.size)
  generalize hAe : va_A [(h0, .inr (9, [.ref tB, .int tl, .int ta])), (tB, .inl (cI, 260, .inl fB))] s.heap.size = A at hD ⊢
  have hA : ∀ q : Nat, s.heap.size ≤ q → A q := fun q h => by rw [← hAe]; exact Or.inr h
  have hl := lv_entry ([.ref h0, .int p0]) (n := 4) (Nat.le_of_ble_eq_true rfl)
  rw [show entryFrame m args 4 = entryFrame m ([.ref h0, .int p0] : List Value).toArray 4 by rw [hargs], lg_entry_eq]
  generalize (lg_sl ([.ref h0, .int p0]) ++ List.replicate (4 - (lg_sl ([.ref h0, .int p0])).length) Slot.unset).toArray = ls at hl ⊢
  have hl : lv_has ls 4 [(0, .ref h0), (1, .int p0)] := hl
  refine zstart (fun H hH => ?_)
  rw [← hH] at hP
  have hS : va_S A s.heap H [] := by rw [hH]; exact va_S.rf
  generalize ([] : List Loc) = locs at hS ⊢
  refine zgen (fun R Q hR hQ => ?_)
  refine lv_bipush (v := 24) hx hb dX9_add_0 (by decide) ?_
  have J3 : ∀ (n : Nat) (m3_A_tB : Nat → Int32) (m3_F_h0_1 : Int32) (m3_L_2 : Int32), (0 ≤ m3_F_h0_1.toInt ∧ m3_F_h0_1.toInt ≤ 260) → ((-8) ≤ m3_L_2.toInt ∧ m3_L_2.toInt ≤ 24) → (zAd fB tl p0 m3_A_tB m3_F_h0_1 m3_L_2) → (zTy m3_F_h0_1 m3_A_tB) → (m3_L_2.toInt - (-9)).toNat = n → ∀ (H : Heap) (locs : List Loc) (ls : Array Slot), va_P (dC, dI) vwCl [(h0, .inr (9, [.ref tB, .int m3_F_h0_1, .int ta])), (tB, .inl (cI, 260, .inl m3_A_tB))] H → va_D A [(h0, .inr (9, [.ref tB, .int m3_F_h0_1, .int ta])), (tB, .inl (cI, 260, .inl m3_A_tB))] → va_S A s.heap H locs → lv_has ls 4 [(2, .int m3_L_2), (0, .ref h0), (1, .int p0)] → W p l e R s m args below meth c H locs 0 0 Q (F0 m 3 ls []) := by
    intro n3
    induction n3 using Nat.strongRecOn with
    | _ n3 ih3 =>
      intro m3_A_tB m3_F_h0_1 m3_L_2 jf3_0 jf3_1 jv3_0 jv3_1 hmu3 H locs ls hP hD hS hl
      refine lv_iload_n hx hb dX9_add_3 rfl (lv_at hl 0 rfl) ?_
      refine lv_if_lt (tgt := 57) hx hb dX9_add_4 (by decide) (fun c4 => ?_) (fun c4 => ?_)
      · have c4 : m3_L_2.toInt < 0 := z1 rfl (by decide) c4
        have q57 : 0 ≤ m3_F_h0_1.toInt ∧ m3_F_h0_1.toInt ≤ 256 := ⟨by omega, by have := zAdB jv3_0; omega⟩
        rw [hQ]
        exact W.vret hx hb hr (fun t ht hW => ⟨⟨(m3_F_h0_1, m3_A_tB), rfl, ⟨by (try dsimp only); omega, by (try dsimp only); omega, zAdE jv3_0 (by omega), jv3_1⟩, ⟨by rw [ht]; exact hP, hD⟩⟩, hS.F ht⟩) hS.2.2 dX9_add_57
      · have c4 : 0 ≤ m3_L_2.toInt := z2 rfl (by decide) c4
        refine lv_iload_n hx hb dX9_add_7 rfl (lv_at hl 2 rfl) ?_
        refine lv_iload_n hx hb dX9_add_8 rfl (lv_at hl 0 rfl) ?_
        refine lv_iushr hx hb dX9_add_9 rfl ?_
        refine lv_topi (fun v9 e9 => ?_)
        refine lv_sipush (v := 255) hx hb dX9_add_10 (by decide) ?_
        refine lv_iand hx hb dX9_add_13 ?_
        refine lv_topi (fun v13 e13 => ?_)
        have i13 : 0 ≤ v13.toInt ∧ v13.toInt ≤ 255 := zandr e13 (by decide) (by decide)
        refine lv_istore_n (lv' := [(3, .int v13), (2, .int m3_L_2), (0, .ref h0), (1, .int p0)]) hx hb dX9_add_14 rfl hl (by decide) rfl (fun ls hl => ?_)
        refine lv_iload_n hx hb dX9_add_15 rfl (lv_at hl 0 rfl) ?_
        refine lv_if_eq (tgt := 51) hx hb dX9_add_16 (by decide) (fun c16 => ?_) (fun c16 => ?_)
        · have c16 : v13.toInt = 0 := z5 rfl (by decide) c16
          obtain ⟨v51, e51⟩ : ∃ y : Int32, y = m3_L_2 + Int32.ofInt (-8) := ⟨_, rfl⟩
          refine lv_iinc (v := v51) (lv' := [(2, .int v51), (3, .int v13), (0, .ref h0), (1, .int p0)]) hx hb dX9_add_51 hl (k := 1) rfl e51.symm (by decide) rfl (fun ls hl => ?_)
          have i51 : v51.toInt = m3_L_2.toInt + (-8) := zaddI e51 (by decide) (by omega) (by omega)
          refine lv_goto (tgt := 3) hx hb dX9_add_54 (by decide) ?_
          exact ih3 _ (by omega) m3_A_tB m3_F_h0_1 v51 jf3_0 (by omega) (by first | exact zAdS1 jv3_0 (by omega) e9 e13 (by omega) e40 i47 (by omega) (by omega) | exact zAdX jv3_0 (by omega) (by omega) (by omega) | exact zAdS0 jv3_0 (by omega) e9 e13 (by omega) (by omega)) (by first | exact zTyS jv3_1 e40 i47 (by omega) (by omega) (by omega) | exact jv3_1) rfl H locs ls hP hD hS (lv_sub hl [0, 2, 3] rfl)
        · have c16 : ¬ v13.toInt = 0 := z6 rfl (by decide) c16
          refine lv_aload_n hx hb dX9_add_19 rfl (lv_at hl 2 rfl) ?_
          refine va_get (D := (dC, dI)) (ci := 9) (v := .int m3_F_h0_1) (C := RX9) (T := TX9) (N := 3) hx hb hts iX9 hown hK hP 0 rfl rfl 1 (by decide) (hts _ qw134) (fun _ h9 => h9) rfl dX9_add_20 ?_
          refine lv_aload_n hx hb dX9_add_23 rfl (lv_at hl 2 rfl) ?_
          refine va_get (D := (dC, dI)) (ci := 9) (v := .ref tB) (C := RX9) (T := TX9) (N := 3) hx hb hts iX9 hown hK hP 0 rfl rfl 0 (by decide) (hts _ qw132) (fun _ h9 => h9) rfl dX9_add_24 ?_
          refine va_alen (v := 260) hx hb hK hP 1 0 rfl rfl rfl dX9_add_27 ?_
          refine lv_icmp_ge (tgt := 51) hx hb dX9_add_28 (by decide) (fun c28 => ?_) (fun c28 => ?_)
          · have c28 : 260 ≤ m3_F_h0_1.toInt := z3 (by decide) rfl c28
            obtain ⟨v51, e51⟩ : ∃ y : Int32, y = m3_L_2 + Int32.ofInt (-8) := ⟨_, rfl⟩
            refine lv_iinc (v := v51) (lv' := [(2, .int v51), (3, .int v13), (0, .ref h0), (1, .int p0)]) hx hb dX9_add_51 hl (k := 1) rfl e51.symm (by decide) rfl (fun ls hl => ?_)
            have i51 : v51.toInt = m3_L_2.toInt + (-8) := zaddI e51 (by decide) (by omega) (by omega)
            refine lv_goto (tgt := 3) hx hb dX9_add_54 (by decide) ?_
            exact ih3 _ (by omega) m3_A_tB m3_F_h0_1 v51 jf3_0 (by omega) (by first | exact zAdS1 jv3_0 (by omega) e9 e13 (by omega) e40 i47 (by omega) (by omega) | exact zAdX jv3_0 (by omega) (by omega) (by omega) | exact zAdS0 jv3_0 (by omega) e9 e13 (by omega) (by omega)) (by first | exact zTyS jv3_1 e40 i47 (by omega) (by omega) (by omega) | exact jv3_1) rfl H locs ls hP hD hS (lv_sub hl [0, 2, 3] rfl)
          · have c28 : m3_F_h0_1.toInt < 260 := z4 (by decide) rfl c28
            refine lv_aload_n hx hb dX9_add_31 rfl (lv_at hl 2 rfl) ?_
            refine va_get (D := (dC, dI)) (ci := 9) (v := .ref tB) (C := RX9) (T := TX9) (N := 3) hx hb hts iX9 hown hK hP 0 rfl rfl 0 (by decide) (hts _ qw132) (fun _ h9 => h9) rfl dX9_add_32 ?_
            refine lv_aload_n hx hb dX9_add_35 rfl (lv_at hl 2 rfl) ?_
            refine va_get (D := (dC, dI)) (ci := 9) (v := .int m3_F_h0_1) (C := RX9) (T := TX9) (N := 3) hx hb hts iX9 hown hK hP 0 rfl rfl 1 (by decide) (hts _ qw134) (fun _ h9 => h9) rfl dX9_add_36 ?_
            refine lv_iload_n hx hb dX9_add_39 rfl (lv_at hl 0 rfl) ?_
            refine va_iast hx hb hK hP hD hS 1 0 rfl rfl (vp_in_iff.mpr ⟨by omega, by omega⟩) dX9_add_40 (fun H locs hP9 hD9 hS9 => ?_)
            clear hP hD hS
            obtain ⟨v40_f, e40⟩ : ∃ g : Nat → Int32, g = upd m3_A_tB (m3_F_h0_1).toNatClampNeg v13 := ⟨_, rfl⟩
            rw [← e40] at hP9 hD9
            obtain ⟨hP, hD⟩ := zst (wX := [(h0, .inr (9, [.ref tB, .int m3_F_h0_1, .int ta])), (tB, .inl (cI, 260, .inl v40_f))]) hP9 hD9 rfl
            have hS := hS9
            clear hP9 hD9 hS9
            refine lv_aload_n hx hb dX9_add_41 rfl (lv_at hl 2 rfl) ?_
            refine lv_dup hx hb dX9_add_42 rfl ?_
            refine va_get (D := (dC, dI)) (ci := 9) (v := .int m3_F_h0_1) (C := RX9) (T := TX9) (N := 3) hx hb hts iX9 hown hK hP 0 rfl rfl 1 (by decide) (hts _ qw134) (fun _ h9 => h9) rfl dX9_add_43 ?_
            refine lv_iconst (v := 1) hx hb dX9_add_46 (by decide) ?_
            refine lv_iadd hx hb dX9_add_47 ?_
            refine lv_topi (fun v47 e47 => ?_)
            have i47 : v47.toInt = m3_F_h0_1.toInt + 1 := zadd e47 rfl (by decide) (by omega) (by omega)
            refine va_put (D := (dC, dI)) (ci := 9) (v := .int v47) (ty := .int) (C := RX9) (T := TX9) (N := 3) hx hb hts iX9 tyX9 tyX9_ok nmX9 hown hK hP hD hS 0 rfl rfl 1 (by decide) (hts _ qw134) (fun _ h9 => h9) rfl (by decide +kernel) rfl rfl (Nat.le_of_ble_eq_true rfl) dX9_add_48 (fun H locs hP9 hD9 hS9 => ?_)
            clear hP hD hS
            obtain ⟨hP, hD⟩ := zst (wX := [(h0, .inr (9, [.ref tB, .int v47, .int ta])), (tB, .inl (cI, 260, .inl v40_f))]) hP9 hD9 rfl
            have hS := hS9
            clear hP9 hD9 hS9
            obtain ⟨v51, e51⟩ : ∃ y : Int32, y = m3_L_2 + Int32.ofInt (-8) := ⟨_, rfl⟩
            refine lv_iinc (v := v51) (lv' := [(2, .int v51), (3, .int v13), (0, .ref h0), (1, .int p0)]) hx hb dX9_add_51 hl (k := 1) rfl e51.symm (by decide) rfl (fun ls hl => ?_)
            have i51 : v51.toInt = m3_L_2.toInt + (-8) := zaddI e51 (by decide) (by omega) (by omega)
            refine lv_goto (tgt := 3) hx hb dX9_add_54 (by decide) ?_
            exact ih3 _ (by omega) v40_f v47 v51 (by omega) (by omega) (by first | exact zAdS1 jv3_0 (by omega) e9 e13 (by omega) e40 i47 (by omega) (by omega) | exact zAdX jv3_0 (by omega) (by omega) (by omega) | exact zAdS0 jv3_0 (by omega) e9 e13 (by omega) (by omega)) (by first | exact zTyS jv3_1 e40 i47 (by omega) (by omega) (by omega) | exact jv3_1) rfl H locs ls hP hD hS (lv_sub hl [0, 2, 3] rfl)
  refine lv_istore_n (lv' := [(2, .int 24), (0, .ref h0), (1, .int p0)]) hx hb dX9_add_2 rfl hl (by decide) rfl (fun ls hl => ?_)
  have zj3_m3_L_2 : (24 : Int32).toInt = 24 := by decide
  exact J3 _ fB tl 24 (by omega) (by decide) (zAd0) (hty) rfl H locs ls hP hD hS (lv_sub hl [0, 1, 2] rfl)
set_option maxHeartbeats 4000000 in
set_option maxRecDepth 100000 in
theorem g_X9_add_4 (l : Launch) (dC : Nat → ClassId) (dI : Nat → Nat → Nat) (cI cJ : ClassId) (h0 : Nat) (p0 : Int32) (tB : Nat) (tl : Int32) (ta : Int32) (fB : Nat → Int32) (sz : Nat) (n_tl : 0 ≤ tl.toInt ∧ tl.toInt ≤ 256) (hty : zTy tl fB)   : Met l yX9_add (.code yX9_add cX9_add 4 none :: wA) ({ frames := 0, cells := 0, slots := 0, locals := 0 }) (zP (dC, dI) [(cI, .int), (cJ, .long)] [.ref h0, .int p0] sz [(h0, .inr (9, [.ref tB, .int tl, .int ta])), (tB, .inl (cI, 260, .inl fB))]) (va_Qv (fun (u : Int32 × (Nat → Int32)) => (0 ≤ u.1.toInt) ∧ (u.1.toInt ≤ 260) ∧ ((sB u.2 u.1.toInt, u.1.toInt) = sW p0 4 (sB fB tl.toInt, tl.toInt)) ∧ (zTy u.1 u.2)) (fun (u : Int32 × (Nat → Int32)) (t : State) => va_P (dC, dI) vwCl [(h0, .inr (9, [.ref tB, .int u.1, .int ta])), (tB, .inl (cI, 260, .inl u.2))] t.heap ∧ va_D (va_A [(h0, .inr (9, [.ref tB, .int tl, .int ta])), (tB, .inl (cI, 260, .inl fB))] sz) [(h0, .inr (9, [.ref tB, .int u.1, .int ta])), (tB, .inl (cI, 260, .inl u.2))]) (va_A [(h0, .inr (9, [.ref tB, .int tl, .int ta])), (tB, .inl (cI, 260, .inl fB))] sz)) 0 0 (va_A [(h0, .inr (9, [.ref tB, .int tl, .int ta])), (tB, .inl (cI, 260, .inl fB))] sz) := by
  refine Met.ofW (cc := cX9_add) (maxL := 4) (ret := none) (by decide) rfl ?_
  intro p e s m args below meth c s₁ B hml hv
  obtain ⟨hargs, hsz, hP, hK, hT⟩ := hv
  have hx := B.exec
  have hb := B.bytes
  have hr := B.returns
  have hts : ∀ w ∈ wA, w.before args s = true := fun w h => atoms_spec (ws := .code yX9_add cX9_add 4 none :: wA) B.pre w (List.mem_cons_of_mem _ h)
  have hown : s.vm.findClass RX9 = some m.cls := findClass_of_methodNamed B.named
  have hlocks := B.notSynchronized
  subst hsz
  have hD := hT.self (sz := s.heap.size)
  generalize hAe : va_A [(h0, .inr (9, [.ref tB, .int tl, .int ta])), (tB, .inl (cI, 260, .inl fB))] s.heap.size = A at hD ⊢
  have hA : ∀ q : Nat, s.heap.size ≤ q → A q := fun q h => by rw [← hAe]; exact Or.inr h
  have hl := lv_entry ([.ref h0, .int p0]) (n := 4) (Nat.le_of_ble_eq_true rfl)
  rw [show entryFrame m args 4 = entryFrame m ([.ref h0, .int p0] : List Value).toArray 4 by rw [hargs], lg_entry_eq]
  generalize (lg_sl ([.ref h0, .int p0]) ++ List.replicate (4 - (lg_sl ([.ref h0, .int p0])).length) Slot.unset).toArray = ls at hl ⊢
  have hl : lv_has ls 4 [(0, .ref h0), (1, .int p0)] := hl
  refine zstart (fun H hH => ?_)
  rw [← hH] at hP
  have hS : va_S A s.heap H [] := by rw [hH]; exact va_S.rf
  generalize ([] : List Loc) = locs at hS ⊢
  refine zgen (fun R Q hR hQ => ?_)
  refine lv_bipush (v := 24) hx hb dX9_add_0 (by decide) ?_
  have J3 : ∀ (n : Nat) (m3_A_tB : Nat → Int32) (m3_F_h0_1 : Int32) (m3_L_2 : Int32), (0 ≤ m3_F_h0_1.toInt ∧ m3_F_h0_1.toInt ≤ 260) → ((-8) ≤ m3_L_2.toInt ∧ m3_L_2.toInt ≤ 24) → (zAd fB tl p0 m3_A_tB m3_F_h0_1 m3_L_2) → (zTy m3_F_h0_1 m3_A_tB) → (m3_L_2.toInt - (-9)).toNat = n → ∀ (H : Heap) (locs : List Loc) (ls : Array Slot), va_P (dC, dI) vwCl [(h0, .inr (9, [.ref tB, .int m3_F_h0_1, .int ta])), (tB, .inl (cI, 260, .inl m3_A_tB))] H → va_D A [(h0, .inr (9, [.ref tB, .int m3_F_h0_1, .int ta])), (tB, .inl (cI, 260, .inl m3_A_tB))] → va_S A s.heap H locs → lv_has ls 4 [(2, .int m3_L_2), (0, .ref h0), (1, .int p0)] → W p l e R s m args below meth c H locs 0 0 Q (F0 m 3 ls []) := by
    intro n3
    induction n3 using Nat.strongRecOn with
    | _ n3 ih3 =>
      intro m3_A_tB m3_F_h0_1 m3_L_2 jf3_0 jf3_1 jv3_0 jv3_1 hmu3 H locs ls hP hD hS hl
      refine lv_iload_n hx hb dX9_add_3 rfl (lv_at hl 0 rfl) ?_
      refine lv_if_lt (tgt := 57) hx hb dX9_add_4 (by decide) (fun c4 => ?_) (fun c4 => ?_)
      · have c4 : m3_L_2.toInt < 0 := z1 rfl (by decide) c4
        have q57 : 0 ≤ m3_F_h0_1.toInt ∧ m3_F_h0_1.toInt ≤ 260 := ⟨by omega, by have := zAdB jv3_0; omega⟩
        rw [hQ]
        exact W.vret hx hb hr (fun t ht hW => ⟨⟨(m3_F_h0_1, m3_A_tB), rfl, ⟨by (try dsimp only); omega, by (try dsimp only); omega, zAdE jv3_0 (by omega), jv3_1⟩, ⟨by rw [ht]; exact hP, hD⟩⟩, hS.F ht⟩) hS.2.2 dX9_add_57
      · have c4 : 0 ≤ m3_L_2.toInt := z2 rfl (by decide) c4
        refine lv_iload_n hx hb dX9_add_7 rfl (lv_at hl 2 rfl) ?_
        refine lv_iload_n hx hb dX9_add_8 rfl (lv_at hl 0 rfl) ?_
        refine lv_iushr hx hb dX9_add_9 rfl ?_
        refine lv_topi (fun v9 e9 => ?_)
        refine lv_sipush (v := 255) hx hb dX9_add_10 (by decide) ?_
        refine lv_iand hx hb dX9_add_13 ?_
        refine lv_topi (fun v13 e13 => ?_)
        have i13 : 0 ≤ v13.toInt ∧ v13.toInt ≤ 255 := zandr e13 (by decide) (by decide)
        refine lv_istore_n (lv' := [(3, .int v13), (2, .int m3_L_2), (0, .ref h0), (1, .int p0)]) hx hb dX9_add_14 rfl hl (by decide) rfl (fun ls hl => ?_)
        refine lv_iload_n hx hb dX9_add_15 rfl (lv_at hl 0 rfl) ?_
        refine lv_if_eq (tgt := 51) hx hb dX9_add_16 (by decide) (fun c16 => ?_) (fun c16 => ?_)
        · have c16 : v13.toInt = 0 := z5 rfl (by decide) c16
          obtain ⟨v51, e51⟩ : ∃ y : Int32, y = m3_L_2 + Int32.ofInt (-8) := ⟨_, rfl⟩
          refine lv_iinc (v := v51) (lv' := [(2, .int v51), (3, .int v13), (0, .ref h0), (1, .int p0)]) hx hb dX9_add_51 hl (k := 1) rfl e51.symm (by decide) rfl (fun ls hl => ?_)
          have i51 : v51.toInt = m3_L_2.toInt + (-8) := zaddI e51 (by decide) (by omega) (by omega)
          refine lv_goto (tgt := 3) hx hb dX9_add_54 (by decide) ?_
          exact ih3 _ (by omega) m3_A_tB m3_F_h0_1 v51 jf3_0 (by omega) (by first | exact zAdS1 jv3_0 (by omega) e9 e13 (by omega) e40 i47 (by omega) (by omega) | exact zAdX jv3_0 (by omega) (by omega) (by omega) | exact zAdS0 jv3_0 (by omega) e9 e13 (by omega) (by omega)) (by first | exact zTyS jv3_1 e40 i47 (by omega) (by omega) (by omega) | exact jv3_1) rfl H locs ls hP hD hS (lv_sub hl [0, 2, 3] rfl)
        · have c16 : ¬ v13.toInt = 0 := z6 rfl (by decide) c16
          refine lv_aload_n hx hb dX9_add_19 rfl (lv_at hl 2 rfl) ?_
          refine va_get (D := (dC, dI)) (ci := 9) (v := .int m3_F_h0_1) (C := RX9) (T := TX9) (N := 3) hx hb hts iX9 hown hK hP 0 rfl rfl 1 (by decide) (hts _ qw134) (fun _ h9 => h9) rfl dX9_add_20 ?_
          refine lv_aload_n hx hb dX9_add_23 rfl (lv_at hl 2 rfl) ?_
          refine va_get (D := (dC, dI)) (ci := 9) (v := .ref tB) (C := RX9) (T := TX9) (N := 3) hx hb hts iX9 hown hK hP 0 rfl rfl 0 (by decide) (hts _ qw132) (fun _ h9 => h9) rfl dX9_add_24 ?_
          refine va_alen (v := 260) hx hb hK hP 1 0 rfl rfl rfl dX9_add_27 ?_
          refine lv_icmp_ge (tgt := 51) hx hb dX9_add_28 (by decide) (fun c28 => ?_) (fun c28 => ?_)
          · have c28 : 260 ≤ m3_F_h0_1.toInt := z3 (by decide) rfl c28
            obtain ⟨v51, e51⟩ : ∃ y : Int32, y = m3_L_2 + Int32.ofInt (-8) := ⟨_, rfl⟩
            refine lv_iinc (v := v51) (lv' := [(2, .int v51), (3, .int v13), (0, .ref h0), (1, .int p0)]) hx hb dX9_add_51 hl (k := 1) rfl e51.symm (by decide) rfl (fun ls hl => ?_)
            have i51 : v51.toInt = m3_L_2.toInt + (-8) := zaddI e51 (by decide) (by omega) (by omega)
            refine lv_goto (tgt := 3) hx hb dX9_add_54 (by decide) ?_
            exact ih3 _ (by omega) m3_A_tB m3_F_h0_1 v51 jf3_0 (by omega) (by first | exact zAdS1 jv3_0 (by omega) e9 e13 (by omega) e40 i47 (by omega) (by omega) | exact zAdX jv3_0 (by omega) (by omega) (by omega) | exact zAdS0 jv3_0 (by omega) e9 e13 (by omega) (by omega)) (by first | exact zTyS jv3_1 e40 i47 (by omega) (by omega) (by omega) | exact jv3_1) rfl H locs ls hP hD hS (lv_sub hl [0, 2, 3] rfl)
          · have c28 : m3_F_h0_1.toInt < 260 := z4 (by decide) rfl c28
            refine lv_aload_n hx hb dX9_add_31 rfl (lv_at hl 2 rfl) ?_
            refine va_get (D := (dC, dI)) (ci := 9) (v := .ref tB) (C := RX9) (T := TX9) (N := 3) hx hb hts iX9 hown hK hP 0 rfl rfl 0 (by decide) (hts _ qw132) (fun _ h9 => h9) rfl dX9_add_32 ?_
            refine lv_aload_n hx hb dX9_add_35 rfl (lv_at hl 2 rfl) ?_
            refine va_get (D := (dC, dI)) (ci := 9) (v := .int m3_F_h0_1) (C := RX9) (T := TX9) (N := 3) hx hb hts iX9 hown hK hP 0 rfl rfl 1 (by decide) (hts _ qw134) (fun _ h9 => h9) rfl dX9_add_36 ?_
            refine lv_iload_n hx hb dX9_add_39 rfl (lv_at hl 0 rfl) ?_
            refine va_iast hx hb hK hP hD hS 1 0 rfl rfl (vp_in_iff.mpr ⟨by omega, by omega⟩) dX9_add_40 (fun H locs hP9 hD9 hS9 => ?_)
            clear hP hD hS
            obtain ⟨v40_f, e40⟩ : ∃ g : Nat → Int32, g = upd m3_A_tB (m3_F_h0_1).toNatClampNeg v13 := ⟨_, rfl⟩
            rw [← e40] at hP9 hD9
            obtain ⟨hP, hD⟩ := zst (wX := [(h0, .inr (9, [.ref tB, .int m3_F_h0_1, .int ta])), (tB, .inl (cI, 260, .inl v40_f))]) hP9 hD9 rfl
            have hS := hS9
            clear hP9 hD9 hS9
            refine lv_aload_n hx hb dX9_add_41 rfl (lv_at hl 2 rfl) ?_
            refine lv_dup hx hb dX9_add_42 rfl ?_
            refine va_get (D := (dC, dI)) (ci := 9) (v := .int m3_F_h0_1) (C := RX9) (T := TX9) (N := 3) hx hb hts iX9 hown hK hP 0 rfl rfl 1 (by decide) (hts _ qw134) (fun _ h9 => h9) rfl dX9_add_43 ?_
            refine lv_iconst (v := 1) hx hb dX9_add_46 (by decide) ?_
            refine lv_iadd hx hb dX9_add_47 ?_
            refine lv_topi (fun v47 e47 => ?_)
            have i47 : v47.toInt = m3_F_h0_1.toInt + 1 := zadd e47 rfl (by decide) (by omega) (by omega)
            refine va_put (D := (dC, dI)) (ci := 9) (v := .int v47) (ty := .int) (C := RX9) (T := TX9) (N := 3) hx hb hts iX9 tyX9 tyX9_ok nmX9 hown hK hP hD hS 0 rfl rfl 1 (by decide) (hts _ qw134) (fun _ h9 => h9) rfl (by decide +kernel) rfl rfl (Nat.le_of_ble_eq_true rfl) dX9_add_48 (fun H locs hP9 hD9 hS9 => ?_)
            clear hP hD hS
            obtain ⟨hP, hD⟩ := zst (wX := [(h0, .inr (9, [.ref tB, .int v47, .int ta])), (tB, .inl (cI, 260, .inl v40_f))]) hP9 hD9 rfl
            have hS := hS9
            clear hP9 hD9 hS9
            obtain ⟨v51, e51⟩ : ∃ y : Int32, y = m3_L_2 + Int32.ofInt (-8) := ⟨_, rfl⟩
            refine lv_iinc (v := v51) (lv' := [(2, .int v51), (3, .int v13), (0, .ref h0), (1, .int p0)]) hx hb dX9_add_51 hl (k := 1) rfl e51.symm (by decide) rfl (fun ls hl => ?_)
            have i51 : v51.toInt = m3_L_2.toInt + (-8) := zaddI e51 (by decide) (by omega) (by omega)
            refine lv_goto (tgt := 3) hx hb dX9_add_54 (by decide) ?_
            exact ih3 _ (by omega) v40_f v47 v51 (by omega) (by omega) (by first | exact zAdS1 jv3_0 (by omega) e9 e13 (by omega) e40 i47 (by omega) (by omega) | exact zAdX jv3_0 (by omega) (by omega) (by omega) | exact zAdS0 jv3_0 (by omega) e9 e13 (by omega) (by omega)) (by first | exact zTyS jv3_1 e40 i47 (by omega) (by omega) (by omega) | exact jv3_1) rfl H locs ls hP hD hS (lv_sub hl [0, 2, 3] rfl)
  refine lv_istore_n (lv' := [(2, .int 24), (0, .ref h0), (1, .int p0)]) hx hb dX9_add_2 rfl hl (by decide) rfl (fun ls hl => ?_)
  have zj3_m3_L_2 : (24 : Int32).toInt = 24 := by decide
  exact J3 _ fB tl 24 (by omega) (by decide) (zAd0) (hty) rfl H locs ls hP hD hS (lv_sub hl [0, 1, 2] rfl)
