set_option maxHeartbeats 4000000 in
set_option maxRecDepth 100000 in
theorem g_X6_fitting (l : Launch) (dC : Nat → ClassId) (dI : Nat → Nat → Nat) (cI cJ : ClassId) (h0 : Nat) (p0 : Int32) (aC : Nat) (g0 : Nat) (sd : Nat) (mW : Nat) (mt : Int64) (lf : Int32) (mV : Nat) (mA : Nat) (mT : Nat) (aR : Nat) (aB : Nat) (aP : Nat) (nb : Int32) (np : Int32) (fb : Nat → Int32) (gY : Nat) (gF : Nat) (gP : Nat) (gpn : Int32) (glt : Int32) (gsh : Int32) (gwd : Int32) (gpu : Int32) (gmo : Int32) (sz : Nat) (n_p0 : 0 ≤ p0.toInt ∧ p0.toInt ≤ 5)    : Met l yX6_fitting (.code yX6_fitting cX6_fitting 4 (some .int) :: wA) ({ frames := 2, cells := 0, slots := 0, locals := 43 }) (zPW (dC, dI) [(cI, .int), (cJ, .long)] [.ref h0, .int p0] sz [(h0, .inr (6, [.ref aC, .ref g0, .ref sd, .ref mW, .long mt, .int lf, .ref mV, .ref mA, .ref mT])), (aC, .inr (1, [.ref aR, .ref aB, .ref aP, .int nb, .int np])), (aB, .inl (cI, 24, .inl fb)), (g0, .inr (7, [.ref gY, .ref gF, .ref gP, .int gpn, .int glt, .int gsh, .int gwd, .int gpu, .int gmo]))] (va_A [] sz)) (va_Qi (fun (r : Int32) (u : Unit) => (10 ≤ r.toInt) ∧ (r.toInt ≤ 1023) ∧ (r = zFit (cBt glt p0) (cBt gsh p0) (fb (4 * p0.toInt.toNat)))) (fun (_ : Unit) (_ : State) => True) (va_A [] sz)) 0 0 (va_A [] sz) := by
  refine Met.ofW (cc := cX6_fitting) (maxL := 4) (ret := (some .int)) (by decide) rfl ?_
  intro p e s m args below meth c s₁ B hml hv
  obtain ⟨⟨hargs, hsz, hP, hK, hT⟩, hV⟩ := hv
  have hx := B.exec
  have hb := B.bytes
  have hr := B.returns
  have hts : ∀ w ∈ wA, w.before args s = true := fun w h => atoms_spec (ws := .code yX6_fitting cX6_fitting 4 (some .int) :: wA) B.pre w (List.mem_cons_of_mem _ h)
  have hown : s.vm.findClass RX6 = some m.cls := findClass_of_methodNamed B.named
  have hlocks := B.notSynchronized
  subst hsz
  have hD : va_D (va_A [] s.heap.size) [] := zD0
  generalize hAe : va_A [] s.heap.size = A at hD hV ⊢
  have hA : ∀ q : Nat, s.heap.size ≤ q → A q := fun q h => by rw [← hAe]; exact Or.inr h
  have hl := lv_entry ([.ref h0, .int p0]) (n := 4) (Nat.le_of_ble_eq_true rfl)
  rw [show entryFrame m args 4 = entryFrame m ([.ref h0, .int p0] : List Value).toArray 4 by rw [hargs], lg_entry_eq]
  generalize (lg_sl ([.ref h0, .int p0]) ++ List.replicate (4 - (lg_sl ([.ref h0, .int p0])).length) Slot.unset).toArray = ls at hl ⊢
  have hl : lv_has ls 4 [(0, .ref h0), (1, .int p0)] := hl
  refine zstart (fun H hH => ?_)
  rw [← hH] at hP
  have hS : va_S A s.heap H [] := by rw [hH]; exact va_S.rf
  generalize ([] : List Loc) = locs at hS ⊢
  refine zgen (fun R Q hR hQ => ?_)
  refine lv_aload_n hx hb dX6_fitting_0 rfl (lv_at hl 0 rfl) ?_
  refine va_get (D := (dC, dI)) (ci := 6) (v := .ref aC) (C := RX6) (T := TX6) (N := 9) hx hb hts iX6 hown hK hP 0 rfl rfl 0 (by decide) (hts _ qw316) (fun _ h9 => h9) rfl dX6_fitting_1 ?_
  refine lv_iload_n hx hb dX6_fitting_4 rfl (lv_at hl 1 rfl) ?_
  obtain ⟨hPc, hDc⟩ := zc2 (wc := [(aC, .inr (1, [.ref aR, .ref aB, .ref aP, .int nb, .int np])), (aB, .inl (cI, 24, .inl fb))]) hP hT [1, 2] (by decide +kernel) rfl
  have hFc := zfr hS hA
  refine va_calli (va_runV (As := [.int p0]) (rest := []) ⟨hx, hb, hml, hown, hts⟩ (g_X1_faceOf l dC dI cI cJ aC p0 aR aB aP nb np fb H.size n_p0) (cwV 1 hts (zgV qw823 qw703 qw704 qw102 qw705) rfl rfl rfl hd_X1_faceOf ⟨by rw [hR]; exact Nat.le_of_ble_eq_true rfl, by rw [hR]; exact Nat.le_of_ble_eq_true rfl⟩) (zPV hPc hK hDc (va_recv (q := (RX1, TX1, 5)) hK hP (ci := 1) (q0 := 1) rfl rfl)) rfl rfl hl.1 rfl (lv_room (Nat.le_of_ble_eq_true rfl)) dX6_fitting_5 ⟨Nat.zero_le _, Nat.zero_le _⟩) hS (fun q _ h => hFc q h) hFc (fun v5 u5 t H locs ht hvm hw hB hz1 hk1 hS9 => ?_)
  replace hP := zkeep hP hk1
  replace hS := hS9
  clear hPc hDc hFc hk1 hz1 hvm hS9
  have f5_0 : (v5 = fb (4 * p0.toInt.toNat)) := hw
  have F5 := f5_0
  refine lv_istore_n (lv' := [(2, .int v5), (0, .ref h0), (1, .int p0)]) hx hb dX6_fitting_8 rfl hl (by decide) rfl (fun ls hl => ?_)
  refine lv_sipush (v := 1023) hx hb dX6_fitting_9 (by decide) ?_
  refine lv_istore_n (lv' := [(3, .int 1023), (2, .int v5), (0, .ref h0), (1, .int p0)]) hx hb dX6_fitting_12 rfl hl (by decide) rfl (fun ls hl => ?_)
  refine lv_aload_n hx hb dX6_fitting_13 rfl (lv_at hl 2 rfl) ?_
  refine va_get (D := (dC, dI)) (ci := 6) (v := .ref g0) (C := RX6) (T := TX6) (N := 9) hx hb hts iX6 hown hK hP 0 rfl rfl 1 (by decide) (hts _ qw317) (fun _ h9 => h9) rfl dX6_fitting_14 ?_
  refine va_get (D := (dC, dI)) (ci := 7) (v := .int glt) (C := RX7) (T := TX7) (N := 9) hx hb hts iX7 hown hK hP 3 rfl rfl 4 (by decide) (hts _ qw231) (fun _ h9 => h9) rfl dX6_fitting_17 ?_
  refine lv_iload_n hx hb dX6_fitting_20 rfl (lv_at hl 3 rfl) ?_
  have hPc : va_P (dC, dI) vwCl [] H := zP0
  have hDc : va_D (fun _ => True) [] := zD0
  have hFc := zfr hS hA
  refine va_calli (va_runSN (As := [.int glt, .int p0]) (rest := []) ⟨hx, hb, hml, hown, hts⟩ (g_X10_bit l dC dI cI cJ glt p0 H.size) ⟨va_cnB 2 hts (zgI qw454) rfl rfl rfl hV.1 (hts _ qw98) (hd_X10_bit).2 ⟨by rw [hR]; exact Nat.le_of_ble_eq_true rfl, by rw [hR]; exact Nat.le_of_ble_eq_true rfl⟩, hts _ qw453, trivial⟩ (zPS hPc hK hDc) rfl rfl hl.1 rfl (lv_room (Nat.le_of_ble_eq_true rfl)) dX6_fitting_21 ⟨Nat.zero_le _, Nat.zero_le _⟩) hS (fun q _ h => hFc q h) hFc (fun v21 u21 t H locs ht hvm hw hB hz1 hk1 hS9 => ?_)
  replace hP := zkeep hP hk1
  replace hS := hS9
  clear hPc hDc hFc hk1 hz1 hvm hS9
  obtain ⟨f21_0, f21_1, f21_2⟩ : (0 ≤ v21.toInt) ∧ (v21.toInt ≤ 1) ∧ (v21 = cBt glt p0) := hw
  have F21 := f21_2
  refine lv_iconst (v := 1) hx hb dX6_fitting_24 (by decide) ?_
  refine lv_icmp_ne (tgt := 45) hx hb dX6_fitting_25 (by decide) (fun c25 => ?_) (fun c25 => ?_)
  · have c25 : ¬ v21.toInt = 1 := z6 rfl (by decide) c25
    refine lv_aload_n hx hb dX6_fitting_45 rfl (lv_at hl 2 rfl) ?_
    refine va_get (D := (dC, dI)) (ci := 6) (v := .ref g0) (C := RX6) (T := TX6) (N := 9) hx hb hts iX6 hown hK hP 0 rfl rfl 1 (by decide) (hts _ qw317) (fun _ h9 => h9) rfl dX6_fitting_46 ?_
    refine va_get (D := (dC, dI)) (ci := 7) (v := .int gsh) (C := RX7) (T := TX7) (N := 9) hx hb hts iX7 hown hK hP 3 rfl rfl 5 (by decide) (hts _ qw234) (fun _ h9 => h9) rfl dX6_fitting_49 ?_
    refine lv_iload_n hx hb dX6_fitting_52 rfl (lv_at hl 3 rfl) ?_
    have hPc : va_P (dC, dI) vwCl [] H := zP0
    have hDc : va_D (fun _ => True) [] := zD0
    have hFc := zfr hS hA
    refine va_calli (va_runSN (As := [.int gsh, .int p0]) (rest := []) ⟨hx, hb, hml, hown, hts⟩ (g_X10_bit l dC dI cI cJ gsh p0 H.size) ⟨va_cnB 2 hts (zgI qw454) rfl rfl rfl hV.1 (hts _ qw98) (hd_X10_bit).2 ⟨by rw [hR]; exact Nat.le_of_ble_eq_true rfl, by rw [hR]; exact Nat.le_of_ble_eq_true rfl⟩, hts _ qw453, trivial⟩ (zPS hPc hK hDc) rfl rfl hl.1 rfl (lv_room (Nat.le_of_ble_eq_true rfl)) dX6_fitting_53 ⟨Nat.zero_le _, Nat.zero_le _⟩) hS (fun q _ h => hFc q h) hFc (fun v53 u53 t H locs ht hvm hw hB hz1 hk1 hS9 => ?_)
    replace hP := zkeep hP hk1
    replace hS := hS9
    clear hPc hDc hFc hk1 hz1 hvm hS9
    obtain ⟨f53_0, f53_1, f53_2⟩ : (0 ≤ v53.toInt) ∧ (v53.toInt ≤ 1) ∧ (v53 = cBt gsh p0) := hw
    have F53 := f53_2
    refine lv_iconst (v := 1) hx hb dX6_fitting_56 (by decide) ?_
    refine lv_icmp_ne (tgt := 79) hx hb dX6_fitting_57 (by decide) (fun c57 => ?_) (fun c57 => ?_)
    · have c57 : ¬ v53.toInt = 1 := z6 rfl (by decide) c57
      refine lv_iload_n hx hb dX6_fitting_79 rfl (lv_at hl 0 rfl) ?_
      have zr0 : (1023 : Int32).toInt = 1023 := by decide
      rw [hQ]
      exact W.iret (v := 1023) hx hb hr (fun t ht hW => ⟨⟨1023, (), rfl, ⟨by (try dsimp only); omega, by (try dsimp only); omega, by unfold zFit; rw [← F5, ← F21, ← F53, if_neg (show ¬ v21.toInt = 1 by omega), if_neg (show ¬ v53.toInt = 1 by omega)]; decide⟩, trivial⟩, hS.F ht⟩) hS.2.2 dX6_fitting_80
    · have c57 : v53.toInt = 1 := z5 rfl (by decide) c57
      refine lv_iload_n hx hb dX6_fitting_60 rfl (lv_at hl 0 rfl) ?_
      refine lv_iload_n hx hb dX6_fitting_61 rfl (lv_at hl 1 rfl) ?_
      refine lv_iconst (v := 2) hx hb dX6_fitting_62 (by decide) ?_
      refine lv_irem hx hb dX6_fitting_63 (by decide) ?_
      refine lv_topi (fun v63 e63 => ?_)
      refine lv_iconst (v := 1) hx hb dX6_fitting_64 (by decide) ?_
      refine lv_icmp_ne (tgt := 74) hx hb dX6_fitting_65 (by decide) (fun c65 => ?_) (fun c65 => ?_)
      · have c65 : ¬ v63.toInt = 1 := z6 rfl (by decide) c65
        refine lv_sipush (v := (-683)) hx hb dX6_fitting_74 (by decide) ?_
        refine lv_iand hx hb dX6_fitting_77 ?_
        refine lv_topi (fun v77 e77 => ?_)
        obtain rfl : v77 = 341 := e77.trans (by decide)
        refine lv_istore_n (lv' := [(3, .int 341), (2, .int v5), (0, .ref h0), (1, .int p0)]) hx hb dX6_fitting_78 rfl hl (by decide) rfl (fun ls hl => ?_)
        refine lv_iload_n hx hb dX6_fitting_79 rfl (lv_at hl 0 rfl) ?_
        have zr0 : (341 : Int32).toInt = 341 := by decide
        rw [hQ]
        exact W.iret (v := 341) hx hb hr (fun t ht hW => ⟨⟨341, (), rfl, ⟨by (try dsimp only); omega, by (try dsimp only); omega, by unfold zFit; rw [← F5, ← F21, ← F53, if_neg (show ¬ v21.toInt = 1 by omega), if_pos (show v53.toInt = 1 by omega), ← e63, if_neg (show ¬ v63.toInt = 1 by omega)]; decide⟩, trivial⟩, hS.F ht⟩) hS.2.2 dX6_fitting_80
      · have c65 : v63.toInt = 1 := z5 rfl (by decide) c65
        refine lv_sipush (v := 682) hx hb dX6_fitting_68 (by decide) ?_
        refine lv_goto (tgt := 77) hx hb dX6_fitting_71 (by decide) ?_
        refine lv_iand hx hb dX6_fitting_77 ?_
        refine lv_topi (fun v77 e77 => ?_)
        obtain rfl : v77 = 682 := e77.trans (by decide)
        refine lv_istore_n (lv' := [(3, .int 682), (2, .int v5), (0, .ref h0), (1, .int p0)]) hx hb dX6_fitting_78 rfl hl (by decide) rfl (fun ls hl => ?_)
        refine lv_iload_n hx hb dX6_fitting_79 rfl (lv_at hl 0 rfl) ?_
        have zr0 : (682 : Int32).toInt = 682 := by decide
        rw [hQ]
        exact W.iret (v := 682) hx hb hr (fun t ht hW => ⟨⟨682, (), rfl, ⟨by (try dsimp only); omega, by (try dsimp only); omega, by unfold zFit; rw [← F5, ← F21, ← F53, if_neg (show ¬ v21.toInt = 1 by omega), if_pos (show v53.toInt = 1 by omega), ← e63, if_pos (show v63.toInt = 1 by omega)]; decide⟩, trivial⟩, hS.F ht⟩) hS.2.2 dX6_fitting_80
  · have c25 : v21.toInt = 1 := z5 rfl (by decide) c25
    refine lv_iload_n hx hb dX6_fitting_28 rfl (lv_at hl 0 rfl) ?_
    refine lv_iload_n hx hb dX6_fitting_29 rfl (lv_at hl 1 rfl) ?_
    refine lv_iconst (v := 5) hx hb dX6_fitting_30 (by decide) ?_
    refine lv_icmp_lt (tgt := 40) hx hb dX6_fitting_31 (by decide) (fun c31 => ?_) (fun c31 => ?_)
    · have c31 : v5.toInt < 5 := z1 rfl (by decide) c31
      refine lv_sipush (v := (-993)) hx hb dX6_fitting_40 (by decide) ?_
      refine lv_iand hx hb dX6_fitting_43 ?_
      refine lv_topi (fun v43 e43 => ?_)
      obtain rfl : v43 = 31 := e43.trans (by decide)
      refine lv_istore_n (lv' := [(3, .int 31), (2, .int v5), (0, .ref h0), (1, .int p0)]) hx hb dX6_fitting_44 rfl hl (by decide) rfl (fun ls hl => ?_)
      refine lv_aload_n hx hb dX6_fitting_45 rfl (lv_at hl 2 rfl) ?_
      refine va_get (D := (dC, dI)) (ci := 6) (v := .ref g0) (C := RX6) (T := TX6) (N := 9) hx hb hts iX6 hown hK hP 0 rfl rfl 1 (by decide) (hts _ qw317) (fun _ h9 => h9) rfl dX6_fitting_46 ?_
      refine va_get (D := (dC, dI)) (ci := 7) (v := .int gsh) (C := RX7) (T := TX7) (N := 9) hx hb hts iX7 hown hK hP 3 rfl rfl 5 (by decide) (hts _ qw234) (fun _ h9 => h9) rfl dX6_fitting_49 ?_
      refine lv_iload_n hx hb dX6_fitting_52 rfl (lv_at hl 3 rfl) ?_
      have hPc : va_P (dC, dI) vwCl [] H := zP0
      have hDc : va_D (fun _ => True) [] := zD0
      have hFc := zfr hS hA
      refine va_calli (va_runSN (As := [.int gsh, .int p0]) (rest := []) ⟨hx, hb, hml, hown, hts⟩ (g_X10_bit l dC dI cI cJ gsh p0 H.size) ⟨va_cnB 2 hts (zgI qw454) rfl rfl rfl hV.1 (hts _ qw98) (hd_X10_bit).2 ⟨by rw [hR]; exact Nat.le_of_ble_eq_true rfl, by rw [hR]; exact Nat.le_of_ble_eq_true rfl⟩, hts _ qw453, trivial⟩ (zPS hPc hK hDc) rfl rfl hl.1 rfl (lv_room (Nat.le_of_ble_eq_true rfl)) dX6_fitting_53 ⟨Nat.zero_le _, Nat.zero_le _⟩) hS (fun q _ h => hFc q h) hFc (fun v53 u53 t H locs ht hvm hw hB hz1 hk1 hS9 => ?_)
      replace hP := zkeep hP hk1
      replace hS := hS9
      clear hPc hDc hFc hk1 hz1 hvm hS9
      obtain ⟨f53_0, f53_1, f53_2⟩ : (0 ≤ v53.toInt) ∧ (v53.toInt ≤ 1) ∧ (v53 = cBt gsh p0) := hw
      have F53 := f53_2
      refine lv_iconst (v := 1) hx hb dX6_fitting_56 (by decide) ?_
      refine lv_icmp_ne (tgt := 79) hx hb dX6_fitting_57 (by decide) (fun c57 => ?_) (fun c57 => ?_)
      · have c57 : ¬ v53.toInt = 1 := z6 rfl (by decide) c57
        refine lv_iload_n hx hb dX6_fitting_79 rfl (lv_at hl 0 rfl) ?_
        have zr0 : (31 : Int32).toInt = 31 := by decide
        rw [hQ]
        exact W.iret (v := 31) hx hb hr (fun t ht hW => ⟨⟨31, (), rfl, ⟨by (try dsimp only); omega, by (try dsimp only); omega, by unfold zFit; rw [← F5, ← F21, ← F53, if_pos (show v21.toInt = 1 by omega), if_neg (show ¬ 5 ≤ v5.toInt by omega), if_neg (show ¬ v53.toInt = 1 by omega)]; decide⟩, trivial⟩, hS.F ht⟩) hS.2.2 dX6_fitting_80
      · have c57 : v53.toInt = 1 := z5 rfl (by decide) c57
        refine lv_iload_n hx hb dX6_fitting_60 rfl (lv_at hl 0 rfl) ?_
        refine lv_iload_n hx hb dX6_fitting_61 rfl (lv_at hl 1 rfl) ?_
        refine lv_iconst (v := 2) hx hb dX6_fitting_62 (by decide) ?_
        refine lv_irem hx hb dX6_fitting_63 (by decide) ?_
        refine lv_topi (fun v63 e63 => ?_)
        refine lv_iconst (v := 1) hx hb dX6_fitting_64 (by decide) ?_
        refine lv_icmp_ne (tgt := 74) hx hb dX6_fitting_65 (by decide) (fun c65 => ?_) (fun c65 => ?_)
        · have c65 : ¬ v63.toInt = 1 := z6 rfl (by decide) c65
          refine lv_sipush (v := (-683)) hx hb dX6_fitting_74 (by decide) ?_
          refine lv_iand hx hb dX6_fitting_77 ?_
          refine lv_topi (fun v77 e77 => ?_)
          obtain rfl : v77 = 21 := e77.trans (by decide)
          refine lv_istore_n (lv' := [(3, .int 21), (2, .int v5), (0, .ref h0), (1, .int p0)]) hx hb dX6_fitting_78 rfl hl (by decide) rfl (fun ls hl => ?_)
          refine lv_iload_n hx hb dX6_fitting_79 rfl (lv_at hl 0 rfl) ?_
          have zr0 : (21 : Int32).toInt = 21 := by decide
          rw [hQ]
          exact W.iret (v := 21) hx hb hr (fun t ht hW => ⟨⟨21, (), rfl, ⟨by (try dsimp only); omega, by (try dsimp only); omega, by unfold zFit; rw [← F5, ← F21, ← F53, if_pos (show v21.toInt = 1 by omega), if_neg (show ¬ 5 ≤ v5.toInt by omega), if_pos (show v53.toInt = 1 by omega), ← e63, if_neg (show ¬ v63.toInt = 1 by omega)]; decide⟩, trivial⟩, hS.F ht⟩) hS.2.2 dX6_fitting_80
        · have c65 : v63.toInt = 1 := z5 rfl (by decide) c65
          refine lv_sipush (v := 682) hx hb dX6_fitting_68 (by decide) ?_
          refine lv_goto (tgt := 77) hx hb dX6_fitting_71 (by decide) ?_
          refine lv_iand hx hb dX6_fitting_77 ?_
          refine lv_topi (fun v77 e77 => ?_)
          obtain rfl : v77 = 10 := e77.trans (by decide)
          refine lv_istore_n (lv' := [(3, .int 10), (2, .int v5), (0, .ref h0), (1, .int p0)]) hx hb dX6_fitting_78 rfl hl (by decide) rfl (fun ls hl => ?_)
          refine lv_iload_n hx hb dX6_fitting_79 rfl (lv_at hl 0 rfl) ?_
          have zr0 : (10 : Int32).toInt = 10 := by decide
          rw [hQ]
          exact W.iret (v := 10) hx hb hr (fun t ht hW => ⟨⟨10, (), rfl, ⟨by (try dsimp only); omega, by (try dsimp only); omega, by unfold zFit; rw [← F5, ← F21, ← F53, if_pos (show v21.toInt = 1 by omega), if_neg (show ¬ 5 ≤ v5.toInt by omega), if_pos (show v53.toInt = 1 by omega), ← e63, if_pos (show v63.toInt = 1 by omega)]; decide⟩, trivial⟩, hS.F ht⟩) hS.2.2 dX6_fitting_80
    · have c31 : 5 ≤ v5.toInt := z2 rfl (by decide) c31
      refine lv_sipush (v := 992) hx hb dX6_fitting_34 (by decide) ?_
      refine lv_goto (tgt := 43) hx hb dX6_fitting_37 (by decide) ?_
      refine lv_iand hx hb dX6_fitting_43 ?_
      refine lv_topi (fun v43 e43 => ?_)
      obtain rfl : v43 = 992 := e43.trans (by decide)
      refine lv_istore_n (lv' := [(3, .int 992), (2, .int v5), (0, .ref h0), (1, .int p0)]) hx hb dX6_fitting_44 rfl hl (by decide) rfl (fun ls hl => ?_)
      refine lv_aload_n hx hb dX6_fitting_45 rfl (lv_at hl 2 rfl) ?_
      refine va_get (D := (dC, dI)) (ci := 6) (v := .ref g0) (C := RX6) (T := TX6) (N := 9) hx hb hts iX6 hown hK hP 0 rfl rfl 1 (by decide) (hts _ qw317) (fun _ h9 => h9) rfl dX6_fitting_46 ?_
      refine va_get (D := (dC, dI)) (ci := 7) (v := .int gsh) (C := RX7) (T := TX7) (N := 9) hx hb hts iX7 hown hK hP 3 rfl rfl 5 (by decide) (hts _ qw234) (fun _ h9 => h9) rfl dX6_fitting_49 ?_
      refine lv_iload_n hx hb dX6_fitting_52 rfl (lv_at hl 3 rfl) ?_
      have hPc : va_P (dC, dI) vwCl [] H := zP0
      have hDc : va_D (fun _ => True) [] := zD0
      have hFc := zfr hS hA
      refine va_calli (va_runSN (As := [.int gsh, .int p0]) (rest := []) ⟨hx, hb, hml, hown, hts⟩ (g_X10_bit l dC dI cI cJ gsh p0 H.size) ⟨va_cnB 2 hts (zgI qw454) rfl rfl rfl hV.1 (hts _ qw98) (hd_X10_bit).2 ⟨by rw [hR]; exact Nat.le_of_ble_eq_true rfl, by rw [hR]; exact Nat.le_of_ble_eq_true rfl⟩, hts _ qw453, trivial⟩ (zPS hPc hK hDc) rfl rfl hl.1 rfl (lv_room (Nat.le_of_ble_eq_true rfl)) dX6_fitting_53 ⟨Nat.zero_le _, Nat.zero_le _⟩) hS (fun q _ h => hFc q h) hFc (fun v53 u53 t H locs ht hvm hw hB hz1 hk1 hS9 => ?_)
      replace hP := zkeep hP hk1
      replace hS := hS9
      clear hPc hDc hFc hk1 hz1 hvm hS9
      obtain ⟨f53_0, f53_1, f53_2⟩ : (0 ≤ v53.toInt) ∧ (v53.toInt ≤ 1) ∧ (v53 = cBt gsh p0) := hw
      have F53 := f53_2
      refine lv_iconst (v := 1) hx hb dX6_fitting_56 (by decide) ?_
      refine lv_icmp_ne (tgt := 79) hx hb dX6_fitting_57 (by decide) (fun c57 => ?_) (fun c57 => ?_)
      · have c57 : ¬ v53.toInt = 1 := z6 rfl (by decide) c57
        refine lv_iload_n hx hb dX6_fitting_79 rfl (lv_at hl 0 rfl) ?_
        have zr0 : (992 : Int32).toInt = 992 := by decide
        rw [hQ]
        exact W.iret (v := 992) hx hb hr (fun t ht hW => ⟨⟨992, (), rfl, ⟨by (try dsimp only); omega, by (try dsimp only); omega, by unfold zFit; rw [← F5, ← F21, ← F53, if_pos (show v21.toInt = 1 by omega), if_pos (show 5 ≤ v5.toInt by omega), if_neg (show ¬ v53.toInt = 1 by omega)]; decide⟩, trivial⟩, hS.F ht⟩) hS.2.2 dX6_fitting_80
      · have c57 : v53.toInt = 1 := z5 rfl (by decide) c57
        refine lv_iload_n hx hb dX6_fitting_60 rfl (lv_at hl 0 rfl) ?_
        refine lv_iload_n hx hb dX6_fitting_61 rfl (lv_at hl 1 rfl) ?_
        refine lv_iconst (v := 2) hx hb dX6_fitting_62 (by decide) ?_
        refine lv_irem hx hb dX6_fitting_63 (by decide) ?_
        refine lv_topi (fun v63 e63 => ?_)
        have i63 : v63.toInt = v5.toInt % 2 := zrem e63 rfl (by decide) (by omega) (by omega)
        refine lv_iconst (v := 1) hx hb dX6_fitting_64 (by decide) ?_
        refine lv_icmp_ne (tgt := 74) hx hb dX6_fitting_65 (by decide) (fun c65 => ?_) (fun c65 => ?_)
        · have c65 : ¬ v63.toInt = 1 := z6 rfl (by decide) c65
          refine lv_sipush (v := (-683)) hx hb dX6_fitting_74 (by decide) ?_
          refine lv_iand hx hb dX6_fitting_77 ?_
          refine lv_topi (fun v77 e77 => ?_)
          obtain rfl : v77 = 320 := e77.trans (by decide)
          refine lv_istore_n (lv' := [(3, .int 320), (2, .int v5), (0, .ref h0), (1, .int p0)]) hx hb dX6_fitting_78 rfl hl (by decide) rfl (fun ls hl => ?_)
          refine lv_iload_n hx hb dX6_fitting_79 rfl (lv_at hl 0 rfl) ?_
          have zr0 : (320 : Int32).toInt = 320 := by decide
          rw [hQ]
          exact W.iret (v := 320) hx hb hr (fun t ht hW => ⟨⟨320, (), rfl, ⟨by (try dsimp only); omega, by (try dsimp only); omega, by unfold zFit; rw [← F5, ← F21, ← F53, if_pos (show v21.toInt = 1 by omega), if_pos (show 5 ≤ v5.toInt by omega), if_pos (show v53.toInt = 1 by omega), ← e63, if_neg (show ¬ v63.toInt = 1 by omega)]; decide⟩, trivial⟩, hS.F ht⟩) hS.2.2 dX6_fitting_80
        · have c65 : v63.toInt = 1 := z5 rfl (by decide) c65
          refine lv_sipush (v := 682) hx hb dX6_fitting_68 (by decide) ?_
          refine lv_goto (tgt := 77) hx hb dX6_fitting_71 (by decide) ?_
          refine lv_iand hx hb dX6_fitting_77 ?_
          refine lv_topi (fun v77 e77 => ?_)
          obtain rfl : v77 = 672 := e77.trans (by decide)
          refine lv_istore_n (lv' := [(3, .int 672), (2, .int v5), (0, .ref h0), (1, .int p0)]) hx hb dX6_fitting_78 rfl hl (by decide) rfl (fun ls hl => ?_)
          refine lv_iload_n hx hb dX6_fitting_79 rfl (lv_at hl 0 rfl) ?_
          have zr0 : (672 : Int32).toInt = 672 := by decide
          rw [hQ]
          exact W.iret (v := 672) hx hb hr (fun t ht hW => ⟨⟨672, (), rfl, ⟨by (try dsimp only); omega, by (try dsimp only); omega, by unfold zFit; rw [← F5, ← F21, ← F53, if_pos (show v21.toInt = 1 by omega), if_pos (show 5 ≤ v5.toInt by omega), if_pos (show v53.toInt = 1 by omega), ← e63, if_pos (show v63.toInt = 1 by omega)]; decide⟩, trivial⟩, hS.F ht⟩) hS.2.2 dX6_fitting_80
set_option maxHeartbeats 4000000 in
set_option maxRecDepth 100000 in
theorem g_X6_share (l : Launch) (dC : Nat → ClassId) (dI : Nat → Nat → Nat) (cI cJ : ClassId) (h0 : Nat) (p0 : Int32) (aC : Nat) (g0 : Nat) (sd : Nat) (mW : Nat) (mt : Int64) (lf : Int32) (mV : Nat) (mA : Nat) (mT : Nat) (fW : Nat → Int64) (sz : Nat) (n_p0 : 0 ≤ p0.toInt ∧ p0.toInt ≤ 9)    : Met l yX6_share (.code yX6_share cX6_share 2 (some .int) :: wA) ({ frames := 0, cells := 0, slots := 0, locals := 0 }) (zP (dC, dI) [(cI, .int), (cJ, .long)] [.ref h0, .int p0] sz [(h0, .inr (6, [.ref aC, .ref g0, .ref sd, .ref mW, .long mt, .int lf, .ref mV, .ref mA, .ref mT])), (mW, .inl (cJ, 10, .inr (.inl fW)))]) (va_Qi (fun (r : Int32) (u : Unit) => (r = sBv fW mt p0.toInt.toNat)) (fun (_ : Unit) (_ : State) => True) (va_A [] sz)) 0 0 (va_A [] sz) := by
  refine Met.ofW (cc := cX6_share) (maxL := 2) (ret := (some .int)) (by decide) rfl ?_
  intro p e s m args below meth c s₁ B hml hv
  obtain ⟨hargs, hsz, hP, hK, hT⟩ := hv
  have hx := B.exec
  have hb := B.bytes
  have hr := B.returns
  have hts : ∀ w ∈ wA, w.before args s = true := fun w h => atoms_spec (ws := .code yX6_share cX6_share 2 (some .int) :: wA) B.pre w (List.mem_cons_of_mem _ h)
  have hown : s.vm.findClass RX6 = some m.cls := findClass_of_methodNamed B.named
  have hlocks := B.notSynchronized
  subst hsz
  have hD : va_D (va_A [] s.heap.size) [] := zD0
  generalize hAe : va_A [] s.heap.size = A at hD ⊢
  have hA : ∀ q : Nat, s.heap.size ≤ q → A q := fun q h => by rw [← hAe]; exact Or.inr h
  have hl := lv_entry ([.ref h0, .int p0]) (n := 2) (Nat.le_of_ble_eq_true rfl)
  rw [show entryFrame m args 2 = entryFrame m ([.ref h0, .int p0] : List Value).toArray 2 by rw [hargs], lg_entry_eq]
  generalize (lg_sl ([.ref h0, .int p0]) ++ List.replicate (2 - (lg_sl ([.ref h0, .int p0])).length) Slot.unset).toArray = ls at hl ⊢
  have hl : lv_has ls 2 [(0, .ref h0), (1, .int p0)] := hl
  refine zstart (fun H hH => ?_)
  rw [← hH] at hP
  have hS : va_S A s.heap H [] := by rw [hH]; exact va_S.rf
  generalize ([] : List Loc) = locs at hS ⊢
  refine zgen (fun R Q hR hQ => ?_)
  refine lv_aload_n hx hb dX6_share_0 rfl (lv_at hl 0 rfl) ?_
  refine va_get (D := (dC, dI)) (ci := 6) (v := .long mt) (C := RX6) (T := TX6) (N := 9) hx hb hts iX6 hown hK hP 0 rfl rfl 4 (by decide) (hts _ qw320) (fun _ h9 => h9) rfl dX6_share_1 ?_
  refine lv_lconst (v := 0) hx hb dX6_share_4 rfl ?_
  refine W.lcmp hx hb dX6_share_5 ?_
  refine lv_topi (fun v5 e5 => ?_)
  refine lv_if_ne (tgt := 13) hx hb dX6_share_6 (by decide) (fun c6 => ?_) (fun c6 => ?_)
  · have c6 : ¬ v5.toInt = 0 := z6 rfl (by decide) c6
    refine lv_aload_n hx hb dX6_share_13 rfl (lv_at hl 0 rfl) ?_
    refine va_get (D := (dC, dI)) (ci := 6) (v := .ref mW) (C := RX6) (T := TX6) (N := 9) hx hb hts iX6 hown hK hP 0 rfl rfl 3 (by decide) (hts _ qw319) (fun _ h9 => h9) rfl dX6_share_14 ?_
    refine lv_iload_n hx hb dX6_share_17 rfl (lv_at hl 1 rfl) ?_
    refine va_lald hx hb hK hP 1 1 rfl rfl (vp_in_iff.mpr ⟨by omega, by omega⟩) dX6_share_18 ?_
    refine lv_topl (fun v18 e18 => ?_)
    refine lv_ldc2 (v := 1000000) hx hb hown (hts _ qw854) dX6_share_19 ?_
    refine lv_lmul hx hb dX6_share_22 ?_
    refine lv_topl (fun v22 e22 => ?_)
    refine lv_aload_n hx hb dX6_share_23 rfl (lv_at hl 0 rfl) ?_
    refine va_get (D := (dC, dI)) (ci := 6) (v := .long mt) (C := RX6) (T := TX6) (N := 9) hx hb hts iX6 hown hK hP 0 rfl rfl 4 (by decide) (hts _ qw320) (fun _ h9 => h9) rfl dX6_share_24 ?_
    refine lv_ldiv hx hb dX6_share_27 (zl0 e5 (by omega)) ?_
    refine lv_topl (fun v27 e27 => ?_)
    refine lv_l2i hx hb dX6_share_28 rfl ?_
    refine lv_topi (fun v28 e28 => ?_)
    rw [hQ]
    exact W.iret (v := v28) hx hb hr (fun t ht hW => ⟨⟨v28, (), rfl, (by unfold sBv; rw [if_neg (zl0 e5 (by omega)), e28, e27, e22, e18]; rfl), trivial⟩, hS.F ht⟩) hS.2.2 dX6_share_29
  · have c6 : v5.toInt = 0 := z5 rfl (by decide) c6
    refine lv_iconst (v := 0) hx hb dX6_share_9 (by decide) ?_
    refine lv_goto (tgt := 29) hx hb dX6_share_10 (by decide) ?_
    have zr0 : (0 : Int32).toInt = 0 := by decide
    rw [hQ]
    exact W.iret (v := 0) hx hb hr (fun t ht hW => ⟨⟨0, (), rfl, (by unfold sBv; exact (if_pos (zl0z e5 (by omega))).symm), trivial⟩, hS.F ht⟩) hS.2.2 dX6_share_29
set_option maxHeartbeats 4000000 in
set_option maxRecDepth 100000 in
theorem g_X6_sketches (l : Launch) (dC : Nat → ClassId) (dI : Nat → Nat → Nat) (cI cJ : ClassId) (h0 : Nat) (p0 : Int32) (aC : Nat) (g0 : Nat) (sd : Nat) (mW : Nat) (mt : Int64) (lf : Int32) (mV : Nat) (mA : Nat) (mT : Nat) (aR : Nat) (aB : Nat) (aP : Nat) (nb : Int32) (np : Int32) (fp : Nat → Int32) (sz : Nat) (n_p0 : 0 ≤ p0.toInt ∧ p0.toInt ≤ 4)    : Met l yX6_sketches (.code yX6_sketches cX6_sketches 2 (some .boolean) :: wA) ({ frames := 2, cells := 0, slots := 0, locals := 43 }) (zP (dC, dI) [(cI, .int), (cJ, .long)] [.ref h0, .int p0] sz [(h0, .inr (6, [.ref aC, .ref g0, .ref sd, .ref mW, .long mt, .int lf, .ref mV, .ref mA, .ref mT])), (aC, .inr (1, [.ref aR, .ref aB, .ref aP, .int nb, .int np])), (aP, .inl (cI, 20, .inl fp))]) (va_Qi (fun (r : Int32) (u : Unit) => (0 ≤ r.toInt) ∧ (r.toInt ≤ 1) ∧ ((r.toInt = 1 ∧ ¬ (fp (4 * p0.toInt.toNat + 3)).toInt = 3) ∨ (r.toInt = 0 ∧ (fp (4 * p0.toInt.toNat + 3)).toInt = 3))) (fun (_ : Unit) (_ : State) => True) (va_A [] sz)) 0 0 (va_A [] sz) := by
  refine Met.ofW (cc := cX6_sketches) (maxL := 2) (ret := (some .boolean)) (by decide) rfl ?_
  intro p e s m args below meth c s₁ B hml hv
  obtain ⟨hargs, hsz, hP, hK, hT⟩ := hv
  have hx := B.exec
  have hb := B.bytes
  have hr := B.returns
  have hts : ∀ w ∈ wA, w.before args s = true := fun w h => atoms_spec (ws := .code yX6_sketches cX6_sketches 2 (some .boolean) :: wA) B.pre w (List.mem_cons_of_mem _ h)
  have hown : s.vm.findClass RX6 = some m.cls := findClass_of_methodNamed B.named
  have hlocks := B.notSynchronized
  subst hsz
  have hD : va_D (va_A [] s.heap.size) [] := zD0
  generalize hAe : va_A [] s.heap.size = A at hD ⊢
  have hA : ∀ q : Nat, s.heap.size ≤ q → A q := fun q h => by rw [← hAe]; exact Or.inr h
  have hl := lv_entry ([.ref h0, .int p0]) (n := 2) (Nat.le_of_ble_eq_true rfl)
  rw [show entryFrame m args 2 = entryFrame m ([.ref h0, .int p0] : List Value).toArray 2 by rw [hargs], lg_entry_eq]
  generalize (lg_sl ([.ref h0, .int p0]) ++ List.replicate (2 - (lg_sl ([.ref h0, .int p0])).length) Slot.unset).toArray = ls at hl ⊢
  have hl : lv_has ls 2 [(0, .ref h0), (1, .int p0)] := hl
  refine zstart (fun H hH => ?_)
  rw [← hH] at hP
  have hS : va_S A s.heap H [] := by rw [hH]; exact va_S.rf
  generalize ([] : List Loc) = locs at hS ⊢
  refine zgen (fun R Q hR hQ => ?_)
  refine lv_aload_n hx hb dX6_sketches_0 rfl (lv_at hl 0 rfl) ?_
  refine va_get (D := (dC, dI)) (ci := 6) (v := .ref aC) (C := RX6) (T := TX6) (N := 9) hx hb hts iX6 hown hK hP 0 rfl rfl 0 (by decide) (hts _ qw316) (fun _ h9 => h9) rfl dX6_sketches_1 ?_
  refine lv_iload_n hx hb dX6_sketches_4 rfl (lv_at hl 1 rfl) ?_
  obtain ⟨hPc, hDc⟩ := zc2 (wc := [(aC, .inr (1, [.ref aR, .ref aB, .ref aP, .int nb, .int np])), (aP, .inl (cI, 20, .inl fp))]) hP hT [1, 2] (by decide +kernel) rfl
  have hFc := zfr hS hA
  refine va_calli (va_runV (As := [.int p0]) (rest := []) ⟨hx, hb, hml, hown, hts⟩ (g_X1_kindOf l dC dI cI cJ aC p0 aR aB aP nb np fp H.size n_p0) (cwV 1 hts (zgV qw839 qw614 qw615 qw102 qw616) rfl rfl rfl hd_X1_kindOf ⟨by rw [hR]; exact Nat.le_of_ble_eq_true rfl, by rw [hR]; exact Nat.le_of_ble_eq_true rfl⟩) (zPV hPc hK hDc (va_recv (q := (RX1, TX1, 5)) hK hP (ci := 1) (q0 := 1) rfl rfl)) rfl rfl hl.1 rfl (lv_room (Nat.le_of_ble_eq_true rfl)) dX6_sketches_5 ⟨Nat.zero_le _, Nat.zero_le _⟩) hS (fun q _ h => hFc q h) hFc (fun v5 u5 t H locs ht hvm hw hB hz1 hk1 hS9 => ?_)
  replace hP := zkeep hP hk1
  replace hS := hS9
  clear hPc hDc hFc hk1 hz1 hvm hS9
  have f5_0 : (v5 = fp (4 * p0.toInt.toNat + 3)) := hw
  have F5 := f5_0
  refine lv_iconst (v := 3) hx hb dX6_sketches_8 (by decide) ?_
  refine lv_icmp_eq (tgt := 16) hx hb dX6_sketches_9 (by decide) (fun c9 => ?_) (fun c9 => ?_)
  · have c9 : v5.toInt = 3 := z5 rfl (by decide) c9
    refine lv_iconst (v := 0) hx hb dX6_sketches_16 (by decide) ?_
    have zr0 : (0 : Int32).toInt = 0 := by decide
    rw [hQ]
    exact W.zret (v := 0) (ty := .boolean) hx hb hr rfl (fun t ht hW => ⟨⟨0, (), rfl, ⟨by (try dsimp only); omega, by (try dsimp only); omega, Or.inr ⟨by decide, by rw [← F5]; omega⟩⟩, trivial⟩, hS.F ht⟩) hS.2.2 dX6_sketches_17
  · have c9 : ¬ v5.toInt = 3 := z6 rfl (by decide) c9
    refine lv_iconst (v := 1) hx hb dX6_sketches_12 (by decide) ?_
    refine lv_goto (tgt := 17) hx hb dX6_sketches_13 (by decide) ?_
    have zr0 : (1 : Int32).toInt = 1 := by decide
    rw [hQ]
    exact W.zret (v := 1) (ty := .boolean) hx hb hr rfl (fun t ht hW => ⟨⟨1, (), rfl, ⟨by (try dsimp only); omega, by (try dsimp only); omega, Or.inl ⟨by decide, by rw [← F5]; omega⟩⟩, trivial⟩, hS.F ht⟩) hS.2.2 dX6_sketches_17
set_option maxHeartbeats 4000000 in
set_option maxRecDepth 100000 in
theorem g_X6_tellsAll (l : Launch) (dC : Nat → ClassId) (dI : Nat → Nat → Nat) (cI cJ : ClassId) (h0 : Nat) (p0 : Int32) (p1 : Int32) (aC : Nat) (g0 : Nat) (sd : Nat) (mW : Nat) (mt : Int64) (lf : Int32) (mV : Nat) (mA : Nat) (mT : Nat) (fT : Nat → Int32) (sz : Nat) (n_p1 : 0 ≤ p1.toInt ∧ p1.toInt ≤ 45)    : Met l yX6_tellsAll (.code yX6_tellsAll cX6_tellsAll 4 (some .boolean) :: wA) ({ frames := 0, cells := 0, slots := 0, locals := 0 }) (zP (dC, dI) [(cI, .int), (cJ, .long)] [.ref h0, .int p0, .int p1] sz [(h0, .inr (6, [.ref aC, .ref g0, .ref sd, .ref mW, .long mt, .int lf, .ref mV, .ref mA, .ref mT])), (mT, .inl (cI, 45, .inl fT))]) (va_Qi (fun (r : Int32) (u : Unit) => (0 ≤ r.toInt) ∧ (r.toInt ≤ 1) ∧ ((r.toInt = 1 ∧ ∀ j : Nat, (j : Int) < p1.toInt → ¬ (fT j &&& p0).toInt = 0) ∨ (r.toInt = 0 ∧ ∃ j : Nat, (j : Int) < p1.toInt ∧ (fT j &&& p0).toInt = 0))) (fun (_ : Unit) (_ : State) => True) (va_A [] sz)) 0 0 (va_A [] sz) := by
  refine Met.ofW (cc := cX6_tellsAll) (maxL := 4) (ret := (some .boolean)) (by decide) rfl ?_
  intro p e s m args below meth c s₁ B hml hv
  obtain ⟨hargs, hsz, hP, hK, hT⟩ := hv
  have hx := B.exec
  have hb := B.bytes
  have hr := B.returns
  have hts : ∀ w ∈ wA, w.before args s = true := fun w h => atoms_spec (ws := .code yX6_tellsAll cX6_tellsAll 4 (some .boolean) :: wA) B.pre w (List.mem_cons_of_mem _ h)
  have hown : s.vm.findClass RX6 = some m.cls := findClass_of_methodNamed B.named
  have hlocks := B.notSynchronized
  subst hsz
  have hD : va_D (va_A [] s.heap.size) [] := zD0
  generalize hAe : va_A [] s.heap.size = A at hD ⊢
  have hA : ∀ q : Nat, s.heap.size ≤ q → A q := fun q h => by rw [← hAe]; exact Or.inr h
  have hl := lv_entry ([.ref h0, .int p0, .int p1]) (n := 4) (Nat.le_of_ble_eq_true rfl)
  rw [show entryFrame m args 4 = entryFrame m ([.ref h0, .int p0, .int p1] : List Value).toArray 4 by rw [hargs], lg_entry_eq]
  generalize (lg_sl ([.ref h0, .int p0, .int p1]) ++ List.replicate (4 - (lg_sl ([.ref h0, .int p0, .int p1])).length) Slot.unset).toArray = ls at hl ⊢
  have hl : lv_has ls 4 [(0, .ref h0), (1, .int p0), (2, .int p1)] := hl
  refine zstart (fun H hH => ?_)
  rw [← hH] at hP
  have hS : va_S A s.heap H [] := by rw [hH]; exact va_S.rf
  generalize ([] : List Loc) = locs at hS ⊢
  refine zgen (fun R Q hR hQ => ?_)
  refine lv_iconst (v := 0) hx hb dX6_tellsAll_0 (by decide) ?_
  have J2 : ∀ (n : Nat) (m2_L_3 : Int32), (0 ≤ m2_L_3.toInt ∧ m2_L_3.toInt ≤ 45) → (∀ j : Nat, (j : Int) < m2_L_3.toInt → ¬ (fT j &&& p0).toInt = 0) → (46 - m2_L_3.toInt).toNat = n → ∀ (H : Heap) (locs : List Loc) (ls : Array Slot), va_P (dC, dI) vwCl [(h0, .inr (6, [.ref aC, .ref g0, .ref sd, .ref mW, .long mt, .int lf, .ref mV, .ref mA, .ref mT])), (mT, .inl (cI, 45, .inl fT))] H → va_S A s.heap H locs → lv_has ls 4 [(3, .int m2_L_3), (0, .ref h0), (1, .int p0), (2, .int p1)] → W p l e R s m args below meth c H locs 0 0 Q (F0 m 2 ls []) := by
    intro n2
    induction n2 using Nat.strongRecOn with
    | _ n2 ih2 =>
      intro m2_L_3 jf2_0 jv2_0 hmu2 H locs ls hP hS hl
      refine lv_iload_n hx hb dX6_tellsAll_2 rfl (lv_at hl 0 rfl) ?_
      refine lv_iload_n hx hb dX6_tellsAll_3 rfl (lv_at hl 3 rfl) ?_
      refine lv_icmp_ge (tgt := 26) hx hb dX6_tellsAll_4 (by decide) (fun c4 => ?_) (fun c4 => ?_)
      · have c4 : p1.toInt ≤ m2_L_3.toInt := z3 rfl rfl c4
        refine lv_iconst (v := 1) hx hb dX6_tellsAll_26 (by decide) ?_
        have zr0 : (1 : Int32).toInt = 1 := by decide
        rw [hQ]
        exact W.zret (v := 1) (ty := .boolean) hx hb hr rfl (fun t ht hW => ⟨⟨1, (), rfl, ⟨by (try dsimp only); omega, by (try dsimp only); omega, Or.inl ⟨by decide, fun j hj => jv2_0 j (by omega)⟩⟩, trivial⟩, hS.F ht⟩) hS.2.2 dX6_tellsAll_27
      · have c4 : m2_L_3.toInt < p1.toInt := z4 rfl rfl c4
        refine lv_aload_n hx hb dX6_tellsAll_7 rfl (lv_at hl 1 rfl) ?_
        refine va_get (D := (dC, dI)) (ci := 6) (v := .ref mT) (C := RX6) (T := TX6) (N := 9) hx hb hts iX6 hown hK hP 0 rfl rfl 8 (by decide) (hts _ qw325) (fun _ h9 => h9) rfl dX6_tellsAll_8 ?_
        refine lv_iload_n hx hb dX6_tellsAll_11 rfl (lv_at hl 0 rfl) ?_
        refine va_iald hx hb hK hP 1 0 rfl rfl (vp_in_iff.mpr ⟨by omega, by omega⟩) dX6_tellsAll_12 ?_
        refine lv_topi (fun v12 e12 => ?_)
        refine lv_iload_n hx hb dX6_tellsAll_13 rfl (lv_at hl 2 rfl) ?_
        refine lv_iand hx hb dX6_tellsAll_14 ?_
        refine lv_topi (fun v14 e14 => ?_)
        refine lv_if_ne (tgt := 20) hx hb dX6_tellsAll_15 (by decide) (fun c15 => ?_) (fun c15 => ?_)
        · have c15 : ¬ v14.toInt = 0 := z6 rfl (by decide) c15
          obtain ⟨v20, e20⟩ : ∃ y : Int32, y = m2_L_3 + Int32.ofInt (1) := ⟨_, rfl⟩
          refine lv_iinc (v := v20) (lv' := [(3, .int v20), (0, .ref h0), (1, .int p0), (2, .int p1)]) hx hb dX6_tellsAll_20 hl (k := 0) rfl e20.symm (by decide) rfl (fun ls hl => ?_)
          have i20 : v20.toInt = m2_L_3.toInt + 1 := zaddI e20 (by decide) (by omega) (by omega)
          refine lv_goto (tgt := 2) hx hb dX6_tellsAll_23 (by decide) ?_
          exact ih2 _ (by omega) v20 (by omega) (fun j hj => by by_cases c : (j : Int) < m2_L_3.toInt; exact jv2_0 j c; (rw [show j = m2_L_3.toInt.toNat by omega, ← zIxN (n := m2_L_3.toInt.toNat) e12 (by omega), ← e14]; omega)) rfl H locs ls hP hS (lv_sub hl [0, 1, 2, 3] rfl)
        · have c15 : v14.toInt = 0 := z5 rfl (by decide) c15
          refine lv_iconst (v := 0) hx hb dX6_tellsAll_18 (by decide) ?_
          have zr0 : (0 : Int32).toInt = 0 := by decide
          rw [hQ]
          exact W.zret (v := 0) (ty := .boolean) hx hb hr rfl (fun t ht hW => ⟨⟨0, (), rfl, ⟨by (try dsimp only); omega, by (try dsimp only); omega, Or.inr ⟨by decide, m2_L_3.toInt.toNat, by omega, (by rw [← zIxN (n := m2_L_3.toInt.toNat) e12 (by omega), ← e14]; omega)⟩⟩, trivial⟩, hS.F ht⟩) hS.2.2 dX6_tellsAll_19
  refine lv_istore_n (lv' := [(3, .int 0), (0, .ref h0), (1, .int p0), (2, .int p1)]) hx hb dX6_tellsAll_1 rfl hl (by decide) rfl (fun ls hl => ?_)
  have zj2_m2_L_3 : (0 : Int32).toInt = 0 := by decide
  exact J2 _ 0 (by decide) (fun j hj => by exfalso; have z1 : (0 : Int32).toInt = 0 := (by decide); omega) rfl H locs ls hP hS (lv_sub hl [0, 1, 2, 3] rfl)
set_option maxHeartbeats 4000000 in
set_option maxRecDepth 100000 in
theorem g_X6_weighBy_n (l : Launch) (dC : Nat → ClassId) (dI : Nat → Nat → Nat) (cI cJ : ClassId) (h0 : Nat) (p0 : Int32) (p1 : Int32) (aC : Nat) (g0 : Nat) (sd : Nat) (mW : Nat) (mt : Int64) (lf : Int32) (mV : Nat) (mA : Nat) (mT : Nat) (aR : Nat) (aB : Nat) (aP : Nat) (nb : Int32) (np : Int32) (fb : Nat → Int32) (fp : Nat → Int32) (gY : Nat) (gF : Nat) (gP : Nat) (gpn : Int32) (glt : Int32) (gsh : Int32) (gwd : Int32) (gpu : Int32) (gmo : Int32) (gfY : Nat → Int32) (gfF : Nat → Int32) (gfP : Nat → Int32) (w1 : Nat) (w2 : Nat) (aL : Nat) (aK : Nat) (fW : Nat → Int64) (sz : Nat) (n_gpn : 0 ≤ gpn.toInt ∧ gpn.toInt ≤ 20) (n_p0 : 0 ≤ p0.toInt ∧ p0.toInt ≤ 19) (n_p1 : 0 ≤ p1.toInt ∧ p1.toInt ≤ 5)  (ci_gfP_zPo : zPo gfP)  : Met l yX6_weighBy (.code yX6_weighBy cX6_weighBy 7 none :: wA) ({ frames := 4, cells := 0, slots := 0, locals := 103 }) (zP (dC, dI) [(cI, .int), (cJ, .long)] [.ref h0, .int p0, .int p1] sz [(h0, .inr (6, [.ref aC, .ref g0, .ref sd, .ref mW, .long mt, .int lf, .ref mV, .ref mA, .ref mT])), (aC, .inr (1, [.ref aR, .ref aB, .ref aP, .int nb, .int np])), (aB, .inl (cI, 24, .inl fb)), (aP, .inl (cI, 20, .inl fp)), (g0, .inr (7, [.ref gY, .ref gF, .ref gP, .int gpn, .int glt, .int gsh, .int gwd, .int gpu, .int gmo])), (gY, .inl (cI, 6, .inl gfY)), (gF, .inl (cI, 5, .inl gfF)), (gP, .inl (cI, 80, .inl gfP)), (sd, .inr (8, [.ref w1, .ref w2, .ref aC, .ref g0, .ref aL, .ref aK, .null])), (mW, .inl (cJ, 10, .inr (.inl fW)))]) (va_Qv (fun (u : (Nat → Int64)) => (∀ (kc : zK3) (kT : zT) (q_fr : Nat → Int32), zCn q_fr fb fp nb.toInt np.toInt kc → zKo nb.toInt np.toInt kc kT → zSc nb.toInt np.toInt kT.1 gfY gfF gfP gpn glt gsh gwd gpu gmo → (0 ≤ p1.toInt ∧ p1.toInt < nb.toInt) → p0.toInt < gpn.toInt → zWb fW u (fun j => sFc kc kT.1 none p1 (Int32.ofNat j) p0.toInt.toNat) 10)) (fun (u : (Nat → Int64)) (t : State) => va_P (dC, dI) vwCl [(h0, .inr (6, [.ref aC, .ref g0, .ref sd, .ref mW, .long mt, .int lf, .ref mV, .ref mA, .ref mT])), (aC, .inr (1, [.ref aR, .ref aB, .ref aP, .int nb, .int np])), (aB, .inl (cI, 24, .inl fb)), (aP, .inl (cI, 20, .inl fp)), (g0, .inr (7, [.ref gY, .ref gF, .ref gP, .int gpn, .int glt, .int gsh, .int gwd, .int gpu, .int gmo])), (gY, .inl (cI, 6, .inl gfY)), (gF, .inl (cI, 5, .inl gfF)), (gP, .inl (cI, 80, .inl gfP)), (sd, .inr (8, [.ref w1, .ref w2, .ref aC, .ref g0, .ref aL, .ref aK, .null])), (mW, .inl (cJ, 10, .inr (.inl u)))] t.heap ∧ va_D (va_A [(h0, .inr (6, [.ref aC, .ref g0, .ref sd, .ref mW, .long mt, .int lf, .ref mV, .ref mA, .ref mT])), (aC, .inr (1, [.ref aR, .ref aB, .ref aP, .int nb, .int np])), (aB, .inl (cI, 24, .inl fb)), (aP, .inl (cI, 20, .inl fp)), (g0, .inr (7, [.ref gY, .ref gF, .ref gP, .int gpn, .int glt, .int gsh, .int gwd, .int gpu, .int gmo])), (gY, .inl (cI, 6, .inl gfY)), (gF, .inl (cI, 5, .inl gfF)), (gP, .inl (cI, 80, .inl gfP)), (sd, .inr (8, [.ref w1, .ref w2, .ref aC, .ref g0, .ref aL, .ref aK, .null])), (mW, .inl (cJ, 10, .inr (.inl fW)))] sz) [(h0, .inr (6, [.ref aC, .ref g0, .ref sd, .ref mW, .long mt, .int lf, .ref mV, .ref mA, .ref mT])), (aC, .inr (1, [.ref aR, .ref aB, .ref aP, .int nb, .int np])), (aB, .inl (cI, 24, .inl fb)), (aP, .inl (cI, 20, .inl fp)), (g0, .inr (7, [.ref gY, .ref gF, .ref gP, .int gpn, .int glt, .int gsh, .int gwd, .int gpu, .int gmo])), (gY, .inl (cI, 6, .inl gfY)), (gF, .inl (cI, 5, .inl gfF)), (gP, .inl (cI, 80, .inl gfP)), (sd, .inr (8, [.ref w1, .ref w2, .ref aC, .ref g0, .ref aL, .ref aK, .null])), (mW, .inl (cJ, 10, .inr (.inl u)))]) (va_A [(h0, .inr (6, [.ref aC, .ref g0, .ref sd, .ref mW, .long mt, .int lf, .ref mV, .ref mA, .ref mT])), (aC, .inr (1, [.ref aR, .ref aB, .ref aP, .int nb, .int np])), (aB, .inl (cI, 24, .inl fb)), (aP, .inl (cI, 20, .inl fp)), (g0, .inr (7, [.ref gY, .ref gF, .ref gP, .int gpn, .int glt, .int gsh, .int gwd, .int gpu, .int gmo])), (gY, .inl (cI, 6, .inl gfY)), (gF, .inl (cI, 5, .inl gfF)), (gP, .inl (cI, 80, .inl gfP)), (sd, .inr (8, [.ref w1, .ref w2, .ref aC, .ref g0, .ref aL, .ref aK, .null])), (mW, .inl (cJ, 10, .inr (.inl fW)))] sz)) 0 0 (va_A [(h0, .inr (6, [.ref aC, .ref g0, .ref sd, .ref mW, .long mt, .int lf, .ref mV, .ref mA, .ref mT])), (aC, .inr (1, [.ref aR, .ref aB, .ref aP, .int nb, .int np])), (aB, .inl (cI, 24, .inl fb)), (aP, .inl (cI, 20, .inl fp)), (g0, .inr (7, [.ref gY, .ref gF, .ref gP, .int gpn, .int glt, .int gsh, .int gwd, .int gpu, .int gmo])), (gY, .inl (cI, 6, .inl gfY)), (gF, .inl (cI, 5, .inl gfF)), (gP, .inl (cI, 80, .inl gfP)), (sd, .inr (8, [.ref w1, .ref w2, .ref aC, .ref g0, .ref aL, .ref aK, .null])), (mW, .inl (cJ, 10, .inr (.inl fW)))] sz) := by
  refine Met.ofW (cc := cX6_weighBy) (maxL := 7) (ret := none) (by decide) rfl ?_
  intro p e s m args below meth c s₁ B hml hv
  obtain ⟨hargs, hsz, hP, hK, hT⟩ := hv
  have hx := B.exec
  have hb := B.bytes
  have hr := B.returns
  have hts : ∀ w ∈ wA, w.before args s = true := fun w h => atoms_spec (ws := .code yX6_weighBy cX6_weighBy 7 none :: wA) B.pre w (List.mem_cons_of_mem _ h)
  have hown : s.vm.findClass RX6 = some m.cls := findClass_of_methodNamed B.named
  have hlocks := B.notSynchronized
  subst hsz
  have hD := hT.self (sz := s.heap.size)
  generalize hAe : va_A [(h0, .inr (6, [.ref aC, .ref g0, .ref sd, .ref mW, .long mt, .int lf, .ref mV, .ref mA, .ref mT])), (aC, .inr (1, [.ref aR, .ref aB, .ref aP, .int nb, .int np])), (aB, .inl (cI, 24, .inl fb)), (aP, .inl (cI, 20, .inl fp)), (g0, .inr (7, [.ref gY, .ref gF, .ref gP, .int gpn, .int glt, .int gsh, .int gwd, .int gpu, .int gmo])), (gY, .inl (cI, 6, .inl gfY)), (gF, .inl (cI, 5, .inl gfF)), (gP, .inl (cI, 80, .inl gfP)), (sd, .inr (8, [.ref w1, .ref w2, .ref aC, .ref g0, .ref aL, .ref aK, .null])), (mW, .inl (cJ, 10, .inr (.inl fW)))] s.heap.size = A at hD ⊢
  have hA : ∀ q : Nat, s.heap.size ≤ q → A q := fun q h => by rw [← hAe]; exact Or.inr h
  have hl := lv_entry ([.ref h0, .int p0, .int p1]) (n := 7) (Nat.le_of_ble_eq_true rfl)
  rw [show entryFrame m args 7 = entryFrame m ([.ref h0, .int p0, .int p1] : List Value).toArray 7 by rw [hargs], lg_entry_eq]
  generalize (lg_sl ([.ref h0, .int p0, .int p1]) ++ List.replicate (7 - (lg_sl ([.ref h0, .int p0, .int p1])).length) Slot.unset).toArray = ls at hl ⊢
  have hl : lv_has ls 7 [(0, .ref h0), (1, .int p0), (2, .int p1)] := hl
  refine zstart (fun H hH => ?_)
  rw [← hH] at hP
  have hS : va_S A s.heap H [] := by rw [hH]; exact va_S.rf
  generalize ([] : List Loc) = locs at hS ⊢
  refine zgen (fun R Q hR hQ => ?_)
  refine lv_aload_n hx hb dX6_weighBy_0 rfl (lv_at hl 0 rfl) ?_
  refine va_get (D := (dC, dI)) (ci := 6) (v := .ref g0) (C := RX6) (T := TX6) (N := 9) hx hb hts iX6 hown hK hP 0 rfl rfl 1 (by decide) (hts _ qw317) (fun _ h9 => h9) rfl dX6_weighBy_1 ?_
  refine lv_iload_n hx hb dX6_weighBy_4 rfl (lv_at hl 1 rfl) ?_
  refine lv_iconst (v := 1) hx hb dX6_weighBy_5 (by decide) ?_
  obtain ⟨hPc, hDc⟩ := zc2 (wc := [(g0, .inr (7, [.ref gY, .ref gF, .ref gP, .int gpn, .int glt, .int gsh, .int gwd, .int gpu, .int gmo])), (gP, .inl (cI, 80, .inl gfP))]) hP hD [4, 7] (by decide +kernel) rfl
  have hFc := zfr hS hA
  refine va_calli (va_runV (As := [.int p0, .int 1]) (rest := []) ⟨hx, hb, hml, hown, hts⟩ (g_X7_ofPortrait_1 l dC dI cI cJ g0 p0 gY gF gP gpn glt gsh gwd gpu gmo gfP H.size n_p0 ci_gfP_zPo) (cwV 2 hts (zgV qw834 qw653 qw654 qw103 qw655) rfl rfl rfl hd_X7_ofPortrait ⟨by rw [hR]; exact Nat.le_of_ble_eq_true rfl, by rw [hR]; exact Nat.le_of_ble_eq_true rfl⟩) (zPV hPc hK hDc (va_recv (q := (RX7, TX7, 9)) hK hP (ci := 7) (q0 := 4) rfl rfl)) rfl rfl hl.1 rfl (lv_room (Nat.le_of_ble_eq_true rfl)) dX6_weighBy_6 ⟨Nat.zero_le _, Nat.zero_le _⟩) hS (fun q _ h => hFc q h) hFc (fun v6 u6 t H locs ht hvm hw hB hz1 hk1 hS9 => ?_)
  replace hP := zkeep hP hk1
  replace hS := hS9
  clear hPc hDc hFc hk1 hz1 hvm hS9
  obtain ⟨f6_0, f6_1, f6_2⟩ : (0 ≤ v6.toInt) ∧ (v6.toInt ≤ 4) ∧ (v6 = gfP (4 * p0.toInt.toNat + 1)) := hw
  have F6 := f6_2
  refine lv_istore_n (lv' := [(3, .int v6), (0, .ref h0), (1, .int p0), (2, .int p1)]) hx hb dX6_weighBy_9 rfl hl (by decide) rfl (fun ls hl => ?_)
  refine lv_aload_n hx hb dX6_weighBy_10 rfl (lv_at hl 1 rfl) ?_
  refine va_get (D := (dC, dI)) (ci := 6) (v := .ref g0) (C := RX6) (T := TX6) (N := 9) hx hb hts iX6 hown hK hP 0 rfl rfl 1 (by decide) (hts _ qw317) (fun _ h9 => h9) rfl dX6_weighBy_11 ?_
  refine lv_iload_n hx hb dX6_weighBy_14 rfl (lv_at hl 2 rfl) ?_
  refine lv_iconst (v := 2) hx hb dX6_weighBy_15 (by decide) ?_
  obtain ⟨hPc, hDc⟩ := zc2 (wc := [(g0, .inr (7, [.ref gY, .ref gF, .ref gP, .int gpn, .int glt, .int gsh, .int gwd, .int gpu, .int gmo])), (gP, .inl (cI, 80, .inl gfP))]) hP hD [4, 7] (by decide +kernel) rfl
  have hFc := zfr hS hA
  refine va_calli (va_runV (As := [.int p0, .int 2]) (rest := []) ⟨hx, hb, hml, hown, hts⟩ (g_X7_ofPortrait_2 l dC dI cI cJ g0 p0 gY gF gP gpn glt gsh gwd gpu gmo gfP H.size n_p0 ci_gfP_zPo) (cwV 2 hts (zgV qw834 qw653 qw654 qw103 qw655) rfl rfl rfl hd_X7_ofPortrait ⟨by rw [hR]; exact Nat.le_of_ble_eq_true rfl, by rw [hR]; exact Nat.le_of_ble_eq_true rfl⟩) (zPV hPc hK hDc (va_recv (q := (RX7, TX7, 9)) hK hP (ci := 7) (q0 := 4) rfl rfl)) rfl rfl hl.1 rfl (lv_room (Nat.le_of_ble_eq_true rfl)) dX6_weighBy_16 ⟨Nat.zero_le _, Nat.zero_le _⟩) hS (fun q _ h => hFc q h) hFc (fun v16 u16 t H locs ht hvm hw hB hz1 hk1 hS9 => ?_)
  replace hP := zkeep hP hk1
  replace hS := hS9
  clear hPc hDc hFc hk1 hz1 hvm hS9
  obtain ⟨f16_0, f16_1, f16_2⟩ : (0 ≤ v16.toInt) ∧ (v16.toInt ≤ 9) ∧ (v16 = gfP (4 * p0.toInt.toNat + 2)) := hw
  have F16 := f16_2
  refine lv_istore (lv' := [(4, .int v16), (3, .int v6), (0, .ref h0), (1, .int p0), (2, .int p1)]) hx hb dX6_weighBy_19 hl (by decide) rfl (fun ls hl => ?_)
  refine lv_iconst (v := 0) hx hb dX6_weighBy_21 (by decide) ?_
  have J24 : ∀ (n : Nat) (m24_A_mW : Nat → Int64) (m24_L_5 : Int32), (0 ≤ m24_L_5.toInt ∧ m24_L_5.toInt ≤ 10) → (∀ (kc : zK3) (kT : zT) (q_fr : Nat → Int32), zCn q_fr fb fp nb.toInt np.toInt kc → zKo nb.toInt np.toInt kc kT → zSc nb.toInt np.toInt kT.1 gfY gfF gfP gpn glt gsh gwd gpu gmo → (0 ≤ p1.toInt ∧ p1.toInt < nb.toInt) → p0.toInt < gpn.toInt → zWb fW m24_A_mW (fun j => sFc kc kT.1 none p1 (Int32.ofNat j) p0.toInt.toNat) m24_L_5.toInt) → (11 - m24_L_5.toInt).toNat = n → ∀ (H : Heap) (locs : List Loc) (ls : Array Slot), va_P (dC, dI) vwCl [(h0, .inr (6, [.ref aC, .ref g0, .ref sd, .ref mW, .long mt, .int lf, .ref mV, .ref mA, .ref mT])), (aC, .inr (1, [.ref aR, .ref aB, .ref aP, .int nb, .int np])), (aB, .inl (cI, 24, .inl fb)), (aP, .inl (cI, 20, .inl fp)), (g0, .inr (7, [.ref gY, .ref gF, .ref gP, .int gpn, .int glt, .int gsh, .int gwd, .int gpu, .int gmo])), (gY, .inl (cI, 6, .inl gfY)), (gF, .inl (cI, 5, .inl gfF)), (gP, .inl (cI, 80, .inl gfP)), (sd, .inr (8, [.ref w1, .ref w2, .ref aC, .ref g0, .ref aL, .ref aK, .null])), (mW, .inl (cJ, 10, .inr (.inl m24_A_mW)))] H → va_D A [(h0, .inr (6, [.ref aC, .ref g0, .ref sd, .ref mW, .long mt, .int lf, .ref mV, .ref mA, .ref mT])), (aC, .inr (1, [.ref aR, .ref aB, .ref aP, .int nb, .int np])), (aB, .inl (cI, 24, .inl fb)), (aP, .inl (cI, 20, .inl fp)), (g0, .inr (7, [.ref gY, .ref gF, .ref gP, .int gpn, .int glt, .int gsh, .int gwd, .int gpu, .int gmo])), (gY, .inl (cI, 6, .inl gfY)), (gF, .inl (cI, 5, .inl gfF)), (gP, .inl (cI, 80, .inl gfP)), (sd, .inr (8, [.ref w1, .ref w2, .ref aC, .ref g0, .ref aL, .ref aK, .null])), (mW, .inl (cJ, 10, .inr (.inl m24_A_mW)))] → va_S A s.heap H locs → lv_has ls 7 [(5, .int m24_L_5), (4, .int v16), (3, .int v6), (0, .ref h0), (1, .int p0), (2, .int p1)] → W p l e R s m args below meth c H locs 0 0 Q (F0 m 24 ls []) := by
    intro n24
    induction n24 using Nat.strongRecOn with
    | _ n24 ih24 =>
      intro m24_A_mW m24_L_5 jf24_0 jv24_0 hmu24 H locs ls hP hD hS hl
      refine lv_iload hx hb dX6_weighBy_24 (lv_at hl 0 rfl) ?_
      refine lv_bipush (v := 10) hx hb dX6_weighBy_26 (by decide) ?_
      refine lv_icmp_ge (tgt := 96) hx hb dX6_weighBy_28 (by decide) (fun c28 => ?_) (fun c28 => ?_)
      · have c28 : 10 ≤ m24_L_5.toInt := z3 (by decide) rfl c28
        rw [hQ]
        exact W.vret hx hb hr (fun t ht hW => ⟨⟨m24_A_mW, rfl, (fun kc kT q_fr hc hb h hq hn => by have z := (jv24_0 kc kT _ hc hb h hq hn); rw [show m24_L_5.toInt = 10 by omega] at z; exact z), ⟨by rw [ht]; exact hP, hD⟩⟩, hS.F ht⟩) hS.2.2 dX6_weighBy_96
      · have c28 : m24_L_5.toInt < 10 := z4 (by decide) rfl c28
        refine lv_aload_n hx hb dX6_weighBy_31 rfl (lv_at hl 3 rfl) ?_
        refine va_get (D := (dC, dI)) (ci := 6) (v := .ref mW) (C := RX6) (T := TX6) (N := 9) hx hb hts iX6 hown hK hP 0 rfl rfl 3 (by decide) (hts _ qw319) (fun _ h9 => h9) rfl dX6_weighBy_32 ?_
        refine lv_iload hx hb dX6_weighBy_35 (lv_at hl 0 rfl) ?_
        refine va_lald hx hb hK hP 9 1 rfl rfl (vp_in_iff.mpr ⟨by omega, by omega⟩) dX6_weighBy_37 ?_
        refine lv_topl (fun v37 e37 => ?_)
        refine lv_lconst (v := 0) hx hb dX6_weighBy_38 rfl ?_
        refine W.lcmp hx hb dX6_weighBy_39 ?_
        refine lv_topi (fun v39 e39 => ?_)
        refine lv_if_eq (tgt := 90) hx hb dX6_weighBy_40 (by decide) (fun c40 => ?_) (fun c40 => ?_)
        · have c40 : v39.toInt = 0 := z5 rfl (by decide) c40
          obtain ⟨v90, e90⟩ : ∃ y : Int32, y = m24_L_5 + Int32.ofInt (1) := ⟨_, rfl⟩
          refine lv_iinc (v := v90) (lv' := [(5, .int v90), (4, .int v16), (3, .int v6), (0, .ref h0), (1, .int p0), (2, .int p1)]) hx hb dX6_weighBy_90 hl (k := 0) rfl e90.symm (by decide) rfl (fun ls hl => ?_)
          have i90 : v90.toInt = m24_L_5.toInt + 1 := zaddI e90 (by decide) (by omega) (by omega)
          refine lv_goto (tgt := 24) hx hb dX6_weighBy_93 (by decide) ?_
          exact ih24 _ (by omega) m24_A_mW v90 (by omega) (fun kc kT q_fr hc hb h hq hn => by first | (have zb := hb.2.2.2.1.2.2.2.2.2 p0.toInt.toNat (by rw [zSc_pn h]; omega); have y6 : v6 = kT.1.2.2.2.2 (4 * p0.toInt.toNat + 1) := F6.trans (h.2.2.2.2 _ (by omega)); have z6 := congrArg Int32.toInt y6; have y16 : v16 = kT.1.2.2.2.2 (4 * p0.toInt.toNat + 2) := F16.trans (h.2.2.2.2 _ (by omega)); have y77 : v77 = kc.2.2 (4 * v6.toInt.toNat) := F77.trans (hc.2.2 _ (by omega)); have s0 : v51 = sShow kc kT.1 none v6 p1 m24_L_5 := sShow_n hc h (by omega) hq F51; have fc : v84 = sFc kc kT.1 none p1 (Int32.ofNat m24_L_5.toInt.toNat) p0.toInt.toNat := (by rw [← zk32 (show 0 ≤ m24_L_5.toInt by omega)]; exact sFc_mk y6 y16 s0 y77 e56 e57 e80 e83 e84); exact zWbY (jv24_0 kc kT _ hc hb h hq hn) (by omega) (by omega) i90 e69 (by rw [e69, ← e37]; exact zl0 e39 (by omega)) fc e87 e88 e89) | exact zWbN (jv24_0 kc kT _ hc hb h hq hn) (by omega) (by omega) i90 e37 (zl0z e39 (by omega))) rfl H locs ls hP hD hS (lv_sub hl [0, 1, 2, 3, 4, 5] rfl)
        · have c40 : ¬ v39.toInt = 0 := z6 rfl (by decide) c40
          refine lv_aload_n hx hb dX6_weighBy_43 rfl (lv_at hl 3 rfl) ?_
          refine va_get (D := (dC, dI)) (ci := 6) (v := .ref sd) (C := RX6) (T := TX6) (N := 9) hx hb hts iX6 hown hK hP 0 rfl rfl 2 (by decide) (hts _ qw318) (fun _ h9 => h9) rfl dX6_weighBy_44 ?_
          refine lv_iload_n hx hb dX6_weighBy_47 rfl (lv_at hl 2 rfl) ?_
          refine lv_iload_n hx hb dX6_weighBy_48 rfl (lv_at hl 5 rfl) ?_
          refine lv_iload hx hb dX6_weighBy_49 (lv_at hl 0 rfl) ?_
          obtain ⟨hPc, hDc⟩ := zc2 (wc := [(sd, .inr (8, [.ref w1, .ref w2, .ref aC, .ref g0, .ref aL, .ref aK, .null])), (aC, .inr (1, [.ref aR, .ref aB, .ref aP, .int nb, .int np])), (aB, .inl (cI, 24, .inl fb)), (aP, .inl (cI, 20, .inl fp)), (g0, .inr (7, [.ref gY, .ref gF, .ref gP, .int gpn, .int glt, .int gsh, .int gwd, .int gpu, .int gmo])), (gY, .inl (cI, 6, .inl gfY)), (gF, .inl (cI, 5, .inl gfF)), (gP, .inl (cI, 80, .inl gfP))]) hP hD [8, 1, 2, 3, 4, 5, 6, 7] (by decide +kernel) rfl
          have hFc := zfr hS hA
          refine va_calli (va_runV (As := [.int v6, .int p1, .int m24_L_5]) (rest := []) ⟨hx, hb, hml, hown, hts⟩ (g_X8_showOf_n l dC dI cI cJ sd v6 p1 m24_L_5 w1 w2 aC g0 aL aK aR aB aP nb np fb fp gY gF gP gpn glt gsh gwd gpu gmo gfY gfF gfP H.size n_gpn ⟨f6_0, f6_1⟩ n_p1 ci_gfP_zPo) (cwV 3 hts (zgV qw844 qw644 qw645 qw105 qw646) rfl rfl rfl hd_X8_showOf ⟨by rw [hR]; exact Nat.le_of_ble_eq_true rfl, by rw [hR]; exact Nat.le_of_ble_eq_true rfl⟩) (zPV hPc hK hDc (va_recv (q := (RX8, TX8, 7)) hK hP (ci := 8) (q0 := 8) rfl rfl)) rfl rfl hl.1 rfl (lv_room (Nat.le_of_ble_eq_true rfl)) dX6_weighBy_51 ⟨Nat.zero_le _, Nat.zero_le _⟩) hS (fun q _ h => hFc q h) hFc (fun v51 u51 t H locs ht hvm hw hB hz1 hk1 hS9 => ?_)
          replace hP := zkeep hP hk1
          replace hS := hS9
          clear hPc hDc hFc hk1 hz1 hvm hS9
          obtain ⟨f51_0, f51_1, f51_2⟩ : (0 ≤ v51.toInt) ∧ (v51.toInt ≤ 9) ∧ (∀ sk mo : Int32, v51 = zSh (fp (4 * v6.toInt.toNat + 3)) (zLat gfP v6 gpn.toInt.toNat) (zLkv none m24_L_5 (fb (4 * p1.toInt.toNat + 2)) (gfY p1.toInt.toNat) sk (gfF v6.toInt.toNat) mo)) := hw
          have F51 := f51_2
          refine lv_iload hx hb dX6_weighBy_54 (lv_at hl 1 rfl) ?_
          refine lv_isub hx hb dX6_weighBy_56 ?_
          refine lv_topi (fun v56 e56 => ?_)
          have i56 : v56.toInt = v51.toInt - v16.toInt := zsub e56 rfl rfl (by omega) (by omega)
          refine va_mabs hx hb (by rw [hml]; exact hl.1.symm) hown (hts _ qw845) (hts _ qw846) (hts _ qw112) (hts _ qw847) (by rw [hR]; exact Nat.le_of_ble_eq_true rfl) (by rw [hR]; exact Nat.le_of_ble_eq_true rfl) (Nat.zero_le _) (Nat.zero_le _) dX6_weighBy_57 ?_
          refine lv_topi (fun v57 e57 => ?_)
          refine lv_istore (lv' := [(6, .int v57), (5, .int m24_L_5), (4, .int v16), (3, .int v6), (0, .ref h0), (1, .int p0), (2, .int p1)]) hx hb dX6_weighBy_60 hl (by decide) rfl (fun ls hl => ?_)
          refine lv_aload_n hx hb dX6_weighBy_62 rfl (lv_at hl 4 rfl) ?_
          refine va_get (D := (dC, dI)) (ci := 6) (v := .ref mW) (C := RX6) (T := TX6) (N := 9) hx hb hts iX6 hown hK hP 0 rfl rfl 3 (by decide) (hts _ qw319) (fun _ h9 => h9) rfl dX6_weighBy_63 ?_
          refine lv_iload hx hb dX6_weighBy_66 (lv_at hl 1 rfl) ?_
          refine lv_dup2_11 hx hb dX6_weighBy_68 rfl rfl ?_
          refine va_lald hx hb hK hP 9 1 rfl rfl (vp_in_iff.mpr ⟨by omega, by omega⟩) dX6_weighBy_69 ?_
          refine lv_topl (fun v69 e69 => ?_)
          refine lv_iconst (v := 1) hx hb dX6_weighBy_70 (by decide) ?_
          refine lv_iconst (v := 1) hx hb dX6_weighBy_71 (by decide) ?_
          refine lv_aload_n hx hb dX6_weighBy_72 rfl (lv_at hl 4 rfl) ?_
          refine va_get (D := (dC, dI)) (ci := 6) (v := .ref aC) (C := RX6) (T := TX6) (N := 9) hx hb hts iX6 hown hK hP 0 rfl rfl 0 (by decide) (hts _ qw316) (fun _ h9 => h9) rfl dX6_weighBy_73 ?_
          refine lv_iload_n hx hb dX6_weighBy_76 rfl (lv_at hl 3 rfl) ?_
          obtain ⟨hPc, hDc⟩ := zc2 (wc := [(aC, .inr (1, [.ref aR, .ref aB, .ref aP, .int nb, .int np])), (aP, .inl (cI, 20, .inl fp))]) hP hD [1, 3] (by decide +kernel) rfl
          have hFc := zfr hS hA
          refine va_calli (va_runV (As := [.int v6]) (rest := [.int 1, .int 1, .long v69, .int m24_L_5, .ref mW]) ⟨hx, hb, hml, hown, hts⟩ (g_X1_skillOf l dC dI cI cJ aC v6 aR aB aP nb np fp H.size ⟨f6_0, f6_1⟩) (cwV 1 hts (zgV qw848 qw605 qw606 qw102 qw607) rfl rfl rfl hd_X1_skillOf ⟨by rw [hR]; exact Nat.le_of_ble_eq_true rfl, by rw [hR]; exact Nat.le_of_ble_eq_true rfl⟩) (zPV hPc hK hDc (va_recv (q := (RX1, TX1, 5)) hK hP (ci := 1) (q0 := 1) rfl rfl)) rfl rfl hl.1 rfl (lv_room (Nat.le_of_ble_eq_true rfl)) dX6_weighBy_77 ⟨Nat.zero_le _, Nat.zero_le _⟩) hS (fun q _ h => hFc q h) hFc (fun v77 u77 t H locs ht hvm hw hB hz1 hk1 hS9 => ?_)
          replace hP := zkeep hP hk1
          replace hS := hS9
          clear hPc hDc hFc hk1 hz1 hvm hS9
          have f77_0 : (v77 = fp (4 * v6.toInt.toNat)) := hw
          have F77 := f77_0
          refine lv_iadd hx hb dX6_weighBy_80 ?_
          refine lv_topi (fun v80 e80 => ?_)
          refine lv_iload hx hb dX6_weighBy_81 (lv_at hl 0 rfl) ?_
          refine lv_isub hx hb dX6_weighBy_83 ?_
          refine lv_topi (fun v83 e83 => ?_)
          refine va_mmax hx hb (by rw [hml]; exact hl.1.symm) hown (hts _ qw849) (hts _ qw634) (hts _ qw112) (hts _ qw635) (by rw [hR]; exact Nat.le_of_ble_eq_true rfl) (by rw [hR]; exact Nat.le_of_ble_eq_true rfl) (Nat.zero_le _) (Nat.zero_le _) dX6_weighBy_84 ?_
          refine lv_topi (fun v84 e84 => ?_)
          have zc84_0 : (1 : Int32).toInt = 1 := by decide
          have i84 := zmmax e84
          refine lv_i2l hx hb dX6_weighBy_87 rfl ?_
          refine lv_topl (fun v87 e87 => ?_)
          refine lv_lmul hx hb dX6_weighBy_88 ?_
          refine lv_topl (fun v88 e88 => ?_)
          refine va_last hx hb hK hP hD hS 9 1 rfl rfl (vp_in_iff.mpr ⟨by omega, by omega⟩) dX6_weighBy_89 (fun H locs hP9 hD9 hS9 => ?_)
          clear hP hD hS
          obtain ⟨v89_f, e89⟩ : ∃ g : Nat → Int64, g = vp_updL m24_A_mW (m24_L_5).toNatClampNeg v88 := ⟨_, rfl⟩
          rw [← e89] at hP9 hD9
          obtain ⟨hP, hD⟩ := zst (wX := [(h0, .inr (6, [.ref aC, .ref g0, .ref sd, .ref mW, .long mt, .int lf, .ref mV, .ref mA, .ref mT])), (aC, .inr (1, [.ref aR, .ref aB, .ref aP, .int nb, .int np])), (aB, .inl (cI, 24, .inl fb)), (aP, .inl (cI, 20, .inl fp)), (g0, .inr (7, [.ref gY, .ref gF, .ref gP, .int gpn, .int glt, .int gsh, .int gwd, .int gpu, .int gmo])), (gY, .inl (cI, 6, .inl gfY)), (gF, .inl (cI, 5, .inl gfF)), (gP, .inl (cI, 80, .inl gfP)), (sd, .inr (8, [.ref w1, .ref w2, .ref aC, .ref g0, .ref aL, .ref aK, .null])), (mW, .inl (cJ, 10, .inr (.inl v89_f)))]) hP9 hD9 rfl
          have hS := hS9
          clear hP9 hD9 hS9
          obtain ⟨v90, e90⟩ : ∃ y : Int32, y = m24_L_5 + Int32.ofInt (1) := ⟨_, rfl⟩
          refine lv_iinc (v := v90) (lv' := [(5, .int v90), (6, .int v57), (4, .int v16), (3, .int v6), (0, .ref h0), (1, .int p0), (2, .int p1)]) hx hb dX6_weighBy_90 hl (k := 1) rfl e90.symm (by decide) rfl (fun ls hl => ?_)
          have i90 : v90.toInt = m24_L_5.toInt + 1 := zaddI e90 (by decide) (by omega) (by omega)
          refine lv_goto (tgt := 24) hx hb dX6_weighBy_93 (by decide) ?_
          exact ih24 _ (by omega) v89_f v90 (by omega) (fun kc kT q_fr hc hb h hq hn => by first | (have zb := hb.2.2.2.1.2.2.2.2.2 p0.toInt.toNat (by rw [zSc_pn h]; omega); have y6 : v6 = kT.1.2.2.2.2 (4 * p0.toInt.toNat + 1) := F6.trans (h.2.2.2.2 _ (by omega)); have z6 := congrArg Int32.toInt y6; have y16 : v16 = kT.1.2.2.2.2 (4 * p0.toInt.toNat + 2) := F16.trans (h.2.2.2.2 _ (by omega)); have y77 : v77 = kc.2.2 (4 * v6.toInt.toNat) := F77.trans (hc.2.2 _ (by omega)); have s0 : v51 = sShow kc kT.1 none v6 p1 m24_L_5 := sShow_n hc h (by omega) hq F51; have fc : v84 = sFc kc kT.1 none p1 (Int32.ofNat m24_L_5.toInt.toNat) p0.toInt.toNat := (by rw [← zk32 (show 0 ≤ m24_L_5.toInt by omega)]; exact sFc_mk y6 y16 s0 y77 e56 e57 e80 e83 e84); exact zWbY (jv24_0 kc kT _ hc hb h hq hn) (by omega) (by omega) i90 e69 (by rw [e69, ← e37]; exact zl0 e39 (by omega)) fc e87 e88 e89) | exact zWbN (jv24_0 kc kT _ hc hb h hq hn) (by omega) (by omega) i90 e37 (zl0z e39 (by omega))) rfl H locs ls hP hD hS (lv_sub hl [0, 2, 3, 4, 5, 6] rfl)
  refine lv_istore (lv' := [(5, .int 0), (4, .int v16), (3, .int v6), (0, .ref h0), (1, .int p0), (2, .int p1)]) hx hb dX6_weighBy_22 hl (by decide) rfl (fun ls hl => ?_)
  have zj24_m24_L_5 : (0 : Int32).toInt = 0 := by decide
  exact J24 _ fW 0 (by decide) (fun kc kT q_fr hc hb h hq hn => zWb0) rfl H locs ls hP hD hS (lv_sub hl [0, 1, 2, 3, 4, 5] rfl)
set_option maxHeartbeats 4000000 in
set_option maxRecDepth 100000 in
theorem g_X6_weigh_n (l : Launch) (dC : Nat → ClassId) (dI : Nat → Nat → Nat) (cI cJ : ClassId) (h0 : Nat) (p0 : Int32) (aC : Nat) (g0 : Nat) (sd : Nat) (mW : Nat) (mt : Int64) (lf : Int32) (mV : Nat) (mA : Nat) (mT : Nat) (aR : Nat) (aB : Nat) (aP : Nat) (nb : Int32) (np : Int32) (fb : Nat → Int32) (fp : Nat → Int32) (gY : Nat) (gF : Nat) (gP : Nat) (gpn : Int32) (glt : Int32) (gsh : Int32) (gwd : Int32) (gpu : Int32) (gmo : Int32) (gfY : Nat → Int32) (gfF : Nat → Int32) (gfP : Nat → Int32) (w1 : Nat) (w2 : Nat) (aL : Nat) (aK : Nat) (fW : Nat → Int64) (sz : Nat) (n_gpn : 0 ≤ gpn.toInt ∧ gpn.toInt ≤ 20) (n_lf : 0 ≤ lf.toInt ∧ lf.toInt ≤ 9) (n_p0 : 0 ≤ p0.toInt ∧ p0.toInt ≤ 5)  (ci_gfP_zPo : zPo gfP)  : Met l yX6_weigh (.code yX6_weigh cX6_weigh 5 none :: wA) ({ frames := 5, cells := 0, slots := 0, locals := 129 }) (zPW (dC, dI) [(cI, .int), (cJ, .long)] [.ref h0, .int p0] sz [(h0, .inr (6, [.ref aC, .ref g0, .ref sd, .ref mW, .long mt, .int lf, .ref mV, .ref mA, .ref mT])), (aC, .inr (1, [.ref aR, .ref aB, .ref aP, .int nb, .int np])), (aB, .inl (cI, 24, .inl fb)), (aP, .inl (cI, 20, .inl fp)), (g0, .inr (7, [.ref gY, .ref gF, .ref gP, .int gpn, .int glt, .int gsh, .int gwd, .int gpu, .int gmo])), (gY, .inl (cI, 6, .inl gfY)), (gF, .inl (cI, 5, .inl gfF)), (gP, .inl (cI, 80, .inl gfP)), (sd, .inr (8, [.ref w1, .ref w2, .ref aC, .ref g0, .ref aL, .ref aK, .null])), (mW, .inl (cJ, 10, .inr (.inl fW)))] (va_A [(h0, .inr (6, [.ref aC, .ref g0, .ref sd, .ref mW, .long mt, .int lf, .ref mV, .ref mA, .ref mT])), (aC, .inr (1, [.ref aR, .ref aB, .ref aP, .int nb, .int np])), (aB, .inl (cI, 24, .inl fb)), (aP, .inl (cI, 20, .inl fp)), (g0, .inr (7, [.ref gY, .ref gF, .ref gP, .int gpn, .int glt, .int gsh, .int gwd, .int gpu, .int gmo])), (gY, .inl (cI, 6, .inl gfY)), (gF, .inl (cI, 5, .inl gfF)), (gP, .inl (cI, 80, .inl gfP)), (sd, .inr (8, [.ref w1, .ref w2, .ref aC, .ref g0, .ref aL, .ref aK, .null])), (mW, .inl (cJ, 10, .inr (.inl fW)))] sz)) (va_Qv (fun (u : Int64 × Int32 × (Nat → Int64)) => (0 ≤ u.2.1.toInt) ∧ (u.2.1.toInt ≤ 9) ∧ (∀ (kc : zK3) (kT : zT) (q_fr : Nat → Int32), zCn q_fr fb fp nb.toInt np.toInt kc → zKo nb.toInt np.toInt kc kT → zSc nb.toInt np.toInt kT.1 gfY gfF gfP gpn glt gsh gwd gpu gmo → (0 ≤ p0.toInt ∧ p0.toInt < nb.toInt) → zWe kc kT.1 none p0 u.2.2 u.1 u.2.1)) (fun (u : Int64 × Int32 × (Nat → Int64)) (t : State) => va_P (dC, dI) vwCl [(h0, .inr (6, [.ref aC, .ref g0, .ref sd, .ref mW, .long u.1, .int u.2.1, .ref mV, .ref mA, .ref mT])), (aC, .inr (1, [.ref aR, .ref aB, .ref aP, .int nb, .int np])), (aB, .inl (cI, 24, .inl fb)), (aP, .inl (cI, 20, .inl fp)), (g0, .inr (7, [.ref gY, .ref gF, .ref gP, .int gpn, .int glt, .int gsh, .int gwd, .int gpu, .int gmo])), (gY, .inl (cI, 6, .inl gfY)), (gF, .inl (cI, 5, .inl gfF)), (gP, .inl (cI, 80, .inl gfP)), (sd, .inr (8, [.ref w1, .ref w2, .ref aC, .ref g0, .ref aL, .ref aK, .null])), (mW, .inl (cJ, 10, .inr (.inl u.2.2)))] t.heap ∧ va_D (va_A [(h0, .inr (6, [.ref aC, .ref g0, .ref sd, .ref mW, .long mt, .int lf, .ref mV, .ref mA, .ref mT])), (aC, .inr (1, [.ref aR, .ref aB, .ref aP, .int nb, .int np])), (aB, .inl (cI, 24, .inl fb)), (aP, .inl (cI, 20, .inl fp)), (g0, .inr (7, [.ref gY, .ref gF, .ref gP, .int gpn, .int glt, .int gsh, .int gwd, .int gpu, .int gmo])), (gY, .inl (cI, 6, .inl gfY)), (gF, .inl (cI, 5, .inl gfF)), (gP, .inl (cI, 80, .inl gfP)), (sd, .inr (8, [.ref w1, .ref w2, .ref aC, .ref g0, .ref aL, .ref aK, .null])), (mW, .inl (cJ, 10, .inr (.inl fW)))] sz) [(h0, .inr (6, [.ref aC, .ref g0, .ref sd, .ref mW, .long u.1, .int u.2.1, .ref mV, .ref mA, .ref mT])), (aC, .inr (1, [.ref aR, .ref aB, .ref aP, .int nb, .int np])), (aB, .inl (cI, 24, .inl fb)), (aP, .inl (cI, 20, .inl fp)), (g0, .inr (7, [.ref gY, .ref gF, .ref gP, .int gpn, .int glt, .int gsh, .int gwd, .int gpu, .int gmo])), (gY, .inl (cI, 6, .inl gfY)), (gF, .inl (cI, 5, .inl gfF)), (gP, .inl (cI, 80, .inl gfP)), (sd, .inr (8, [.ref w1, .ref w2, .ref aC, .ref g0, .ref aL, .ref aK, .null])), (mW, .inl (cJ, 10, .inr (.inl u.2.2)))]) (va_A [(h0, .inr (6, [.ref aC, .ref g0, .ref sd, .ref mW, .long mt, .int lf, .ref mV, .ref mA, .ref mT])), (aC, .inr (1, [.ref aR, .ref aB, .ref aP, .int nb, .int np])), (aB, .inl (cI, 24, .inl fb)), (aP, .inl (cI, 20, .inl fp)), (g0, .inr (7, [.ref gY, .ref gF, .ref gP, .int gpn, .int glt, .int gsh, .int gwd, .int gpu, .int gmo])), (gY, .inl (cI, 6, .inl gfY)), (gF, .inl (cI, 5, .inl gfF)), (gP, .inl (cI, 80, .inl gfP)), (sd, .inr (8, [.ref w1, .ref w2, .ref aC, .ref g0, .ref aL, .ref aK, .null])), (mW, .inl (cJ, 10, .inr (.inl fW)))] sz)) 0 0 (va_A [(h0, .inr (6, [.ref aC, .ref g0, .ref sd, .ref mW, .long mt, .int lf, .ref mV, .ref mA, .ref mT])), (aC, .inr (1, [.ref aR, .ref aB, .ref aP, .int nb, .int np])), (aB, .inl (cI, 24, .inl fb)), (aP, .inl (cI, 20, .inl fp)), (g0, .inr (7, [.ref gY, .ref gF, .ref gP, .int gpn, .int glt, .int gsh, .int gwd, .int gpu, .int gmo])), (gY, .inl (cI, 6, .inl gfY)), (gF, .inl (cI, 5, .inl gfF)), (gP, .inl (cI, 80, .inl gfP)), (sd, .inr (8, [.ref w1, .ref w2, .ref aC, .ref g0, .ref aL, .ref aK, .null])), (mW, .inl (cJ, 10, .inr (.inl fW)))] sz) := by
  refine Met.ofW (cc := cX6_weigh) (maxL := 5) (ret := none) (by decide) rfl ?_
  intro p e s m args below meth c s₁ B hml hv
  have y_lf : zHid (0 ≤ lf.toInt ∧ lf.toInt ≤ 9) := n_lf
  clear n_lf
  obtain ⟨⟨hargs, hsz, hP, hK, hT⟩, hV⟩ := hv
  have hx := B.exec
  have hb := B.bytes
  have hr := B.returns
  have hts : ∀ w ∈ wA, w.before args s = true := fun w h => atoms_spec (ws := .code yX6_weigh cX6_weigh 5 none :: wA) B.pre w (List.mem_cons_of_mem _ h)
  have hown : s.vm.findClass RX6 = some m.cls := findClass_of_methodNamed B.named
  have hlocks := B.notSynchronized
  subst hsz
  have hD := hT.self (sz := s.heap.size)
  generalize hAe : va_A [(h0, .inr (6, [.ref aC, .ref g0, .ref sd, .ref mW, .long mt, .int lf, .ref mV, .ref mA, .ref mT])), (aC, .inr (1, [.ref aR, .ref aB, .ref aP, .int nb, .int np])), (aB, .inl (cI, 24, .inl fb)), (aP, .inl (cI, 20, .inl fp)), (g0, .inr (7, [.ref gY, .ref gF, .ref gP, .int gpn, .int glt, .int gsh, .int gwd, .int gpu, .int gmo])), (gY, .inl (cI, 6, .inl gfY)), (gF, .inl (cI, 5, .inl gfF)), (gP, .inl (cI, 80, .inl gfP)), (sd, .inr (8, [.ref w1, .ref w2, .ref aC, .ref g0, .ref aL, .ref aK, .null])), (mW, .inl (cJ, 10, .inr (.inl fW)))] s.heap.size = A at hD hV ⊢
  have hA : ∀ q : Nat, s.heap.size ≤ q → A q := fun q h => by rw [← hAe]; exact Or.inr h
  have hl := lv_entry ([.ref h0, .int p0]) (n := 5) (Nat.le_of_ble_eq_true rfl)
  rw [show entryFrame m args 5 = entryFrame m ([.ref h0, .int p0] : List Value).toArray 5 by rw [hargs], lg_entry_eq]
  generalize (lg_sl ([.ref h0, .int p0]) ++ List.replicate (5 - (lg_sl ([.ref h0, .int p0])).length) Slot.unset).toArray = ls at hl ⊢
  have hl : lv_has ls 5 [(0, .ref h0), (1, .int p0)] := hl
  refine zstart (fun H hH => ?_)
  rw [← hH] at hP
  have hS : va_S A s.heap H [] := by rw [hH]; exact va_S.rf
  generalize ([] : List Loc) = locs at hS ⊢
  refine zgen (fun R Q hR hQ => ?_)
  refine lv_aload_n hx hb dX6_weigh_0 rfl (lv_at hl 0 rfl) ?_
  refine lv_iload_n hx hb dX6_weigh_1 rfl (lv_at hl 1 rfl) ?_
  obtain ⟨hPc, hDc⟩ := zc2 (wc := [(h0, .inr (6, [.ref aC, .ref g0, .ref sd, .ref mW, .long mt, .int lf, .ref mV, .ref mA, .ref mT])), (aC, .inr (1, [.ref aR, .ref aB, .ref aP, .int nb, .int np])), (aB, .inl (cI, 24, .inl fb)), (g0, .inr (7, [.ref gY, .ref gF, .ref gP, .int gpn, .int glt, .int gsh, .int gwd, .int gpu, .int gmo]))]) hP hD [0, 1, 2, 4] (by decide +kernel) rfl
  have hFc := zfr hS hA
  refine va_calli (va_runV (As := [.int p0]) (rest := []) ⟨hx, hb, hml, hown, hts⟩ (g_X6_fitting l dC dI cI cJ h0 p0 aC g0 sd mW mt lf mV mA mT aR aB aP nb np fb gY gF gP gpn glt gsh gwd gpu gmo H.size n_p0) (cwV 1 hts (zgV qw833 qw820 qw821 qw106 qw822) rfl rfl rfl hd_X6_fitting ⟨by rw [hR]; exact Nat.le_of_ble_eq_true rfl, by rw [hR]; exact Nat.le_of_ble_eq_true rfl⟩) (zPWV hPc hK hDc (va_recv (q := (RX6, TX6, 9)) hK hP (ci := 6) (q0 := 0) rfl rfl) (zV_call hV hS hFc)) rfl rfl hl.1 rfl (lv_room (Nat.le_of_ble_eq_true rfl)) dX6_weigh_2 ⟨Nat.zero_le _, Nat.zero_le _⟩) hS (fun q _ h => hFc q h) hFc (fun v2 u2 t H locs ht hvm hw hB hz1 hk1 hS9 => ?_)
  replace hP := zkeep hP hk1
  replace hS := hS9
  clear hPc hDc hFc hk1 hz1 hvm hS9
  obtain ⟨f2_0, f2_1, f2_2⟩ : (10 ≤ v2.toInt) ∧ (v2.toInt ≤ 1023) ∧ (v2 = zFit (cBt glt p0) (cBt gsh p0) (fb (4 * p0.toInt.toNat))) := hw
  have F2 := f2_2
  refine lv_istore_n (lv' := [(2, .int v2), (0, .ref h0), (1, .int p0)]) hx hb dX6_weigh_5 rfl hl (by decide) rfl (fun ls hl => ?_)
  refine lv_iconst (v := 0) hx hb dX6_weigh_6 (by decide) ?_
  have J8 : ∀ (n : Nat) (m8_A_mW : Nat → Int64) (m8_L_3 : Int32), (0 ≤ m8_L_3.toInt ∧ m8_L_3.toInt ≤ 10) → (zJ0 m8_A_mW v2 m8_L_3.toInt) → (11 - m8_L_3.toInt).toNat = n → ∀ (H : Heap) (locs : List Loc) (ls : Array Slot), va_P (dC, dI) vwCl [(h0, .inr (6, [.ref aC, .ref g0, .ref sd, .ref mW, .long mt, .int lf, .ref mV, .ref mA, .ref mT])), (aC, .inr (1, [.ref aR, .ref aB, .ref aP, .int nb, .int np])), (aB, .inl (cI, 24, .inl fb)), (aP, .inl (cI, 20, .inl fp)), (g0, .inr (7, [.ref gY, .ref gF, .ref gP, .int gpn, .int glt, .int gsh, .int gwd, .int gpu, .int gmo])), (gY, .inl (cI, 6, .inl gfY)), (gF, .inl (cI, 5, .inl gfF)), (gP, .inl (cI, 80, .inl gfP)), (sd, .inr (8, [.ref w1, .ref w2, .ref aC, .ref g0, .ref aL, .ref aK, .null])), (mW, .inl (cJ, 10, .inr (.inl m8_A_mW)))] H → va_D A [(h0, .inr (6, [.ref aC, .ref g0, .ref sd, .ref mW, .long mt, .int lf, .ref mV, .ref mA, .ref mT])), (aC, .inr (1, [.ref aR, .ref aB, .ref aP, .int nb, .int np])), (aB, .inl (cI, 24, .inl fb)), (aP, .inl (cI, 20, .inl fp)), (g0, .inr (7, [.ref gY, .ref gF, .ref gP, .int gpn, .int glt, .int gsh, .int gwd, .int gpu, .int gmo])), (gY, .inl (cI, 6, .inl gfY)), (gF, .inl (cI, 5, .inl gfF)), (gP, .inl (cI, 80, .inl gfP)), (sd, .inr (8, [.ref w1, .ref w2, .ref aC, .ref g0, .ref aL, .ref aK, .null])), (mW, .inl (cJ, 10, .inr (.inl m8_A_mW)))] → va_S A s.heap H locs → lv_has ls 5 [(3, .int m8_L_3), (2, .int v2), (0, .ref h0), (1, .int p0)] → W p l e R s m args below meth c H locs 0 0 Q (F0 m 8 ls []) := by
    intro n8
    induction n8 using Nat.strongRecOn with
    | _ n8 ih8 =>
      intro m8_A_mW m8_L_3 jf8_0 jv8_0 hmu8 H locs ls hP hD hS hl
      refine lv_iload_n hx hb dX6_weigh_8 rfl (lv_at hl 0 rfl) ?_
      refine lv_bipush (v := 10) hx hb dX6_weigh_9 (by decide) ?_
      refine lv_icmp_ge (tgt := 32) hx hb dX6_weigh_11 (by decide) (fun c11 => ?_) (fun c11 => ?_)
      · have c11 : 10 ≤ m8_L_3.toInt := z3 (by decide) rfl c11
        refine lv_iconst (v := 0) hx hb dX6_weigh_32 (by decide) ?_
        refine lv_istore_n (lv' := [(3, .int 0), (2, .int v2), (0, .ref h0), (1, .int p0)]) hx hb dX6_weigh_33 rfl hl (by decide) rfl (fun ls hl => ?_)
        refine lv_aload_n hx hb dX6_weigh_34 rfl (lv_at hl 2 rfl) ?_
        refine va_get (D := (dC, dI)) (ci := 6) (v := .ref g0) (C := RX6) (T := TX6) (N := 9) hx hb hts iX6 hown hK hP 0 rfl rfl 1 (by decide) (hts _ qw317) (fun _ h9 => h9) rfl dX6_weigh_35 ?_
        refine va_get (D := (dC, dI)) (ci := 7) (v := .int gpn) (C := RX7) (T := TX7) (N := 9) hx hb hts iX7 hown hK hP 4 rfl rfl 3 (by decide) (hts _ qw228) (fun _ h9 => h9) rfl dX6_weigh_38 ?_
        refine lv_iconst (v := 1) hx hb dX6_weigh_41 (by decide) ?_
        refine lv_isub hx hb dX6_weigh_42 ?_
        refine lv_topi (fun v42 e42 => ?_)
        have i42 : v42.toInt = gpn.toInt - 1 := zsub e42 rfl (by decide) (by omega) (by omega)
        have J45 : ∀ (n : Nat) (m45_A_mW : Nat → Int64) (m45_L_3 : Int32) (m45_L_4 : Int32), (0 ≤ m45_L_3.toInt ∧ m45_L_3.toInt ≤ 12) → ((-1) ≤ m45_L_4.toInt ∧ m45_L_4.toInt ≤ 19) → (∀ (kc : zK3) (kT : zT) (q_fr : Nat → Int32), zCn q_fr fb fp nb.toInt np.toInt kc → zKo nb.toInt np.toInt kc kT → zSc nb.toInt np.toInt kT.1 gfY gfF gfP gpn glt gsh gwd gpu gmo → (0 ≤ p0.toInt ∧ p0.toInt < nb.toInt) → zJv kc kT.1 none p0 m45_A_mW (m45_L_4.toInt + 1).toNat (12 - m45_L_3.toInt).toNat) → (m45_L_4.toInt < gpn.toInt) → (m45_L_4.toInt - (-2)).toNat = n → ∀ (H : Heap) (locs : List Loc) (ls : Array Slot), va_P (dC, dI) vwCl [(h0, .inr (6, [.ref aC, .ref g0, .ref sd, .ref mW, .long mt, .int lf, .ref mV, .ref mA, .ref mT])), (aC, .inr (1, [.ref aR, .ref aB, .ref aP, .int nb, .int np])), (aB, .inl (cI, 24, .inl fb)), (aP, .inl (cI, 20, .inl fp)), (g0, .inr (7, [.ref gY, .ref gF, .ref gP, .int gpn, .int glt, .int gsh, .int gwd, .int gpu, .int gmo])), (gY, .inl (cI, 6, .inl gfY)), (gF, .inl (cI, 5, .inl gfF)), (gP, .inl (cI, 80, .inl gfP)), (sd, .inr (8, [.ref w1, .ref w2, .ref aC, .ref g0, .ref aL, .ref aK, .null])), (mW, .inl (cJ, 10, .inr (.inl m45_A_mW)))] H → va_D A [(h0, .inr (6, [.ref aC, .ref g0, .ref sd, .ref mW, .long mt, .int lf, .ref mV, .ref mA, .ref mT])), (aC, .inr (1, [.ref aR, .ref aB, .ref aP, .int nb, .int np])), (aB, .inl (cI, 24, .inl fb)), (aP, .inl (cI, 20, .inl fp)), (g0, .inr (7, [.ref gY, .ref gF, .ref gP, .int gpn, .int glt, .int gsh, .int gwd, .int gpu, .int gmo])), (gY, .inl (cI, 6, .inl gfY)), (gF, .inl (cI, 5, .inl gfF)), (gP, .inl (cI, 80, .inl gfP)), (sd, .inr (8, [.ref w1, .ref w2, .ref aC, .ref g0, .ref aL, .ref aK, .null])), (mW, .inl (cJ, 10, .inr (.inl m45_A_mW)))] → va_S A s.heap H locs → lv_has ls 5 [(4, .int m45_L_4), (3, .int m45_L_3), (2, .int v2), (0, .ref h0), (1, .int p0)] → W p l e R s m args below meth c H locs 0 0 Q (F0 m 45 ls []) := by
          intro n45
          induction n45 using Nat.strongRecOn with
          | _ n45 ih45 =>
            intro m45_A_mW m45_L_3 m45_L_4 jf45_0 jf45_1 jv45_0 jf45_3 hmu45 H locs ls hP hD hS hl
            refine lv_iload hx hb dX6_weigh_45 (lv_at hl 0 rfl) ?_
            have J103 : (∀ (kc : zK3) (kT : zT) (q_fr : Nat → Int32), zCn q_fr fb fp nb.toInt np.toInt kc → zKo nb.toInt np.toInt kc kT → zSc nb.toInt np.toInt kT.1 gfY gfF gfP gpn glt gsh gwd gpu gmo → (0 ≤ p0.toInt ∧ p0.toInt < nb.toInt) → ∀ j : Nat, j < 10 → m45_A_mW j = sWt kc kT.1 none p0 (Int32.ofNat j)) → ∀ (H : Heap) (locs : List Loc) (ls : Array Slot), va_P (dC, dI) vwCl [(h0, .inr (6, [.ref aC, .ref g0, .ref sd, .ref mW, .long mt, .int lf, .ref mV, .ref mA, .ref mT])), (aC, .inr (1, [.ref aR, .ref aB, .ref aP, .int nb, .int np])), (aB, .inl (cI, 24, .inl fb)), (aP, .inl (cI, 20, .inl fp)), (g0, .inr (7, [.ref gY, .ref gF, .ref gP, .int gpn, .int glt, .int gsh, .int gwd, .int gpu, .int gmo])), (gY, .inl (cI, 6, .inl gfY)), (gF, .inl (cI, 5, .inl gfF)), (gP, .inl (cI, 80, .inl gfP)), (sd, .inr (8, [.ref w1, .ref w2, .ref aC, .ref g0, .ref aL, .ref aK, .null])), (mW, .inl (cJ, 10, .inr (.inl m45_A_mW)))] H → va_D A [(h0, .inr (6, [.ref aC, .ref g0, .ref sd, .ref mW, .long mt, .int lf, .ref mV, .ref mA, .ref mT])), (aC, .inr (1, [.ref aR, .ref aB, .ref aP, .int nb, .int np])), (aB, .inl (cI, 24, .inl fb)), (aP, .inl (cI, 20, .inl fp)), (g0, .inr (7, [.ref gY, .ref gF, .ref gP, .int gpn, .int glt, .int gsh, .int gwd, .int gpu, .int gmo])), (gY, .inl (cI, 6, .inl gfY)), (gF, .inl (cI, 5, .inl gfF)), (gP, .inl (cI, 80, .inl gfP)), (sd, .inr (8, [.ref w1, .ref w2, .ref aC, .ref g0, .ref aL, .ref aK, .null])), (mW, .inl (cJ, 10, .inr (.inl m45_A_mW)))] → va_S A s.heap H locs → lv_has ls 5 [(4, .int m45_L_4), (3, .int m45_L_3), (2, .int v2), (0, .ref h0), (1, .int p0)] → W p l e R s m args below meth c H locs 0 0 Q (F0 m 103 ls []) := by
              intro  jv103_0 H locs ls hP hD hS hl
              refine lv_aload_n hx hb dX6_weigh_103 rfl (lv_at hl 3 rfl) ?_
              refine lv_lconst (v := 0) hx hb dX6_weigh_104 rfl ?_
              refine va_put (D := (dC, dI)) (ci := 6) (v := .long 0) (ty := .long) (C := RX6) (T := TX6) (N := 9) hx hb hts iX6 tyX6 tyX6_ok nmX6 hown hK hP hD hS 0 rfl rfl 4 (by decide) (hts _ qw320) (fun _ h9 => h9) rfl (by decide +kernel) rfl rfl (Nat.le_of_ble_eq_true rfl) dX6_weigh_105 (fun H locs hP9 hD9 hS9 => ?_)
              clear hP hD hS
              obtain ⟨hP, hD⟩ := zst (wX := [(h0, .inr (6, [.ref aC, .ref g0, .ref sd, .ref mW, .long 0, .int lf, .ref mV, .ref mA, .ref mT])), (aC, .inr (1, [.ref aR, .ref aB, .ref aP, .int nb, .int np])), (aB, .inl (cI, 24, .inl fb)), (aP, .inl (cI, 20, .inl fp)), (g0, .inr (7, [.ref gY, .ref gF, .ref gP, .int gpn, .int glt, .int gsh, .int gwd, .int gpu, .int gmo])), (gY, .inl (cI, 6, .inl gfY)), (gF, .inl (cI, 5, .inl gfF)), (gP, .inl (cI, 80, .inl gfP)), (sd, .inr (8, [.ref w1, .ref w2, .ref aC, .ref g0, .ref aL, .ref aK, .null])), (mW, .inl (cJ, 10, .inr (.inl m45_A_mW)))]) hP9 hD9 rfl
              have hS := hS9
              clear hP9 hD9 hS9
              refine lv_iconst (v := 0) hx hb dX6_weigh_108 (by decide) ?_
              have J111 : ∀ (n : Nat) (m111_A_mW : Nat → Int64) (m111_F_h0_4 : Int64) (m111_L_4 : Int32), (0 ≤ m111_L_4.toInt ∧ m111_L_4.toInt ≤ 10) → (∀ (kc : zK3) (kT : zT) (q_fr : Nat → Int32), zCn q_fr fb fp nb.toInt np.toInt kc → zKo nb.toInt np.toInt kc kT → zSc nb.toInt np.toInt kT.1 gfY gfF gfP gpn glt gsh gwd gpu gmo → (0 ≤ p0.toInt ∧ p0.toInt < nb.toInt) → ∀ j : Nat, j < 10 → m111_A_mW j = sWt kc kT.1 none p0 (Int32.ofNat j)) → (m111_F_h0_4 = zSm m111_A_mW m111_L_4.toInt.toNat) → (11 - m111_L_4.toInt).toNat = n → ∀ (H : Heap) (locs : List Loc) (ls : Array Slot), va_P (dC, dI) vwCl [(h0, .inr (6, [.ref aC, .ref g0, .ref sd, .ref mW, .long m111_F_h0_4, .int lf, .ref mV, .ref mA, .ref mT])), (aC, .inr (1, [.ref aR, .ref aB, .ref aP, .int nb, .int np])), (aB, .inl (cI, 24, .inl fb)), (aP, .inl (cI, 20, .inl fp)), (g0, .inr (7, [.ref gY, .ref gF, .ref gP, .int gpn, .int glt, .int gsh, .int gwd, .int gpu, .int gmo])), (gY, .inl (cI, 6, .inl gfY)), (gF, .inl (cI, 5, .inl gfF)), (gP, .inl (cI, 80, .inl gfP)), (sd, .inr (8, [.ref w1, .ref w2, .ref aC, .ref g0, .ref aL, .ref aK, .null])), (mW, .inl (cJ, 10, .inr (.inl m111_A_mW)))] H → va_D A [(h0, .inr (6, [.ref aC, .ref g0, .ref sd, .ref mW, .long m111_F_h0_4, .int lf, .ref mV, .ref mA, .ref mT])), (aC, .inr (1, [.ref aR, .ref aB, .ref aP, .int nb, .int np])), (aB, .inl (cI, 24, .inl fb)), (aP, .inl (cI, 20, .inl fp)), (g0, .inr (7, [.ref gY, .ref gF, .ref gP, .int gpn, .int glt, .int gsh, .int gwd, .int gpu, .int gmo])), (gY, .inl (cI, 6, .inl gfY)), (gF, .inl (cI, 5, .inl gfF)), (gP, .inl (cI, 80, .inl gfP)), (sd, .inr (8, [.ref w1, .ref w2, .ref aC, .ref g0, .ref aL, .ref aK, .null])), (mW, .inl (cJ, 10, .inr (.inl m111_A_mW)))] → va_S A s.heap H locs → lv_has ls 5 [(4, .int m111_L_4), (3, .int m45_L_3), (2, .int v2), (0, .ref h0), (1, .int p0)] → W p l e R s m args below meth c H locs 0 0 Q (F0 m 111 ls []) := by
                intro n111
                induction n111 using Nat.strongRecOn with
                | _ n111 ih111 =>
                  intro m111_A_mW m111_F_h0_4 m111_L_4 jf111_0 jv111_0 jv111_1 hmu111 H locs ls hP hD hS hl
                  refine lv_iload hx hb dX6_weigh_111 (lv_at hl 0 rfl) ?_
                  refine lv_bipush (v := 10) hx hb dX6_weigh_113 (by decide) ?_
                  refine lv_icmp_ge (tgt := 140) hx hb dX6_weigh_115 (by decide) (fun c115 => ?_) (fun c115 => ?_)
                  · have c115 : 10 ≤ m111_L_4.toInt := z3 (by decide) rfl c115
                    refine lv_aload_n hx hb dX6_weigh_140 rfl (lv_at hl 3 rfl) ?_
                    refine lv_iconst (v := 0) hx hb dX6_weigh_141 (by decide) ?_
                    refine va_put (D := (dC, dI)) (ci := 6) (v := .int 0) (ty := .int) (C := RX6) (T := TX6) (N := 9) hx hb hts iX6 tyX6 tyX6_ok nmX6 hown hK hP hD hS 0 rfl rfl 5 (by decide) (hts _ qw321) (fun _ h9 => h9) rfl (by decide +kernel) rfl rfl (Nat.le_of_ble_eq_true rfl) dX6_weigh_142 (fun H locs hP9 hD9 hS9 => ?_)
                    clear hP hD hS
                    obtain ⟨hP, hD⟩ := zst (wX := [(h0, .inr (6, [.ref aC, .ref g0, .ref sd, .ref mW, .long m111_F_h0_4, .int 0, .ref mV, .ref mA, .ref mT])), (aC, .inr (1, [.ref aR, .ref aB, .ref aP, .int nb, .int np])), (aB, .inl (cI, 24, .inl fb)), (aP, .inl (cI, 20, .inl fp)), (g0, .inr (7, [.ref gY, .ref gF, .ref gP, .int gpn, .int glt, .int gsh, .int gwd, .int gpu, .int gmo])), (gY, .inl (cI, 6, .inl gfY)), (gF, .inl (cI, 5, .inl gfF)), (gP, .inl (cI, 80, .inl gfP)), (sd, .inr (8, [.ref w1, .ref w2, .ref aC, .ref g0, .ref aL, .ref aK, .null])), (mW, .inl (cJ, 10, .inr (.inl m111_A_mW)))]) hP9 hD9 rfl
                    have hS := hS9
                    clear hP9 hD9 hS9
                    refine lv_iconst (v := 1) hx hb dX6_weigh_145 (by decide) ?_
                    have J148 : ∀ (n : Nat) (m148_F_h0_5 : Int32) (m148_L_4 : Int32), (0 ≤ m148_F_h0_5.toInt ∧ m148_F_h0_5.toInt ≤ 9) → (1 ≤ m148_L_4.toInt ∧ m148_L_4.toInt ≤ 10) → (m148_F_h0_5 = zXm (sBv m111_A_mW m111_F_h0_4) (m148_L_4.toInt.toNat - 1)) → (11 - m148_L_4.toInt).toNat = n → ∀ (H : Heap) (locs : List Loc) (ls : Array Slot), va_P (dC, dI) vwCl [(h0, .inr (6, [.ref aC, .ref g0, .ref sd, .ref mW, .long m111_F_h0_4, .int m148_F_h0_5, .ref mV, .ref mA, .ref mT])), (aC, .inr (1, [.ref aR, .ref aB, .ref aP, .int nb, .int np])), (aB, .inl (cI, 24, .inl fb)), (aP, .inl (cI, 20, .inl fp)), (g0, .inr (7, [.ref gY, .ref gF, .ref gP, .int gpn, .int glt, .int gsh, .int gwd, .int gpu, .int gmo])), (gY, .inl (cI, 6, .inl gfY)), (gF, .inl (cI, 5, .inl gfF)), (gP, .inl (cI, 80, .inl gfP)), (sd, .inr (8, [.ref w1, .ref w2, .ref aC, .ref g0, .ref aL, .ref aK, .null])), (mW, .inl (cJ, 10, .inr (.inl m111_A_mW)))] H → va_D A [(h0, .inr (6, [.ref aC, .ref g0, .ref sd, .ref mW, .long m111_F_h0_4, .int m148_F_h0_5, .ref mV, .ref mA, .ref mT])), (aC, .inr (1, [.ref aR, .ref aB, .ref aP, .int nb, .int np])), (aB, .inl (cI, 24, .inl fb)), (aP, .inl (cI, 20, .inl fp)), (g0, .inr (7, [.ref gY, .ref gF, .ref gP, .int gpn, .int glt, .int gsh, .int gwd, .int gpu, .int gmo])), (gY, .inl (cI, 6, .inl gfY)), (gF, .inl (cI, 5, .inl gfF)), (gP, .inl (cI, 80, .inl gfP)), (sd, .inr (8, [.ref w1, .ref w2, .ref aC, .ref g0, .ref aL, .ref aK, .null])), (mW, .inl (cJ, 10, .inr (.inl m111_A_mW)))] → va_S A s.heap H locs → lv_has ls 5 [(4, .int m148_L_4), (3, .int m45_L_3), (2, .int v2), (0, .ref h0), (1, .int p0)] → W p l e R s m args below meth c H locs 0 0 Q (F0 m 148 ls []) := by
                      intro n148
                      induction n148 using Nat.strongRecOn with
                      | _ n148 ih148 =>
                        intro m148_F_h0_5 m148_L_4 jf148_0 jf148_1 jv148_0 hmu148 H locs ls hP hD hS hl
                        refine lv_iload hx hb dX6_weigh_148 (lv_at hl 0 rfl) ?_
                        refine lv_bipush (v := 10) hx hb dX6_weigh_150 (by decide) ?_
                        refine lv_icmp_ge (tgt := 184) hx hb dX6_weigh_152 (by decide) (fun c152 => ?_) (fun c152 => ?_)
                        · have c152 : 10 ≤ m148_L_4.toInt := z3 (by decide) rfl c152
                          rw [hQ]
                          exact W.vret hx hb hr (fun t ht hW => ⟨⟨(m111_F_h0_4, m148_F_h0_5, m111_A_mW), rfl, ⟨by (try dsimp only); omega, by (try dsimp only); omega, fun kc kT q_fr hc hb h hq => zWe_mk (jv111_0 kc kT _ hc hb h hq) jv111_1 (by omega) jv148_0 (by omega)⟩, ⟨by rw [ht]; exact hP, hD⟩⟩, hS.F ht⟩) hS.2.2 dX6_weigh_184
                        · have c152 : m148_L_4.toInt < 10 := z4 (by decide) rfl c152
                          refine lv_aload_n hx hb dX6_weigh_155 rfl (lv_at hl 3 rfl) ?_
                          refine lv_iload hx hb dX6_weigh_156 (lv_at hl 0 rfl) ?_
                          obtain ⟨hPc, hDc⟩ := zc2 (wc := [(h0, .inr (6, [.ref aC, .ref g0, .ref sd, .ref mW, .long m111_F_h0_4, .int m148_F_h0_5, .ref mV, .ref mA, .ref mT])), (mW, .inl (cJ, 10, .inr (.inl m111_A_mW)))]) hP hD [0, 9] (by decide +kernel) rfl
                          have hFc := zfr hS hA
                          refine va_calli (va_runV (As := [.int m148_L_4]) (rest := []) ⟨hx, hb, hml, hown, hts⟩ (g_X6_share l dC dI cI cJ h0 m148_L_4 aC g0 sd mW m111_F_h0_4 m148_F_h0_5 mV mA mT m111_A_mW H.size (by omega)) (cwV 1 hts (zgV qw850 qw851 qw852 qw106 qw853) rfl rfl rfl hd_X6_share ⟨by rw [hR]; exact Nat.le_of_ble_eq_true rfl, by rw [hR]; exact Nat.le_of_ble_eq_true rfl⟩) (zPV hPc hK hDc (va_recv (q := (RX6, TX6, 9)) hK hP (ci := 6) (q0 := 0) rfl rfl)) rfl rfl hl.1 rfl (lv_room (Nat.le_of_ble_eq_true rfl)) dX6_weigh_158 ⟨Nat.zero_le _, Nat.zero_le _⟩) hS (fun q _ h => hFc q h) hFc (fun v158 u158 t H locs ht hvm hw hB hz1 hk1 hS9 => ?_)
                          replace hP := zkeep hP hk1
                          replace hS := hS9
                          clear hPc hDc hFc hk1 hz1 hvm hS9
                          have f158_0 : (v158 = sBv m111_A_mW m111_F_h0_4 m148_L_4.toInt.toNat) := hw
                          have F158 := f158_0
                          refine lv_aload_n hx hb dX6_weigh_161 rfl (lv_at hl 3 rfl) ?_
                          refine lv_aload_n hx hb dX6_weigh_162 rfl (lv_at hl 3 rfl) ?_
                          refine va_get (D := (dC, dI)) (ci := 6) (v := .int m148_F_h0_5) (C := RX6) (T := TX6) (N := 9) hx hb hts iX6 hown hK hP 0 rfl rfl 5 (by decide) (hts _ qw321) (fun _ h9 => h9) rfl dX6_weigh_163 ?_
                          obtain ⟨hPc, hDc⟩ := zc2 (wc := [(h0, .inr (6, [.ref aC, .ref g0, .ref sd, .ref mW, .long m111_F_h0_4, .int m148_F_h0_5, .ref mV, .ref mA, .ref mT])), (mW, .inl (cJ, 10, .inr (.inl m111_A_mW)))]) hP hD [0, 9] (by decide +kernel) rfl
                          have hFc := zfr hS hA
                          refine va_calli (va_runV (As := [.int m148_F_h0_5]) (rest := [.int v158]) ⟨hx, hb, hml, hown, hts⟩ (g_X6_share l dC dI cI cJ h0 m148_F_h0_5 aC g0 sd mW m111_F_h0_4 m148_F_h0_5 mV mA mT m111_A_mW H.size jf148_0) (cwV 1 hts (zgV qw850 qw851 qw852 qw106 qw853) rfl rfl rfl hd_X6_share ⟨by rw [hR]; exact Nat.le_of_ble_eq_true rfl, by rw [hR]; exact Nat.le_of_ble_eq_true rfl⟩) (zPV hPc hK hDc (va_recv (q := (RX6, TX6, 9)) hK hP (ci := 6) (q0 := 0) rfl rfl)) rfl rfl hl.1 rfl (lv_room (Nat.le_of_ble_eq_true rfl)) dX6_weigh_166 ⟨Nat.zero_le _, Nat.zero_le _⟩) hS (fun q _ h => hFc q h) hFc (fun v166 u166 t H locs ht hvm hw hB hz1 hk1 hS9 => ?_)
                          replace hP := zkeep hP hk1
                          replace hS := hS9
                          clear hPc hDc hFc hk1 hz1 hvm hS9
                          have f166_0 : (v166 = sBv m111_A_mW m111_F_h0_4 m148_F_h0_5.toInt.toNat) := hw
                          have F166 := f166_0
                          refine lv_icmp_le (tgt := 178) hx hb dX6_weigh_169 (by decide) (fun c169 => ?_) (fun c169 => ?_)
                          · have c169 : v158.toInt ≤ v166.toInt := z3 rfl rfl c169
                            obtain ⟨v178, e178⟩ : ∃ y : Int32, y = m148_L_4 + Int32.ofInt (1) := ⟨_, rfl⟩
                            refine lv_iinc (v := v178) (lv' := [(4, .int v178), (3, .int m45_L_3), (2, .int v2), (0, .ref h0), (1, .int p0)]) hx hb dX6_weigh_178 hl (k := 0) rfl e178.symm (by decide) rfl (fun ls hl => ?_)
                            have i178 : v178.toInt = m148_L_4.toInt + 1 := zaddI e178 (by decide) (by omega) (by omega)
                            refine lv_goto (tgt := 148) hx hb dX6_weigh_181 (by decide) ?_
                            exact ih148 _ (by omega) m148_F_h0_5 v178 jf148_0 (by omega) (by first | exact zXmS jv148_0 (by omega) i178 F158 F166 (Or.inl ⟨by omega, rfl⟩) | exact zXmS jv148_0 (by omega) i178 F158 F166 (Or.inr ⟨by omega, rfl⟩)) rfl H locs ls hP hD hS (lv_sub hl [0, 1, 2, 3, 4] rfl)
                          · have c169 : v166.toInt < v158.toInt := z4 rfl rfl c169
                            refine lv_aload_n hx hb dX6_weigh_172 rfl (lv_at hl 3 rfl) ?_
                            refine lv_iload hx hb dX6_weigh_173 (lv_at hl 0 rfl) ?_
                            refine va_put (D := (dC, dI)) (ci := 6) (v := .int m148_L_4) (ty := .int) (C := RX6) (T := TX6) (N := 9) hx hb hts iX6 tyX6 tyX6_ok nmX6 hown hK hP hD hS 0 rfl rfl 5 (by decide) (hts _ qw321) (fun _ h9 => h9) rfl (by decide +kernel) rfl rfl (Nat.le_of_ble_eq_true rfl) dX6_weigh_175 (fun H locs hP9 hD9 hS9 => ?_)
                            clear hP hD hS
                            obtain ⟨hP, hD⟩ := zst (wX := [(h0, .inr (6, [.ref aC, .ref g0, .ref sd, .ref mW, .long m111_F_h0_4, .int m148_L_4, .ref mV, .ref mA, .ref mT])), (aC, .inr (1, [.ref aR, .ref aB, .ref aP, .int nb, .int np])), (aB, .inl (cI, 24, .inl fb)), (aP, .inl (cI, 20, .inl fp)), (g0, .inr (7, [.ref gY, .ref gF, .ref gP, .int gpn, .int glt, .int gsh, .int gwd, .int gpu, .int gmo])), (gY, .inl (cI, 6, .inl gfY)), (gF, .inl (cI, 5, .inl gfF)), (gP, .inl (cI, 80, .inl gfP)), (sd, .inr (8, [.ref w1, .ref w2, .ref aC, .ref g0, .ref aL, .ref aK, .null])), (mW, .inl (cJ, 10, .inr (.inl m111_A_mW)))]) hP9 hD9 rfl
                            have hS := hS9
                            clear hP9 hD9 hS9
                            obtain ⟨v178, e178⟩ : ∃ y : Int32, y = m148_L_4 + Int32.ofInt (1) := ⟨_, rfl⟩
                            refine lv_iinc (v := v178) (lv' := [(4, .int v178), (3, .int m45_L_3), (2, .int v2), (0, .ref h0), (1, .int p0)]) hx hb dX6_weigh_178 hl (k := 0) rfl e178.symm (by decide) rfl (fun ls hl => ?_)
                            have i178 : v178.toInt = m148_L_4.toInt + 1 := zaddI e178 (by decide) (by omega) (by omega)
                            refine lv_goto (tgt := 148) hx hb dX6_weigh_181 (by decide) ?_
                            exact ih148 _ (by omega) m148_L_4 v178 (by omega) (by omega) (by first | exact zXmS jv148_0 (by omega) i178 F158 F166 (Or.inl ⟨by omega, rfl⟩) | exact zXmS jv148_0 (by omega) i178 F158 F166 (Or.inr ⟨by omega, rfl⟩)) rfl H locs ls hP hD hS (lv_sub hl [0, 1, 2, 3, 4] rfl)
                    refine lv_istore (lv' := [(4, .int 1), (3, .int m45_L_3), (2, .int v2), (0, .ref h0), (1, .int p0)]) hx hb dX6_weigh_146 hl (by decide) rfl (fun ls hl => ?_)
                    have zj148_m148_L_4 : (1 : Int32).toInt = 1 := by decide
                    have zj148_m148_F_h0_5 : (0 : Int32).toInt = 0 := by decide
                    exact J148 _ 0 1 (by decide) (by decide) (rfl) rfl H locs ls hP hD hS (lv_sub hl [0, 1, 2, 3, 4] rfl)
                  · have c115 : m111_L_4.toInt < 10 := z4 (by decide) rfl c115
                    refine lv_aload_n hx hb dX6_weigh_118 rfl (lv_at hl 3 rfl) ?_
                    refine lv_dup hx hb dX6_weigh_119 rfl ?_
                    refine va_get (D := (dC, dI)) (ci := 6) (v := .long m111_F_h0_4) (C := RX6) (T := TX6) (N := 9) hx hb hts iX6 hown hK hP 0 rfl rfl 4 (by decide) (hts _ qw320) (fun _ h9 => h9) rfl dX6_weigh_120 ?_
                    refine lv_aload_n hx hb dX6_weigh_123 rfl (lv_at hl 3 rfl) ?_
                    refine va_get (D := (dC, dI)) (ci := 6) (v := .ref mW) (C := RX6) (T := TX6) (N := 9) hx hb hts iX6 hown hK hP 0 rfl rfl 3 (by decide) (hts _ qw319) (fun _ h9 => h9) rfl dX6_weigh_124 ?_
                    refine lv_iload hx hb dX6_weigh_127 (lv_at hl 0 rfl) ?_
                    refine va_lald hx hb hK hP 9 1 rfl rfl (vp_in_iff.mpr ⟨by omega, by omega⟩) dX6_weigh_129 ?_
                    refine lv_topl (fun v129 e129 => ?_)
                    refine lv_ladd hx hb dX6_weigh_130 ?_
                    refine lv_topl (fun v130 e130 => ?_)
                    refine va_put (D := (dC, dI)) (ci := 6) (v := .long v130) (ty := .long) (C := RX6) (T := TX6) (N := 9) hx hb hts iX6 tyX6 tyX6_ok nmX6 hown hK hP hD hS 0 rfl rfl 4 (by decide) (hts _ qw320) (fun _ h9 => h9) rfl (by decide +kernel) rfl rfl (Nat.le_of_ble_eq_true rfl) dX6_weigh_131 (fun H locs hP9 hD9 hS9 => ?_)
                    clear hP hD hS
                    obtain ⟨hP, hD⟩ := zst (wX := [(h0, .inr (6, [.ref aC, .ref g0, .ref sd, .ref mW, .long v130, .int lf, .ref mV, .ref mA, .ref mT])), (aC, .inr (1, [.ref aR, .ref aB, .ref aP, .int nb, .int np])), (aB, .inl (cI, 24, .inl fb)), (aP, .inl (cI, 20, .inl fp)), (g0, .inr (7, [.ref gY, .ref gF, .ref gP, .int gpn, .int glt, .int gsh, .int gwd, .int gpu, .int gmo])), (gY, .inl (cI, 6, .inl gfY)), (gF, .inl (cI, 5, .inl gfF)), (gP, .inl (cI, 80, .inl gfP)), (sd, .inr (8, [.ref w1, .ref w2, .ref aC, .ref g0, .ref aL, .ref aK, .null])), (mW, .inl (cJ, 10, .inr (.inl m111_A_mW)))]) hP9 hD9 rfl
                    have hS := hS9
                    clear hP9 hD9 hS9
                    obtain ⟨v134, e134⟩ : ∃ y : Int32, y = m111_L_4 + Int32.ofInt (1) := ⟨_, rfl⟩
                    refine lv_iinc (v := v134) (lv' := [(4, .int v134), (3, .int m45_L_3), (2, .int v2), (0, .ref h0), (1, .int p0)]) hx hb dX6_weigh_134 hl (k := 0) rfl e134.symm (by decide) rfl (fun ls hl => ?_)
                    have i134 : v134.toInt = m111_L_4.toInt + 1 := zaddI e134 (by decide) (by omega) (by omega)
                    refine lv_goto (tgt := 111) hx hb dX6_weigh_137 (by decide) ?_
                    exact ih111 _ (by omega) m111_A_mW v130 v134 (by omega) (jv111_0) (zSmS jv111_1 (by omega) i134 e129 e130) rfl H locs ls hP hD hS (lv_sub hl [0, 1, 2, 3, 4] rfl)
              refine lv_istore (lv' := [(4, .int 0), (3, .int m45_L_3), (2, .int v2), (0, .ref h0), (1, .int p0)]) hx hb dX6_weigh_109 hl (by decide) rfl (fun ls hl => ?_)
              have zj111_m111_L_4 : (0 : Int32).toInt = 0 := by decide
              exact J111 _ m45_A_mW 0 0 (by decide) (jv103_0) (rfl) rfl H locs ls hP hD hS (lv_sub hl [0, 1, 2, 3, 4] rfl)
            refine lv_if_lt (tgt := 103) hx hb dX6_weigh_47 (by decide) (fun c47 => ?_) (fun c47 => ?_)
            · have c47 : m45_L_4.toInt < 0 := z1 rfl (by decide) c47
              exact J103  (fun kc kT q_fr hc hb h hq => zJvE (jv45_0 kc kT _ hc hb h hq) (by omega)) H locs ls hP hD hS (lv_sub hl [0, 1, 2, 3, 4] rfl)
            · have c47 : 0 ≤ m45_L_4.toInt := z2 rfl (by decide) c47
              refine lv_iload_n hx hb dX6_weigh_50 rfl (lv_at hl 1 rfl) ?_
              refine lv_bipush (v := 12) hx hb dX6_weigh_51 (by decide) ?_
              refine lv_icmp_ge (tgt := 103) hx hb dX6_weigh_53 (by decide) (fun c53 => ?_) (fun c53 => ?_)
              · have c53 : 12 ≤ m45_L_3.toInt := z3 (by decide) rfl c53
                exact J103  (fun kc kT q_fr hc hb h hq => zJvE (jv45_0 kc kT _ hc hb h hq) (by omega)) H locs ls hP hD hS (lv_sub hl [0, 1, 2, 3, 4] rfl)
              · have c53 : m45_L_3.toInt < 12 := z4 (by decide) rfl c53
                refine lv_aload_n hx hb dX6_weigh_56 rfl (lv_at hl 3 rfl) ?_
                refine va_get (D := (dC, dI)) (ci := 6) (v := .ref g0) (C := RX6) (T := TX6) (N := 9) hx hb hts iX6 hown hK hP 0 rfl rfl 1 (by decide) (hts _ qw317) (fun _ h9 => h9) rfl dX6_weigh_57 ?_
                refine lv_iload hx hb dX6_weigh_60 (lv_at hl 0 rfl) ?_
                refine lv_iconst (v := 0) hx hb dX6_weigh_62 (by decide) ?_
                obtain ⟨hPc, hDc⟩ := zc2 (wc := [(g0, .inr (7, [.ref gY, .ref gF, .ref gP, .int gpn, .int glt, .int gsh, .int gwd, .int gpu, .int gmo])), (gP, .inl (cI, 80, .inl gfP))]) hP hD [4, 7] (by decide +kernel) rfl
                have hFc := zfr hS hA
                refine va_calli (va_runV (As := [.int m45_L_4, .int 0]) (rest := []) ⟨hx, hb, hml, hown, hts⟩ (g_X7_ofPortrait_0 l dC dI cI cJ g0 m45_L_4 gY gF gP gpn glt gsh gwd gpu gmo gfP H.size (by omega) ci_gfP_zPo) (cwV 2 hts (zgV qw834 qw653 qw654 qw103 qw655) rfl rfl rfl hd_X7_ofPortrait ⟨by rw [hR]; exact Nat.le_of_ble_eq_true rfl, by rw [hR]; exact Nat.le_of_ble_eq_true rfl⟩) (zPV hPc hK hDc (va_recv (q := (RX7, TX7, 9)) hK hP (ci := 7) (q0 := 4) rfl rfl)) rfl rfl hl.1 rfl (lv_room (Nat.le_of_ble_eq_true rfl)) dX6_weigh_63 ⟨Nat.zero_le _, Nat.zero_le _⟩) hS (fun q _ h => hFc q h) hFc (fun v63 u63 t H locs ht hvm hw hB hz1 hk1 hS9 => ?_)
                replace hP := zkeep hP hk1
                replace hS := hS9
                clear hPc hDc hFc hk1 hz1 hvm hS9
                obtain ⟨f63_0, f63_1, f63_2⟩ : (0 ≤ v63.toInt) ∧ (v63.toInt ≤ 5) ∧ (v63 = gfP (4 * m45_L_4.toInt.toNat)) := hw
                have F63 := f63_2
                refine lv_iload_n hx hb dX6_weigh_66 rfl (lv_at hl 4 rfl) ?_
                refine lv_icmp_ne (tgt := 97) hx hb dX6_weigh_67 (by decide) (fun c67 => ?_) (fun c67 => ?_)
                · have c67 : ¬ v63.toInt = p0.toInt := z6 rfl rfl c67
                  obtain ⟨v97, e97⟩ : ∃ y : Int32, y = m45_L_4 + Int32.ofInt (-1) := ⟨_, rfl⟩
                  refine lv_iinc (v := v97) (lv' := [(4, .int v97), (3, .int m45_L_3), (2, .int v2), (0, .ref h0), (1, .int p0)]) hx hb dX6_weigh_97 hl (k := 0) rfl e97.symm (by decide) rfl (fun ls hl => ?_)
                  have i97 : v97.toInt = m45_L_4.toInt + (-1) := zaddI e97 (by decide) (by omega) (by omega)
                  refine lv_goto (tgt := 45) hx hb dX6_weigh_100 (by decide) ?_
                  exact ih45 _ (by omega) m45_A_mW m45_L_3 v97 jf45_0 (by omega) (fun kc kT q_fr hc hb h hq => by have zb := hb.2.2.2.1.2.2.2.2.2 m45_L_4.toInt.toNat (by rw [zSc_pn h]; omega); have y63 : v63 = kT.1.2.2.2.2 (4 * m45_L_4.toInt.toNat) := F63.trans (h.2.2.2.2 _ (by omega)); have z63 := congrArg Int32.toInt y63; first | (have y78 : v78 = kT.1.2.2.2.2 (4 * m45_L_4.toInt.toNat + 1) := F78.trans (h.2.2.2.2 _ (by omega)); have z78 := congrArg Int32.toInt y78; have y3 : fp (4 * v78.toInt.toNat + 3) = kc.2.2 (4 * (kT.1.2.2.2.2 (4 * m45_L_4.toInt.toNat + 1)).toInt.toNat + 3) := (hc.2.2 _ (by omega)).trans (by rw [y78]); have z3 := congrArg Int32.toInt y3; first | exact zJvY (jv45_0 kc kT _ hc hb h hq) (by omega) i97 (by omega) (by omega) i87 ⟨by omega, by omega⟩ hb (by rw [zSc_pn h]; omega) (F94 kc kT _ hc hb h hq (by omega)) | exact zJvN (jv45_0 kc kT _ hc hb h hq) (by omega) i97 (by omega) (fun z => z.2 (by omega))) | exact zJvN (jv45_0 kc kT _ hc hb h hq) (by omega) i97 (by omega) (fun z => absurd z.1 (by omega))) (by omega) rfl H locs ls hP hD hS (lv_sub hl [0, 1, 2, 3, 4] rfl)
                · have c67 : v63.toInt = p0.toInt := z5 rfl rfl c67
                  refine lv_aload_n hx hb dX6_weigh_70 rfl (lv_at hl 3 rfl) ?_
                  refine lv_aload_n hx hb dX6_weigh_71 rfl (lv_at hl 3 rfl) ?_
                  refine va_get (D := (dC, dI)) (ci := 6) (v := .ref g0) (C := RX6) (T := TX6) (N := 9) hx hb hts iX6 hown hK hP 0 rfl rfl 1 (by decide) (hts _ qw317) (fun _ h9 => h9) rfl dX6_weigh_72 ?_
                  refine lv_iload hx hb dX6_weigh_75 (lv_at hl 0 rfl) ?_
                  refine lv_iconst (v := 1) hx hb dX6_weigh_77 (by decide) ?_
                  obtain ⟨hPc, hDc⟩ := zc2 (wc := [(g0, .inr (7, [.ref gY, .ref gF, .ref gP, .int gpn, .int glt, .int gsh, .int gwd, .int gpu, .int gmo])), (gP, .inl (cI, 80, .inl gfP))]) hP hD [4, 7] (by decide +kernel) rfl
                  have hFc := zfr hS hA
                  refine va_calli (va_runV (As := [.int m45_L_4, .int 1]) (rest := [.ref h0]) ⟨hx, hb, hml, hown, hts⟩ (g_X7_ofPortrait_1 l dC dI cI cJ g0 m45_L_4 gY gF gP gpn glt gsh gwd gpu gmo gfP H.size (by omega) ci_gfP_zPo) (cwV 2 hts (zgV qw834 qw653 qw654 qw103 qw655) rfl rfl rfl hd_X7_ofPortrait ⟨by rw [hR]; exact Nat.le_of_ble_eq_true rfl, by rw [hR]; exact Nat.le_of_ble_eq_true rfl⟩) (zPV hPc hK hDc (va_recv (q := (RX7, TX7, 9)) hK hP (ci := 7) (q0 := 4) rfl rfl)) rfl rfl hl.1 rfl (lv_room (Nat.le_of_ble_eq_true rfl)) dX6_weigh_78 ⟨Nat.zero_le _, Nat.zero_le _⟩) hS (fun q _ h => hFc q h) hFc (fun v78 u78 t H locs ht hvm hw hB hz1 hk1 hS9 => ?_)
                  replace hP := zkeep hP hk1
                  replace hS := hS9
                  clear hPc hDc hFc hk1 hz1 hvm hS9
                  obtain ⟨f78_0, f78_1, f78_2⟩ : (0 ≤ v78.toInt) ∧ (v78.toInt ≤ 4) ∧ (v78 = gfP (4 * m45_L_4.toInt.toNat + 1)) := hw
                  have F78 := f78_2
                  obtain ⟨hPc, hDc⟩ := zc2 (wc := [(h0, .inr (6, [.ref aC, .ref g0, .ref sd, .ref mW, .long mt, .int lf, .ref mV, .ref mA, .ref mT])), (aC, .inr (1, [.ref aR, .ref aB, .ref aP, .int nb, .int np])), (aP, .inl (cI, 20, .inl fp))]) hP hD [0, 1, 3] (by decide +kernel) rfl
                  have hFc := zfr hS hA
                  refine va_calli (va_runV (As := [.int v78]) (rest := []) ⟨hx, hb, hml, hown, hts⟩ (g_X6_sketches l dC dI cI cJ h0 v78 aC g0 sd mW mt lf mV mA mT aR aB aP nb np fp H.size ⟨f78_0, f78_1⟩) (cwV 1 hts (zgV qw835 qw837 qw19 qw106 qw838) rfl rfl rfl hd_X6_sketches ⟨by rw [hR]; exact Nat.le_of_ble_eq_true rfl, by rw [hR]; exact Nat.le_of_ble_eq_true rfl⟩) (zPV hPc hK hDc (va_recv (q := (RX6, TX6, 9)) hK hP (ci := 6) (q0 := 0) rfl rfl)) rfl rfl hl.1 rfl (lv_room (Nat.le_of_ble_eq_true rfl)) dX6_weigh_81 ⟨Nat.zero_le _, Nat.zero_le _⟩) hS (fun q _ h => hFc q h) hFc (fun v81 u81 t H locs ht hvm hw hB hz1 hk1 hS9 => ?_)
                  replace hP := zkeep hP hk1
                  replace hS := hS9
                  clear hPc hDc hFc hk1 hz1 hvm hS9
                  obtain ⟨f81_0, f81_1, f81_2⟩ : (0 ≤ v81.toInt) ∧ (v81.toInt ≤ 1) ∧ ((v81.toInt = 1 ∧ ¬ (fp (4 * v78.toInt.toNat + 3)).toInt = 3) ∨ (v81.toInt = 0 ∧ (fp (4 * v78.toInt.toNat + 3)).toInt = 3)) := hw
                  have F81 := f81_2
                  refine lv_if_eq (tgt := 97) hx hb dX6_weigh_84 (by decide) (fun c84 => ?_) (fun c84 => ?_)
                  · have c84 : v81.toInt = 0 := z5 rfl (by decide) c84
                    obtain ⟨v97, e97⟩ : ∃ y : Int32, y = m45_L_4 + Int32.ofInt (-1) := ⟨_, rfl⟩
                    refine lv_iinc (v := v97) (lv' := [(4, .int v97), (3, .int m45_L_3), (2, .int v2), (0, .ref h0), (1, .int p0)]) hx hb dX6_weigh_97 hl (k := 0) rfl e97.symm (by decide) rfl (fun ls hl => ?_)
                    have i97 : v97.toInt = m45_L_4.toInt + (-1) := zaddI e97 (by decide) (by omega) (by omega)
                    refine lv_goto (tgt := 45) hx hb dX6_weigh_100 (by decide) ?_
                    exact ih45 _ (by omega) m45_A_mW m45_L_3 v97 jf45_0 (by omega) (fun kc kT q_fr hc hb h hq => by have zb := hb.2.2.2.1.2.2.2.2.2 m45_L_4.toInt.toNat (by rw [zSc_pn h]; omega); have y63 : v63 = kT.1.2.2.2.2 (4 * m45_L_4.toInt.toNat) := F63.trans (h.2.2.2.2 _ (by omega)); have z63 := congrArg Int32.toInt y63; first | (have y78 : v78 = kT.1.2.2.2.2 (4 * m45_L_4.toInt.toNat + 1) := F78.trans (h.2.2.2.2 _ (by omega)); have z78 := congrArg Int32.toInt y78; have y3 : fp (4 * v78.toInt.toNat + 3) = kc.2.2 (4 * (kT.1.2.2.2.2 (4 * m45_L_4.toInt.toNat + 1)).toInt.toNat + 3) := (hc.2.2 _ (by omega)).trans (by rw [y78]); have z3 := congrArg Int32.toInt y3; first | exact zJvY (jv45_0 kc kT _ hc hb h hq) (by omega) i97 (by omega) (by omega) i87 ⟨by omega, by omega⟩ hb (by rw [zSc_pn h]; omega) (F94 kc kT _ hc hb h hq (by omega)) | exact zJvN (jv45_0 kc kT _ hc hb h hq) (by omega) i97 (by omega) (fun z => z.2 (by omega))) | exact zJvN (jv45_0 kc kT _ hc hb h hq) (by omega) i97 (by omega) (fun z => absurd z.1 (by omega))) (by omega) rfl H locs ls hP hD hS (lv_sub hl [0, 1, 2, 3, 4] rfl)
                  · have c84 : ¬ v81.toInt = 0 := z6 rfl (by decide) c84
                    obtain ⟨v87, e87⟩ : ∃ y : Int32, y = m45_L_3 + Int32.ofInt (1) := ⟨_, rfl⟩
                    refine lv_iinc (v := v87) (lv' := [(3, .int v87), (4, .int m45_L_4), (2, .int v2), (0, .ref h0), (1, .int p0)]) hx hb dX6_weigh_87 hl (k := 1) rfl e87.symm (by decide) rfl (fun ls hl => ?_)
                    have i87 : v87.toInt = m45_L_3.toInt + 1 := zaddI e87 (by decide) (by omega) (by omega)
                    refine lv_aload_n hx hb dX6_weigh_90 rfl (lv_at hl 3 rfl) ?_
                    refine lv_iload hx hb dX6_weigh_91 (lv_at hl 1 rfl) ?_
                    refine lv_iload_n hx hb dX6_weigh_93 rfl (lv_at hl 4 rfl) ?_
                    obtain ⟨hPc, hDc, hFc⟩ := zc3 (wc := [(h0, .inr (6, [.ref aC, .ref g0, .ref sd, .ref mW, .long mt, .int lf, .ref mV, .ref mA, .ref mT])), (aC, .inr (1, [.ref aR, .ref aB, .ref aP, .int nb, .int np])), (aB, .inl (cI, 24, .inl fb)), (aP, .inl (cI, 20, .inl fp)), (g0, .inr (7, [.ref gY, .ref gF, .ref gP, .int gpn, .int glt, .int gsh, .int gwd, .int gpu, .int gmo])), (gY, .inl (cI, 6, .inl gfY)), (gF, .inl (cI, 5, .inl gfF)), (gP, .inl (cI, 80, .inl gfP)), (sd, .inr (8, [.ref w1, .ref w2, .ref aC, .ref g0, .ref aL, .ref aK, .null])), (mW, .inl (cJ, 10, .inr (.inl m45_A_mW)))]) hP hD hS hA [0, 1, 2, 3, 4, 5, 6, 7, 8, 9] (by decide +kernel) rfl
                    refine va_callv (va_runV (As := [.int m45_L_4, .int p0]) (rest := []) ⟨hx, hb, hml, hown, hts⟩ (g_X6_weighBy_n l dC dI cI cJ h0 m45_L_4 p0 aC g0 sd mW mt lf mV mA mT aR aB aP nb np fb fp gY gF gP gpn glt gsh gwd gpu gmo gfY gfF gfP w1 w2 aL aK m45_A_mW H.size n_gpn (by omega) n_p0 ci_gfP_zPo) (cwV 2 hts (zgV qw840 qw842 qw20 qw106 qw843) rfl rfl rfl hd_X6_weighBy ⟨by rw [hR]; exact Nat.le_of_ble_eq_true rfl, by rw [hR]; exact Nat.le_of_ble_eq_true rfl⟩) (zPV hPc hK hDc (va_recv (q := (RX6, TX6, 9)) hK hP (ci := 6) (q0 := 0) rfl rfl)) rfl rfl hl.1 rfl (lv_room (Nat.le_of_ble_eq_true rfl)) dX6_weigh_94 ⟨Nat.zero_le _, Nat.zero_le _⟩) hS (fun q _ h => hFc q h) hFc (fun u94 t H locs ht hvm hw hB hz1 hk1 hS9 => ?_)
                    obtain ⟨u94_0, rfl⟩ : ∃ z, z = u94 := ⟨_, rfl⟩
                    obtain ⟨hP9, hD9⟩ := zj2 (wX := [(h0, .inr (6, [.ref aC, .ref g0, .ref sd, .ref mW, .long mt, .int lf, .ref mV, .ref mA, .ref mT])), (aC, .inr (1, [.ref aR, .ref aB, .ref aP, .int nb, .int np])), (aB, .inl (cI, 24, .inl fb)), (aP, .inl (cI, 20, .inl fp)), (g0, .inr (7, [.ref gY, .ref gF, .ref gP, .int gpn, .int glt, .int gsh, .int gwd, .int gpu, .int gmo])), (gY, .inl (cI, 6, .inl gfY)), (gF, .inl (cI, 5, .inl gfF)), (gP, .inl (cI, 80, .inl gfP)), (sd, .inr (8, [.ref w1, .ref w2, .ref aC, .ref g0, .ref aL, .ref aK, .null])), (mW, .inl (cJ, 10, .inr (.inl u94_0)))]) hP hD hk1 hFc ht hB [0, 1, 2, 3, 4, 5, 6, 7, 8, 9] [(true, 0), (true, 1), (true, 2), (true, 3), (true, 4), (true, 5), (true, 6), (true, 7), (true, 8), (true, 9)] rfl (by decide +kernel) (by decide +kernel) rfl
                    clear hP hD hS hPc hDc hFc hB hk1 hz1 hvm
                    have hP := hP9
                    have hD := hD9
                    have hS := hS9
                    clear hP9 hD9 hS9
                    have f94_0 : (∀ (kc : zK3) (kT : zT) (q_fr : Nat → Int32), zCn q_fr fb fp nb.toInt np.toInt kc → zKo nb.toInt np.toInt kc kT → zSc nb.toInt np.toInt kT.1 gfY gfF gfP gpn glt gsh gwd gpu gmo → (0 ≤ p0.toInt ∧ p0.toInt < nb.toInt) → m45_L_4.toInt < gpn.toInt → zWb m45_A_mW u94_0 (fun j => sFc kc kT.1 none p0 (Int32.ofNat j) m45_L_4.toInt.toNat) 10) := hw
                    have F94 := f94_0
                    obtain ⟨v97, e97⟩ : ∃ y : Int32, y = m45_L_4 + Int32.ofInt (-1) := ⟨_, rfl⟩
                    refine lv_iinc (v := v97) (lv' := [(4, .int v97), (3, .int v87), (2, .int v2), (0, .ref h0), (1, .int p0)]) hx hb dX6_weigh_97 hl (k := 1) rfl e97.symm (by decide) rfl (fun ls hl => ?_)
                    have i97 : v97.toInt = m45_L_4.toInt + (-1) := zaddI e97 (by decide) (by omega) (by omega)
                    refine lv_goto (tgt := 45) hx hb dX6_weigh_100 (by decide) ?_
                    exact ih45 _ (by omega) u94_0 v87 v97 (by omega) (by omega) (fun kc kT q_fr hc hb h hq => by have zb := hb.2.2.2.1.2.2.2.2.2 m45_L_4.toInt.toNat (by rw [zSc_pn h]; omega); have y63 : v63 = kT.1.2.2.2.2 (4 * m45_L_4.toInt.toNat) := F63.trans (h.2.2.2.2 _ (by omega)); have z63 := congrArg Int32.toInt y63; first | (have y78 : v78 = kT.1.2.2.2.2 (4 * m45_L_4.toInt.toNat + 1) := F78.trans (h.2.2.2.2 _ (by omega)); have z78 := congrArg Int32.toInt y78; have y3 : fp (4 * v78.toInt.toNat + 3) = kc.2.2 (4 * (kT.1.2.2.2.2 (4 * m45_L_4.toInt.toNat + 1)).toInt.toNat + 3) := (hc.2.2 _ (by omega)).trans (by rw [y78]); have z3 := congrArg Int32.toInt y3; first | exact zJvY (jv45_0 kc kT _ hc hb h hq) (by omega) i97 (by omega) (by omega) i87 ⟨by omega, by omega⟩ hb (by rw [zSc_pn h]; omega) (F94 kc kT _ hc hb h hq (by omega)) | exact zJvN (jv45_0 kc kT _ hc hb h hq) (by omega) i97 (by omega) (fun z => z.2 (by omega))) | exact zJvN (jv45_0 kc kT _ hc hb h hq) (by omega) i97 (by omega) (fun z => absurd z.1 (by omega))) (by omega) rfl H locs ls hP hD hS (lv_sub hl [0, 1, 2, 3, 4] rfl)
        refine lv_istore (lv' := [(4, .int v42), (3, .int 0), (2, .int v2), (0, .ref h0), (1, .int p0)]) hx hb dX6_weigh_43 hl (by decide) rfl (fun ls hl => ?_)
        have zj45_m45_L_3 : (0 : Int32).toInt = 0 := by decide
        exact J45 _ m8_A_mW 0 v42 (by decide) (by omega) (fun kc kT q_fr hc hb h hq => by rw [show (v42.toInt + 1).toNat = kT.1.2.2.2.1.2.2.toInt.toNat by rw [zSc_pn h]; omega, show (12 - (0 : Int32).toInt).toNat = 12 by decide]; exact zJv_0 jv8_0 (by omega) (by rw [zSc_lt h, zSc_sh h, ← hc.2.1 (4 * p0.toInt.toNat) (by omega)]; exact F2)) (by omega) rfl H locs ls hP hD hS (lv_sub hl [0, 1, 2, 3, 4] rfl)
      · have c11 : m8_L_3.toInt < 10 := z4 (by decide) rfl c11
        refine lv_aload_n hx hb dX6_weigh_14 rfl (lv_at hl 2 rfl) ?_
        refine va_get (D := (dC, dI)) (ci := 6) (v := .ref mW) (C := RX6) (T := TX6) (N := 9) hx hb hts iX6 hown hK hP 0 rfl rfl 3 (by decide) (hts _ qw319) (fun _ h9 => h9) rfl dX6_weigh_15 ?_
        refine lv_iload_n hx hb dX6_weigh_18 rfl (lv_at hl 0 rfl) ?_
        refine lv_iload_n hx hb dX6_weigh_19 rfl (lv_at hl 1 rfl) ?_
        refine lv_iload_n hx hb dX6_weigh_20 rfl (lv_at hl 0 rfl) ?_
        have hPc : va_P (dC, dI) vwCl [] H := zP0
        have hDc : va_D (fun _ => True) [] := zD0
        have hFc := zfr hS hA
        refine va_calli (va_runSN (As := [.int v2, .int m8_L_3]) (rest := [.int m8_L_3, .ref mW]) ⟨hx, hb, hml, hown, hts⟩ (g_X10_bit l dC dI cI cJ v2 m8_L_3 H.size) ⟨va_cnB 2 hts (zgI qw454) rfl rfl rfl hV.1 (hts _ qw98) (hd_X10_bit).2 ⟨by rw [hR]; exact Nat.le_of_ble_eq_true rfl, by rw [hR]; exact Nat.le_of_ble_eq_true rfl⟩, hts _ qw453, trivial⟩ (zPS hPc hK hDc) rfl rfl hl.1 rfl (lv_room (Nat.le_of_ble_eq_true rfl)) dX6_weigh_21 ⟨Nat.zero_le _, Nat.zero_le _⟩) hS (fun q _ h => hFc q h) hFc (fun v21 u21 t H locs ht hvm hw hB hz1 hk1 hS9 => ?_)
        replace hP := zkeep hP hk1
        replace hS := hS9
        clear hPc hDc hFc hk1 hz1 hvm hS9
        obtain ⟨f21_0, f21_1, f21_2⟩ : (0 ≤ v21.toInt) ∧ (v21.toInt ≤ 1) ∧ (v21 = cBt v2 m8_L_3) := hw
        have F21 := f21_2
        refine lv_i2l hx hb dX6_weigh_24 rfl ?_
        refine lv_topl (fun v24 e24 => ?_)
        refine va_last hx hb hK hP hD hS 9 1 rfl rfl (vp_in_iff.mpr ⟨by omega, by omega⟩) dX6_weigh_25 (fun H locs hP9 hD9 hS9 => ?_)
        clear hP hD hS
        obtain ⟨v25_f, e25⟩ : ∃ g : Nat → Int64, g = vp_updL m8_A_mW (m8_L_3).toNatClampNeg v24 := ⟨_, rfl⟩
        rw [← e25] at hP9 hD9
        obtain ⟨hP, hD⟩ := zst (wX := [(h0, .inr (6, [.ref aC, .ref g0, .ref sd, .ref mW, .long mt, .int lf, .ref mV, .ref mA, .ref mT])), (aC, .inr (1, [.ref aR, .ref aB, .ref aP, .int nb, .int np])), (aB, .inl (cI, 24, .inl fb)), (aP, .inl (cI, 20, .inl fp)), (g0, .inr (7, [.ref gY, .ref gF, .ref gP, .int gpn, .int glt, .int gsh, .int gwd, .int gpu, .int gmo])), (gY, .inl (cI, 6, .inl gfY)), (gF, .inl (cI, 5, .inl gfF)), (gP, .inl (cI, 80, .inl gfP)), (sd, .inr (8, [.ref w1, .ref w2, .ref aC, .ref g0, .ref aL, .ref aK, .null])), (mW, .inl (cJ, 10, .inr (.inl v25_f)))]) hP9 hD9 rfl
        have hS := hS9
        clear hP9 hD9 hS9
        obtain ⟨v26, e26⟩ : ∃ y : Int32, y = m8_L_3 + Int32.ofInt (1) := ⟨_, rfl⟩
        refine lv_iinc (v := v26) (lv' := [(3, .int v26), (2, .int v2), (0, .ref h0), (1, .int p0)]) hx hb dX6_weigh_26 hl (k := 0) rfl e26.symm (by decide) rfl (fun ls hl => ?_)
        have i26 : v26.toInt = m8_L_3.toInt + 1 := zaddI e26 (by decide) (by omega) (by omega)
        refine lv_goto (tgt := 8) hx hb dX6_weigh_29 (by decide) ?_
        exact ih8 _ (by omega) v25_f v26 (by omega) (zJ0_s jv8_0 (by omega) i26 F21 e24 e25) rfl H locs ls hP hD hS (lv_sub hl [0, 1, 2, 3] rfl)
  refine lv_istore_n (lv' := [(3, .int 0), (2, .int v2), (0, .ref h0), (1, .int p0)]) hx hb dX6_weigh_7 rfl hl (by decide) rfl (fun ls hl => ?_)
  have zj8_m8_L_3 : (0 : Int32).toInt = 0 := by decide
  exact J8 _ fW 0 (by decide) (zJ0_0) rfl H locs ls hP hD hS (lv_sub hl [0, 1, 2, 3] rfl)
set_option maxHeartbeats 4000000 in
set_option maxRecDepth 100000 in
theorem g_X6_mostAlike_n (l : Launch) (dC : Nat → ClassId) (dI : Nat → Nat → Nat) (cI cJ : ClassId) (h0 : Nat) (p0 : Int32) (p1 : Int32) (p2 : Int32) (aC : Nat) (g0 : Nat) (sd : Nat) (mW : Nat) (mt : Int64) (lf : Int32) (mV : Nat) (mA : Nat) (mT : Nat) (aR : Nat) (aB : Nat) (aP : Nat) (nb : Int32) (np : Int32) (fb : Nat → Int32) (fp : Nat → Int32) (gY : Nat) (gF : Nat) (gP : Nat) (gpn : Int32) (glt : Int32) (gsh : Int32) (gwd : Int32) (gpu : Int32) (gmo : Int32) (gfY : Nat → Int32) (gfF : Nat → Int32) (gfP : Nat → Int32) (w1 : Nat) (w2 : Nat) (aL : Nat) (aK : Nat) (fA : Nat → Int32) (sz : Nat) (n_gpn : 0 ≤ gpn.toInt ∧ gpn.toInt ≤ 20) (n_p0 : 0 ≤ p0.toInt ∧ p0.toInt ≤ 4) (n_p1 : 0 ≤ p1.toInt ∧ p1.toInt ≤ 5)  (ci_gfP_zPo : zPo gfP)  : Met l yX6_mostAlike (.code yX6_mostAlike cX6_mostAlike 7 (some .int) :: wA) ({ frames := 4, cells := 0, slots := 0, locals := 103 }) (zPW (dC, dI) [(cI, .int), (cJ, .long)] [.ref h0, .int p0, .int p1, .int p2] sz [(h0, .inr (6, [.ref aC, .ref g0, .ref sd, .ref mW, .long mt, .int lf, .ref mV, .ref mA, .ref mT])), (aC, .inr (1, [.ref aR, .ref aB, .ref aP, .int nb, .int np])), (aB, .inl (cI, 24, .inl fb)), (aP, .inl (cI, 20, .inl fp)), (g0, .inr (7, [.ref gY, .ref gF, .ref gP, .int gpn, .int glt, .int gsh, .int gwd, .int gpu, .int gmo])), (gY, .inl (cI, 6, .inl gfY)), (gF, .inl (cI, 5, .inl gfF)), (gP, .inl (cI, 80, .inl gfP)), (sd, .inr (8, [.ref w1, .ref w2, .ref aC, .ref g0, .ref aL, .ref aK, .null])), (mA, .inl (cI, 10, .inl fA))] (va_A [(h0, .inr (6, [.ref aC, .ref g0, .ref sd, .ref mW, .long mt, .int lf, .ref mV, .ref mA, .ref mT])), (aC, .inr (1, [.ref aR, .ref aB, .ref aP, .int nb, .int np])), (aB, .inl (cI, 24, .inl fb)), (aP, .inl (cI, 20, .inl fp)), (g0, .inr (7, [.ref gY, .ref gF, .ref gP, .int gpn, .int glt, .int gsh, .int gwd, .int gpu, .int gmo])), (gY, .inl (cI, 6, .inl gfY)), (gF, .inl (cI, 5, .inl gfF)), (gP, .inl (cI, 80, .inl gfP)), (sd, .inr (8, [.ref w1, .ref w2, .ref aC, .ref g0, .ref aL, .ref aK, .null])), (mA, .inl (cI, 10, .inl fA))] sz)) (va_Qi (fun (r : Int32) (u : (Nat → Int32)) => (0 ≤ r.toInt) ∧ (∀ (kc : zK3) (kT : zT) (q_fr : Nat → Int32), zCn q_fr fb fp nb.toInt np.toInt kc → zKo nb.toInt np.toInt kc kT → zSc nb.toInt np.toInt kT.1 gfY gfF gfP gpn glt gsh gwd gpu gmo → (0 ≤ p0.toInt ∧ p0.toInt < np.toInt) → (0 ≤ p1.toInt ∧ p1.toInt < nb.toInt) → p2 = zFit (cBt kT.1.2.2.1.1 p1) (cBt kT.1.2.2.1.2.1 p1) (kc.2.1 (4 * p1.toInt.toNat)) → r.toInt = (sAl kc kT.1 none p0 p1 : Int))) (fun (u : (Nat → Int32)) (t : State) => va_P (dC, dI) vwCl [(h0, .inr (6, [.ref aC, .ref g0, .ref sd, .ref mW, .long mt, .int lf, .ref mV, .ref mA, .ref mT])), (aC, .inr (1, [.ref aR, .ref aB, .ref aP, .int nb, .int np])), (aB, .inl (cI, 24, .inl fb)), (aP, .inl (cI, 20, .inl fp)), (g0, .inr (7, [.ref gY, .ref gF, .ref gP, .int gpn, .int glt, .int gsh, .int gwd, .int gpu, .int gmo])), (gY, .inl (cI, 6, .inl gfY)), (gF, .inl (cI, 5, .inl gfF)), (gP, .inl (cI, 80, .inl gfP)), (sd, .inr (8, [.ref w1, .ref w2, .ref aC, .ref g0, .ref aL, .ref aK, .null])), (mA, .inl (cI, 10, .inl u))] t.heap ∧ va_D (va_A [(h0, .inr (6, [.ref aC, .ref g0, .ref sd, .ref mW, .long mt, .int lf, .ref mV, .ref mA, .ref mT])), (aC, .inr (1, [.ref aR, .ref aB, .ref aP, .int nb, .int np])), (aB, .inl (cI, 24, .inl fb)), (aP, .inl (cI, 20, .inl fp)), (g0, .inr (7, [.ref gY, .ref gF, .ref gP, .int gpn, .int glt, .int gsh, .int gwd, .int gpu, .int gmo])), (gY, .inl (cI, 6, .inl gfY)), (gF, .inl (cI, 5, .inl gfF)), (gP, .inl (cI, 80, .inl gfP)), (sd, .inr (8, [.ref w1, .ref w2, .ref aC, .ref g0, .ref aL, .ref aK, .null])), (mA, .inl (cI, 10, .inl fA))] sz) [(h0, .inr (6, [.ref aC, .ref g0, .ref sd, .ref mW, .long mt, .int lf, .ref mV, .ref mA, .ref mT])), (aC, .inr (1, [.ref aR, .ref aB, .ref aP, .int nb, .int np])), (aB, .inl (cI, 24, .inl fb)), (aP, .inl (cI, 20, .inl fp)), (g0, .inr (7, [.ref gY, .ref gF, .ref gP, .int gpn, .int glt, .int gsh, .int gwd, .int gpu, .int gmo])), (gY, .inl (cI, 6, .inl gfY)), (gF, .inl (cI, 5, .inl gfF)), (gP, .inl (cI, 80, .inl gfP)), (sd, .inr (8, [.ref w1, .ref w2, .ref aC, .ref g0, .ref aL, .ref aK, .null])), (mA, .inl (cI, 10, .inl u))]) (va_A [(h0, .inr (6, [.ref aC, .ref g0, .ref sd, .ref mW, .long mt, .int lf, .ref mV, .ref mA, .ref mT])), (aC, .inr (1, [.ref aR, .ref aB, .ref aP, .int nb, .int np])), (aB, .inl (cI, 24, .inl fb)), (aP, .inl (cI, 20, .inl fp)), (g0, .inr (7, [.ref gY, .ref gF, .ref gP, .int gpn, .int glt, .int gsh, .int gwd, .int gpu, .int gmo])), (gY, .inl (cI, 6, .inl gfY)), (gF, .inl (cI, 5, .inl gfF)), (gP, .inl (cI, 80, .inl gfP)), (sd, .inr (8, [.ref w1, .ref w2, .ref aC, .ref g0, .ref aL, .ref aK, .null])), (mA, .inl (cI, 10, .inl fA))] sz)) 0 0 (va_A [(h0, .inr (6, [.ref aC, .ref g0, .ref sd, .ref mW, .long mt, .int lf, .ref mV, .ref mA, .ref mT])), (aC, .inr (1, [.ref aR, .ref aB, .ref aP, .int nb, .int np])), (aB, .inl (cI, 24, .inl fb)), (aP, .inl (cI, 20, .inl fp)), (g0, .inr (7, [.ref gY, .ref gF, .ref gP, .int gpn, .int glt, .int gsh, .int gwd, .int gpu, .int gmo])), (gY, .inl (cI, 6, .inl gfY)), (gF, .inl (cI, 5, .inl gfF)), (gP, .inl (cI, 80, .inl gfP)), (sd, .inr (8, [.ref w1, .ref w2, .ref aC, .ref g0, .ref aL, .ref aK, .null])), (mA, .inl (cI, 10, .inl fA))] sz) := by
  refine Met.ofW (cc := cX6_mostAlike) (maxL := 7) (ret := (some .int)) (by decide) rfl ?_
  intro p e s m args below meth c s₁ B hml hv
  obtain ⟨⟨hargs, hsz, hP, hK, hT⟩, hV⟩ := hv
  have hx := B.exec
  have hb := B.bytes
  have hr := B.returns
  have hts : ∀ w ∈ wA, w.before args s = true := fun w h => atoms_spec (ws := .code yX6_mostAlike cX6_mostAlike 7 (some .int) :: wA) B.pre w (List.mem_cons_of_mem _ h)
  have hown : s.vm.findClass RX6 = some m.cls := findClass_of_methodNamed B.named
  have hlocks := B.notSynchronized
  subst hsz
  have hD := hT.self (sz := s.heap.size)
  generalize hAe : va_A [(h0, .inr (6, [.ref aC, .ref g0, .ref sd, .ref mW, .long mt, .int lf, .ref mV, .ref mA, .ref mT])), (aC, .inr (1, [.ref aR, .ref aB, .ref aP, .int nb, .int np])), (aB, .inl (cI, 24, .inl fb)), (aP, .inl (cI, 20, .inl fp)), (g0, .inr (7, [.ref gY, .ref gF, .ref gP, .int gpn, .int glt, .int gsh, .int gwd, .int gpu, .int gmo])), (gY, .inl (cI, 6, .inl gfY)), (gF, .inl (cI, 5, .inl gfF)), (gP, .inl (cI, 80, .inl gfP)), (sd, .inr (8, [.ref w1, .ref w2, .ref aC, .ref g0, .ref aL, .ref aK, .null])), (mA, .inl (cI, 10, .inl fA))] s.heap.size = A at hD hV ⊢
  have hA : ∀ q : Nat, s.heap.size ≤ q → A q := fun q h => by rw [← hAe]; exact Or.inr h
  have hl := lv_entry ([.ref h0, .int p0, .int p1, .int p2]) (n := 7) (Nat.le_of_ble_eq_true rfl)
  rw [show entryFrame m args 7 = entryFrame m ([.ref h0, .int p0, .int p1, .int p2] : List Value).toArray 7 by rw [hargs], lg_entry_eq]
  generalize (lg_sl ([.ref h0, .int p0, .int p1, .int p2]) ++ List.replicate (7 - (lg_sl ([.ref h0, .int p0, .int p1, .int p2])).length) Slot.unset).toArray = ls at hl ⊢
  have hl : lv_has ls 7 [(0, .ref h0), (1, .int p0), (2, .int p1), (3, .int p2)] := hl
  refine zstart (fun H hH => ?_)
  rw [← hH] at hP
  have hS : va_S A s.heap H [] := by rw [hH]; exact va_S.rf
  generalize ([] : List Loc) = locs at hS ⊢
  refine zgen (fun R Q hR hQ => ?_)
  refine lv_aload_n hx hb dX6_mostAlike_0 rfl (lv_at hl 0 rfl) ?_
  refine va_get (D := (dC, dI)) (ci := 6) (v := .ref mA) (C := RX6) (T := TX6) (N := 9) hx hb hts iX6 hown hK hP 0 rfl rfl 7 (by decide) (hts _ qw324) (fun _ h9 => h9) rfl dX6_mostAlike_1 ?_
  refine lv_iconst (v := 0) hx hb dX6_mostAlike_4 (by decide) ?_
  obtain ⟨hPc, hDc, hFc⟩ := zc3 (wc := [(mA, .inl (cI, 10, .inl fA))]) hP hD hS hA [9] (by decide +kernel) rfl
  refine va_callv (va_runS (As := [.ref mA, .int 0]) (rest := []) ⟨hx, hb, hml, hown, hts⟩ (g_J7_fill_53178_10 l dC dI cI cJ mA 0 fA H.size) (va_cwS 2 hts (zgSW qw877 qw878 qw111 qw879) rfl rfl rfl (hd_J7_fill_53178).2 ⟨by rw [hR]; exact Nat.le_of_ble_eq_true rfl, by rw [hR]; exact Nat.le_of_ble_eq_true rfl⟩) (zPS hPc hK hDc) rfl rfl hl.1 rfl (lv_room (Nat.le_of_ble_eq_true rfl)) dX6_mostAlike_5 ⟨Nat.zero_le _, Nat.zero_le _⟩) hS (fun q _ h => hFc q h) hFc (fun u5 t H locs ht hvm hw hB hz1 hk1 hS9 => ?_)
  obtain ⟨u5_0, rfl⟩ : ∃ z, z = u5 := ⟨_, rfl⟩
  obtain ⟨hP9, hD9⟩ := zj2 (wX := [(h0, .inr (6, [.ref aC, .ref g0, .ref sd, .ref mW, .long mt, .int lf, .ref mV, .ref mA, .ref mT])), (aC, .inr (1, [.ref aR, .ref aB, .ref aP, .int nb, .int np])), (aB, .inl (cI, 24, .inl fb)), (aP, .inl (cI, 20, .inl fp)), (g0, .inr (7, [.ref gY, .ref gF, .ref gP, .int gpn, .int glt, .int gsh, .int gwd, .int gpu, .int gmo])), (gY, .inl (cI, 6, .inl gfY)), (gF, .inl (cI, 5, .inl gfF)), (gP, .inl (cI, 80, .inl gfP)), (sd, .inr (8, [.ref w1, .ref w2, .ref aC, .ref g0, .ref aL, .ref aK, .null])), (mA, .inl (cI, 10, .inl u5_0))]) hP hD hk1 hFc ht hB [9] [(false, 0), (false, 1), (false, 2), (false, 3), (false, 4), (false, 5), (false, 6), (false, 7), (false, 8), (true, 0)] rfl (by decide +kernel) (by decide +kernel) rfl
  clear hP hD hS hPc hDc hFc hB hk1 hz1 hvm
  have hP := hP9
  have hD := hD9
  have hS := hS9
  clear hP9 hD9 hS9
  have f5_0 : (∀ j : Nat, j < 10 → u5_0 j = 0) := hw
  have F5 := f5_0
  refine lv_iconst (v := 0) hx hb dX6_mostAlike_8 (by decide) ?_
  refine lv_istore (lv' := [(4, .int 0), (0, .ref h0), (1, .int p0), (2, .int p1), (3, .int p2)]) hx hb dX6_mostAlike_9 hl (by decide) rfl (fun ls hl => ?_)
  refine lv_iconst (v := 0) hx hb dX6_mostAlike_11 (by decide) ?_
  have J14 : ∀ (n : Nat) (m14_A_mA : Nat → Int32) (m14_L_4 : Int32) (m14_L_5 : Int32), (0 ≤ m14_L_4.toInt) → (0 ≤ m14_L_5.toInt ∧ m14_L_5.toInt ≤ 10) → (∀ (kc : zK3) (kT : zT) (q_fr : Nat → Int32), zCn q_fr fb fp nb.toInt np.toInt kc → zKo nb.toInt np.toInt kc kT → zSc nb.toInt np.toInt kT.1 gfY gfF gfP gpn glt gsh gwd gpu gmo → (0 ≤ p0.toInt ∧ p0.toInt < np.toInt) → (0 ≤ p1.toInt ∧ p1.toInt < nb.toInt) → p2 = zFit (cBt kT.1.2.2.1.1 p1) (cBt kT.1.2.2.1.2.1 p1) (kc.2.1 (4 * p1.toInt.toNat)) → zAk2 kc kT.1 none p0 p1 m14_A_mA m14_L_4 m14_L_5.toInt.toNat) → (11 - m14_L_5.toInt).toNat = n → ∀ (H : Heap) (locs : List Loc) (ls : Array Slot), va_P (dC, dI) vwCl [(h0, .inr (6, [.ref aC, .ref g0, .ref sd, .ref mW, .long mt, .int lf, .ref mV, .ref mA, .ref mT])), (aC, .inr (1, [.ref aR, .ref aB, .ref aP, .int nb, .int np])), (aB, .inl (cI, 24, .inl fb)), (aP, .inl (cI, 20, .inl fp)), (g0, .inr (7, [.ref gY, .ref gF, .ref gP, .int gpn, .int glt, .int gsh, .int gwd, .int gpu, .int gmo])), (gY, .inl (cI, 6, .inl gfY)), (gF, .inl (cI, 5, .inl gfF)), (gP, .inl (cI, 80, .inl gfP)), (sd, .inr (8, [.ref w1, .ref w2, .ref aC, .ref g0, .ref aL, .ref aK, .null])), (mA, .inl (cI, 10, .inl m14_A_mA))] H → va_D A [(h0, .inr (6, [.ref aC, .ref g0, .ref sd, .ref mW, .long mt, .int lf, .ref mV, .ref mA, .ref mT])), (aC, .inr (1, [.ref aR, .ref aB, .ref aP, .int nb, .int np])), (aB, .inl (cI, 24, .inl fb)), (aP, .inl (cI, 20, .inl fp)), (g0, .inr (7, [.ref gY, .ref gF, .ref gP, .int gpn, .int glt, .int gsh, .int gwd, .int gpu, .int gmo])), (gY, .inl (cI, 6, .inl gfY)), (gF, .inl (cI, 5, .inl gfF)), (gP, .inl (cI, 80, .inl gfP)), (sd, .inr (8, [.ref w1, .ref w2, .ref aC, .ref g0, .ref aL, .ref aK, .null])), (mA, .inl (cI, 10, .inl m14_A_mA))] → va_S A s.heap H locs → lv_has ls 7 [(5, .int m14_L_5), (4, .int m14_L_4), (0, .ref h0), (1, .int p0), (2, .int p1), (3, .int p2)] → W p l e R s m args below meth c H locs 0 0 Q (F0 m 14 ls []) := by
    intro n14
    induction n14 using Nat.strongRecOn with
    | _ n14 ih14 =>
      intro m14_A_mA m14_L_4 m14_L_5 jf14_0 jf14_1 jv14_0 hmu14 H locs ls hP hD hS hl
      refine lv_iload hx hb dX6_mostAlike_14 (lv_at hl 0 rfl) ?_
      refine lv_bipush (v := 10) hx hb dX6_mostAlike_16 (by decide) ?_
      refine lv_icmp_ge (tgt := 75) hx hb dX6_mostAlike_18 (by decide) (fun c18 => ?_) (fun c18 => ?_)
      · have c18 : 10 ≤ m14_L_5.toInt := z3 (by decide) rfl c18
        refine lv_iload hx hb dX6_mostAlike_75 (lv_at hl 1 rfl) ?_
        rw [hQ]
        exact W.iret (v := m14_L_4) hx hb hr (fun t ht hW => ⟨⟨m14_L_4, m14_A_mA, rfl, ⟨by (try dsimp only); omega, fun kc kT q_fr hc hb h hp hq hf => zAk2E (jv14_0 kc kT _ hc hb h hp hq hf) (by omega)⟩, ⟨by rw [ht]; exact hP, hD⟩⟩, hS.F ht⟩) hS.2.2 dX6_mostAlike_77
      · have c18 : m14_L_5.toInt < 10 := z4 (by decide) rfl c18
        refine lv_iload_n hx hb dX6_mostAlike_21 rfl (lv_at hl 5 rfl) ?_
        refine lv_iload hx hb dX6_mostAlike_22 (lv_at hl 0 rfl) ?_
        have hPc : va_P (dC, dI) vwCl [] H := zP0
        have hDc : va_D (fun _ => True) [] := zD0
        have hFc := zfr hS hA
        refine va_calli (va_runSN (As := [.int p2, .int m14_L_5]) (rest := []) ⟨hx, hb, hml, hown, hts⟩ (g_X10_bit l dC dI cI cJ p2 m14_L_5 H.size) ⟨va_cnB 2 hts (zgI qw454) rfl rfl rfl hV.1 (hts _ qw98) (hd_X10_bit).2 ⟨by rw [hR]; exact Nat.le_of_ble_eq_true rfl, by rw [hR]; exact Nat.le_of_ble_eq_true rfl⟩, hts _ qw453, trivial⟩ (zPS hPc hK hDc) rfl rfl hl.1 rfl (lv_room (Nat.le_of_ble_eq_true rfl)) dX6_mostAlike_24 ⟨Nat.zero_le _, Nat.zero_le _⟩) hS (fun q _ h => hFc q h) hFc (fun v24 u24 t H locs ht hvm hw hB hz1 hk1 hS9 => ?_)
        replace hP := zkeep hP hk1
        replace hS := hS9
        clear hPc hDc hFc hk1 hz1 hvm hS9
        obtain ⟨f24_0, f24_1, f24_2⟩ : (0 ≤ v24.toInt) ∧ (v24.toInt ≤ 1) ∧ (v24 = cBt p2 m14_L_5) := hw
        have F24 := f24_2
        refine lv_iconst (v := 1) hx hb dX6_mostAlike_27 (by decide) ?_
        refine lv_icmp_ne (tgt := 69) hx hb dX6_mostAlike_28 (by decide) (fun c28 => ?_) (fun c28 => ?_)
        · have c28 : ¬ v24.toInt = 1 := z6 rfl (by decide) c28
          obtain ⟨v69, e69⟩ : ∃ y : Int32, y = m14_L_5 + Int32.ofInt (1) := ⟨_, rfl⟩
          refine lv_iinc (v := v69) (lv' := [(5, .int v69), (4, .int m14_L_4), (0, .ref h0), (1, .int p0), (2, .int p1), (3, .int p2)]) hx hb dX6_mostAlike_69 hl (k := 0) rfl e69.symm (by decide) rfl (fun ls hl => ?_)
          have i69 : v69.toInt = m14_L_5.toInt + 1 := zaddI e69 (by decide) (by omega) (by omega)
          refine lv_goto (tgt := 14) hx hb dX6_mostAlike_72 (by decide) ?_
          exact ih14 _ (by omega) m14_A_mA m14_L_4 v69 jf14_0 (by omega) (fun kc kT q_fr hc hb h hp hq hf => by first | (have ft : sFt kc kT.1 p1 m14_L_5 := (by show (cBt (zFit (cBt kT.1.2.2.1.1 p1) (cBt kT.1.2.2.1.2.1 p1) (kc.2.1 (4 * p1.toInt.toNat))) m14_L_5).toInt = 1; rw [← hf, ← F24]; omega); have s0 : v39 = sShow kc kT.1 none p0 p1 m14_L_5 := sShow_n hc h hp hq F39; exact zAk2Y (jv14_0 kc kT _ hc hb h hp hq hf) (by omega) (by omega) i69 ft s0 (by omega) (by omega) e51 e53 e54 (by rw [← e63]; exact i64)) | exact zAk2N (jv14_0 kc kT _ hc hb h hp hq hf) (by omega) i69 (fun z => by have z2 : (cBt (zFit (cBt kT.1.2.2.1.1 p1) (cBt kT.1.2.2.1.2.1 p1) (kc.2.1 (4 * p1.toInt.toNat))) m14_L_5).toInt = 1 := z; rw [← hf, ← F24] at z2; omega)) rfl H locs ls hP hD hS (lv_sub hl [0, 1, 2, 3, 4, 5] rfl)
        · have c28 : v24.toInt = 1 := z5 rfl (by decide) c28
          refine lv_aload_n hx hb dX6_mostAlike_31 rfl (lv_at hl 2 rfl) ?_
          refine va_get (D := (dC, dI)) (ci := 6) (v := .ref sd) (C := RX6) (T := TX6) (N := 9) hx hb hts iX6 hown hK hP 0 rfl rfl 2 (by decide) (hts _ qw318) (fun _ h9 => h9) rfl dX6_mostAlike_32 ?_
          refine lv_iload_n hx hb dX6_mostAlike_35 rfl (lv_at hl 3 rfl) ?_
          refine lv_iload_n hx hb dX6_mostAlike_36 rfl (lv_at hl 4 rfl) ?_
          refine lv_iload hx hb dX6_mostAlike_37 (lv_at hl 0 rfl) ?_
          obtain ⟨hPc, hDc⟩ := zc2 (wc := [(sd, .inr (8, [.ref w1, .ref w2, .ref aC, .ref g0, .ref aL, .ref aK, .null])), (aC, .inr (1, [.ref aR, .ref aB, .ref aP, .int nb, .int np])), (aB, .inl (cI, 24, .inl fb)), (aP, .inl (cI, 20, .inl fp)), (g0, .inr (7, [.ref gY, .ref gF, .ref gP, .int gpn, .int glt, .int gsh, .int gwd, .int gpu, .int gmo])), (gY, .inl (cI, 6, .inl gfY)), (gF, .inl (cI, 5, .inl gfF)), (gP, .inl (cI, 80, .inl gfP))]) hP hD [8, 1, 2, 3, 4, 5, 6, 7] (by decide +kernel) rfl
          have hFc := zfr hS hA
          refine va_calli (va_runV (As := [.int p0, .int p1, .int m14_L_5]) (rest := []) ⟨hx, hb, hml, hown, hts⟩ (g_X8_showOf_n l dC dI cI cJ sd p0 p1 m14_L_5 w1 w2 aC g0 aL aK aR aB aP nb np fb fp gY gF gP gpn glt gsh gwd gpu gmo gfY gfF gfP H.size n_gpn n_p0 n_p1 ci_gfP_zPo) (cwV 3 hts (zgV qw844 qw644 qw645 qw105 qw646) rfl rfl rfl hd_X8_showOf ⟨by rw [hR]; exact Nat.le_of_ble_eq_true rfl, by rw [hR]; exact Nat.le_of_ble_eq_true rfl⟩) (zPV hPc hK hDc (va_recv (q := (RX8, TX8, 7)) hK hP (ci := 8) (q0 := 8) rfl rfl)) rfl rfl hl.1 rfl (lv_room (Nat.le_of_ble_eq_true rfl)) dX6_mostAlike_39 ⟨Nat.zero_le _, Nat.zero_le _⟩) hS (fun q _ h => hFc q h) hFc (fun v39 u39 t H locs ht hvm hw hB hz1 hk1 hS9 => ?_)
          replace hP := zkeep hP hk1
          replace hS := hS9
          clear hPc hDc hFc hk1 hz1 hvm hS9
          obtain ⟨f39_0, f39_1, f39_2⟩ : (0 ≤ v39.toInt) ∧ (v39.toInt ≤ 9) ∧ (∀ sk mo : Int32, v39 = zSh (fp (4 * p0.toInt.toNat + 3)) (zLat gfP p0 gpn.toInt.toNat) (zLkv none m14_L_5 (fb (4 * p1.toInt.toNat + 2)) (gfY p1.toInt.toNat) sk (gfF p0.toInt.toNat) mo)) := hw
          have F39 := f39_2
          refine lv_istore (lv' := [(6, .int v39), (5, .int m14_L_5), (4, .int m14_L_4), (0, .ref h0), (1, .int p0), (2, .int p1), (3, .int p2)]) hx hb dX6_mostAlike_42 hl (by decide) rfl (fun ls hl => ?_)
          refine lv_aload_n hx hb dX6_mostAlike_44 rfl (lv_at hl 3 rfl) ?_
          refine va_get (D := (dC, dI)) (ci := 6) (v := .ref mA) (C := RX6) (T := TX6) (N := 9) hx hb hts iX6 hown hK hP 0 rfl rfl 7 (by decide) (hts _ qw324) (fun _ h9 => h9) rfl dX6_mostAlike_45 ?_
          refine lv_iload hx hb dX6_mostAlike_48 (lv_at hl 0 rfl) ?_
          refine lv_dup2_11 hx hb dX6_mostAlike_50 rfl rfl ?_
          refine va_iald hx hb hK hP 9 0 rfl rfl (vp_in_iff.mpr ⟨by omega, by omega⟩) dX6_mostAlike_51 ?_
          refine lv_topi (fun v51 e51 => ?_)
          refine lv_iconst (v := 1) hx hb dX6_mostAlike_52 (by decide) ?_
          refine lv_iadd hx hb dX6_mostAlike_53 ?_
          refine lv_topi (fun v53 e53 => ?_)
          refine va_iast hx hb hK hP hD hS 9 0 rfl rfl (vp_in_iff.mpr ⟨by omega, by omega⟩) dX6_mostAlike_54 (fun H locs hP9 hD9 hS9 => ?_)
          clear hP hD hS
          obtain ⟨v54_f, e54⟩ : ∃ g : Nat → Int32, g = upd m14_A_mA (v39).toNatClampNeg v53 := ⟨_, rfl⟩
          rw [← e54] at hP9 hD9
          obtain ⟨hP, hD⟩ := zst (wX := [(h0, .inr (6, [.ref aC, .ref g0, .ref sd, .ref mW, .long mt, .int lf, .ref mV, .ref mA, .ref mT])), (aC, .inr (1, [.ref aR, .ref aB, .ref aP, .int nb, .int np])), (aB, .inl (cI, 24, .inl fb)), (aP, .inl (cI, 20, .inl fp)), (g0, .inr (7, [.ref gY, .ref gF, .ref gP, .int gpn, .int glt, .int gsh, .int gwd, .int gpu, .int gmo])), (gY, .inl (cI, 6, .inl gfY)), (gF, .inl (cI, 5, .inl gfF)), (gP, .inl (cI, 80, .inl gfP)), (sd, .inr (8, [.ref w1, .ref w2, .ref aC, .ref g0, .ref aL, .ref aK, .null])), (mA, .inl (cI, 10, .inl v54_f))]) hP9 hD9 rfl
          have hS := hS9
          clear hP9 hD9 hS9
          refine lv_iload hx hb dX6_mostAlike_55 (lv_at hl 2 rfl) ?_
          refine lv_aload_n hx hb dX6_mostAlike_57 rfl (lv_at hl 3 rfl) ?_
          refine va_get (D := (dC, dI)) (ci := 6) (v := .ref mA) (C := RX6) (T := TX6) (N := 9) hx hb hts iX6 hown hK hP 0 rfl rfl 7 (by decide) (hts _ qw324) (fun _ h9 => h9) rfl dX6_mostAlike_58 ?_
          refine lv_iload hx hb dX6_mostAlike_61 (lv_at hl 0 rfl) ?_
          refine va_iald hx hb hK hP 9 0 rfl rfl (vp_in_iff.mpr ⟨by omega, by omega⟩) dX6_mostAlike_63 ?_
          refine lv_topi (fun v63 e63 => ?_)
          refine va_mmax hx hb (by rw [hml]; exact hl.1.symm) hown (hts _ qw849) (hts _ qw634) (hts _ qw112) (hts _ qw635) (by rw [hR]; exact Nat.le_of_ble_eq_true rfl) (by rw [hR]; exact Nat.le_of_ble_eq_true rfl) (Nat.zero_le _) (Nat.zero_le _) dX6_mostAlike_64 ?_
          refine lv_topi (fun v64 e64 => ?_)
          have i64 := zmmax e64
          refine lv_istore (lv' := [(4, .int v64), (6, .int v39), (5, .int m14_L_5), (0, .ref h0), (1, .int p0), (2, .int p1), (3, .int p2)]) hx hb dX6_mostAlike_67 hl (by decide) rfl (fun ls hl => ?_)
          obtain ⟨v69, e69⟩ : ∃ y : Int32, y = m14_L_5 + Int32.ofInt (1) := ⟨_, rfl⟩
          refine lv_iinc (v := v69) (lv' := [(5, .int v69), (4, .int v64), (6, .int v39), (0, .ref h0), (1, .int p0), (2, .int p1), (3, .int p2)]) hx hb dX6_mostAlike_69 hl (k := 2) rfl e69.symm (by decide) rfl (fun ls hl => ?_)
          have i69 : v69.toInt = m14_L_5.toInt + 1 := zaddI e69 (by decide) (by omega) (by omega)
          refine lv_goto (tgt := 14) hx hb dX6_mostAlike_72 (by decide) ?_
          exact ih14 _ (by omega) v54_f v64 v69 (by omega) (by omega) (fun kc kT q_fr hc hb h hp hq hf => by first | (have ft : sFt kc kT.1 p1 m14_L_5 := (by show (cBt (zFit (cBt kT.1.2.2.1.1 p1) (cBt kT.1.2.2.1.2.1 p1) (kc.2.1 (4 * p1.toInt.toNat))) m14_L_5).toInt = 1; rw [← hf, ← F24]; omega); have s0 : v39 = sShow kc kT.1 none p0 p1 m14_L_5 := sShow_n hc h hp hq F39; exact zAk2Y (jv14_0 kc kT _ hc hb h hp hq hf) (by omega) (by omega) i69 ft s0 (by omega) (by omega) e51 e53 e54 (by rw [← e63]; exact i64)) | exact zAk2N (jv14_0 kc kT _ hc hb h hp hq hf) (by omega) i69 (fun z => by have z2 : (cBt (zFit (cBt kT.1.2.2.1.1 p1) (cBt kT.1.2.2.1.2.1 p1) (kc.2.1 (4 * p1.toInt.toNat))) m14_L_5).toInt = 1 := z; rw [← hf, ← F24] at z2; omega)) rfl H locs ls hP hD hS (lv_sub hl [0, 1, 3, 4, 5, 6] rfl)
  refine lv_istore (lv' := [(5, .int 0), (4, .int 0), (0, .ref h0), (1, .int p0), (2, .int p1), (3, .int p2)]) hx hb dX6_mostAlike_12 hl (by decide) rfl (fun ls hl => ?_)
  have zj14_m14_L_4 : (0 : Int32).toInt = 0 := by decide
  have zj14_m14_L_5 : (0 : Int32).toInt = 0 := by decide
  exact J14 _ u5_0 0 0 (by decide) (by decide) (fun kc kT q_fr hc hb h hp hq hf => zAk2_0 (fun j hj => F5 j hj)) rfl H locs ls hP hD hS (lv_sub hl [0, 1, 2, 3, 4, 5] rfl)
set_option maxHeartbeats 4000000 in
set_option maxRecDepth 100000 in
theorem g_X6_bestSketcher_n (l : Launch) (dC : Nat → ClassId) (dI : Nat → Nat → Nat) (cI cJ : ClassId) (h0 : Nat) (p0 : Int32) (aC : Nat) (g0 : Nat) (sd : Nat) (mW : Nat) (mt : Int64) (lf : Int32) (mV : Nat) (mA : Nat) (mT : Nat) (aR : Nat) (aB : Nat) (aP : Nat) (nb : Int32) (np : Int32) (fb : Nat → Int32) (fp : Nat → Int32) (gY : Nat) (gF : Nat) (gP : Nat) (gpn : Int32) (glt : Int32) (gsh : Int32) (gwd : Int32) (gpu : Int32) (gmo : Int32) (gfY : Nat → Int32) (gfF : Nat → Int32) (gfP : Nat → Int32) (w1 : Nat) (w2 : Nat) (aL : Nat) (aK : Nat) (fA : Nat → Int32) (sz : Nat) (n_gpn : 0 ≤ gpn.toInt ∧ gpn.toInt ≤ 20) (n_np : 0 ≤ np.toInt ∧ np.toInt ≤ 5) (n_p0 : 0 ≤ p0.toInt ∧ p0.toInt ≤ 5)  (ci_gfP_zPo : zPo gfP)  : Met l yX6_bestSketcher (.code yX6_bestSketcher cX6_bestSketcher 7 (some .int) :: wA) ({ frames := 5, cells := 0, slots := 0, locals := 129 }) (zPW (dC, dI) [(cI, .int), (cJ, .long)] [.ref h0, .int p0] sz [(h0, .inr (6, [.ref aC, .ref g0, .ref sd, .ref mW, .long mt, .int lf, .ref mV, .ref mA, .ref mT])), (aC, .inr (1, [.ref aR, .ref aB, .ref aP, .int nb, .int np])), (aB, .inl (cI, 24, .inl fb)), (aP, .inl (cI, 20, .inl fp)), (g0, .inr (7, [.ref gY, .ref gF, .ref gP, .int gpn, .int glt, .int gsh, .int gwd, .int gpu, .int gmo])), (gY, .inl (cI, 6, .inl gfY)), (gF, .inl (cI, 5, .inl gfF)), (gP, .inl (cI, 80, .inl gfP)), (sd, .inr (8, [.ref w1, .ref w2, .ref aC, .ref g0, .ref aL, .ref aK, .null])), (mA, .inl (cI, 10, .inl fA))] (va_A [(h0, .inr (6, [.ref aC, .ref g0, .ref sd, .ref mW, .long mt, .int lf, .ref mV, .ref mA, .ref mT])), (aC, .inr (1, [.ref aR, .ref aB, .ref aP, .int nb, .int np])), (aB, .inl (cI, 24, .inl fb)), (aP, .inl (cI, 20, .inl fp)), (g0, .inr (7, [.ref gY, .ref gF, .ref gP, .int gpn, .int glt, .int gsh, .int gwd, .int gpu, .int gmo])), (gY, .inl (cI, 6, .inl gfY)), (gF, .inl (cI, 5, .inl gfF)), (gP, .inl (cI, 80, .inl gfP)), (sd, .inr (8, [.ref w1, .ref w2, .ref aC, .ref g0, .ref aL, .ref aK, .null])), (mA, .inl (cI, 10, .inl fA))] sz)) (va_Qi (fun (r : Int32) (u : (Nat → Int32)) => ((-1) ≤ r.toInt) ∧ (r.toInt ≤ 4) ∧ (∀ (kc : zK3) (kT : zT) (q_fr : Nat → Int32), zCn q_fr fb fp nb.toInt np.toInt kc → zKo nb.toInt np.toInt kc kT → zSc nb.toInt np.toInt kT.1 gfY gfF gfP gpn glt gsh gwd gpu gmo → (0 ≤ p0.toInt ∧ p0.toInt < nb.toInt) → r.toInt = (sNe kc kT.1 none p0 np.toInt.toNat).1)) (fun (u : (Nat → Int32)) (t : State) => va_P (dC, dI) vwCl [(h0, .inr (6, [.ref aC, .ref g0, .ref sd, .ref mW, .long mt, .int lf, .ref mV, .ref mA, .ref mT])), (aC, .inr (1, [.ref aR, .ref aB, .ref aP, .int nb, .int np])), (aB, .inl (cI, 24, .inl fb)), (aP, .inl (cI, 20, .inl fp)), (g0, .inr (7, [.ref gY, .ref gF, .ref gP, .int gpn, .int glt, .int gsh, .int gwd, .int gpu, .int gmo])), (gY, .inl (cI, 6, .inl gfY)), (gF, .inl (cI, 5, .inl gfF)), (gP, .inl (cI, 80, .inl gfP)), (sd, .inr (8, [.ref w1, .ref w2, .ref aC, .ref g0, .ref aL, .ref aK, .null])), (mA, .inl (cI, 10, .inl u))] t.heap ∧ va_D (va_A [(h0, .inr (6, [.ref aC, .ref g0, .ref sd, .ref mW, .long mt, .int lf, .ref mV, .ref mA, .ref mT])), (aC, .inr (1, [.ref aR, .ref aB, .ref aP, .int nb, .int np])), (aB, .inl (cI, 24, .inl fb)), (aP, .inl (cI, 20, .inl fp)), (g0, .inr (7, [.ref gY, .ref gF, .ref gP, .int gpn, .int glt, .int gsh, .int gwd, .int gpu, .int gmo])), (gY, .inl (cI, 6, .inl gfY)), (gF, .inl (cI, 5, .inl gfF)), (gP, .inl (cI, 80, .inl gfP)), (sd, .inr (8, [.ref w1, .ref w2, .ref aC, .ref g0, .ref aL, .ref aK, .null])), (mA, .inl (cI, 10, .inl fA))] sz) [(h0, .inr (6, [.ref aC, .ref g0, .ref sd, .ref mW, .long mt, .int lf, .ref mV, .ref mA, .ref mT])), (aC, .inr (1, [.ref aR, .ref aB, .ref aP, .int nb, .int np])), (aB, .inl (cI, 24, .inl fb)), (aP, .inl (cI, 20, .inl fp)), (g0, .inr (7, [.ref gY, .ref gF, .ref gP, .int gpn, .int glt, .int gsh, .int gwd, .int gpu, .int gmo])), (gY, .inl (cI, 6, .inl gfY)), (gF, .inl (cI, 5, .inl gfF)), (gP, .inl (cI, 80, .inl gfP)), (sd, .inr (8, [.ref w1, .ref w2, .ref aC, .ref g0, .ref aL, .ref aK, .null])), (mA, .inl (cI, 10, .inl u))]) (va_A [(h0, .inr (6, [.ref aC, .ref g0, .ref sd, .ref mW, .long mt, .int lf, .ref mV, .ref mA, .ref mT])), (aC, .inr (1, [.ref aR, .ref aB, .ref aP, .int nb, .int np])), (aB, .inl (cI, 24, .inl fb)), (aP, .inl (cI, 20, .inl fp)), (g0, .inr (7, [.ref gY, .ref gF, .ref gP, .int gpn, .int glt, .int gsh, .int gwd, .int gpu, .int gmo])), (gY, .inl (cI, 6, .inl gfY)), (gF, .inl (cI, 5, .inl gfF)), (gP, .inl (cI, 80, .inl gfP)), (sd, .inr (8, [.ref w1, .ref w2, .ref aC, .ref g0, .ref aL, .ref aK, .null])), (mA, .inl (cI, 10, .inl fA))] sz)) 0 0 (va_A [(h0, .inr (6, [.ref aC, .ref g0, .ref sd, .ref mW, .long mt, .int lf, .ref mV, .ref mA, .ref mT])), (aC, .inr (1, [.ref aR, .ref aB, .ref aP, .int nb, .int np])), (aB, .inl (cI, 24, .inl fb)), (aP, .inl (cI, 20, .inl fp)), (g0, .inr (7, [.ref gY, .ref gF, .ref gP, .int gpn, .int glt, .int gsh, .int gwd, .int gpu, .int gmo])), (gY, .inl (cI, 6, .inl gfY)), (gF, .inl (cI, 5, .inl gfF)), (gP, .inl (cI, 80, .inl gfP)), (sd, .inr (8, [.ref w1, .ref w2, .ref aC, .ref g0, .ref aL, .ref aK, .null])), (mA, .inl (cI, 10, .inl fA))] sz) := by
  refine Met.ofW (cc := cX6_bestSketcher) (maxL := 7) (ret := (some .int)) (by decide) rfl ?_
  intro p e s m args below meth c s₁ B hml hv
  have y_gpn : zHid (0 ≤ gpn.toInt ∧ gpn.toInt ≤ 20) := n_gpn
  clear n_gpn
  obtain ⟨⟨hargs, hsz, hP, hK, hT⟩, hV⟩ := hv
  have hx := B.exec
  have hb := B.bytes
  have hr := B.returns
  have hts : ∀ w ∈ wA, w.before args s = true := fun w h => atoms_spec (ws := .code yX6_bestSketcher cX6_bestSketcher 7 (some .int) :: wA) B.pre w (List.mem_cons_of_mem _ h)
  have hown : s.vm.findClass RX6 = some m.cls := findClass_of_methodNamed B.named
  have hlocks := B.notSynchronized
  subst hsz
  have hD := hT.self (sz := s.heap.size)
  generalize hAe : va_A [(h0, .inr (6, [.ref aC, .ref g0, .ref sd, .ref mW, .long mt, .int lf, .ref mV, .ref mA, .ref mT])), (aC, .inr (1, [.ref aR, .ref aB, .ref aP, .int nb, .int np])), (aB, .inl (cI, 24, .inl fb)), (aP, .inl (cI, 20, .inl fp)), (g0, .inr (7, [.ref gY, .ref gF, .ref gP, .int gpn, .int glt, .int gsh, .int gwd, .int gpu, .int gmo])), (gY, .inl (cI, 6, .inl gfY)), (gF, .inl (cI, 5, .inl gfF)), (gP, .inl (cI, 80, .inl gfP)), (sd, .inr (8, [.ref w1, .ref w2, .ref aC, .ref g0, .ref aL, .ref aK, .null])), (mA, .inl (cI, 10, .inl fA))] s.heap.size = A at hD hV ⊢
  have hA : ∀ q : Nat, s.heap.size ≤ q → A q := fun q h => by rw [← hAe]; exact Or.inr h
  have hl := lv_entry ([.ref h0, .int p0]) (n := 7) (Nat.le_of_ble_eq_true rfl)
  rw [show entryFrame m args 7 = entryFrame m ([.ref h0, .int p0] : List Value).toArray 7 by rw [hargs], lg_entry_eq]
  generalize (lg_sl ([.ref h0, .int p0]) ++ List.replicate (7 - (lg_sl ([.ref h0, .int p0])).length) Slot.unset).toArray = ls at hl ⊢
  have hl : lv_has ls 7 [(0, .ref h0), (1, .int p0)] := hl
  refine zstart (fun H hH => ?_)
  rw [← hH] at hP
  have hS : va_S A s.heap H [] := by rw [hH]; exact va_S.rf
  generalize ([] : List Loc) = locs at hS ⊢
  refine zgen (fun R Q hR hQ => ?_)
  refine lv_aload_n hx hb dX6_bestSketcher_0 rfl (lv_at hl 0 rfl) ?_
  refine lv_iload_n hx hb dX6_bestSketcher_1 rfl (lv_at hl 1 rfl) ?_
  obtain ⟨hPc, hDc⟩ := zc2 (wc := [(h0, .inr (6, [.ref aC, .ref g0, .ref sd, .ref mW, .long mt, .int lf, .ref mV, .ref mA, .ref mT])), (aC, .inr (1, [.ref aR, .ref aB, .ref aP, .int nb, .int np])), (aB, .inl (cI, 24, .inl fb)), (g0, .inr (7, [.ref gY, .ref gF, .ref gP, .int gpn, .int glt, .int gsh, .int gwd, .int gpu, .int gmo]))]) hP hD [0, 1, 2, 4] (by decide +kernel) rfl
  have hFc := zfr hS hA
  refine va_calli (va_runV (As := [.int p0]) (rest := []) ⟨hx, hb, hml, hown, hts⟩ (g_X6_fitting l dC dI cI cJ h0 p0 aC g0 sd mW mt lf mV mA mT aR aB aP nb np fb gY gF gP gpn glt gsh gwd gpu gmo H.size n_p0) (cwV 1 hts (zgV qw833 qw820 qw821 qw106 qw822) rfl rfl rfl hd_X6_fitting ⟨by rw [hR]; exact Nat.le_of_ble_eq_true rfl, by rw [hR]; exact Nat.le_of_ble_eq_true rfl⟩) (zPWV hPc hK hDc (va_recv (q := (RX6, TX6, 9)) hK hP (ci := 6) (q0 := 0) rfl rfl) (zV_call hV hS hFc)) rfl rfl hl.1 rfl (lv_room (Nat.le_of_ble_eq_true rfl)) dX6_bestSketcher_2 ⟨Nat.zero_le _, Nat.zero_le _⟩) hS (fun q _ h => hFc q h) hFc (fun v2 u2 t H locs ht hvm hw hB hz1 hk1 hS9 => ?_)
  replace hP := zkeep hP hk1
  replace hS := hS9
  clear hPc hDc hFc hk1 hz1 hvm hS9
  obtain ⟨f2_0, f2_1, f2_2⟩ : (10 ≤ v2.toInt) ∧ (v2.toInt ≤ 1023) ∧ (v2 = zFit (cBt glt p0) (cBt gsh p0) (fb (4 * p0.toInt.toNat))) := hw
  have F2 := f2_2
  refine lv_istore_n (lv' := [(2, .int v2), (0, .ref h0), (1, .int p0)]) hx hb dX6_bestSketcher_5 rfl hl (by decide) rfl (fun ls hl => ?_)
  refine lv_iconst (v := (-1)) hx hb dX6_bestSketcher_6 (by decide) ?_
  refine lv_istore_n (lv' := [(3, .int (-1)), (2, .int v2), (0, .ref h0), (1, .int p0)]) hx hb dX6_bestSketcher_7 rfl hl (by decide) rfl (fun ls hl => ?_)
  refine lv_bipush (v := 11) hx hb dX6_bestSketcher_8 (by decide) ?_
  refine lv_istore (lv' := [(4, .int 11), (3, .int (-1)), (2, .int v2), (0, .ref h0), (1, .int p0)]) hx hb dX6_bestSketcher_10 hl (by decide) rfl (fun ls hl => ?_)
  refine lv_iconst (v := 0) hx hb dX6_bestSketcher_12 (by decide) ?_
  have J15 : ∀ (n : Nat) (m15_A_mA : Nat → Int32) (m15_L_3 : Int32) (m15_L_4 : Int32) (m15_L_5 : Int32), ((-1) ≤ m15_L_3.toInt ∧ m15_L_3.toInt ≤ 4) → (0 ≤ m15_L_4.toInt ∧ m15_L_4.toInt ≤ 11) → (0 ≤ m15_L_5.toInt ∧ m15_L_5.toInt ≤ 5) → (∀ (kc : zK3) (kT : zT) (q_fr : Nat → Int32), zCn q_fr fb fp nb.toInt np.toInt kc → zKo nb.toInt np.toInt kc kT → zSc nb.toInt np.toInt kT.1 gfY gfF gfP gpn glt gsh gwd gpu gmo → (0 ≤ p0.toInt ∧ p0.toInt < nb.toInt) → zNeC kc kT.1 none p0 m15_L_3 m15_L_4 m15_L_5.toInt.toNat) → (m15_L_5.toInt ≤ np.toInt) → (6 - m15_L_5.toInt).toNat = n → ∀ (H : Heap) (locs : List Loc) (ls : Array Slot), va_P (dC, dI) vwCl [(h0, .inr (6, [.ref aC, .ref g0, .ref sd, .ref mW, .long mt, .int lf, .ref mV, .ref mA, .ref mT])), (aC, .inr (1, [.ref aR, .ref aB, .ref aP, .int nb, .int np])), (aB, .inl (cI, 24, .inl fb)), (aP, .inl (cI, 20, .inl fp)), (g0, .inr (7, [.ref gY, .ref gF, .ref gP, .int gpn, .int glt, .int gsh, .int gwd, .int gpu, .int gmo])), (gY, .inl (cI, 6, .inl gfY)), (gF, .inl (cI, 5, .inl gfF)), (gP, .inl (cI, 80, .inl gfP)), (sd, .inr (8, [.ref w1, .ref w2, .ref aC, .ref g0, .ref aL, .ref aK, .null])), (mA, .inl (cI, 10, .inl m15_A_mA))] H → va_D A [(h0, .inr (6, [.ref aC, .ref g0, .ref sd, .ref mW, .long mt, .int lf, .ref mV, .ref mA, .ref mT])), (aC, .inr (1, [.ref aR, .ref aB, .ref aP, .int nb, .int np])), (aB, .inl (cI, 24, .inl fb)), (aP, .inl (cI, 20, .inl fp)), (g0, .inr (7, [.ref gY, .ref gF, .ref gP, .int gpn, .int glt, .int gsh, .int gwd, .int gpu, .int gmo])), (gY, .inl (cI, 6, .inl gfY)), (gF, .inl (cI, 5, .inl gfF)), (gP, .inl (cI, 80, .inl gfP)), (sd, .inr (8, [.ref w1, .ref w2, .ref aC, .ref g0, .ref aL, .ref aK, .null])), (mA, .inl (cI, 10, .inl m15_A_mA))] → va_S A s.heap H locs → lv_has ls 7 [(5, .int m15_L_5), (4, .int m15_L_4), (3, .int m15_L_3), (2, .int v2), (0, .ref h0), (1, .int p0)] → W p l e R s m args below meth c H locs 0 0 Q (F0 m 15 ls []) := by
    intro n15
    induction n15 using Nat.strongRecOn with
    | _ n15 ih15 =>
      intro m15_A_mA m15_L_3 m15_L_4 m15_L_5 jf15_0 jf15_1 jf15_2 jv15_0 jf15_4 hmu15 H locs ls hP hD hS hl
      refine lv_iload hx hb dX6_bestSketcher_15 (lv_at hl 0 rfl) ?_
      refine lv_aload_n hx hb dX6_bestSketcher_17 rfl (lv_at hl 4 rfl) ?_
      refine va_get (D := (dC, dI)) (ci := 6) (v := .ref aC) (C := RX6) (T := TX6) (N := 9) hx hb hts iX6 hown hK hP 0 rfl rfl 0 (by decide) (hts _ qw316) (fun _ h9 => h9) rfl dX6_bestSketcher_18 ?_
      refine va_get (D := (dC, dI)) (ci := 1) (v := .int np) (C := RX1) (T := TX1) (N := 5) hx hb hts iX1 hown hK hP 1 rfl rfl 4 (by decide) (hts _ qw199) (fun _ h9 => h9) rfl dX6_bestSketcher_21 ?_
      refine lv_icmp_ge (tgt := 69) hx hb dX6_bestSketcher_24 (by decide) (fun c24 => ?_) (fun c24 => ?_)
      · have c24 : np.toInt ≤ m15_L_5.toInt := z3 rfl rfl c24
        refine lv_iload_n hx hb dX6_bestSketcher_69 rfl (lv_at hl 2 rfl) ?_
        rw [hQ]
        exact W.iret (v := m15_L_3) hx hb hr (fun t ht hW => ⟨⟨m15_L_3, m15_A_mA, rfl, ⟨by (try dsimp only); omega, by (try dsimp only); omega, fun kc kT q_fr hc hb h hq => by have z := (jv15_0 kc kT _ hc hb h hq).1; rw [show m15_L_5.toInt.toNat = np.toInt.toNat by omega] at z; exact z⟩, ⟨by rw [ht]; exact hP, hD⟩⟩, hS.F ht⟩) hS.2.2 dX6_bestSketcher_70
      · have c24 : m15_L_5.toInt < np.toInt := z4 rfl rfl c24
        refine lv_aload_n hx hb dX6_bestSketcher_27 rfl (lv_at hl 4 rfl) ?_
        refine lv_iload hx hb dX6_bestSketcher_28 (lv_at hl 0 rfl) ?_
        obtain ⟨hPc, hDc⟩ := zc2 (wc := [(h0, .inr (6, [.ref aC, .ref g0, .ref sd, .ref mW, .long mt, .int lf, .ref mV, .ref mA, .ref mT])), (aC, .inr (1, [.ref aR, .ref aB, .ref aP, .int nb, .int np])), (aP, .inl (cI, 20, .inl fp))]) hP hD [0, 1, 3] (by decide +kernel) rfl
        have hFc := zfr hS hA
        refine va_calli (va_runV (As := [.int m15_L_5]) (rest := []) ⟨hx, hb, hml, hown, hts⟩ (g_X6_sketches l dC dI cI cJ h0 m15_L_5 aC g0 sd mW mt lf mV mA mT aR aB aP nb np fp H.size (by omega)) (cwV 1 hts (zgV qw835 qw837 qw19 qw106 qw838) rfl rfl rfl hd_X6_sketches ⟨by rw [hR]; exact Nat.le_of_ble_eq_true rfl, by rw [hR]; exact Nat.le_of_ble_eq_true rfl⟩) (zPV hPc hK hDc (va_recv (q := (RX6, TX6, 9)) hK hP (ci := 6) (q0 := 0) rfl rfl)) rfl rfl hl.1 rfl (lv_room (Nat.le_of_ble_eq_true rfl)) dX6_bestSketcher_30 ⟨Nat.zero_le _, Nat.zero_le _⟩) hS (fun q _ h => hFc q h) hFc (fun v30 u30 t H locs ht hvm hw hB hz1 hk1 hS9 => ?_)
        replace hP := zkeep hP hk1
        replace hS := hS9
        clear hPc hDc hFc hk1 hz1 hvm hS9
        obtain ⟨f30_0, f30_1, f30_2⟩ : (0 ≤ v30.toInt) ∧ (v30.toInt ≤ 1) ∧ ((v30.toInt = 1 ∧ ¬ (fp (4 * m15_L_5.toInt.toNat + 3)).toInt = 3) ∨ (v30.toInt = 0 ∧ (fp (4 * m15_L_5.toInt.toNat + 3)).toInt = 3)) := hw
        have F30 := f30_2
        refine lv_if_ne (tgt := 39) hx hb dX6_bestSketcher_33 (by decide) (fun c33 => ?_) (fun c33 => ?_)
        · have c33 : ¬ v30.toInt = 0 := z6 rfl (by decide) c33
          refine lv_aload_n hx hb dX6_bestSketcher_39 rfl (lv_at hl 4 rfl) ?_
          refine lv_iload hx hb dX6_bestSketcher_40 (lv_at hl 0 rfl) ?_
          refine lv_iload_n hx hb dX6_bestSketcher_42 rfl (lv_at hl 5 rfl) ?_
          refine lv_iload_n hx hb dX6_bestSketcher_43 rfl (lv_at hl 3 rfl) ?_
          obtain ⟨hPc, hDc, hFc⟩ := zc3 (wc := [(h0, .inr (6, [.ref aC, .ref g0, .ref sd, .ref mW, .long mt, .int lf, .ref mV, .ref mA, .ref mT])), (aC, .inr (1, [.ref aR, .ref aB, .ref aP, .int nb, .int np])), (aB, .inl (cI, 24, .inl fb)), (aP, .inl (cI, 20, .inl fp)), (g0, .inr (7, [.ref gY, .ref gF, .ref gP, .int gpn, .int glt, .int gsh, .int gwd, .int gpu, .int gmo])), (gY, .inl (cI, 6, .inl gfY)), (gF, .inl (cI, 5, .inl gfF)), (gP, .inl (cI, 80, .inl gfP)), (sd, .inr (8, [.ref w1, .ref w2, .ref aC, .ref g0, .ref aL, .ref aK, .null])), (mA, .inl (cI, 10, .inl m15_A_mA))]) hP hD hS hA [0, 1, 2, 3, 4, 5, 6, 7, 8, 9] (by decide +kernel) rfl
          refine va_calli (va_runV (As := [.int m15_L_5, .int p0, .int v2]) (rest := []) ⟨hx, hb, hml, hown, hts⟩ (g_X6_mostAlike_n l dC dI cI cJ h0 m15_L_5 p0 v2 aC g0 sd mW mt lf mV mA mT aR aB aP nb np fb fp gY gF gP gpn glt gsh gwd gpu gmo gfY gfF gfP w1 w2 aL aK m15_A_mA H.size y_gpn (by omega) n_p0 ci_gfP_zPo) (cwV 3 hts (zgV qw873 qw875 qw21 qw106 qw876) rfl rfl rfl hd_X6_mostAlike ⟨by rw [hR]; exact Nat.le_of_ble_eq_true rfl, by rw [hR]; exact Nat.le_of_ble_eq_true rfl⟩) (zPWV hPc hK hDc (va_recv (q := (RX6, TX6, 9)) hK hP (ci := 6) (q0 := 0) rfl rfl) (zV_call hV hS hFc)) rfl rfl hl.1 rfl (lv_room (Nat.le_of_ble_eq_true rfl)) dX6_bestSketcher_44 ⟨Nat.zero_le _, Nat.zero_le _⟩) hS (fun q _ h => hFc q h) hFc (fun v44 u44 t H locs ht hvm hw hB hz1 hk1 hS9 => ?_)
          obtain ⟨u44_0, rfl⟩ : ∃ z, z = u44 := ⟨_, rfl⟩
          obtain ⟨hP9, hD9⟩ := zj2 (wX := [(h0, .inr (6, [.ref aC, .ref g0, .ref sd, .ref mW, .long mt, .int lf, .ref mV, .ref mA, .ref mT])), (aC, .inr (1, [.ref aR, .ref aB, .ref aP, .int nb, .int np])), (aB, .inl (cI, 24, .inl fb)), (aP, .inl (cI, 20, .inl fp)), (g0, .inr (7, [.ref gY, .ref gF, .ref gP, .int gpn, .int glt, .int gsh, .int gwd, .int gpu, .int gmo])), (gY, .inl (cI, 6, .inl gfY)), (gF, .inl (cI, 5, .inl gfF)), (gP, .inl (cI, 80, .inl gfP)), (sd, .inr (8, [.ref w1, .ref w2, .ref aC, .ref g0, .ref aL, .ref aK, .null])), (mA, .inl (cI, 10, .inl u44_0))]) hP hD hk1 hFc ht hB [0, 1, 2, 3, 4, 5, 6, 7, 8, 9] [(true, 0), (true, 1), (true, 2), (true, 3), (true, 4), (true, 5), (true, 6), (true, 7), (true, 8), (true, 9)] rfl (by decide +kernel) (by decide +kernel) rfl
          clear hP hD hS hPc hDc hFc hB hk1 hz1 hvm
          have hP := hP9
          have hD := hD9
          have hS := hS9
          clear hP9 hD9 hS9
          obtain ⟨f44_0, f44_1⟩ : (0 ≤ v44.toInt) ∧ (∀ (kc : zK3) (kT : zT) (q_fr : Nat → Int32), zCn q_fr fb fp nb.toInt np.toInt kc → zKo nb.toInt np.toInt kc kT → zSc nb.toInt np.toInt kT.1 gfY gfF gfP gpn glt gsh gwd gpu gmo → (0 ≤ m15_L_5.toInt ∧ m15_L_5.toInt < np.toInt) → (0 ≤ p0.toInt ∧ p0.toInt < nb.toInt) → v2 = zFit (cBt kT.1.2.2.1.1 p0) (cBt kT.1.2.2.1.2.1 p0) (kc.2.1 (4 * p0.toInt.toNat)) → v44.toInt = (sAl kc kT.1 none m15_L_5 p0 : Int)) := hw
          have F44 := f44_1
          refine lv_istore (lv' := [(6, .int v44), (5, .int m15_L_5), (4, .int m15_L_4), (3, .int m15_L_3), (2, .int v2), (0, .ref h0), (1, .int p0)]) hx hb dX6_bestSketcher_47 hl (by decide) rfl (fun ls hl => ?_)
          refine lv_iload hx hb dX6_bestSketcher_49 (lv_at hl 0 rfl) ?_
          refine lv_iload hx hb dX6_bestSketcher_51 (lv_at hl 2 rfl) ?_
          refine lv_icmp_ge (tgt := 63) hx hb dX6_bestSketcher_53 (by decide) (fun c53 => ?_) (fun c53 => ?_)
          · have c53 : m15_L_4.toInt ≤ v44.toInt := z3 rfl rfl c53
            obtain ⟨v63, e63⟩ : ∃ y : Int32, y = m15_L_5 + Int32.ofInt (1) := ⟨_, rfl⟩
            refine lv_iinc (v := v63) (lv' := [(5, .int v63), (6, .int v44), (4, .int m15_L_4), (3, .int m15_L_3), (2, .int v2), (0, .ref h0), (1, .int p0)]) hx hb dX6_bestSketcher_63 hl (k := 1) rfl e63.symm (by decide) rfl (fun ls hl => ?_)
            have i63 : v63.toInt = m15_L_5.toInt + 1 := zaddI e63 (by decide) (by omega) (by omega)
            refine lv_goto (tgt := 15) hx hb dX6_bestSketcher_66 (by decide) ?_
            exact ih15 _ (by omega) u44_0 m15_L_3 m15_L_4 v63 jf15_0 jf15_1 (by omega) (fun kc kT q_fr hc hb h hq => by have y3 : fp (4 * m15_L_5.toInt.toNat + 3) = kc.2.2 (4 * m15_L_5.toInt.toNat + 3) := hc.2.2 _ (by omega); have z3 := congrArg Int32.toInt y3; first | (have a := F44 kc kT _ hc hb h (by omega) hq (by rw [zSc_lt h, zSc_sh h, ← hc.2.1 (4 * p0.toInt.toNat) (by omega)]; exact F2); first | exact zNeCY (jv15_0 kc kT _ hc hb h hq) (by omega) i63 (by omega) a (by omega) | exact zNeCN (jv15_0 kc kT _ hc hb h hq) (by omega) i63 (Or.inr ⟨v44, a, by omega⟩)) | exact zNeCN (jv15_0 kc kT _ hc hb h hq) (by omega) i63 (Or.inl (by omega))) (by omega) rfl H locs ls hP hD hS (lv_sub hl [0, 2, 3, 4, 5, 6] rfl)
          · have c53 : v44.toInt < m15_L_4.toInt := z4 rfl rfl c53
            refine lv_iload hx hb dX6_bestSketcher_56 (lv_at hl 1 rfl) ?_
            refine lv_istore_n (lv' := [(3, .int m15_L_5), (6, .int v44), (5, .int m15_L_5), (4, .int m15_L_4), (2, .int v2), (0, .ref h0), (1, .int p0)]) hx hb dX6_bestSketcher_58 rfl hl (by decide) rfl (fun ls hl => ?_)
            refine lv_iload hx hb dX6_bestSketcher_59 (lv_at hl 1 rfl) ?_
            refine lv_istore (lv' := [(4, .int v44), (3, .int m15_L_5), (6, .int v44), (5, .int m15_L_5), (2, .int v2), (0, .ref h0), (1, .int p0)]) hx hb dX6_bestSketcher_61 hl (by decide) rfl (fun ls hl => ?_)
            obtain ⟨v63, e63⟩ : ∃ y : Int32, y = m15_L_5 + Int32.ofInt (1) := ⟨_, rfl⟩
            refine lv_iinc (v := v63) (lv' := [(5, .int v63), (4, .int v44), (3, .int m15_L_5), (6, .int v44), (2, .int v2), (0, .ref h0), (1, .int p0)]) hx hb dX6_bestSketcher_63 hl (k := 3) rfl e63.symm (by decide) rfl (fun ls hl => ?_)
            have i63 : v63.toInt = m15_L_5.toInt + 1 := zaddI e63 (by decide) (by omega) (by omega)
            refine lv_goto (tgt := 15) hx hb dX6_bestSketcher_66 (by decide) ?_
            exact ih15 _ (by omega) u44_0 m15_L_5 v44 v63 (by omega) (by omega) (by omega) (fun kc kT q_fr hc hb h hq => by have y3 : fp (4 * m15_L_5.toInt.toNat + 3) = kc.2.2 (4 * m15_L_5.toInt.toNat + 3) := hc.2.2 _ (by omega); have z3 := congrArg Int32.toInt y3; first | (have a := F44 kc kT _ hc hb h (by omega) hq (by rw [zSc_lt h, zSc_sh h, ← hc.2.1 (4 * p0.toInt.toNat) (by omega)]; exact F2); first | exact zNeCY (jv15_0 kc kT _ hc hb h hq) (by omega) i63 (by omega) a (by omega) | exact zNeCN (jv15_0 kc kT _ hc hb h hq) (by omega) i63 (Or.inr ⟨v44, a, by omega⟩)) | exact zNeCN (jv15_0 kc kT _ hc hb h hq) (by omega) i63 (Or.inl (by omega))) (by omega) rfl H locs ls hP hD hS (lv_sub hl [0, 1, 2, 4, 5, 6] rfl)
        · have c33 : v30.toInt = 0 := z5 rfl (by decide) c33
          refine lv_goto (tgt := 63) hx hb dX6_bestSketcher_36 (by decide) ?_
          obtain ⟨v63, e63⟩ : ∃ y : Int32, y = m15_L_5 + Int32.ofInt (1) := ⟨_, rfl⟩
          refine lv_iinc (v := v63) (lv' := [(5, .int v63), (4, .int m15_L_4), (3, .int m15_L_3), (2, .int v2), (0, .ref h0), (1, .int p0)]) hx hb dX6_bestSketcher_63 hl (k := 0) rfl e63.symm (by decide) rfl (fun ls hl => ?_)
          have i63 : v63.toInt = m15_L_5.toInt + 1 := zaddI e63 (by decide) (by omega) (by omega)
          refine lv_goto (tgt := 15) hx hb dX6_bestSketcher_66 (by decide) ?_
          exact ih15 _ (by omega) m15_A_mA m15_L_3 m15_L_4 v63 jf15_0 jf15_1 (by omega) (fun kc kT q_fr hc hb h hq => by have y3 : fp (4 * m15_L_5.toInt.toNat + 3) = kc.2.2 (4 * m15_L_5.toInt.toNat + 3) := hc.2.2 _ (by omega); have z3 := congrArg Int32.toInt y3; first | (have a := F44 kc kT _ hc hb h (by omega) hq (by rw [zSc_lt h, zSc_sh h, ← hc.2.1 (4 * p0.toInt.toNat) (by omega)]; exact F2); first | exact zNeCY (jv15_0 kc kT _ hc hb h hq) (by omega) i63 (by omega) a (by omega) | exact zNeCN (jv15_0 kc kT _ hc hb h hq) (by omega) i63 (Or.inr ⟨v44, a, by omega⟩)) | exact zNeCN (jv15_0 kc kT _ hc hb h hq) (by omega) i63 (Or.inl (by omega))) (by omega) rfl H locs ls hP hD hS (lv_sub hl [0, 1, 2, 3, 4, 5] rfl)
  refine lv_istore (lv' := [(5, .int 0), (4, .int 11), (3, .int (-1)), (2, .int v2), (0, .ref h0), (1, .int p0)]) hx hb dX6_bestSketcher_13 hl (by decide) rfl (fun ls hl => ?_)
  have zj15_m15_L_3 : ((-1) : Int32).toInt = (-1) := by decide
  have zj15_m15_L_4 : (11 : Int32).toInt = 11 := by decide
  have zj15_m15_L_5 : (0 : Int32).toInt = 0 := by decide
  exact J15 _ fA (-1) 11 0 (by decide) (by decide) (by decide) (fun kc kT q_fr hc hb h hq => zNeC_0) (by omega) rfl H locs ls hP hD hS (lv_sub hl [0, 1, 2, 3, 4, 5] rfl)
set_option maxHeartbeats 4000000 in
set_option maxRecDepth 100000 in
theorem g_X6_addTeller_n (l : Launch) (dC : Nat → ClassId) (dI : Nat → Nat → Nat) (cI cJ : ClassId) (h0 : Nat) (p0 : Int32) (p1 : Int32) (p2 : Int32) (aC : Nat) (g0 : Nat) (sd : Nat) (mW : Nat) (mt : Int64) (lf : Int32) (mV : Nat) (mA : Nat) (mT : Nat) (aR : Nat) (aB : Nat) (aP : Nat) (nb : Int32) (np : Int32) (fb : Nat → Int32) (fp : Nat → Int32) (gY : Nat) (gF : Nat) (gP : Nat) (gpn : Int32) (glt : Int32) (gsh : Int32) (gwd : Int32) (gpu : Int32) (gmo : Int32) (gfY : Nat → Int32) (gfF : Nat → Int32) (gfP : Nat → Int32) (w1 : Nat) (w2 : Nat) (aL : Nat) (aK : Nat) (fV : Nat → Int32) (fT : Nat → Int32) (sz : Nat) (n_gpn : 0 ≤ gpn.toInt ∧ gpn.toInt ≤ 20) (n_p0 : 0 ≤ p0.toInt ∧ p0.toInt ≤ 4) (n_p1 : 0 ≤ p1.toInt ∧ p1.toInt ≤ 5)  (ci_gfP_zPo : zPo gfP)  : Met l yX6_addTeller (.code yX6_addTeller cX6_addTeller 7 (some .int) :: wA) ({ frames := 4, cells := 0, slots := 0, locals := 103 }) (zPW (dC, dI) [(cI, .int), (cJ, .long)] [.ref h0, .int p0, .int p1, .int p2] sz [(h0, .inr (6, [.ref aC, .ref g0, .ref sd, .ref mW, .long mt, .int lf, .ref mV, .ref mA, .ref mT])), (aC, .inr (1, [.ref aR, .ref aB, .ref aP, .int nb, .int np])), (aB, .inl (cI, 24, .inl fb)), (aP, .inl (cI, 20, .inl fp)), (g0, .inr (7, [.ref gY, .ref gF, .ref gP, .int gpn, .int glt, .int gsh, .int gwd, .int gpu, .int gmo])), (gY, .inl (cI, 6, .inl gfY)), (gF, .inl (cI, 5, .inl gfF)), (gP, .inl (cI, 80, .inl gfP)), (sd, .inr (8, [.ref w1, .ref w2, .ref aC, .ref g0, .ref aL, .ref aK, .null])), (mV, .inl (cI, 10, .inl fV)), (mT, .inl (cI, 45, .inl fT))] (va_A [(h0, .inr (6, [.ref aC, .ref g0, .ref sd, .ref mW, .long mt, .int lf, .ref mV, .ref mA, .ref mT])), (aC, .inr (1, [.ref aR, .ref aB, .ref aP, .int nb, .int np])), (aB, .inl (cI, 24, .inl fb)), (aP, .inl (cI, 20, .inl fp)), (g0, .inr (7, [.ref gY, .ref gF, .ref gP, .int gpn, .int glt, .int gsh, .int gwd, .int gpu, .int gmo])), (gY, .inl (cI, 6, .inl gfY)), (gF, .inl (cI, 5, .inl gfF)), (gP, .inl (cI, 80, .inl gfP)), (sd, .inr (8, [.ref w1, .ref w2, .ref aC, .ref g0, .ref aL, .ref aK, .null])), (mV, .inl (cI, 10, .inl fV)), (mT, .inl (cI, 45, .inl fT))] sz)) (va_Qi (fun (r : Int32) (u : (Nat → Int32) × (Nat → Int32)) => (0 ≤ r.toInt) ∧ (r.toInt ≤ 45) ∧ (∀ (kc : zK3) (kT : zT) (q_fr : Nat → Int32), zCn q_fr fb fp nb.toInt np.toInt kc → zKo nb.toInt np.toInt kc kT → zSc nb.toInt np.toInt kT.1 gfY gfF gfP gpn glt gsh gwd gpu gmo → (0 ≤ p0.toInt ∧ p0.toInt < np.toInt) → (0 ≤ p1.toInt ∧ p1.toInt < nb.toInt) → p2 = zFit (cBt kT.1.2.2.1.1 p1) (cBt kT.1.2.2.1.2.1 p1) (kc.2.1 (4 * p1.toInt.toNat)) → r.toInt = ((sPL kc kT.1 p1).length : Int) ∧ aNt (sPL kc kT.1 p1) (sDb kc kT.1 none p1 p0.toInt.toNat) fT u.2 (1 <<< (p0 &&& 31)) r.toInt.toNat)) (fun (u : (Nat → Int32) × (Nat → Int32)) (t : State) => va_P (dC, dI) vwCl [(h0, .inr (6, [.ref aC, .ref g0, .ref sd, .ref mW, .long mt, .int lf, .ref mV, .ref mA, .ref mT])), (aC, .inr (1, [.ref aR, .ref aB, .ref aP, .int nb, .int np])), (aB, .inl (cI, 24, .inl fb)), (aP, .inl (cI, 20, .inl fp)), (g0, .inr (7, [.ref gY, .ref gF, .ref gP, .int gpn, .int glt, .int gsh, .int gwd, .int gpu, .int gmo])), (gY, .inl (cI, 6, .inl gfY)), (gF, .inl (cI, 5, .inl gfF)), (gP, .inl (cI, 80, .inl gfP)), (sd, .inr (8, [.ref w1, .ref w2, .ref aC, .ref g0, .ref aL, .ref aK, .null])), (mV, .inl (cI, 10, .inl u.1)), (mT, .inl (cI, 45, .inl u.2))] t.heap ∧ va_D (va_A [(h0, .inr (6, [.ref aC, .ref g0, .ref sd, .ref mW, .long mt, .int lf, .ref mV, .ref mA, .ref mT])), (aC, .inr (1, [.ref aR, .ref aB, .ref aP, .int nb, .int np])), (aB, .inl (cI, 24, .inl fb)), (aP, .inl (cI, 20, .inl fp)), (g0, .inr (7, [.ref gY, .ref gF, .ref gP, .int gpn, .int glt, .int gsh, .int gwd, .int gpu, .int gmo])), (gY, .inl (cI, 6, .inl gfY)), (gF, .inl (cI, 5, .inl gfF)), (gP, .inl (cI, 80, .inl gfP)), (sd, .inr (8, [.ref w1, .ref w2, .ref aC, .ref g0, .ref aL, .ref aK, .null])), (mV, .inl (cI, 10, .inl fV)), (mT, .inl (cI, 45, .inl fT))] sz) [(h0, .inr (6, [.ref aC, .ref g0, .ref sd, .ref mW, .long mt, .int lf, .ref mV, .ref mA, .ref mT])), (aC, .inr (1, [.ref aR, .ref aB, .ref aP, .int nb, .int np])), (aB, .inl (cI, 24, .inl fb)), (aP, .inl (cI, 20, .inl fp)), (g0, .inr (7, [.ref gY, .ref gF, .ref gP, .int gpn, .int glt, .int gsh, .int gwd, .int gpu, .int gmo])), (gY, .inl (cI, 6, .inl gfY)), (gF, .inl (cI, 5, .inl gfF)), (gP, .inl (cI, 80, .inl gfP)), (sd, .inr (8, [.ref w1, .ref w2, .ref aC, .ref g0, .ref aL, .ref aK, .null])), (mV, .inl (cI, 10, .inl u.1)), (mT, .inl (cI, 45, .inl u.2))]) (va_A [(h0, .inr (6, [.ref aC, .ref g0, .ref sd, .ref mW, .long mt, .int lf, .ref mV, .ref mA, .ref mT])), (aC, .inr (1, [.ref aR, .ref aB, .ref aP, .int nb, .int np])), (aB, .inl (cI, 24, .inl fb)), (aP, .inl (cI, 20, .inl fp)), (g0, .inr (7, [.ref gY, .ref gF, .ref gP, .int gpn, .int glt, .int gsh, .int gwd, .int gpu, .int gmo])), (gY, .inl (cI, 6, .inl gfY)), (gF, .inl (cI, 5, .inl gfF)), (gP, .inl (cI, 80, .inl gfP)), (sd, .inr (8, [.ref w1, .ref w2, .ref aC, .ref g0, .ref aL, .ref aK, .null])), (mV, .inl (cI, 10, .inl fV)), (mT, .inl (cI, 45, .inl fT))] sz)) 0 0 (va_A [(h0, .inr (6, [.ref aC, .ref g0, .ref sd, .ref mW, .long mt, .int lf, .ref mV, .ref mA, .ref mT])), (aC, .inr (1, [.ref aR, .ref aB, .ref aP, .int nb, .int np])), (aB, .inl (cI, 24, .inl fb)), (aP, .inl (cI, 20, .inl fp)), (g0, .inr (7, [.ref gY, .ref gF, .ref gP, .int gpn, .int glt, .int gsh, .int gwd, .int gpu, .int gmo])), (gY, .inl (cI, 6, .inl gfY)), (gF, .inl (cI, 5, .inl gfF)), (gP, .inl (cI, 80, .inl gfP)), (sd, .inr (8, [.ref w1, .ref w2, .ref aC, .ref g0, .ref aL, .ref aK, .null])), (mV, .inl (cI, 10, .inl fV)), (mT, .inl (cI, 45, .inl fT))] sz) := by
  refine Met.ofW (cc := cX6_addTeller) (maxL := 7) (ret := (some .int)) (by decide) rfl ?_
  intro p e s m args below meth c s₁ B hml hv
  obtain ⟨⟨hargs, hsz, hP, hK, hT⟩, hV⟩ := hv
  have hx := B.exec
  have hb := B.bytes
  have hr := B.returns
  have hts : ∀ w ∈ wA, w.before args s = true := fun w h => atoms_spec (ws := .code yX6_addTeller cX6_addTeller 7 (some .int) :: wA) B.pre w (List.mem_cons_of_mem _ h)
  have hown : s.vm.findClass RX6 = some m.cls := findClass_of_methodNamed B.named
  have hlocks := B.notSynchronized
  subst hsz
  have hD := hT.self (sz := s.heap.size)
  generalize hAe : va_A [(h0, .inr (6, [.ref aC, .ref g0, .ref sd, .ref mW, .long mt, .int lf, .ref mV, .ref mA, .ref mT])), (aC, .inr (1, [.ref aR, .ref aB, .ref aP, .int nb, .int np])), (aB, .inl (cI, 24, .inl fb)), (aP, .inl (cI, 20, .inl fp)), (g0, .inr (7, [.ref gY, .ref gF, .ref gP, .int gpn, .int glt, .int gsh, .int gwd, .int gpu, .int gmo])), (gY, .inl (cI, 6, .inl gfY)), (gF, .inl (cI, 5, .inl gfF)), (gP, .inl (cI, 80, .inl gfP)), (sd, .inr (8, [.ref w1, .ref w2, .ref aC, .ref g0, .ref aL, .ref aK, .null])), (mV, .inl (cI, 10, .inl fV)), (mT, .inl (cI, 45, .inl fT))] s.heap.size = A at hD hV ⊢
  have hA : ∀ q : Nat, s.heap.size ≤ q → A q := fun q h => by rw [← hAe]; exact Or.inr h
  have hl := lv_entry ([.ref h0, .int p0, .int p1, .int p2]) (n := 7) (Nat.le_of_ble_eq_true rfl)
  rw [show entryFrame m args 7 = entryFrame m ([.ref h0, .int p0, .int p1, .int p2] : List Value).toArray 7 by rw [hargs], lg_entry_eq]
  generalize (lg_sl ([.ref h0, .int p0, .int p1, .int p2]) ++ List.replicate (7 - (lg_sl ([.ref h0, .int p0, .int p1, .int p2])).length) Slot.unset).toArray = ls at hl ⊢
  have hl : lv_has ls 7 [(0, .ref h0), (1, .int p0), (2, .int p1), (3, .int p2)] := hl
  refine zstart (fun H hH => ?_)
  rw [← hH] at hP
  have hS : va_S A s.heap H [] := by rw [hH]; exact va_S.rf
  generalize ([] : List Loc) = locs at hS ⊢
  refine zgen (fun R Q hR hQ => ?_)
  refine lv_iconst (v := 0) hx hb dX6_addTeller_0 (by decide) ?_
  have J3 : ∀ (n : Nat) (m3_A_mV : Nat → Int32) (m3_L_4 : Int32), (0 ≤ m3_L_4.toInt ∧ m3_L_4.toInt ≤ 10) → (∀ (kc : zK3) (kT : zT) (q_fr : Nat → Int32), zCn q_fr fb fp nb.toInt np.toInt kc → zKo nb.toInt np.toInt kc kT → zSc nb.toInt np.toInt kT.1 gfY gfF gfP gpn glt gsh gwd gpu gmo → (0 ≤ p0.toInt ∧ p0.toInt < np.toInt) → (0 ≤ p1.toInt ∧ p1.toInt < nb.toInt) → p2 = zFit (cBt kT.1.2.2.1.1 p1) (cBt kT.1.2.2.1.2.1 p1) (kc.2.1 (4 * p1.toInt.toNat)) → ∀ j : Nat, (j : Int) < m3_L_4.toInt → m3_A_mV j = (fun j => sShow kc kT.1 none p0 p1 (Int32.ofNat j)) j) → (11 - m3_L_4.toInt).toNat = n → ∀ (H : Heap) (locs : List Loc) (ls : Array Slot), va_P (dC, dI) vwCl [(h0, .inr (6, [.ref aC, .ref g0, .ref sd, .ref mW, .long mt, .int lf, .ref mV, .ref mA, .ref mT])), (aC, .inr (1, [.ref aR, .ref aB, .ref aP, .int nb, .int np])), (aB, .inl (cI, 24, .inl fb)), (aP, .inl (cI, 20, .inl fp)), (g0, .inr (7, [.ref gY, .ref gF, .ref gP, .int gpn, .int glt, .int gsh, .int gwd, .int gpu, .int gmo])), (gY, .inl (cI, 6, .inl gfY)), (gF, .inl (cI, 5, .inl gfF)), (gP, .inl (cI, 80, .inl gfP)), (sd, .inr (8, [.ref w1, .ref w2, .ref aC, .ref g0, .ref aL, .ref aK, .null])), (mV, .inl (cI, 10, .inl m3_A_mV)), (mT, .inl (cI, 45, .inl fT))] H → va_D A [(h0, .inr (6, [.ref aC, .ref g0, .ref sd, .ref mW, .long mt, .int lf, .ref mV, .ref mA, .ref mT])), (aC, .inr (1, [.ref aR, .ref aB, .ref aP, .int nb, .int np])), (aB, .inl (cI, 24, .inl fb)), (aP, .inl (cI, 20, .inl fp)), (g0, .inr (7, [.ref gY, .ref gF, .ref gP, .int gpn, .int glt, .int gsh, .int gwd, .int gpu, .int gmo])), (gY, .inl (cI, 6, .inl gfY)), (gF, .inl (cI, 5, .inl gfF)), (gP, .inl (cI, 80, .inl gfP)), (sd, .inr (8, [.ref w1, .ref w2, .ref aC, .ref g0, .ref aL, .ref aK, .null])), (mV, .inl (cI, 10, .inl m3_A_mV)), (mT, .inl (cI, 45, .inl fT))] → va_S A s.heap H locs → lv_has ls 7 [(4, .int m3_L_4), (0, .ref h0), (1, .int p0), (2, .int p1), (3, .int p2)] → W p l e R s m args below meth c H locs 0 0 Q (F0 m 3 ls []) := by
    intro n3
    induction n3 using Nat.strongRecOn with
    | _ n3 ih3 =>
      intro m3_A_mV m3_L_4 jf3_0 jv3_0 hmu3 H locs ls hP hD hS hl
      refine lv_iload hx hb dX6_addTeller_3 (lv_at hl 0 rfl) ?_
      refine lv_bipush (v := 10) hx hb dX6_addTeller_5 (by decide) ?_
      refine lv_icmp_ge (tgt := 34) hx hb dX6_addTeller_7 (by decide) (fun c7 => ?_) (fun c7 => ?_)
      · have c7 : 10 ≤ m3_L_4.toInt := z3 (by decide) rfl c7
        refine lv_iconst (v := 0) hx hb dX6_addTeller_34 (by decide) ?_
        refine lv_istore (lv' := [(4, .int 0), (0, .ref h0), (1, .int p0), (2, .int p1), (3, .int p2)]) hx hb dX6_addTeller_35 hl (by decide) rfl (fun ls hl => ?_)
        refine lv_iconst (v := 0) hx hb dX6_addTeller_37 (by decide) ?_
        have J40 : ∀ (n : Nat) (m40_A_mT : Nat → Int32) (m40_L_4 : Int32) (m40_L_5 : Int32), (0 ≤ m40_L_4.toInt ∧ m40_L_4.toInt ≤ 45) → (0 ≤ m40_L_5.toInt ∧ m40_L_5.toInt ≤ 10) → (m40_L_4.toInt ≤ (ztri m40_L_5.toInt.toNat : Int) ∧ 0 ≤ m40_L_4.toInt) → (∀ (kc : zK3) (kT : zT) (q_fr : Nat → Int32), zCn q_fr fb fp nb.toInt np.toInt kc → zKo nb.toInt np.toInt kc kT → zSc nb.toInt np.toInt kT.1 gfY gfF gfP gpn glt gsh gwd gpu gmo → (0 ≤ p0.toInt ∧ p0.toInt < np.toInt) → (0 ≤ p1.toInt ∧ p1.toInt < nb.toInt) → p2 = zFit (cBt kT.1.2.2.1.1 p1) (cBt kT.1.2.2.1.2.1 p1) (kc.2.1 (4 * p1.toInt.toNat)) → aNt (aPr.filter (sPf kc kT.1 p1)) (sDb kc kT.1 none p1 p0.toInt.toNat) fT m40_A_mT (1 <<< (p0 &&& 31)) m40_L_4.toInt.toNat ∧ zNp (sPf kc kT.1 p1) (ztri m40_L_5.toInt.toNat) m40_L_4) → (11 - m40_L_5.toInt).toNat = n → ∀ (H : Heap) (locs : List Loc) (ls : Array Slot), va_P (dC, dI) vwCl [(h0, .inr (6, [.ref aC, .ref g0, .ref sd, .ref mW, .long mt, .int lf, .ref mV, .ref mA, .ref mT])), (aC, .inr (1, [.ref aR, .ref aB, .ref aP, .int nb, .int np])), (aB, .inl (cI, 24, .inl fb)), (aP, .inl (cI, 20, .inl fp)), (g0, .inr (7, [.ref gY, .ref gF, .ref gP, .int gpn, .int glt, .int gsh, .int gwd, .int gpu, .int gmo])), (gY, .inl (cI, 6, .inl gfY)), (gF, .inl (cI, 5, .inl gfF)), (gP, .inl (cI, 80, .inl gfP)), (sd, .inr (8, [.ref w1, .ref w2, .ref aC, .ref g0, .ref aL, .ref aK, .null])), (mV, .inl (cI, 10, .inl m3_A_mV)), (mT, .inl (cI, 45, .inl m40_A_mT))] H → va_D A [(h0, .inr (6, [.ref aC, .ref g0, .ref sd, .ref mW, .long mt, .int lf, .ref mV, .ref mA, .ref mT])), (aC, .inr (1, [.ref aR, .ref aB, .ref aP, .int nb, .int np])), (aB, .inl (cI, 24, .inl fb)), (aP, .inl (cI, 20, .inl fp)), (g0, .inr (7, [.ref gY, .ref gF, .ref gP, .int gpn, .int glt, .int gsh, .int gwd, .int gpu, .int gmo])), (gY, .inl (cI, 6, .inl gfY)), (gF, .inl (cI, 5, .inl gfF)), (gP, .inl (cI, 80, .inl gfP)), (sd, .inr (8, [.ref w1, .ref w2, .ref aC, .ref g0, .ref aL, .ref aK, .null])), (mV, .inl (cI, 10, .inl m3_A_mV)), (mT, .inl (cI, 45, .inl m40_A_mT))] → va_S A s.heap H locs → lv_has ls 7 [(5, .int m40_L_5), (4, .int m40_L_4), (0, .ref h0), (1, .int p0), (2, .int p1), (3, .int p2)] → W p l e R s m args below meth c H locs 0 0 Q (F0 m 40 ls []) := by
          intro n40
          induction n40 using Nat.strongRecOn with
          | _ n40 ih40 =>
            intro m40_A_mT m40_L_4 m40_L_5 jf40_0 jf40_1 jf40_2 jv40_0 hmu40 H locs ls hP hD hS hl
            refine lv_iload hx hb dX6_addTeller_40 (lv_at hl 0 rfl) ?_
            refine lv_bipush (v := 10) hx hb dX6_addTeller_42 (by decide) ?_
            refine lv_icmp_ge (tgt := 126) hx hb dX6_addTeller_44 (by decide) (fun c44 => ?_) (fun c44 => ?_)
            · have c44 : 10 ≤ m40_L_5.toInt := z3 (by decide) rfl c44
              have q126 : m40_L_4.toInt ≤ 45 := ztri_10 (a := m40_L_5) (by omega) (by omega)
              refine lv_iload hx hb dX6_addTeller_126 (lv_at hl 1 rfl) ?_
              rw [hQ]
              exact W.iret (v := m40_L_4) hx hb hr (fun t ht hW => ⟨⟨m40_L_4, (m3_A_mV, m40_A_mT), rfl, ⟨by (try dsimp only); omega, by (try dsimp only); omega, fun kc kT q_fr hc hb h hp hq hf => by have JJ := (jv40_0 kc kT _ hc hb h hp hq hf); have tz : ztri m40_L_5.toInt.toNat = 45 := (by rw [show m40_L_5.toInt.toNat = 10 by omega]; rfl); rw [tz] at JJ; exact ⟨zNp45 JJ.2, JJ.1⟩⟩, ⟨by rw [ht]; exact hP, hD⟩⟩, hS.F ht⟩) hS.2.2 dX6_addTeller_128
            · have c44 : m40_L_5.toInt < 10 := z4 (by decide) rfl c44
              refine lv_iload hx hb dX6_addTeller_47 (lv_at hl 0 rfl) ?_
              refine lv_iconst (v := 1) hx hb dX6_addTeller_49 (by decide) ?_
              refine lv_iadd hx hb dX6_addTeller_50 ?_
              refine lv_topi (fun v50 e50 => ?_)
              have i50 : v50.toInt = m40_L_5.toInt + 1 := zadd e50 rfl (by decide) (by omega) (by omega)
              have J53 : ∀ (n : Nat) (m53_A_mT : Nat → Int32) (m53_L_4 : Int32) (m53_L_6 : Int32), (0 ≤ m53_L_4.toInt ∧ m53_L_4.toInt ≤ 45) → (1 ≤ m53_L_6.toInt ∧ m53_L_6.toInt ≤ 10) → (m53_L_4.toInt ≤ (ztri m40_L_5.toInt.toNat : Int) + (m53_L_6.toInt - m40_L_5.toInt - 1) ∧ 0 ≤ m53_L_4.toInt ∧ m40_L_5.toInt + 1 ≤ m53_L_6.toInt) → (∀ (kc : zK3) (kT : zT) (q_fr : Nat → Int32), zCn q_fr fb fp nb.toInt np.toInt kc → zKo nb.toInt np.toInt kc kT → zSc nb.toInt np.toInt kT.1 gfY gfF gfP gpn glt gsh gwd gpu gmo → (0 ≤ p0.toInt ∧ p0.toInt < np.toInt) → (0 ≤ p1.toInt ∧ p1.toInt < nb.toInt) → p2 = zFit (cBt kT.1.2.2.1.1 p1) (cBt kT.1.2.2.1.2.1 p1) (kc.2.1 (4 * p1.toInt.toNat)) → aNt (aPr.filter (sPf kc kT.1 p1)) (sDb kc kT.1 none p1 p0.toInt.toNat) fT m53_A_mT (1 <<< (p0 &&& 31)) m53_L_4.toInt.toNat ∧ zNp (sPf kc kT.1 p1) (zTn m40_L_5 m53_L_6) m53_L_4) → (11 - m53_L_6.toInt).toNat = n → ∀ (H : Heap) (locs : List Loc) (ls : Array Slot), va_P (dC, dI) vwCl [(h0, .inr (6, [.ref aC, .ref g0, .ref sd, .ref mW, .long mt, .int lf, .ref mV, .ref mA, .ref mT])), (aC, .inr (1, [.ref aR, .ref aB, .ref aP, .int nb, .int np])), (aB, .inl (cI, 24, .inl fb)), (aP, .inl (cI, 20, .inl fp)), (g0, .inr (7, [.ref gY, .ref gF, .ref gP, .int gpn, .int glt, .int gsh, .int gwd, .int gpu, .int gmo])), (gY, .inl (cI, 6, .inl gfY)), (gF, .inl (cI, 5, .inl gfF)), (gP, .inl (cI, 80, .inl gfP)), (sd, .inr (8, [.ref w1, .ref w2, .ref aC, .ref g0, .ref aL, .ref aK, .null])), (mV, .inl (cI, 10, .inl m3_A_mV)), (mT, .inl (cI, 45, .inl m53_A_mT))] H → va_D A [(h0, .inr (6, [.ref aC, .ref g0, .ref sd, .ref mW, .long mt, .int lf, .ref mV, .ref mA, .ref mT])), (aC, .inr (1, [.ref aR, .ref aB, .ref aP, .int nb, .int np])), (aB, .inl (cI, 24, .inl fb)), (aP, .inl (cI, 20, .inl fp)), (g0, .inr (7, [.ref gY, .ref gF, .ref gP, .int gpn, .int glt, .int gsh, .int gwd, .int gpu, .int gmo])), (gY, .inl (cI, 6, .inl gfY)), (gF, .inl (cI, 5, .inl gfF)), (gP, .inl (cI, 80, .inl gfP)), (sd, .inr (8, [.ref w1, .ref w2, .ref aC, .ref g0, .ref aL, .ref aK, .null])), (mV, .inl (cI, 10, .inl m3_A_mV)), (mT, .inl (cI, 45, .inl m53_A_mT))] → va_S A s.heap H locs → lv_has ls 7 [(6, .int m53_L_6), (5, .int m40_L_5), (4, .int m53_L_4), (0, .ref h0), (1, .int p0), (2, .int p1), (3, .int p2)] → W p l e R s m args below meth c H locs 0 0 Q (F0 m 53 ls []) := by
                intro n53
                induction n53 using Nat.strongRecOn with
                | _ n53 ih53 =>
                  intro m53_A_mT m53_L_4 m53_L_6 jf53_0 jf53_1 jf53_2 jv53_0 hmu53 H locs ls hP hD hS hl
                  refine lv_iload hx hb dX6_addTeller_53 (lv_at hl 0 rfl) ?_
                  refine lv_bipush (v := 10) hx hb dX6_addTeller_55 (by decide) ?_
                  refine lv_icmp_ge (tgt := 120) hx hb dX6_addTeller_57 (by decide) (fun c57 => ?_) (fun c57 => ?_)
                  · have c57 : 10 ≤ m53_L_6.toInt := z3 (by decide) rfl c57
                    obtain ⟨v120, e120⟩ : ∃ y : Int32, y = m40_L_5 + Int32.ofInt (1) := ⟨_, rfl⟩
                    refine lv_iinc (v := v120) (lv' := [(5, .int v120), (6, .int m53_L_6), (4, .int m53_L_4), (0, .ref h0), (1, .int p0), (2, .int p1), (3, .int p2)]) hx hb dX6_addTeller_120 hl (k := 1) rfl e120.symm (by decide) rfl (fun ls hl => ?_)
                    have i120 : v120.toInt = m40_L_5.toInt + 1 := zaddI e120 (by decide) (by omega) (by omega)
                    have q123 := ztri_s (a := m40_L_5) (b := v120) (by omega) (by omega)
                    refine lv_goto (tgt := 40) hx hb dX6_addTeller_123 (by decide) ?_
                    exact ih40 _ (by omega) m53_A_mT m53_L_4 v120 jf53_0 (by omega) (by omega) (fun kc kT q_fr hc hb h hp hq hf => by have j := (jv53_0 kc kT _ hc hb h hp hq hf); rw [show zTn m40_L_5 m53_L_6 = ztri v120.toInt.toNat by unfold zTn; omega] at j; exact j) rfl H locs ls hP hD hS (lv_sub hl [0, 2, 3, 4, 5, 6] rfl)
                  · have c57 : m53_L_6.toInt < 10 := z4 (by decide) rfl c57
                    refine lv_iload_n hx hb dX6_addTeller_60 rfl (lv_at hl 6 rfl) ?_
                    refine lv_iload hx hb dX6_addTeller_61 (lv_at hl 1 rfl) ?_
                    have hPc : va_P (dC, dI) vwCl [] H := zP0
                    have hDc : va_D (fun _ => True) [] := zD0
                    have hFc := zfr hS hA
                    refine va_calli (va_runSN (As := [.int p2, .int m40_L_5]) (rest := []) ⟨hx, hb, hml, hown, hts⟩ (g_X10_bit l dC dI cI cJ p2 m40_L_5 H.size) ⟨va_cnB 2 hts (zgI qw454) rfl rfl rfl hV.1 (hts _ qw98) (hd_X10_bit).2 ⟨by rw [hR]; exact Nat.le_of_ble_eq_true rfl, by rw [hR]; exact Nat.le_of_ble_eq_true rfl⟩, hts _ qw453, trivial⟩ (zPS hPc hK hDc) rfl rfl hl.1 rfl (lv_room (Nat.le_of_ble_eq_true rfl)) dX6_addTeller_63 ⟨Nat.zero_le _, Nat.zero_le _⟩) hS (fun q _ h => hFc q h) hFc (fun v63 u63 t H locs ht hvm hw hB hz1 hk1 hS9 => ?_)
                    replace hP := zkeep hP hk1
                    replace hS := hS9
                    clear hPc hDc hFc hk1 hz1 hvm hS9
                    obtain ⟨f63_0, f63_1, f63_2⟩ : (0 ≤ v63.toInt) ∧ (v63.toInt ≤ 1) ∧ (v63 = cBt p2 m40_L_5) := hw
                    have F63 := f63_2
                    refine lv_if_eq (tgt := 114) hx hb dX6_addTeller_66 (by decide) (fun c66 => ?_) (fun c66 => ?_)
                    · have c66 : v63.toInt = 0 := z5 rfl (by decide) c66
                      obtain ⟨v114, e114⟩ : ∃ y : Int32, y = m53_L_6 + Int32.ofInt (1) := ⟨_, rfl⟩
                      refine lv_iinc (v := v114) (lv' := [(6, .int v114), (5, .int m40_L_5), (4, .int m53_L_4), (0, .ref h0), (1, .int p0), (2, .int p1), (3, .int p2)]) hx hb dX6_addTeller_114 hl (k := 0) rfl e114.symm (by decide) rfl (fun ls hl => ?_)
                      have i114 : v114.toInt = m53_L_6.toInt + 1 := zaddI e114 (by decide) (by omega) (by omega)
                      refine lv_goto (tgt := 53) hx hb dX6_addTeller_117 (by decide) ?_
                      exact ih53 _ (by omega) m53_A_mT m53_L_4 v114 jf53_0 (by omega) (by omega) (fun kc kT q_fr hc hb h hp hq hf => by have JJ := (jv53_0 kc kT _ hc hb h hp hq hf); rw [show zTn m40_L_5 v114 = zTn m40_L_5 m53_L_6 + 1 by unfold zTn; omega]; first | (have z63 := congrArg Int32.toInt F63; have z72 := congrArg Int32.toInt F72; have fy := (sPf_t (c := kc) (S := kT.1) (b := p1) (f := m40_L_5) (g := m53_L_6) hf (by omega) (by omega)).mpr ⟨by omega, by omega⟩; have y87 : v87 = sShow kc kT.1 none p0 p1 m40_L_5 := (zIxN (n := m40_L_5.toInt.toNat) e87 (by omega)).trans (((jv3_0 kc kT _ hc hb h hp hq hf) _ (by omega)).trans (by show sShow _ _ _ _ _ (Int32.ofNat m40_L_5.toInt.toNat) = _; rw [← zk32 (show 0 ≤ m40_L_5.toInt by omega)])); have y94 : v94 = sShow kc kT.1 none p0 p1 m53_L_6 := (zIxN (n := m53_L_6.toInt.toNat) e94 (by omega)).trans (((jv3_0 kc kT _ hc hb h hp hq hf) _ (by omega)).trans (by show sShow _ _ _ _ _ (Int32.ofNat m53_L_6.toInt.toNat) = _; rw [← zk32 (show 0 ≤ m53_L_6.toInt by omega)])); have db := sDb_t (c := kc) (S := kT.1) (lw := none) (b := p1) (p := p0) (f := m40_L_5) (g := m53_L_6) (by omega) (by omega) (by omega) y87 y94; exact aNtY JJ.1 JJ.2 (zTn_i (f := m40_L_5) (g := m53_L_6) (by omega) (by omega) (by omega)) fy (db.mpr (by omega)) e105 (e109.trans (by rw [e108])) e110 i111 (by omega) (by omega)) | (have z63 := congrArg Int32.toInt F63; have z72 := congrArg Int32.toInt F72; have fy := (sPf_t (c := kc) (S := kT.1) (b := p1) (f := m40_L_5) (g := m53_L_6) hf (by omega) (by omega)).mpr ⟨by omega, by omega⟩; have y87 : v87 = sShow kc kT.1 none p0 p1 m40_L_5 := (zIxN (n := m40_L_5.toInt.toNat) e87 (by omega)).trans (((jv3_0 kc kT _ hc hb h hp hq hf) _ (by omega)).trans (by show sShow _ _ _ _ _ (Int32.ofNat m40_L_5.toInt.toNat) = _; rw [← zk32 (show 0 ≤ m40_L_5.toInt by omega)])); have y94 : v94 = sShow kc kT.1 none p0 p1 m53_L_6 := (zIxN (n := m53_L_6.toInt.toNat) e94 (by omega)).trans (((jv3_0 kc kT _ hc hb h hp hq hf) _ (by omega)).trans (by show sShow _ _ _ _ _ (Int32.ofNat m53_L_6.toInt.toNat) = _; rw [← zk32 (show 0 ≤ m53_L_6.toInt by omega)])); have db := sDb_t (c := kc) (S := kT.1) (lw := none) (b := p1) (p := p0) (f := m40_L_5) (g := m53_L_6) (by omega) (by omega) (by omega) y87 y94; exact aNtS JJ.1 JJ.2 (zTn_i (f := m40_L_5) (g := m53_L_6) (by omega) (by omega) (by omega)) fy (Bool.eq_false_iff.mpr (fun z => absurd (db.mp z) (by omega))) i111) | (have z63 := congrArg Int32.toInt F63; have z72 := congrArg Int32.toInt F72; have fn : sPf kc kT.1 p1 (m40_L_5.toInt.toNat, m53_L_6.toInt.toNat) = false := (Bool.eq_false_iff.mpr (fun z => by have w := ((sPf_t (c := kc) (S := kT.1) (b := p1) (f := m40_L_5) (g := m53_L_6) hf (by omega) (by omega)).mp z); omega)); exact ⟨JJ.1, aNtN JJ.1 JJ.2 (zTn_i (f := m40_L_5) (g := m53_L_6) (by omega) (by omega) (by omega)) fn⟩) | (have z63 := congrArg Int32.toInt F63; have fn : sPf kc kT.1 p1 (m40_L_5.toInt.toNat, m53_L_6.toInt.toNat) = false := (Bool.eq_false_iff.mpr (fun z => by have w := ((sPf_t (c := kc) (S := kT.1) (b := p1) (f := m40_L_5) (g := m53_L_6) hf (by omega) (by omega)).mp z); omega)); exact ⟨JJ.1, aNtN JJ.1 JJ.2 (zTn_i (f := m40_L_5) (g := m53_L_6) (by omega) (by omega) (by omega)) fn⟩)) rfl H locs ls hP hD hS (lv_sub hl [0, 1, 2, 3, 4, 5, 6] rfl)
                    · have c66 : ¬ v63.toInt = 0 := z6 rfl (by decide) c66
                      refine lv_iload_n hx hb dX6_addTeller_69 rfl (lv_at hl 6 rfl) ?_
                      refine lv_iload hx hb dX6_addTeller_70 (lv_at hl 0 rfl) ?_
                      have hPc : va_P (dC, dI) vwCl [] H := zP0
                      have hDc : va_D (fun _ => True) [] := zD0
                      have hFc := zfr hS hA
                      refine va_calli (va_runSN (As := [.int p2, .int m53_L_6]) (rest := []) ⟨hx, hb, hml, hown, hts⟩ (g_X10_bit l dC dI cI cJ p2 m53_L_6 H.size) ⟨va_cnB 2 hts (zgI qw454) rfl rfl rfl hV.1 (hts _ qw98) (hd_X10_bit).2 ⟨by rw [hR]; exact Nat.le_of_ble_eq_true rfl, by rw [hR]; exact Nat.le_of_ble_eq_true rfl⟩, hts _ qw453, trivial⟩ (zPS hPc hK hDc) rfl rfl hl.1 rfl (lv_room (Nat.le_of_ble_eq_true rfl)) dX6_addTeller_72 ⟨Nat.zero_le _, Nat.zero_le _⟩) hS (fun q _ h => hFc q h) hFc (fun v72 u72 t H locs ht hvm hw hB hz1 hk1 hS9 => ?_)
                      replace hP := zkeep hP hk1
                      replace hS := hS9
                      clear hPc hDc hFc hk1 hz1 hvm hS9
                      obtain ⟨f72_0, f72_1, f72_2⟩ : (0 ≤ v72.toInt) ∧ (v72.toInt ≤ 1) ∧ (v72 = cBt p2 m53_L_6) := hw
                      have F72 := f72_2
                      refine lv_if_ne (tgt := 81) hx hb dX6_addTeller_75 (by decide) (fun c75 => ?_) (fun c75 => ?_)
                      · have c75 : ¬ v72.toInt = 0 := z6 rfl (by decide) c75
                        refine lv_aload_n hx hb dX6_addTeller_81 rfl (lv_at hl 3 rfl) ?_
                        refine va_get (D := (dC, dI)) (ci := 6) (v := .ref mV) (C := RX6) (T := TX6) (N := 9) hx hb hts iX6 hown hK hP 0 rfl rfl 6 (by decide) (hts _ qw323) (fun _ h9 => h9) rfl dX6_addTeller_82 ?_
                        refine lv_iload hx hb dX6_addTeller_85 (lv_at hl 1 rfl) ?_
                        refine va_iald hx hb hK hP 9 0 rfl rfl (vp_in_iff.mpr ⟨by omega, by omega⟩) dX6_addTeller_87 ?_
                        refine lv_topi (fun v87 e87 => ?_)
                        refine lv_aload_n hx hb dX6_addTeller_88 rfl (lv_at hl 3 rfl) ?_
                        refine va_get (D := (dC, dI)) (ci := 6) (v := .ref mV) (C := RX6) (T := TX6) (N := 9) hx hb hts iX6 hown hK hP 0 rfl rfl 6 (by decide) (hts _ qw323) (fun _ h9 => h9) rfl dX6_addTeller_89 ?_
                        refine lv_iload hx hb dX6_addTeller_92 (lv_at hl 0 rfl) ?_
                        refine va_iald hx hb hK hP 9 0 rfl rfl (vp_in_iff.mpr ⟨by omega, by omega⟩) dX6_addTeller_94 ?_
                        refine lv_topi (fun v94 e94 => ?_)
                        refine lv_icmp_eq (tgt := 111) hx hb dX6_addTeller_95 (by decide) (fun c95 => ?_) (fun c95 => ?_)
                        · have c95 : v87.toInt = v94.toInt := z5 rfl rfl c95
                          have q111 := ztri_c m40_L_5.toInt.toNat (by omega)
                          obtain ⟨v111, e111⟩ : ∃ y : Int32, y = m53_L_4 + Int32.ofInt (1) := ⟨_, rfl⟩
                          refine lv_iinc (v := v111) (lv' := [(4, .int v111), (6, .int m53_L_6), (5, .int m40_L_5), (0, .ref h0), (1, .int p0), (2, .int p1), (3, .int p2)]) hx hb dX6_addTeller_111 hl (k := 2) rfl e111.symm (by decide) rfl (fun ls hl => ?_)
                          have i111 : v111.toInt = m53_L_4.toInt + 1 := zaddI e111 (by decide) (by omega) (by omega)
                          obtain ⟨v114, e114⟩ : ∃ y : Int32, y = m53_L_6 + Int32.ofInt (1) := ⟨_, rfl⟩
                          refine lv_iinc (v := v114) (lv' := [(6, .int v114), (4, .int v111), (5, .int m40_L_5), (0, .ref h0), (1, .int p0), (2, .int p1), (3, .int p2)]) hx hb dX6_addTeller_114 hl (k := 1) rfl e114.symm (by decide) rfl (fun ls hl => ?_)
                          have i114 : v114.toInt = m53_L_6.toInt + 1 := zaddI e114 (by decide) (by omega) (by omega)
                          refine lv_goto (tgt := 53) hx hb dX6_addTeller_117 (by decide) ?_
                          exact ih53 _ (by omega) m53_A_mT v111 v114 (by omega) (by omega) (by omega) (fun kc kT q_fr hc hb h hp hq hf => by have JJ := (jv53_0 kc kT _ hc hb h hp hq hf); rw [show zTn m40_L_5 v114 = zTn m40_L_5 m53_L_6 + 1 by unfold zTn; omega]; first | (have z63 := congrArg Int32.toInt F63; have z72 := congrArg Int32.toInt F72; have fy := (sPf_t (c := kc) (S := kT.1) (b := p1) (f := m40_L_5) (g := m53_L_6) hf (by omega) (by omega)).mpr ⟨by omega, by omega⟩; have y87 : v87 = sShow kc kT.1 none p0 p1 m40_L_5 := (zIxN (n := m40_L_5.toInt.toNat) e87 (by omega)).trans (((jv3_0 kc kT _ hc hb h hp hq hf) _ (by omega)).trans (by show sShow _ _ _ _ _ (Int32.ofNat m40_L_5.toInt.toNat) = _; rw [← zk32 (show 0 ≤ m40_L_5.toInt by omega)])); have y94 : v94 = sShow kc kT.1 none p0 p1 m53_L_6 := (zIxN (n := m53_L_6.toInt.toNat) e94 (by omega)).trans (((jv3_0 kc kT _ hc hb h hp hq hf) _ (by omega)).trans (by show sShow _ _ _ _ _ (Int32.ofNat m53_L_6.toInt.toNat) = _; rw [← zk32 (show 0 ≤ m53_L_6.toInt by omega)])); have db := sDb_t (c := kc) (S := kT.1) (lw := none) (b := p1) (p := p0) (f := m40_L_5) (g := m53_L_6) (by omega) (by omega) (by omega) y87 y94; exact aNtY JJ.1 JJ.2 (zTn_i (f := m40_L_5) (g := m53_L_6) (by omega) (by omega) (by omega)) fy (db.mpr (by omega)) e105 (e109.trans (by rw [e108])) e110 i111 (by omega) (by omega)) | (have z63 := congrArg Int32.toInt F63; have z72 := congrArg Int32.toInt F72; have fy := (sPf_t (c := kc) (S := kT.1) (b := p1) (f := m40_L_5) (g := m53_L_6) hf (by omega) (by omega)).mpr ⟨by omega, by omega⟩; have y87 : v87 = sShow kc kT.1 none p0 p1 m40_L_5 := (zIxN (n := m40_L_5.toInt.toNat) e87 (by omega)).trans (((jv3_0 kc kT _ hc hb h hp hq hf) _ (by omega)).trans (by show sShow _ _ _ _ _ (Int32.ofNat m40_L_5.toInt.toNat) = _; rw [← zk32 (show 0 ≤ m40_L_5.toInt by omega)])); have y94 : v94 = sShow kc kT.1 none p0 p1 m53_L_6 := (zIxN (n := m53_L_6.toInt.toNat) e94 (by omega)).trans (((jv3_0 kc kT _ hc hb h hp hq hf) _ (by omega)).trans (by show sShow _ _ _ _ _ (Int32.ofNat m53_L_6.toInt.toNat) = _; rw [← zk32 (show 0 ≤ m53_L_6.toInt by omega)])); have db := sDb_t (c := kc) (S := kT.1) (lw := none) (b := p1) (p := p0) (f := m40_L_5) (g := m53_L_6) (by omega) (by omega) (by omega) y87 y94; exact aNtS JJ.1 JJ.2 (zTn_i (f := m40_L_5) (g := m53_L_6) (by omega) (by omega) (by omega)) fy (Bool.eq_false_iff.mpr (fun z => absurd (db.mp z) (by omega))) i111) | (have z63 := congrArg Int32.toInt F63; have z72 := congrArg Int32.toInt F72; have fn : sPf kc kT.1 p1 (m40_L_5.toInt.toNat, m53_L_6.toInt.toNat) = false := (Bool.eq_false_iff.mpr (fun z => by have w := ((sPf_t (c := kc) (S := kT.1) (b := p1) (f := m40_L_5) (g := m53_L_6) hf (by omega) (by omega)).mp z); omega)); exact ⟨JJ.1, aNtN JJ.1 JJ.2 (zTn_i (f := m40_L_5) (g := m53_L_6) (by omega) (by omega) (by omega)) fn⟩) | (have z63 := congrArg Int32.toInt F63; have fn : sPf kc kT.1 p1 (m40_L_5.toInt.toNat, m53_L_6.toInt.toNat) = false := (Bool.eq_false_iff.mpr (fun z => by have w := ((sPf_t (c := kc) (S := kT.1) (b := p1) (f := m40_L_5) (g := m53_L_6) hf (by omega) (by omega)).mp z); omega)); exact ⟨JJ.1, aNtN JJ.1 JJ.2 (zTn_i (f := m40_L_5) (g := m53_L_6) (by omega) (by omega) (by omega)) fn⟩)) rfl H locs ls hP hD hS (lv_sub hl [0, 2, 1, 3, 4, 5, 6] rfl)
                        · have c95 : ¬ v87.toInt = v94.toInt := z6 rfl rfl c95
                          refine lv_aload_n hx hb dX6_addTeller_98 rfl (lv_at hl 3 rfl) ?_
                          refine va_get (D := (dC, dI)) (ci := 6) (v := .ref mT) (C := RX6) (T := TX6) (N := 9) hx hb hts iX6 hown hK hP 0 rfl rfl 8 (by decide) (hts _ qw325) (fun _ h9 => h9) rfl dX6_addTeller_99 ?_
                          have q102 := ztri_c m40_L_5.toInt.toNat (by omega)
                          refine lv_iload hx hb dX6_addTeller_102 (lv_at hl 2 rfl) ?_
                          refine lv_dup2_11 hx hb dX6_addTeller_104 rfl rfl ?_
                          refine va_iald hx hb hK hP 10 0 rfl rfl (vp_in_iff.mpr ⟨by omega, by omega⟩) dX6_addTeller_105 ?_
                          refine lv_topi (fun v105 e105 => ?_)
                          refine lv_iconst (v := 1) hx hb dX6_addTeller_106 (by decide) ?_
                          refine lv_iload_n hx hb dX6_addTeller_107 rfl (lv_at hl 4 rfl) ?_
                          refine lv_ishl hx hb dX6_addTeller_108 ?_
                          refine lv_topi (fun v108 e108 => ?_)
                          have i108 : 1 ≤ v108.toInt ∧ v108.toInt ≤ 32 := zshl1 e108 (by omega) (by omega)
                          refine lv_ior hx hb dX6_addTeller_109 ?_
                          refine lv_topi (fun v109 e109 => ?_)
                          refine va_iast hx hb hK hP hD hS 10 0 rfl rfl (vp_in_iff.mpr ⟨by omega, by omega⟩) dX6_addTeller_110 (fun H locs hP9 hD9 hS9 => ?_)
                          clear hP hD hS
                          obtain ⟨v110_f, e110⟩ : ∃ g : Nat → Int32, g = upd m53_A_mT (m53_L_4).toNatClampNeg v109 := ⟨_, rfl⟩
                          rw [← e110] at hP9 hD9
                          obtain ⟨hP, hD⟩ := zst (wX := [(h0, .inr (6, [.ref aC, .ref g0, .ref sd, .ref mW, .long mt, .int lf, .ref mV, .ref mA, .ref mT])), (aC, .inr (1, [.ref aR, .ref aB, .ref aP, .int nb, .int np])), (aB, .inl (cI, 24, .inl fb)), (aP, .inl (cI, 20, .inl fp)), (g0, .inr (7, [.ref gY, .ref gF, .ref gP, .int gpn, .int glt, .int gsh, .int gwd, .int gpu, .int gmo])), (gY, .inl (cI, 6, .inl gfY)), (gF, .inl (cI, 5, .inl gfF)), (gP, .inl (cI, 80, .inl gfP)), (sd, .inr (8, [.ref w1, .ref w2, .ref aC, .ref g0, .ref aL, .ref aK, .null])), (mV, .inl (cI, 10, .inl m3_A_mV)), (mT, .inl (cI, 45, .inl v110_f))]) hP9 hD9 rfl
                          have hS := hS9
                          clear hP9 hD9 hS9
                          have q111 := ztri_c m40_L_5.toInt.toNat (by omega)
                          obtain ⟨v111, e111⟩ : ∃ y : Int32, y = m53_L_4 + Int32.ofInt (1) := ⟨_, rfl⟩
                          refine lv_iinc (v := v111) (lv' := [(4, .int v111), (6, .int m53_L_6), (5, .int m40_L_5), (0, .ref h0), (1, .int p0), (2, .int p1), (3, .int p2)]) hx hb dX6_addTeller_111 hl (k := 2) rfl e111.symm (by decide) rfl (fun ls hl => ?_)
                          have i111 : v111.toInt = m53_L_4.toInt + 1 := zaddI e111 (by decide) (by omega) (by omega)
                          obtain ⟨v114, e114⟩ : ∃ y : Int32, y = m53_L_6 + Int32.ofInt (1) := ⟨_, rfl⟩
                          refine lv_iinc (v := v114) (lv' := [(6, .int v114), (4, .int v111), (5, .int m40_L_5), (0, .ref h0), (1, .int p0), (2, .int p1), (3, .int p2)]) hx hb dX6_addTeller_114 hl (k := 1) rfl e114.symm (by decide) rfl (fun ls hl => ?_)
                          have i114 : v114.toInt = m53_L_6.toInt + 1 := zaddI e114 (by decide) (by omega) (by omega)
                          refine lv_goto (tgt := 53) hx hb dX6_addTeller_117 (by decide) ?_
                          exact ih53 _ (by omega) v110_f v111 v114 (by omega) (by omega) (by omega) (fun kc kT q_fr hc hb h hp hq hf => by have JJ := (jv53_0 kc kT _ hc hb h hp hq hf); rw [show zTn m40_L_5 v114 = zTn m40_L_5 m53_L_6 + 1 by unfold zTn; omega]; first | (have z63 := congrArg Int32.toInt F63; have z72 := congrArg Int32.toInt F72; have fy := (sPf_t (c := kc) (S := kT.1) (b := p1) (f := m40_L_5) (g := m53_L_6) hf (by omega) (by omega)).mpr ⟨by omega, by omega⟩; have y87 : v87 = sShow kc kT.1 none p0 p1 m40_L_5 := (zIxN (n := m40_L_5.toInt.toNat) e87 (by omega)).trans (((jv3_0 kc kT _ hc hb h hp hq hf) _ (by omega)).trans (by show sShow _ _ _ _ _ (Int32.ofNat m40_L_5.toInt.toNat) = _; rw [← zk32 (show 0 ≤ m40_L_5.toInt by omega)])); have y94 : v94 = sShow kc kT.1 none p0 p1 m53_L_6 := (zIxN (n := m53_L_6.toInt.toNat) e94 (by omega)).trans (((jv3_0 kc kT _ hc hb h hp hq hf) _ (by omega)).trans (by show sShow _ _ _ _ _ (Int32.ofNat m53_L_6.toInt.toNat) = _; rw [← zk32 (show 0 ≤ m53_L_6.toInt by omega)])); have db := sDb_t (c := kc) (S := kT.1) (lw := none) (b := p1) (p := p0) (f := m40_L_5) (g := m53_L_6) (by omega) (by omega) (by omega) y87 y94; exact aNtY JJ.1 JJ.2 (zTn_i (f := m40_L_5) (g := m53_L_6) (by omega) (by omega) (by omega)) fy (db.mpr (by omega)) e105 (e109.trans (by rw [e108])) e110 i111 (by omega) (by omega)) | (have z63 := congrArg Int32.toInt F63; have z72 := congrArg Int32.toInt F72; have fy := (sPf_t (c := kc) (S := kT.1) (b := p1) (f := m40_L_5) (g := m53_L_6) hf (by omega) (by omega)).mpr ⟨by omega, by omega⟩; have y87 : v87 = sShow kc kT.1 none p0 p1 m40_L_5 := (zIxN (n := m40_L_5.toInt.toNat) e87 (by omega)).trans (((jv3_0 kc kT _ hc hb h hp hq hf) _ (by omega)).trans (by show sShow _ _ _ _ _ (Int32.ofNat m40_L_5.toInt.toNat) = _; rw [← zk32 (show 0 ≤ m40_L_5.toInt by omega)])); have y94 : v94 = sShow kc kT.1 none p0 p1 m53_L_6 := (zIxN (n := m53_L_6.toInt.toNat) e94 (by omega)).trans (((jv3_0 kc kT _ hc hb h hp hq hf) _ (by omega)).trans (by show sShow _ _ _ _ _ (Int32.ofNat m53_L_6.toInt.toNat) = _; rw [← zk32 (show 0 ≤ m53_L_6.toInt by omega)])); have db := sDb_t (c := kc) (S := kT.1) (lw := none) (b := p1) (p := p0) (f := m40_L_5) (g := m53_L_6) (by omega) (by omega) (by omega) y87 y94; exact aNtS JJ.1 JJ.2 (zTn_i (f := m40_L_5) (g := m53_L_6) (by omega) (by omega) (by omega)) fy (Bool.eq_false_iff.mpr (fun z => absurd (db.mp z) (by omega))) i111) | (have z63 := congrArg Int32.toInt F63; have z72 := congrArg Int32.toInt F72; have fn : sPf kc kT.1 p1 (m40_L_5.toInt.toNat, m53_L_6.toInt.toNat) = false := (Bool.eq_false_iff.mpr (fun z => by have w := ((sPf_t (c := kc) (S := kT.1) (b := p1) (f := m40_L_5) (g := m53_L_6) hf (by omega) (by omega)).mp z); omega)); exact ⟨JJ.1, aNtN JJ.1 JJ.2 (zTn_i (f := m40_L_5) (g := m53_L_6) (by omega) (by omega) (by omega)) fn⟩) | (have z63 := congrArg Int32.toInt F63; have fn : sPf kc kT.1 p1 (m40_L_5.toInt.toNat, m53_L_6.toInt.toNat) = false := (Bool.eq_false_iff.mpr (fun z => by have w := ((sPf_t (c := kc) (S := kT.1) (b := p1) (f := m40_L_5) (g := m53_L_6) hf (by omega) (by omega)).mp z); omega)); exact ⟨JJ.1, aNtN JJ.1 JJ.2 (zTn_i (f := m40_L_5) (g := m53_L_6) (by omega) (by omega) (by omega)) fn⟩)) rfl H locs ls hP hD hS (lv_sub hl [0, 2, 1, 3, 4, 5, 6] rfl)
                      · have c75 : v72.toInt = 0 := z5 rfl (by decide) c75
                        refine lv_goto (tgt := 114) hx hb dX6_addTeller_78 (by decide) ?_
                        obtain ⟨v114, e114⟩ : ∃ y : Int32, y = m53_L_6 + Int32.ofInt (1) := ⟨_, rfl⟩
                        refine lv_iinc (v := v114) (lv' := [(6, .int v114), (5, .int m40_L_5), (4, .int m53_L_4), (0, .ref h0), (1, .int p0), (2, .int p1), (3, .int p2)]) hx hb dX6_addTeller_114 hl (k := 0) rfl e114.symm (by decide) rfl (fun ls hl => ?_)
                        have i114 : v114.toInt = m53_L_6.toInt + 1 := zaddI e114 (by decide) (by omega) (by omega)
                        refine lv_goto (tgt := 53) hx hb dX6_addTeller_117 (by decide) ?_
                        exact ih53 _ (by omega) m53_A_mT m53_L_4 v114 jf53_0 (by omega) (by omega) (fun kc kT q_fr hc hb h hp hq hf => by have JJ := (jv53_0 kc kT _ hc hb h hp hq hf); rw [show zTn m40_L_5 v114 = zTn m40_L_5 m53_L_6 + 1 by unfold zTn; omega]; first | (have z63 := congrArg Int32.toInt F63; have z72 := congrArg Int32.toInt F72; have fy := (sPf_t (c := kc) (S := kT.1) (b := p1) (f := m40_L_5) (g := m53_L_6) hf (by omega) (by omega)).mpr ⟨by omega, by omega⟩; have y87 : v87 = sShow kc kT.1 none p0 p1 m40_L_5 := (zIxN (n := m40_L_5.toInt.toNat) e87 (by omega)).trans (((jv3_0 kc kT _ hc hb h hp hq hf) _ (by omega)).trans (by show sShow _ _ _ _ _ (Int32.ofNat m40_L_5.toInt.toNat) = _; rw [← zk32 (show 0 ≤ m40_L_5.toInt by omega)])); have y94 : v94 = sShow kc kT.1 none p0 p1 m53_L_6 := (zIxN (n := m53_L_6.toInt.toNat) e94 (by omega)).trans (((jv3_0 kc kT _ hc hb h hp hq hf) _ (by omega)).trans (by show sShow _ _ _ _ _ (Int32.ofNat m53_L_6.toInt.toNat) = _; rw [← zk32 (show 0 ≤ m53_L_6.toInt by omega)])); have db := sDb_t (c := kc) (S := kT.1) (lw := none) (b := p1) (p := p0) (f := m40_L_5) (g := m53_L_6) (by omega) (by omega) (by omega) y87 y94; exact aNtY JJ.1 JJ.2 (zTn_i (f := m40_L_5) (g := m53_L_6) (by omega) (by omega) (by omega)) fy (db.mpr (by omega)) e105 (e109.trans (by rw [e108])) e110 i111 (by omega) (by omega)) | (have z63 := congrArg Int32.toInt F63; have z72 := congrArg Int32.toInt F72; have fy := (sPf_t (c := kc) (S := kT.1) (b := p1) (f := m40_L_5) (g := m53_L_6) hf (by omega) (by omega)).mpr ⟨by omega, by omega⟩; have y87 : v87 = sShow kc kT.1 none p0 p1 m40_L_5 := (zIxN (n := m40_L_5.toInt.toNat) e87 (by omega)).trans (((jv3_0 kc kT _ hc hb h hp hq hf) _ (by omega)).trans (by show sShow _ _ _ _ _ (Int32.ofNat m40_L_5.toInt.toNat) = _; rw [← zk32 (show 0 ≤ m40_L_5.toInt by omega)])); have y94 : v94 = sShow kc kT.1 none p0 p1 m53_L_6 := (zIxN (n := m53_L_6.toInt.toNat) e94 (by omega)).trans (((jv3_0 kc kT _ hc hb h hp hq hf) _ (by omega)).trans (by show sShow _ _ _ _ _ (Int32.ofNat m53_L_6.toInt.toNat) = _; rw [← zk32 (show 0 ≤ m53_L_6.toInt by omega)])); have db := sDb_t (c := kc) (S := kT.1) (lw := none) (b := p1) (p := p0) (f := m40_L_5) (g := m53_L_6) (by omega) (by omega) (by omega) y87 y94; exact aNtS JJ.1 JJ.2 (zTn_i (f := m40_L_5) (g := m53_L_6) (by omega) (by omega) (by omega)) fy (Bool.eq_false_iff.mpr (fun z => absurd (db.mp z) (by omega))) i111) | (have z63 := congrArg Int32.toInt F63; have z72 := congrArg Int32.toInt F72; have fn : sPf kc kT.1 p1 (m40_L_5.toInt.toNat, m53_L_6.toInt.toNat) = false := (Bool.eq_false_iff.mpr (fun z => by have w := ((sPf_t (c := kc) (S := kT.1) (b := p1) (f := m40_L_5) (g := m53_L_6) hf (by omega) (by omega)).mp z); omega)); exact ⟨JJ.1, aNtN JJ.1 JJ.2 (zTn_i (f := m40_L_5) (g := m53_L_6) (by omega) (by omega) (by omega)) fn⟩) | (have z63 := congrArg Int32.toInt F63; have fn : sPf kc kT.1 p1 (m40_L_5.toInt.toNat, m53_L_6.toInt.toNat) = false := (Bool.eq_false_iff.mpr (fun z => by have w := ((sPf_t (c := kc) (S := kT.1) (b := p1) (f := m40_L_5) (g := m53_L_6) hf (by omega) (by omega)).mp z); omega)); exact ⟨JJ.1, aNtN JJ.1 JJ.2 (zTn_i (f := m40_L_5) (g := m53_L_6) (by omega) (by omega) (by omega)) fn⟩)) rfl H locs ls hP hD hS (lv_sub hl [0, 1, 2, 3, 4, 5, 6] rfl)
              refine lv_istore (lv' := [(6, .int v50), (5, .int m40_L_5), (4, .int m40_L_4), (0, .ref h0), (1, .int p0), (2, .int p1), (3, .int p2)]) hx hb dX6_addTeller_51 hl (by decide) rfl (fun ls hl => ?_)
              exact J53 _ m40_A_mT m40_L_4 v50 jf40_0 (by omega) (by omega) (fun kc kT q_fr hc hb h hp hq hf => by rw [show zTn m40_L_5 v50 = ztri m40_L_5.toInt.toNat by unfold zTn; omega]; exact (jv40_0 kc kT _ hc hb h hp hq hf)) rfl H locs ls hP hD hS (lv_sub hl [0, 1, 2, 3, 4, 5, 6] rfl)
        refine lv_istore (lv' := [(5, .int 0), (4, .int 0), (0, .ref h0), (1, .int p0), (2, .int p1), (3, .int p2)]) hx hb dX6_addTeller_38 hl (by decide) rfl (fun ls hl => ?_)
        have zj40_m40_L_4 : (0 : Int32).toInt = 0 := by decide
        have zj40_m40_L_5 : (0 : Int32).toInt = 0 := by decide
        exact J40 _ fT 0 0 (by decide) (by decide) (by omega) (fun kc kT q_fr hc hb h hp hq hf => ⟨aNt_0, by unfold zNp; rfl⟩) rfl H locs ls hP hD hS (lv_sub hl [0, 1, 2, 3, 4, 5] rfl)
      · have c7 : m3_L_4.toInt < 10 := z4 (by decide) rfl c7
        refine lv_aload_n hx hb dX6_addTeller_10 rfl (lv_at hl 1 rfl) ?_
        refine va_get (D := (dC, dI)) (ci := 6) (v := .ref mV) (C := RX6) (T := TX6) (N := 9) hx hb hts iX6 hown hK hP 0 rfl rfl 6 (by decide) (hts _ qw323) (fun _ h9 => h9) rfl dX6_addTeller_11 ?_
        refine lv_iload hx hb dX6_addTeller_14 (lv_at hl 0 rfl) ?_
        refine lv_aload_n hx hb dX6_addTeller_16 rfl (lv_at hl 1 rfl) ?_
        refine va_get (D := (dC, dI)) (ci := 6) (v := .ref sd) (C := RX6) (T := TX6) (N := 9) hx hb hts iX6 hown hK hP 0 rfl rfl 2 (by decide) (hts _ qw318) (fun _ h9 => h9) rfl dX6_addTeller_17 ?_
        refine lv_iload_n hx hb dX6_addTeller_20 rfl (lv_at hl 2 rfl) ?_
        refine lv_iload_n hx hb dX6_addTeller_21 rfl (lv_at hl 3 rfl) ?_
        refine lv_iload hx hb dX6_addTeller_22 (lv_at hl 0 rfl) ?_
        obtain ⟨hPc, hDc⟩ := zc2 (wc := [(sd, .inr (8, [.ref w1, .ref w2, .ref aC, .ref g0, .ref aL, .ref aK, .null])), (aC, .inr (1, [.ref aR, .ref aB, .ref aP, .int nb, .int np])), (aB, .inl (cI, 24, .inl fb)), (aP, .inl (cI, 20, .inl fp)), (g0, .inr (7, [.ref gY, .ref gF, .ref gP, .int gpn, .int glt, .int gsh, .int gwd, .int gpu, .int gmo])), (gY, .inl (cI, 6, .inl gfY)), (gF, .inl (cI, 5, .inl gfF)), (gP, .inl (cI, 80, .inl gfP))]) hP hD [8, 1, 2, 3, 4, 5, 6, 7] (by decide +kernel) rfl
        have hFc := zfr hS hA
        refine va_calli (va_runV (As := [.int p0, .int p1, .int m3_L_4]) (rest := [.int m3_L_4, .ref mV]) ⟨hx, hb, hml, hown, hts⟩ (g_X8_showOf_n l dC dI cI cJ sd p0 p1 m3_L_4 w1 w2 aC g0 aL aK aR aB aP nb np fb fp gY gF gP gpn glt gsh gwd gpu gmo gfY gfF gfP H.size n_gpn n_p0 n_p1 ci_gfP_zPo) (cwV 3 hts (zgV qw844 qw644 qw645 qw105 qw646) rfl rfl rfl hd_X8_showOf ⟨by rw [hR]; exact Nat.le_of_ble_eq_true rfl, by rw [hR]; exact Nat.le_of_ble_eq_true rfl⟩) (zPV hPc hK hDc (va_recv (q := (RX8, TX8, 7)) hK hP (ci := 8) (q0 := 8) rfl rfl)) rfl rfl hl.1 rfl (lv_room (Nat.le_of_ble_eq_true rfl)) dX6_addTeller_24 ⟨Nat.zero_le _, Nat.zero_le _⟩) hS (fun q _ h => hFc q h) hFc (fun v24 u24 t H locs ht hvm hw hB hz1 hk1 hS9 => ?_)
        replace hP := zkeep hP hk1
        replace hS := hS9
        clear hPc hDc hFc hk1 hz1 hvm hS9
        obtain ⟨f24_0, f24_1, f24_2⟩ : (0 ≤ v24.toInt) ∧ (v24.toInt ≤ 9) ∧ (∀ sk mo : Int32, v24 = zSh (fp (4 * p0.toInt.toNat + 3)) (zLat gfP p0 gpn.toInt.toNat) (zLkv none m3_L_4 (fb (4 * p1.toInt.toNat + 2)) (gfY p1.toInt.toNat) sk (gfF p0.toInt.toNat) mo)) := hw
        have F24 := f24_2
        refine va_iast hx hb hK hP hD hS 9 0 rfl rfl (vp_in_iff.mpr ⟨by omega, by omega⟩) dX6_addTeller_27 (fun H locs hP9 hD9 hS9 => ?_)
        clear hP hD hS
        obtain ⟨v27_f, e27⟩ : ∃ g : Nat → Int32, g = upd m3_A_mV (m3_L_4).toNatClampNeg v24 := ⟨_, rfl⟩
        rw [← e27] at hP9 hD9
        obtain ⟨hP, hD⟩ := zst (wX := [(h0, .inr (6, [.ref aC, .ref g0, .ref sd, .ref mW, .long mt, .int lf, .ref mV, .ref mA, .ref mT])), (aC, .inr (1, [.ref aR, .ref aB, .ref aP, .int nb, .int np])), (aB, .inl (cI, 24, .inl fb)), (aP, .inl (cI, 20, .inl fp)), (g0, .inr (7, [.ref gY, .ref gF, .ref gP, .int gpn, .int glt, .int gsh, .int gwd, .int gpu, .int gmo])), (gY, .inl (cI, 6, .inl gfY)), (gF, .inl (cI, 5, .inl gfF)), (gP, .inl (cI, 80, .inl gfP)), (sd, .inr (8, [.ref w1, .ref w2, .ref aC, .ref g0, .ref aL, .ref aK, .null])), (mV, .inl (cI, 10, .inl v27_f)), (mT, .inl (cI, 45, .inl fT))]) hP9 hD9 rfl
        have hS := hS9
        clear hP9 hD9 hS9
        obtain ⟨v28, e28⟩ : ∃ y : Int32, y = m3_L_4 + Int32.ofInt (1) := ⟨_, rfl⟩
        refine lv_iinc (v := v28) (lv' := [(4, .int v28), (0, .ref h0), (1, .int p0), (2, .int p1), (3, .int p2)]) hx hb dX6_addTeller_28 hl (k := 0) rfl e28.symm (by decide) rfl (fun ls hl => ?_)
        have i28 : v28.toInt = m3_L_4.toInt + 1 := zaddI e28 (by decide) (by omega) (by omega)
        refine lv_goto (tgt := 3) hx hb dX6_addTeller_31 (by decide) ?_
        exact ih3 _ (by omega) v27_f v28 (by omega) (fun kc kT q_fr hc hb h hp hq hf => zBlS (B := (fun j => sShow kc kT.1 none p0 p1 (Int32.ofNat j))) (jv3_0 kc kT _ hc hb h hp hq hf) (by omega) i28 e27 (show v24 = sShow kc kT.1 none p0 p1 (Int32.ofNat m3_L_4.toInt.toNat) from by rw [← zk32 (show 0 ≤ m3_L_4.toInt by omega)]; exact sShow_n hc h hp hq F24)) rfl H locs ls hP hD hS (lv_sub hl [0, 1, 2, 3, 4] rfl)
  refine lv_istore (lv' := [(4, .int 0), (0, .ref h0), (1, .int p0), (2, .int p1), (3, .int p2)]) hx hb dX6_addTeller_1 hl (by decide) rfl (fun ls hl => ?_)
  have zj3_m3_L_4 : (0 : Int32).toInt = 0 := by decide
  exact J3 _ fV 0 (by decide) (fun kc kT q_fr hc hb h hp hq hf => fun j hj => by exfalso; have z1 : (0 : Int32).toInt = 0 := (by decide); omega) rfl H locs ls hP hD hS (lv_sub hl [0, 1, 2, 3, 4] rfl)
set_option maxHeartbeats 4000000 in
set_option maxRecDepth 100000 in
theorem g_X6_fewestSketchers_n (l : Launch) (dC : Nat → ClassId) (dI : Nat → Nat → Nat) (cI cJ : ClassId) (h0 : Nat) (p0 : Int32) (aC : Nat) (g0 : Nat) (sd : Nat) (mW : Nat) (mt : Int64) (lf : Int32) (mV : Nat) (mA : Nat) (mT : Nat) (aR : Nat) (aB : Nat) (aP : Nat) (nb : Int32) (np : Int32) (fb : Nat → Int32) (fp : Nat → Int32) (gY : Nat) (gF : Nat) (gP : Nat) (gpn : Int32) (glt : Int32) (gsh : Int32) (gwd : Int32) (gpu : Int32) (gmo : Int32) (gfY : Nat → Int32) (gfF : Nat → Int32) (gfP : Nat → Int32) (w1 : Nat) (w2 : Nat) (aL : Nat) (aK : Nat) (fV : Nat → Int32) (fT : Nat → Int32) (sz : Nat) (n_gpn : 0 ≤ gpn.toInt ∧ gpn.toInt ≤ 20) (n_np : 0 ≤ np.toInt ∧ np.toInt ≤ 5) (n_p0 : 0 ≤ p0.toInt ∧ p0.toInt ≤ 5)  (ci_gfP_zPo : zPo gfP)  : Met l yX6_fewestSketchers (.code yX6_fewestSketchers cX6_fewestSketchers 7 (some .int) :: wA) ({ frames := 5, cells := 0, slots := 0, locals := 129 }) (zPW (dC, dI) [(cI, .int), (cJ, .long)] [.ref h0, .int p0] sz [(h0, .inr (6, [.ref aC, .ref g0, .ref sd, .ref mW, .long mt, .int lf, .ref mV, .ref mA, .ref mT])), (aC, .inr (1, [.ref aR, .ref aB, .ref aP, .int nb, .int np])), (aB, .inl (cI, 24, .inl fb)), (aP, .inl (cI, 20, .inl fp)), (g0, .inr (7, [.ref gY, .ref gF, .ref gP, .int gpn, .int glt, .int gsh, .int gwd, .int gpu, .int gmo])), (gY, .inl (cI, 6, .inl gfY)), (gF, .inl (cI, 5, .inl gfF)), (gP, .inl (cI, 80, .inl gfP)), (sd, .inr (8, [.ref w1, .ref w2, .ref aC, .ref g0, .ref aL, .ref aK, .null])), (mV, .inl (cI, 10, .inl fV)), (mT, .inl (cI, 45, .inl fT))] (va_A [(h0, .inr (6, [.ref aC, .ref g0, .ref sd, .ref mW, .long mt, .int lf, .ref mV, .ref mA, .ref mT])), (aC, .inr (1, [.ref aR, .ref aB, .ref aP, .int nb, .int np])), (aB, .inl (cI, 24, .inl fb)), (aP, .inl (cI, 20, .inl fp)), (g0, .inr (7, [.ref gY, .ref gF, .ref gP, .int gpn, .int glt, .int gsh, .int gwd, .int gpu, .int gmo])), (gY, .inl (cI, 6, .inl gfY)), (gF, .inl (cI, 5, .inl gfF)), (gP, .inl (cI, 80, .inl gfP)), (sd, .inr (8, [.ref w1, .ref w2, .ref aC, .ref g0, .ref aL, .ref aK, .null])), (mV, .inl (cI, 10, .inl fV)), (mT, .inl (cI, 45, .inl fT))] sz)) (va_Qi (fun (r : Int32) (u : (Nat → Int32) × (Nat → Int32)) => ((-1) ≤ r.toInt) ∧ (r.toInt ≤ 98) ∧ (∀ (kc : zK3) (kT : zT) (q_fr : Nat → Int32), zCn q_fr fb fp nb.toInt np.toInt kc → zKo nb.toInt np.toInt kc kT → zSc nb.toInt np.toInt kT.1 gfY gfF gfP gpn glt gsh gwd gpu gmo → (0 ≤ p0.toInt ∧ p0.toInt < nb.toInt) → r.toInt = zBst (fun s => aAp kc kT.1 none np.toInt.toNat p0 s) sBn (2 ^ np.toInt.toNat))) (fun (u : (Nat → Int32) × (Nat → Int32)) (t : State) => va_P (dC, dI) vwCl [(h0, .inr (6, [.ref aC, .ref g0, .ref sd, .ref mW, .long mt, .int lf, .ref mV, .ref mA, .ref mT])), (aC, .inr (1, [.ref aR, .ref aB, .ref aP, .int nb, .int np])), (aB, .inl (cI, 24, .inl fb)), (aP, .inl (cI, 20, .inl fp)), (g0, .inr (7, [.ref gY, .ref gF, .ref gP, .int gpn, .int glt, .int gsh, .int gwd, .int gpu, .int gmo])), (gY, .inl (cI, 6, .inl gfY)), (gF, .inl (cI, 5, .inl gfF)), (gP, .inl (cI, 80, .inl gfP)), (sd, .inr (8, [.ref w1, .ref w2, .ref aC, .ref g0, .ref aL, .ref aK, .null])), (mV, .inl (cI, 10, .inl u.1)), (mT, .inl (cI, 45, .inl u.2))] t.heap ∧ va_D (va_A [(h0, .inr (6, [.ref aC, .ref g0, .ref sd, .ref mW, .long mt, .int lf, .ref mV, .ref mA, .ref mT])), (aC, .inr (1, [.ref aR, .ref aB, .ref aP, .int nb, .int np])), (aB, .inl (cI, 24, .inl fb)), (aP, .inl (cI, 20, .inl fp)), (g0, .inr (7, [.ref gY, .ref gF, .ref gP, .int gpn, .int glt, .int gsh, .int gwd, .int gpu, .int gmo])), (gY, .inl (cI, 6, .inl gfY)), (gF, .inl (cI, 5, .inl gfF)), (gP, .inl (cI, 80, .inl gfP)), (sd, .inr (8, [.ref w1, .ref w2, .ref aC, .ref g0, .ref aL, .ref aK, .null])), (mV, .inl (cI, 10, .inl fV)), (mT, .inl (cI, 45, .inl fT))] sz) [(h0, .inr (6, [.ref aC, .ref g0, .ref sd, .ref mW, .long mt, .int lf, .ref mV, .ref mA, .ref mT])), (aC, .inr (1, [.ref aR, .ref aB, .ref aP, .int nb, .int np])), (aB, .inl (cI, 24, .inl fb)), (aP, .inl (cI, 20, .inl fp)), (g0, .inr (7, [.ref gY, .ref gF, .ref gP, .int gpn, .int glt, .int gsh, .int gwd, .int gpu, .int gmo])), (gY, .inl (cI, 6, .inl gfY)), (gF, .inl (cI, 5, .inl gfF)), (gP, .inl (cI, 80, .inl gfP)), (sd, .inr (8, [.ref w1, .ref w2, .ref aC, .ref g0, .ref aL, .ref aK, .null])), (mV, .inl (cI, 10, .inl u.1)), (mT, .inl (cI, 45, .inl u.2))]) (va_A [(h0, .inr (6, [.ref aC, .ref g0, .ref sd, .ref mW, .long mt, .int lf, .ref mV, .ref mA, .ref mT])), (aC, .inr (1, [.ref aR, .ref aB, .ref aP, .int nb, .int np])), (aB, .inl (cI, 24, .inl fb)), (aP, .inl (cI, 20, .inl fp)), (g0, .inr (7, [.ref gY, .ref gF, .ref gP, .int gpn, .int glt, .int gsh, .int gwd, .int gpu, .int gmo])), (gY, .inl (cI, 6, .inl gfY)), (gF, .inl (cI, 5, .inl gfF)), (gP, .inl (cI, 80, .inl gfP)), (sd, .inr (8, [.ref w1, .ref w2, .ref aC, .ref g0, .ref aL, .ref aK, .null])), (mV, .inl (cI, 10, .inl fV)), (mT, .inl (cI, 45, .inl fT))] sz)) 0 0 (va_A [(h0, .inr (6, [.ref aC, .ref g0, .ref sd, .ref mW, .long mt, .int lf, .ref mV, .ref mA, .ref mT])), (aC, .inr (1, [.ref aR, .ref aB, .ref aP, .int nb, .int np])), (aB, .inl (cI, 24, .inl fb)), (aP, .inl (cI, 20, .inl fp)), (g0, .inr (7, [.ref gY, .ref gF, .ref gP, .int gpn, .int glt, .int gsh, .int gwd, .int gpu, .int gmo])), (gY, .inl (cI, 6, .inl gfY)), (gF, .inl (cI, 5, .inl gfF)), (gP, .inl (cI, 80, .inl gfP)), (sd, .inr (8, [.ref w1, .ref w2, .ref aC, .ref g0, .ref aL, .ref aK, .null])), (mV, .inl (cI, 10, .inl fV)), (mT, .inl (cI, 45, .inl fT))] sz) := by
  refine Met.ofW (cc := cX6_fewestSketchers) (maxL := 7) (ret := (some .int)) (by decide) rfl ?_
  intro p e s m args below meth c s₁ B hml hv
  have y_gpn : zHid (0 ≤ gpn.toInt ∧ gpn.toInt ≤ 20) := n_gpn
  clear n_gpn
  obtain ⟨⟨hargs, hsz, hP, hK, hT⟩, hV⟩ := hv
  have hx := B.exec
  have hb := B.bytes
  have hr := B.returns
  have hts : ∀ w ∈ wA, w.before args s = true := fun w h => atoms_spec (ws := .code yX6_fewestSketchers cX6_fewestSketchers 7 (some .int) :: wA) B.pre w (List.mem_cons_of_mem _ h)
  have hown : s.vm.findClass RX6 = some m.cls := findClass_of_methodNamed B.named
  have hlocks := B.notSynchronized
  subst hsz
  have hD := hT.self (sz := s.heap.size)
  generalize hAe : va_A [(h0, .inr (6, [.ref aC, .ref g0, .ref sd, .ref mW, .long mt, .int lf, .ref mV, .ref mA, .ref mT])), (aC, .inr (1, [.ref aR, .ref aB, .ref aP, .int nb, .int np])), (aB, .inl (cI, 24, .inl fb)), (aP, .inl (cI, 20, .inl fp)), (g0, .inr (7, [.ref gY, .ref gF, .ref gP, .int gpn, .int glt, .int gsh, .int gwd, .int gpu, .int gmo])), (gY, .inl (cI, 6, .inl gfY)), (gF, .inl (cI, 5, .inl gfF)), (gP, .inl (cI, 80, .inl gfP)), (sd, .inr (8, [.ref w1, .ref w2, .ref aC, .ref g0, .ref aL, .ref aK, .null])), (mV, .inl (cI, 10, .inl fV)), (mT, .inl (cI, 45, .inl fT))] s.heap.size = A at hD hV ⊢
  have hA : ∀ q : Nat, s.heap.size ≤ q → A q := fun q h => by rw [← hAe]; exact Or.inr h
  have hl := lv_entry ([.ref h0, .int p0]) (n := 7) (Nat.le_of_ble_eq_true rfl)
  rw [show entryFrame m args 7 = entryFrame m ([.ref h0, .int p0] : List Value).toArray 7 by rw [hargs], lg_entry_eq]
  generalize (lg_sl ([.ref h0, .int p0]) ++ List.replicate (7 - (lg_sl ([.ref h0, .int p0])).length) Slot.unset).toArray = ls at hl ⊢
  have hl : lv_has ls 7 [(0, .ref h0), (1, .int p0)] := hl
  refine zstart (fun H hH => ?_)
  rw [← hH] at hP
  have hS : va_S A s.heap H [] := by rw [hH]; exact va_S.rf
  generalize ([] : List Loc) = locs at hS ⊢
  refine zgen (fun R Q hR hQ => ?_)
  refine lv_aload_n hx hb dX6_fewestSketchers_0 rfl (lv_at hl 0 rfl) ?_
  refine lv_iload_n hx hb dX6_fewestSketchers_1 rfl (lv_at hl 1 rfl) ?_
  obtain ⟨hPc, hDc⟩ := zc2 (wc := [(h0, .inr (6, [.ref aC, .ref g0, .ref sd, .ref mW, .long mt, .int lf, .ref mV, .ref mA, .ref mT])), (aC, .inr (1, [.ref aR, .ref aB, .ref aP, .int nb, .int np])), (aB, .inl (cI, 24, .inl fb)), (g0, .inr (7, [.ref gY, .ref gF, .ref gP, .int gpn, .int glt, .int gsh, .int gwd, .int gpu, .int gmo]))]) hP hD [0, 1, 2, 4] (by decide +kernel) rfl
  have hFc := zfr hS hA
  refine va_calli (va_runV (As := [.int p0]) (rest := []) ⟨hx, hb, hml, hown, hts⟩ (g_X6_fitting l dC dI cI cJ h0 p0 aC g0 sd mW mt lf mV mA mT aR aB aP nb np fb gY gF gP gpn glt gsh gwd gpu gmo H.size n_p0) (cwV 1 hts (zgV qw833 qw820 qw821 qw106 qw822) rfl rfl rfl hd_X6_fitting ⟨by rw [hR]; exact Nat.le_of_ble_eq_true rfl, by rw [hR]; exact Nat.le_of_ble_eq_true rfl⟩) (zPWV hPc hK hDc (va_recv (q := (RX6, TX6, 9)) hK hP (ci := 6) (q0 := 0) rfl rfl) (zV_call hV hS hFc)) rfl rfl hl.1 rfl (lv_room (Nat.le_of_ble_eq_true rfl)) dX6_fewestSketchers_2 ⟨Nat.zero_le _, Nat.zero_le _⟩) hS (fun q _ h => hFc q h) hFc (fun v2 u2 t H locs ht hvm hw hB hz1 hk1 hS9 => ?_)
  replace hP := zkeep hP hk1
  replace hS := hS9
  clear hPc hDc hFc hk1 hz1 hvm hS9
  obtain ⟨f2_0, f2_1, f2_2⟩ : (10 ≤ v2.toInt) ∧ (v2.toInt ≤ 1023) ∧ (v2 = zFit (cBt glt p0) (cBt gsh p0) (fb (4 * p0.toInt.toNat))) := hw
  have F2 := f2_2
  refine lv_istore_n (lv' := [(2, .int v2), (0, .ref h0), (1, .int p0)]) hx hb dX6_fewestSketchers_5 rfl hl (by decide) rfl (fun ls hl => ?_)
  refine lv_aload_n hx hb dX6_fewestSketchers_6 rfl (lv_at hl 1 rfl) ?_
  refine va_get (D := (dC, dI)) (ci := 6) (v := .ref mT) (C := RX6) (T := TX6) (N := 9) hx hb hts iX6 hown hK hP 0 rfl rfl 8 (by decide) (hts _ qw325) (fun _ h9 => h9) rfl dX6_fewestSketchers_7 ?_
  refine lv_iconst (v := 0) hx hb dX6_fewestSketchers_10 (by decide) ?_
  obtain ⟨hPc, hDc, hFc⟩ := zc3 (wc := [(mT, .inl (cI, 45, .inl fT))]) hP hD hS hA [10] (by decide +kernel) rfl
  refine va_callv (va_runS (As := [.ref mT, .int 0]) (rest := []) ⟨hx, hb, hml, hown, hts⟩ (g_J7_fill_53178_45 l dC dI cI cJ mT 0 fT H.size) (va_cwS 2 hts (zgSW qw877 qw878 qw111 qw879) rfl rfl rfl (hd_J7_fill_53178).2 ⟨by rw [hR]; exact Nat.le_of_ble_eq_true rfl, by rw [hR]; exact Nat.le_of_ble_eq_true rfl⟩) (zPS hPc hK hDc) rfl rfl hl.1 rfl (lv_room (Nat.le_of_ble_eq_true rfl)) dX6_fewestSketchers_11 ⟨Nat.zero_le _, Nat.zero_le _⟩) hS (fun q _ h => hFc q h) hFc (fun u11 t H locs ht hvm hw hB hz1 hk1 hS9 => ?_)
  obtain ⟨u11_0, rfl⟩ : ∃ z, z = u11 := ⟨_, rfl⟩
  obtain ⟨hP9, hD9⟩ := zj2 (wX := [(h0, .inr (6, [.ref aC, .ref g0, .ref sd, .ref mW, .long mt, .int lf, .ref mV, .ref mA, .ref mT])), (aC, .inr (1, [.ref aR, .ref aB, .ref aP, .int nb, .int np])), (aB, .inl (cI, 24, .inl fb)), (aP, .inl (cI, 20, .inl fp)), (g0, .inr (7, [.ref gY, .ref gF, .ref gP, .int gpn, .int glt, .int gsh, .int gwd, .int gpu, .int gmo])), (gY, .inl (cI, 6, .inl gfY)), (gF, .inl (cI, 5, .inl gfF)), (gP, .inl (cI, 80, .inl gfP)), (sd, .inr (8, [.ref w1, .ref w2, .ref aC, .ref g0, .ref aL, .ref aK, .null])), (mV, .inl (cI, 10, .inl fV)), (mT, .inl (cI, 45, .inl u11_0))]) hP hD hk1 hFc ht hB [10] [(false, 0), (false, 1), (false, 2), (false, 3), (false, 4), (false, 5), (false, 6), (false, 7), (false, 8), (false, 9), (true, 0)] rfl (by decide +kernel) (by decide +kernel) rfl
  clear hP hD hS hPc hDc hFc hB hk1 hz1 hvm
  have hP := hP9
  have hD := hD9
  have hS := hS9
  clear hP9 hD9 hS9
  have f11_0 : (∀ j : Nat, j < 45 → u11_0 j = 0) := hw
  have F11 := f11_0
  refine lv_iconst (v := 0) hx hb dX6_fewestSketchers_14 (by decide) ?_
  refine lv_istore_n (lv' := [(3, .int 0), (2, .int v2), (0, .ref h0), (1, .int p0)]) hx hb dX6_fewestSketchers_15 rfl hl (by decide) rfl (fun ls hl => ?_)
  refine lv_iconst (v := 0) hx hb dX6_fewestSketchers_16 (by decide) ?_
  have J19 : ∀ (n : Nat) (m19_A_mT : Nat → Int32) (m19_A_mV : Nat → Int32) (m19_L_3 : Int32) (m19_L_4 : Int32), (0 ≤ m19_L_3.toInt ∧ m19_L_3.toInt ≤ 45) → (0 ≤ m19_L_4.toInt ∧ m19_L_4.toInt ≤ 5) → (∀ (kc : zK3) (kT : zT) (q_fr : Nat → Int32), zCn q_fr fb fp nb.toInt np.toInt kc → zKo nb.toInt np.toInt kc kT → zSc nb.toInt np.toInt kT.1 gfY gfF gfP gpn glt gsh gwd gpu gmo → (0 ≤ p0.toInt ∧ p0.toInt < nb.toInt) → zFw kc kT.1 none p0 m19_A_mT m19_L_4.toInt.toNat ∧ zFp kc kT.1 p0 m19_L_3 m19_L_4.toInt.toNat) → (m19_L_4.toInt ≤ np.toInt) → (6 - m19_L_4.toInt).toNat = n → ∀ (H : Heap) (locs : List Loc) (ls : Array Slot), va_P (dC, dI) vwCl [(h0, .inr (6, [.ref aC, .ref g0, .ref sd, .ref mW, .long mt, .int lf, .ref mV, .ref mA, .ref mT])), (aC, .inr (1, [.ref aR, .ref aB, .ref aP, .int nb, .int np])), (aB, .inl (cI, 24, .inl fb)), (aP, .inl (cI, 20, .inl fp)), (g0, .inr (7, [.ref gY, .ref gF, .ref gP, .int gpn, .int glt, .int gsh, .int gwd, .int gpu, .int gmo])), (gY, .inl (cI, 6, .inl gfY)), (gF, .inl (cI, 5, .inl gfF)), (gP, .inl (cI, 80, .inl gfP)), (sd, .inr (8, [.ref w1, .ref w2, .ref aC, .ref g0, .ref aL, .ref aK, .null])), (mV, .inl (cI, 10, .inl m19_A_mV)), (mT, .inl (cI, 45, .inl m19_A_mT))] H → va_D A [(h0, .inr (6, [.ref aC, .ref g0, .ref sd, .ref mW, .long mt, .int lf, .ref mV, .ref mA, .ref mT])), (aC, .inr (1, [.ref aR, .ref aB, .ref aP, .int nb, .int np])), (aB, .inl (cI, 24, .inl fb)), (aP, .inl (cI, 20, .inl fp)), (g0, .inr (7, [.ref gY, .ref gF, .ref gP, .int gpn, .int glt, .int gsh, .int gwd, .int gpu, .int gmo])), (gY, .inl (cI, 6, .inl gfY)), (gF, .inl (cI, 5, .inl gfF)), (gP, .inl (cI, 80, .inl gfP)), (sd, .inr (8, [.ref w1, .ref w2, .ref aC, .ref g0, .ref aL, .ref aK, .null])), (mV, .inl (cI, 10, .inl m19_A_mV)), (mT, .inl (cI, 45, .inl m19_A_mT))] → va_S A s.heap H locs → lv_has ls 7 [(4, .int m19_L_4), (3, .int m19_L_3), (2, .int v2), (0, .ref h0), (1, .int p0)] → W p l e R s m args below meth c H locs 0 0 Q (F0 m 19 ls []) := by
    intro n19
    induction n19 using Nat.strongRecOn with
    | _ n19 ih19 =>
      intro m19_A_mT m19_A_mV m19_L_3 m19_L_4 jf19_0 jf19_1 jv19_0 jf19_3 hmu19 H locs ls hP hD hS hl
      refine lv_iload hx hb dX6_fewestSketchers_19 (lv_at hl 0 rfl) ?_
      refine lv_aload_n hx hb dX6_fewestSketchers_21 rfl (lv_at hl 3 rfl) ?_
      refine va_get (D := (dC, dI)) (ci := 6) (v := .ref aC) (C := RX6) (T := TX6) (N := 9) hx hb hts iX6 hown hK hP 0 rfl rfl 0 (by decide) (hts _ qw316) (fun _ h9 => h9) rfl dX6_fewestSketchers_22 ?_
      refine va_get (D := (dC, dI)) (ci := 1) (v := .int np) (C := RX1) (T := TX1) (N := 5) hx hb hts iX1 hown hK hP 1 rfl rfl 4 (by decide) (hts _ qw199) (fun _ h9 => h9) rfl dX6_fewestSketchers_25 ?_
      refine lv_icmp_ge (tgt := 55) hx hb dX6_fewestSketchers_28 (by decide) (fun c28 => ?_) (fun c28 => ?_)
      · have c28 : np.toInt ≤ m19_L_4.toInt := z3 rfl rfl c28
        refine lv_iload_n hx hb dX6_fewestSketchers_55 rfl (lv_at hl 1 rfl) ?_
        refine lv_if_ne (tgt := 61) hx hb dX6_fewestSketchers_56 (by decide) (fun c56 => ?_) (fun c56 => ?_)
        · have c56 : ¬ m19_L_3.toInt = 0 := z6 rfl (by decide) c56
          have q61 := pw2_1 (n := np.toInt.toNat)
          refine lv_iconst (v := (-1)) hx hb dX6_fewestSketchers_61 (by decide) ?_
          refine lv_istore (lv' := [(4, .int (-1)), (3, .int m19_L_3), (2, .int v2), (0, .ref h0), (1, .int p0)]) hx hb dX6_fewestSketchers_62 hl (by decide) rfl (fun ls hl => ?_)
          refine lv_iconst (v := 0) hx hb dX6_fewestSketchers_64 (by decide) ?_
          have J67 : ∀ (n : Nat) (m67_L_4 : Int32) (m67_L_5 : Int32), ((-1) ≤ m67_L_4.toInt ∧ m67_L_4.toInt ≤ 98) → (0 ≤ m67_L_5.toInt ∧ m67_L_5.toInt ≤ 98) → (∀ (kc : zK3) (kT : zT) (q_fr : Nat → Int32), zCn q_fr fb fp nb.toInt np.toInt kc → zKo nb.toInt np.toInt kc kT → zSc nb.toInt np.toInt kT.1 gfY gfF gfP gpn glt gsh gwd gpu gmo → (0 ≤ p0.toInt ∧ p0.toInt < nb.toInt) → m67_L_4.toInt = zBst (fun s => aAp kc kT.1 none np.toInt.toNat p0 s) sBn m67_L_5.toInt.toNat) → (m67_L_5.toInt ≤ pw2 np.toInt.toNat) → (99 - m67_L_5.toInt).toNat = n → ∀ (H : Heap) (locs : List Loc) (ls : Array Slot), va_P (dC, dI) vwCl [(h0, .inr (6, [.ref aC, .ref g0, .ref sd, .ref mW, .long mt, .int lf, .ref mV, .ref mA, .ref mT])), (aC, .inr (1, [.ref aR, .ref aB, .ref aP, .int nb, .int np])), (aB, .inl (cI, 24, .inl fb)), (aP, .inl (cI, 20, .inl fp)), (g0, .inr (7, [.ref gY, .ref gF, .ref gP, .int gpn, .int glt, .int gsh, .int gwd, .int gpu, .int gmo])), (gY, .inl (cI, 6, .inl gfY)), (gF, .inl (cI, 5, .inl gfF)), (gP, .inl (cI, 80, .inl gfP)), (sd, .inr (8, [.ref w1, .ref w2, .ref aC, .ref g0, .ref aL, .ref aK, .null])), (mV, .inl (cI, 10, .inl m19_A_mV)), (mT, .inl (cI, 45, .inl m19_A_mT))] H → va_D A [(h0, .inr (6, [.ref aC, .ref g0, .ref sd, .ref mW, .long mt, .int lf, .ref mV, .ref mA, .ref mT])), (aC, .inr (1, [.ref aR, .ref aB, .ref aP, .int nb, .int np])), (aB, .inl (cI, 24, .inl fb)), (aP, .inl (cI, 20, .inl fp)), (g0, .inr (7, [.ref gY, .ref gF, .ref gP, .int gpn, .int glt, .int gsh, .int gwd, .int gpu, .int gmo])), (gY, .inl (cI, 6, .inl gfY)), (gF, .inl (cI, 5, .inl gfF)), (gP, .inl (cI, 80, .inl gfP)), (sd, .inr (8, [.ref w1, .ref w2, .ref aC, .ref g0, .ref aL, .ref aK, .null])), (mV, .inl (cI, 10, .inl m19_A_mV)), (mT, .inl (cI, 45, .inl m19_A_mT))] → va_S A s.heap H locs → lv_has ls 7 [(5, .int m67_L_5), (4, .int m67_L_4), (3, .int m19_L_3), (2, .int v2), (0, .ref h0), (1, .int p0)] → W p l e R s m args below meth c H locs 0 0 Q (F0 m 67 ls []) := by
            intro n67
            induction n67 using Nat.strongRecOn with
            | _ n67 ih67 =>
              intro m67_L_4 m67_L_5 jf67_0 jf67_1 jv67_0 jf67_3 hmu67 H locs ls hP hD hS hl
              refine lv_iload hx hb dX6_fewestSketchers_67 (lv_at hl 0 rfl) ?_
              refine lv_iconst (v := 1) hx hb dX6_fewestSketchers_69 (by decide) ?_
              refine lv_aload_n hx hb dX6_fewestSketchers_70 rfl (lv_at hl 4 rfl) ?_
              refine va_get (D := (dC, dI)) (ci := 6) (v := .ref aC) (C := RX6) (T := TX6) (N := 9) hx hb hts iX6 hown hK hP 0 rfl rfl 0 (by decide) (hts _ qw316) (fun _ h9 => h9) rfl dX6_fewestSketchers_71 ?_
              refine va_get (D := (dC, dI)) (ci := 1) (v := .int np) (C := RX1) (T := TX1) (N := 5) hx hb hts iX1 hown hK hP 1 rfl rfl 4 (by decide) (hts _ qw199) (fun _ h9 => h9) rfl dX6_fewestSketchers_74 ?_
              refine lv_ishl hx hb dX6_fewestSketchers_77 ?_
              refine lv_topi (fun v77 e77 => ?_)
              have i77 : v77.toInt = pw2 np.toInt.toNat ∧ 1 ≤ v77.toInt ∧ v77.toInt ≤ 64 := zpw e77 (by omega) (by omega)
              refine lv_icmp_ge (tgt := 132) hx hb dX6_fewestSketchers_78 (by decide) (fun c78 => ?_) (fun c78 => ?_)
              · have c78 : v77.toInt ≤ m67_L_5.toInt := z3 rfl rfl c78
                refine lv_iload hx hb dX6_fewestSketchers_132 (lv_at hl 1 rfl) ?_
                rw [hQ]
                exact W.iret (v := m67_L_4) hx hb hr (fun t ht hW => ⟨⟨m67_L_4, (m19_A_mV, m19_A_mT), rfl, ⟨by (try dsimp only); omega, by (try dsimp only); omega, fun kc kT q_fr hc hb h hq => by have JJ := (jv67_0 kc kT _ hc hb h hq); rw [show m67_L_5.toInt.toNat = 2 ^ np.toInt.toNat by unfold pw2 at i77 jf67_3; omega] at JJ; exact JJ⟩, ⟨by rw [ht]; exact hP, hD⟩⟩, hS.F ht⟩) hS.2.2 dX6_fewestSketchers_134
              · have c78 : m67_L_5.toInt < v77.toInt := z4 rfl rfl c78
                refine lv_iload hx hb dX6_fewestSketchers_81 (lv_at hl 1 rfl) ?_
                refine lv_iconst (v := (-1)) hx hb dX6_fewestSketchers_83 (by decide) ?_
                refine lv_icmp_eq (tgt := 100) hx hb dX6_fewestSketchers_84 (by decide) (fun c84 => ?_) (fun c84 => ?_)
                · have c84 : m67_L_4.toInt = (-1) := z5 rfl (by decide) c84
                  refine lv_iconst (v := 1) hx hb dX6_fewestSketchers_100 (by decide) ?_
                  refine lv_goto (tgt := 105) hx hb dX6_fewestSketchers_101 (by decide) ?_
                  refine lv_istore (lv' := [(6, .int 1), (5, .int m67_L_5), (4, .int m67_L_4), (3, .int m19_L_3), (2, .int v2), (0, .ref h0), (1, .int p0)]) hx hb dX6_fewestSketchers_105 hl (by decide) rfl (fun ls hl => ?_)
                  refine lv_iload hx hb dX6_fewestSketchers_107 (lv_at hl 0 rfl) ?_
                  refine lv_if_eq (tgt := 126) hx hb dX6_fewestSketchers_109 (by decide) (fun c => absurd c (by decide)) (fun _ => ?_)
                  refine lv_aload_n hx hb dX6_fewestSketchers_112 rfl (lv_at hl 5 rfl) ?_
                  refine lv_iload hx hb dX6_fewestSketchers_113 (lv_at hl 1 rfl) ?_
                  refine lv_iload_n hx hb dX6_fewestSketchers_115 rfl (lv_at hl 3 rfl) ?_
                  obtain ⟨hPc, hDc⟩ := zc2 (wc := [(h0, .inr (6, [.ref aC, .ref g0, .ref sd, .ref mW, .long mt, .int lf, .ref mV, .ref mA, .ref mT])), (mT, .inl (cI, 45, .inl m19_A_mT))]) hP hD [0, 10] (by decide +kernel) rfl
                  have hFc := zfr hS hA
                  refine va_calli (va_runV (As := [.int m67_L_5, .int m19_L_3]) (rest := []) ⟨hx, hb, hml, hown, hts⟩ (g_X6_tellsAll l dC dI cI cJ h0 m67_L_5 m19_L_3 aC g0 sd mW mt lf mV mA mT m19_A_mT H.size jf19_0) (cwV 2 hts (zgV qw898 qw900 qw23 qw106 qw901) rfl rfl rfl hd_X6_tellsAll ⟨by rw [hR]; exact Nat.le_of_ble_eq_true rfl, by rw [hR]; exact Nat.le_of_ble_eq_true rfl⟩) (zPV hPc hK hDc (va_recv (q := (RX6, TX6, 9)) hK hP (ci := 6) (q0 := 0) rfl rfl)) rfl rfl hl.1 rfl (lv_room (Nat.le_of_ble_eq_true rfl)) dX6_fewestSketchers_116 ⟨Nat.zero_le _, Nat.zero_le _⟩) hS (fun q _ h => hFc q h) hFc (fun v116 u116 t H locs ht hvm hw hB hz1 hk1 hS9 => ?_)
                  replace hP := zkeep hP hk1
                  replace hS := hS9
                  clear hPc hDc hFc hk1 hz1 hvm hS9
                  obtain ⟨f116_0, f116_1, f116_2⟩ : (0 ≤ v116.toInt) ∧ (v116.toInt ≤ 1) ∧ ((v116.toInt = 1 ∧ ∀ j : Nat, (j : Int) < m19_L_3.toInt → ¬ (m19_A_mT j &&& m67_L_5).toInt = 0) ∨ (v116.toInt = 0 ∧ ∃ j : Nat, (j : Int) < m19_L_3.toInt ∧ (m19_A_mT j &&& m67_L_5).toInt = 0)) := hw
                  have F116 := f116_2
                  refine lv_if_eq (tgt := 126) hx hb dX6_fewestSketchers_119 (by decide) (fun c119 => ?_) (fun c119 => ?_)
                  · have c119 : v116.toInt = 0 := z5 rfl (by decide) c119
                    obtain ⟨v126, e126⟩ : ∃ y : Int32, y = m67_L_5 + Int32.ofInt (1) := ⟨_, rfl⟩
                    refine lv_iinc (v := v126) (lv' := [(5, .int v126), (6, .int 1), (4, .int m67_L_4), (3, .int m19_L_3), (2, .int v2), (0, .ref h0), (1, .int p0)]) hx hb dX6_fewestSketchers_126 hl (k := 1) rfl e126.symm (by decide) rfl (fun ls hl => ?_)
                    have i126 : v126.toInt = m67_L_5.toInt + 1 := zaddI e126 (by decide) (by omega) (by omega)
                    refine lv_goto (tgt := 67) hx hb dX6_fewestSketchers_129 (by decide) ?_
                    exact ih67 _ (by omega) m67_L_4 v126 jf67_0 (by omega) (fun kc kT q_fr hc hb h hq => by have JJ := (jv67_0 kc kT _ hc hb h hq); first | (have w := zFwT (s := m67_L_5) (np := np.toInt.toNat) (jv19_0 kc kT _ hc hb h hq).1 (by omega) (by omega) (by have y := pw2_5 (n := np.toInt.toNat) (by omega); omega) (zFp_n (jv19_0 kc kT _ hc hb h hq).2 (by omega)) F116; first | (rcases w with w | w; rotate_left; (exfalso; omega); first | exact zBstY JJ (by omega) i126 (Or.inl (by omega)) w.2 | (have b89 := sBn_e F89 (by omega); have b94 := sBn_e F94 (by omega); exact zBstY JJ (by omega) i126 (Or.inr (by omega)) w.2)) | (rcases w with w | w; (exfalso; omega); exact zBstN JJ (by omega) i126 (Or.inr w.2))) | (have b89 := sBn_e F89 (by omega); have b94 := sBn_e F94 (by omega); exact zBstN JJ (by omega) i126 (Or.inl (by omega)))) (by omega) rfl H locs ls hP hD hS (lv_sub hl [0, 2, 3, 4, 5, 6] rfl)
                  · have c119 : ¬ v116.toInt = 0 := z6 rfl (by decide) c119
                    refine lv_iload hx hb dX6_fewestSketchers_122 (lv_at hl 1 rfl) ?_
                    refine lv_istore (lv' := [(4, .int m67_L_5), (6, .int 1), (5, .int m67_L_5), (3, .int m19_L_3), (2, .int v2), (0, .ref h0), (1, .int p0)]) hx hb dX6_fewestSketchers_124 hl (by decide) rfl (fun ls hl => ?_)
                    obtain ⟨v126, e126⟩ : ∃ y : Int32, y = m67_L_5 + Int32.ofInt (1) := ⟨_, rfl⟩
                    refine lv_iinc (v := v126) (lv' := [(5, .int v126), (4, .int m67_L_5), (6, .int 1), (3, .int m19_L_3), (2, .int v2), (0, .ref h0), (1, .int p0)]) hx hb dX6_fewestSketchers_126 hl (k := 2) rfl e126.symm (by decide) rfl (fun ls hl => ?_)
                    have i126 : v126.toInt = m67_L_5.toInt + 1 := zaddI e126 (by decide) (by omega) (by omega)
                    refine lv_goto (tgt := 67) hx hb dX6_fewestSketchers_129 (by decide) ?_
                    exact ih67 _ (by omega) m67_L_5 v126 (by omega) (by omega) (fun kc kT q_fr hc hb h hq => by have JJ := (jv67_0 kc kT _ hc hb h hq); first | (have w := zFwT (s := m67_L_5) (np := np.toInt.toNat) (jv19_0 kc kT _ hc hb h hq).1 (by omega) (by omega) (by have y := pw2_5 (n := np.toInt.toNat) (by omega); omega) (zFp_n (jv19_0 kc kT _ hc hb h hq).2 (by omega)) F116; first | (rcases w with w | w; rotate_left; (exfalso; omega); first | exact zBstY JJ (by omega) i126 (Or.inl (by omega)) w.2 | (have b89 := sBn_e F89 (by omega); have b94 := sBn_e F94 (by omega); exact zBstY JJ (by omega) i126 (Or.inr (by omega)) w.2)) | (rcases w with w | w; (exfalso; omega); exact zBstN JJ (by omega) i126 (Or.inr w.2))) | (have b89 := sBn_e F89 (by omega); have b94 := sBn_e F94 (by omega); exact zBstN JJ (by omega) i126 (Or.inl (by omega)))) (by omega) rfl H locs ls hP hD hS (lv_sub hl [0, 1, 3, 4, 5, 6] rfl)
                · have c84 : ¬ m67_L_4.toInt = (-1) := z6 rfl (by decide) c84
                  refine lv_iload hx hb dX6_fewestSketchers_87 (lv_at hl 0 rfl) ?_
                  have hPc : va_P (dC, dI) vwCl [] H := zP0
                  have hDc : va_D (fun _ => True) [] := zD0
                  have hFc := zfr hS hA
                  refine va_calli (va_runS (As := [.int m67_L_5]) (rest := []) ⟨hx, hb, hml, hown, hts⟩ (g_J6_bitCount_0f7a4 l dC dI cI cJ m67_L_5 H.size) (va_cwS 1 hts (zgSW qw892 qw893 qw117 qw894) rfl rfl rfl (hd_J6_bitCount_0f7a4).2 ⟨by rw [hR]; exact Nat.le_of_ble_eq_true rfl, by rw [hR]; exact Nat.le_of_ble_eq_true rfl⟩) (zPS hPc hK hDc) rfl rfl hl.1 rfl (lv_room (Nat.le_of_ble_eq_true rfl)) dX6_fewestSketchers_89 ⟨Nat.zero_le _, Nat.zero_le _⟩) hS (fun q _ h => hFc q h) hFc (fun v89 u89 t H locs ht hvm hw hB hz1 hk1 hS9 => ?_)
                  replace hP := zkeep hP hk1
                  replace hS := hS9
                  clear hPc hDc hFc hk1 hz1 hvm hS9
                  obtain ⟨f89_0, f89_1, f89_2⟩ : (0 ≤ v89.toInt) ∧ (v89.toInt ≤ 63) ∧ (v89 = sBc m67_L_5) := hw
                  have F89 := f89_2
                  refine lv_iload hx hb dX6_fewestSketchers_92 (lv_at hl 1 rfl) ?_
                  have hPc : va_P (dC, dI) vwCl [] H := zP0
                  have hDc : va_D (fun _ => True) [] := zD0
                  have hFc := zfr hS hA
                  refine va_calli (va_runS (As := [.int m67_L_4]) (rest := [.int v89]) ⟨hx, hb, hml, hown, hts⟩ (g_J6_bitCount_0f7a4 l dC dI cI cJ m67_L_4 H.size) (va_cwS 1 hts (zgSW qw892 qw893 qw117 qw894) rfl rfl rfl (hd_J6_bitCount_0f7a4).2 ⟨by rw [hR]; exact Nat.le_of_ble_eq_true rfl, by rw [hR]; exact Nat.le_of_ble_eq_true rfl⟩) (zPS hPc hK hDc) rfl rfl hl.1 rfl (lv_room (Nat.le_of_ble_eq_true rfl)) dX6_fewestSketchers_94 ⟨Nat.zero_le _, Nat.zero_le _⟩) hS (fun q _ h => hFc q h) hFc (fun v94 u94 t H locs ht hvm hw hB hz1 hk1 hS9 => ?_)
                  replace hP := zkeep hP hk1
                  replace hS := hS9
                  clear hPc hDc hFc hk1 hz1 hvm hS9
                  obtain ⟨f94_0, f94_1, f94_2⟩ : (0 ≤ v94.toInt) ∧ (v94.toInt ≤ 63) ∧ (v94 = sBc m67_L_4) := hw
                  have F94 := f94_2
                  refine lv_icmp_ge (tgt := 104) hx hb dX6_fewestSketchers_97 (by decide) (fun c97 => ?_) (fun c97 => ?_)
                  · have c97 : v94.toInt ≤ v89.toInt := z3 rfl rfl c97
                    refine lv_iconst (v := 0) hx hb dX6_fewestSketchers_104 (by decide) ?_
                    refine lv_istore (lv' := [(6, .int 0), (5, .int m67_L_5), (4, .int m67_L_4), (3, .int m19_L_3), (2, .int v2), (0, .ref h0), (1, .int p0)]) hx hb dX6_fewestSketchers_105 hl (by decide) rfl (fun ls hl => ?_)
                    refine lv_iload hx hb dX6_fewestSketchers_107 (lv_at hl 0 rfl) ?_
                    refine lv_if_eq (tgt := 126) hx hb dX6_fewestSketchers_109 (by decide) (fun _ => ?_) (fun c => absurd (by decide) c)
                    obtain ⟨v126, e126⟩ : ∃ y : Int32, y = m67_L_5 + Int32.ofInt (1) := ⟨_, rfl⟩
                    refine lv_iinc (v := v126) (lv' := [(5, .int v126), (6, .int 0), (4, .int m67_L_4), (3, .int m19_L_3), (2, .int v2), (0, .ref h0), (1, .int p0)]) hx hb dX6_fewestSketchers_126 hl (k := 1) rfl e126.symm (by decide) rfl (fun ls hl => ?_)
                    have i126 : v126.toInt = m67_L_5.toInt + 1 := zaddI e126 (by decide) (by omega) (by omega)
                    refine lv_goto (tgt := 67) hx hb dX6_fewestSketchers_129 (by decide) ?_
                    exact ih67 _ (by omega) m67_L_4 v126 jf67_0 (by omega) (fun kc kT q_fr hc hb h hq => by have JJ := (jv67_0 kc kT _ hc hb h hq); first | (have w := zFwT (s := m67_L_5) (np := np.toInt.toNat) (jv19_0 kc kT _ hc hb h hq).1 (by omega) (by omega) (by have y := pw2_5 (n := np.toInt.toNat) (by omega); omega) (zFp_n (jv19_0 kc kT _ hc hb h hq).2 (by omega)) F116; first | (rcases w with w | w; rotate_left; (exfalso; omega); first | exact zBstY JJ (by omega) i126 (Or.inl (by omega)) w.2 | (have b89 := sBn_e F89 (by omega); have b94 := sBn_e F94 (by omega); exact zBstY JJ (by omega) i126 (Or.inr (by omega)) w.2)) | (rcases w with w | w; (exfalso; omega); exact zBstN JJ (by omega) i126 (Or.inr w.2))) | (have b89 := sBn_e F89 (by omega); have b94 := sBn_e F94 (by omega); exact zBstN JJ (by omega) i126 (Or.inl (by omega)))) (by omega) rfl H locs ls hP hD hS (lv_sub hl [0, 2, 3, 4, 5, 6] rfl)
                  · have c97 : v89.toInt < v94.toInt := z4 rfl rfl c97
                    refine lv_iconst (v := 1) hx hb dX6_fewestSketchers_100 (by decide) ?_
                    refine lv_goto (tgt := 105) hx hb dX6_fewestSketchers_101 (by decide) ?_
                    refine lv_istore (lv' := [(6, .int 1), (5, .int m67_L_5), (4, .int m67_L_4), (3, .int m19_L_3), (2, .int v2), (0, .ref h0), (1, .int p0)]) hx hb dX6_fewestSketchers_105 hl (by decide) rfl (fun ls hl => ?_)
                    refine lv_iload hx hb dX6_fewestSketchers_107 (lv_at hl 0 rfl) ?_
                    refine lv_if_eq (tgt := 126) hx hb dX6_fewestSketchers_109 (by decide) (fun c => absurd c (by decide)) (fun _ => ?_)
                    refine lv_aload_n hx hb dX6_fewestSketchers_112 rfl (lv_at hl 5 rfl) ?_
                    refine lv_iload hx hb dX6_fewestSketchers_113 (lv_at hl 1 rfl) ?_
                    refine lv_iload_n hx hb dX6_fewestSketchers_115 rfl (lv_at hl 3 rfl) ?_
                    obtain ⟨hPc, hDc⟩ := zc2 (wc := [(h0, .inr (6, [.ref aC, .ref g0, .ref sd, .ref mW, .long mt, .int lf, .ref mV, .ref mA, .ref mT])), (mT, .inl (cI, 45, .inl m19_A_mT))]) hP hD [0, 10] (by decide +kernel) rfl
                    have hFc := zfr hS hA
                    refine va_calli (va_runV (As := [.int m67_L_5, .int m19_L_3]) (rest := []) ⟨hx, hb, hml, hown, hts⟩ (g_X6_tellsAll l dC dI cI cJ h0 m67_L_5 m19_L_3 aC g0 sd mW mt lf mV mA mT m19_A_mT H.size jf19_0) (cwV 2 hts (zgV qw898 qw900 qw23 qw106 qw901) rfl rfl rfl hd_X6_tellsAll ⟨by rw [hR]; exact Nat.le_of_ble_eq_true rfl, by rw [hR]; exact Nat.le_of_ble_eq_true rfl⟩) (zPV hPc hK hDc (va_recv (q := (RX6, TX6, 9)) hK hP (ci := 6) (q0 := 0) rfl rfl)) rfl rfl hl.1 rfl (lv_room (Nat.le_of_ble_eq_true rfl)) dX6_fewestSketchers_116 ⟨Nat.zero_le _, Nat.zero_le _⟩) hS (fun q _ h => hFc q h) hFc (fun v116 u116 t H locs ht hvm hw hB hz1 hk1 hS9 => ?_)
                    replace hP := zkeep hP hk1
                    replace hS := hS9
                    clear hPc hDc hFc hk1 hz1 hvm hS9
                    obtain ⟨f116_0, f116_1, f116_2⟩ : (0 ≤ v116.toInt) ∧ (v116.toInt ≤ 1) ∧ ((v116.toInt = 1 ∧ ∀ j : Nat, (j : Int) < m19_L_3.toInt → ¬ (m19_A_mT j &&& m67_L_5).toInt = 0) ∨ (v116.toInt = 0 ∧ ∃ j : Nat, (j : Int) < m19_L_3.toInt ∧ (m19_A_mT j &&& m67_L_5).toInt = 0)) := hw
                    have F116 := f116_2
                    refine lv_if_eq (tgt := 126) hx hb dX6_fewestSketchers_119 (by decide) (fun c119 => ?_) (fun c119 => ?_)
                    · have c119 : v116.toInt = 0 := z5 rfl (by decide) c119
                      obtain ⟨v126, e126⟩ : ∃ y : Int32, y = m67_L_5 + Int32.ofInt (1) := ⟨_, rfl⟩
                      refine lv_iinc (v := v126) (lv' := [(5, .int v126), (6, .int 1), (4, .int m67_L_4), (3, .int m19_L_3), (2, .int v2), (0, .ref h0), (1, .int p0)]) hx hb dX6_fewestSketchers_126 hl (k := 1) rfl e126.symm (by decide) rfl (fun ls hl => ?_)
                      have i126 : v126.toInt = m67_L_5.toInt + 1 := zaddI e126 (by decide) (by omega) (by omega)
                      refine lv_goto (tgt := 67) hx hb dX6_fewestSketchers_129 (by decide) ?_
                      exact ih67 _ (by omega) m67_L_4 v126 jf67_0 (by omega) (fun kc kT q_fr hc hb h hq => by have JJ := (jv67_0 kc kT _ hc hb h hq); first | (have w := zFwT (s := m67_L_5) (np := np.toInt.toNat) (jv19_0 kc kT _ hc hb h hq).1 (by omega) (by omega) (by have y := pw2_5 (n := np.toInt.toNat) (by omega); omega) (zFp_n (jv19_0 kc kT _ hc hb h hq).2 (by omega)) F116; first | (rcases w with w | w; rotate_left; (exfalso; omega); first | exact zBstY JJ (by omega) i126 (Or.inl (by omega)) w.2 | (have b89 := sBn_e F89 (by omega); have b94 := sBn_e F94 (by omega); exact zBstY JJ (by omega) i126 (Or.inr (by omega)) w.2)) | (rcases w with w | w; (exfalso; omega); exact zBstN JJ (by omega) i126 (Or.inr w.2))) | (have b89 := sBn_e F89 (by omega); have b94 := sBn_e F94 (by omega); exact zBstN JJ (by omega) i126 (Or.inl (by omega)))) (by omega) rfl H locs ls hP hD hS (lv_sub hl [0, 2, 3, 4, 5, 6] rfl)
                    · have c119 : ¬ v116.toInt = 0 := z6 rfl (by decide) c119
                      refine lv_iload hx hb dX6_fewestSketchers_122 (lv_at hl 1 rfl) ?_
                      refine lv_istore (lv' := [(4, .int m67_L_5), (6, .int 1), (5, .int m67_L_5), (3, .int m19_L_3), (2, .int v2), (0, .ref h0), (1, .int p0)]) hx hb dX6_fewestSketchers_124 hl (by decide) rfl (fun ls hl => ?_)
                      obtain ⟨v126, e126⟩ : ∃ y : Int32, y = m67_L_5 + Int32.ofInt (1) := ⟨_, rfl⟩
                      refine lv_iinc (v := v126) (lv' := [(5, .int v126), (4, .int m67_L_5), (6, .int 1), (3, .int m19_L_3), (2, .int v2), (0, .ref h0), (1, .int p0)]) hx hb dX6_fewestSketchers_126 hl (k := 2) rfl e126.symm (by decide) rfl (fun ls hl => ?_)
                      have i126 : v126.toInt = m67_L_5.toInt + 1 := zaddI e126 (by decide) (by omega) (by omega)
                      refine lv_goto (tgt := 67) hx hb dX6_fewestSketchers_129 (by decide) ?_
                      exact ih67 _ (by omega) m67_L_5 v126 (by omega) (by omega) (fun kc kT q_fr hc hb h hq => by have JJ := (jv67_0 kc kT _ hc hb h hq); first | (have w := zFwT (s := m67_L_5) (np := np.toInt.toNat) (jv19_0 kc kT _ hc hb h hq).1 (by omega) (by omega) (by have y := pw2_5 (n := np.toInt.toNat) (by omega); omega) (zFp_n (jv19_0 kc kT _ hc hb h hq).2 (by omega)) F116; first | (rcases w with w | w; rotate_left; (exfalso; omega); first | exact zBstY JJ (by omega) i126 (Or.inl (by omega)) w.2 | (have b89 := sBn_e F89 (by omega); have b94 := sBn_e F94 (by omega); exact zBstY JJ (by omega) i126 (Or.inr (by omega)) w.2)) | (rcases w with w | w; (exfalso; omega); exact zBstN JJ (by omega) i126 (Or.inr w.2))) | (have b89 := sBn_e F89 (by omega); have b94 := sBn_e F94 (by omega); exact zBstN JJ (by omega) i126 (Or.inl (by omega)))) (by omega) rfl H locs ls hP hD hS (lv_sub hl [0, 1, 3, 4, 5, 6] rfl)
          refine lv_istore (lv' := [(5, .int 0), (4, .int (-1)), (3, .int m19_L_3), (2, .int v2), (0, .ref h0), (1, .int p0)]) hx hb dX6_fewestSketchers_65 hl (by decide) rfl (fun ls hl => ?_)
          have zj67_m67_L_4 : ((-1) : Int32).toInt = (-1) := by decide
          have zj67_m67_L_5 : (0 : Int32).toInt = 0 := by decide
          exact J67 _ (-1) 0 (by decide) (by decide) (fun kc kT q_fr hc hb h hq => (show (-1 : Int32).toInt = (-1 : Int) from by decide)) (by omega) rfl H locs ls hP hD hS (lv_sub hl [0, 1, 2, 3, 4, 5] rfl)
        · have c56 : m19_L_3.toInt = 0 := z5 rfl (by decide) c56
          refine lv_iconst (v := (-1)) hx hb dX6_fewestSketchers_59 (by decide) ?_
          have zr0 : ((-1) : Int32).toInt = (-1) := by decide
          rw [hQ]
          exact W.iret (v := ((-1))) hx hb hr (fun t ht hW => ⟨⟨(-1), (m19_A_mV, m19_A_mT), rfl, ⟨by (try dsimp only); omega, by (try dsimp only); omega, fun kc kT q_fr hc hb h hq => by have JJ := (jv19_0 kc kT _ hc hb h hq); rw [show m19_L_4.toInt.toNat = np.toInt.toNat by omega] at JJ; rw [zFp_0n JJ.2 (by omega) (zFace_b hb hq)]; decide⟩, ⟨by rw [ht]; exact hP, hD⟩⟩, hS.F ht⟩) hS.2.2 dX6_fewestSketchers_60
      · have c28 : m19_L_4.toInt < np.toInt := z4 rfl rfl c28
        refine lv_aload_n hx hb dX6_fewestSketchers_31 rfl (lv_at hl 3 rfl) ?_
        refine lv_iload hx hb dX6_fewestSketchers_32 (lv_at hl 0 rfl) ?_
        obtain ⟨hPc, hDc⟩ := zc2 (wc := [(h0, .inr (6, [.ref aC, .ref g0, .ref sd, .ref mW, .long mt, .int lf, .ref mV, .ref mA, .ref mT])), (aC, .inr (1, [.ref aR, .ref aB, .ref aP, .int nb, .int np])), (aP, .inl (cI, 20, .inl fp))]) hP hD [0, 1, 3] (by decide +kernel) rfl
        have hFc := zfr hS hA
        refine va_calli (va_runV (As := [.int m19_L_4]) (rest := []) ⟨hx, hb, hml, hown, hts⟩ (g_X6_sketches l dC dI cI cJ h0 m19_L_4 aC g0 sd mW mt lf mV mA mT aR aB aP nb np fp H.size (by omega)) (cwV 1 hts (zgV qw835 qw837 qw19 qw106 qw838) rfl rfl rfl hd_X6_sketches ⟨by rw [hR]; exact Nat.le_of_ble_eq_true rfl, by rw [hR]; exact Nat.le_of_ble_eq_true rfl⟩) (zPV hPc hK hDc (va_recv (q := (RX6, TX6, 9)) hK hP (ci := 6) (q0 := 0) rfl rfl)) rfl rfl hl.1 rfl (lv_room (Nat.le_of_ble_eq_true rfl)) dX6_fewestSketchers_34 ⟨Nat.zero_le _, Nat.zero_le _⟩) hS (fun q _ h => hFc q h) hFc (fun v34 u34 t H locs ht hvm hw hB hz1 hk1 hS9 => ?_)
        replace hP := zkeep hP hk1
        replace hS := hS9
        clear hPc hDc hFc hk1 hz1 hvm hS9
        obtain ⟨f34_0, f34_1, f34_2⟩ : (0 ≤ v34.toInt) ∧ (v34.toInt ≤ 1) ∧ ((v34.toInt = 1 ∧ ¬ (fp (4 * m19_L_4.toInt.toNat + 3)).toInt = 3) ∨ (v34.toInt = 0 ∧ (fp (4 * m19_L_4.toInt.toNat + 3)).toInt = 3)) := hw
        have F34 := f34_2
        refine lv_if_eq (tgt := 49) hx hb dX6_fewestSketchers_37 (by decide) (fun c37 => ?_) (fun c37 => ?_)
        · have c37 : v34.toInt = 0 := z5 rfl (by decide) c37
          obtain ⟨v49, e49⟩ : ∃ y : Int32, y = m19_L_4 + Int32.ofInt (1) := ⟨_, rfl⟩
          refine lv_iinc (v := v49) (lv' := [(4, .int v49), (3, .int m19_L_3), (2, .int v2), (0, .ref h0), (1, .int p0)]) hx hb dX6_fewestSketchers_49 hl (k := 0) rfl e49.symm (by decide) rfl (fun ls hl => ?_)
          have i49 : v49.toInt = m19_L_4.toInt + 1 := zaddI e49 (by decide) (by omega) (by omega)
          refine lv_goto (tgt := 19) hx hb dX6_fewestSketchers_52 (by decide) ?_
          exact ih19 _ (by omega) m19_A_mT m19_A_mV m19_L_3 v49 jf19_0 (by omega) (fun kc kT q_fr hc hb h hq => by have z3 := congrArg Int32.toInt (hc.2.2 (4 * m19_L_4.toInt.toNat + 3) (by omega)); have JJ := (jv19_0 kc kT _ hc hb h hq); first | (have a := F45 kc kT _ hc hb h (by omega) hq (by rw [zSc_lt h, zSc_sh h, ← hc.2.1 (4 * p0.toInt.toNat) (by omega)]; exact F2); exact zFwY JJ.1 (by omega) (by omega) i49 (by omega) a.1 a.2) | exact zFwN JJ.1 JJ.2 (by omega) i49 (by omega)) (by omega) rfl H locs ls hP hD hS (lv_sub hl [0, 1, 2, 3, 4] rfl)
        · have c37 : ¬ v34.toInt = 0 := z6 rfl (by decide) c37
          refine lv_aload_n hx hb dX6_fewestSketchers_40 rfl (lv_at hl 3 rfl) ?_
          refine lv_iload hx hb dX6_fewestSketchers_41 (lv_at hl 0 rfl) ?_
          refine lv_iload_n hx hb dX6_fewestSketchers_43 rfl (lv_at hl 4 rfl) ?_
          refine lv_iload_n hx hb dX6_fewestSketchers_44 rfl (lv_at hl 2 rfl) ?_
          obtain ⟨hPc, hDc, hFc⟩ := zc3 (wc := [(h0, .inr (6, [.ref aC, .ref g0, .ref sd, .ref mW, .long mt, .int lf, .ref mV, .ref mA, .ref mT])), (aC, .inr (1, [.ref aR, .ref aB, .ref aP, .int nb, .int np])), (aB, .inl (cI, 24, .inl fb)), (aP, .inl (cI, 20, .inl fp)), (g0, .inr (7, [.ref gY, .ref gF, .ref gP, .int gpn, .int glt, .int gsh, .int gwd, .int gpu, .int gmo])), (gY, .inl (cI, 6, .inl gfY)), (gF, .inl (cI, 5, .inl gfF)), (gP, .inl (cI, 80, .inl gfP)), (sd, .inr (8, [.ref w1, .ref w2, .ref aC, .ref g0, .ref aL, .ref aK, .null])), (mV, .inl (cI, 10, .inl m19_A_mV)), (mT, .inl (cI, 45, .inl m19_A_mT))]) hP hD hS hA [0, 1, 2, 3, 4, 5, 6, 7, 8, 9, 10] (by decide +kernel) rfl
          refine va_calli (va_runV (As := [.int m19_L_4, .int p0, .int v2]) (rest := []) ⟨hx, hb, hml, hown, hts⟩ (g_X6_addTeller_n l dC dI cI cJ h0 m19_L_4 p0 v2 aC g0 sd mW mt lf mV mA mT aR aB aP nb np fb fp gY gF gP gpn glt gsh gwd gpu gmo gfY gfF gfP w1 w2 aL aK m19_A_mV m19_A_mT H.size y_gpn (by omega) n_p0 ci_gfP_zPo) (cwV 3 hts (zgV qw888 qw890 qw22 qw106 qw891) rfl rfl rfl hd_X6_addTeller ⟨by rw [hR]; exact Nat.le_of_ble_eq_true rfl, by rw [hR]; exact Nat.le_of_ble_eq_true rfl⟩) (zPWV hPc hK hDc (va_recv (q := (RX6, TX6, 9)) hK hP (ci := 6) (q0 := 0) rfl rfl) (zV_call hV hS hFc)) rfl rfl hl.1 rfl (lv_room (Nat.le_of_ble_eq_true rfl)) dX6_fewestSketchers_45 ⟨Nat.zero_le _, Nat.zero_le _⟩) hS (fun q _ h => hFc q h) hFc (fun v45 u45 t H locs ht hvm hw hB hz1 hk1 hS9 => ?_)
          obtain ⟨u45_0, u45_1⟩ := u45
          obtain ⟨hP9, hD9⟩ := zj2 (wX := [(h0, .inr (6, [.ref aC, .ref g0, .ref sd, .ref mW, .long mt, .int lf, .ref mV, .ref mA, .ref mT])), (aC, .inr (1, [.ref aR, .ref aB, .ref aP, .int nb, .int np])), (aB, .inl (cI, 24, .inl fb)), (aP, .inl (cI, 20, .inl fp)), (g0, .inr (7, [.ref gY, .ref gF, .ref gP, .int gpn, .int glt, .int gsh, .int gwd, .int gpu, .int gmo])), (gY, .inl (cI, 6, .inl gfY)), (gF, .inl (cI, 5, .inl gfF)), (gP, .inl (cI, 80, .inl gfP)), (sd, .inr (8, [.ref w1, .ref w2, .ref aC, .ref g0, .ref aL, .ref aK, .null])), (mV, .inl (cI, 10, .inl u45_0)), (mT, .inl (cI, 45, .inl u45_1))]) hP hD hk1 hFc ht hB [0, 1, 2, 3, 4, 5, 6, 7, 8, 9, 10] [(true, 0), (true, 1), (true, 2), (true, 3), (true, 4), (true, 5), (true, 6), (true, 7), (true, 8), (true, 9), (true, 10)] rfl (by decide +kernel) (by decide +kernel) rfl
          clear hP hD hS hPc hDc hFc hB hk1 hz1 hvm
          have hP := hP9
          have hD := hD9
          have hS := hS9
          clear hP9 hD9 hS9
          obtain ⟨f45_0, f45_1, f45_2⟩ : (0 ≤ v45.toInt) ∧ (v45.toInt ≤ 45) ∧ (∀ (kc : zK3) (kT : zT) (q_fr : Nat → Int32), zCn q_fr fb fp nb.toInt np.toInt kc → zKo nb.toInt np.toInt kc kT → zSc nb.toInt np.toInt kT.1 gfY gfF gfP gpn glt gsh gwd gpu gmo → (0 ≤ m19_L_4.toInt ∧ m19_L_4.toInt < np.toInt) → (0 ≤ p0.toInt ∧ p0.toInt < nb.toInt) → v2 = zFit (cBt kT.1.2.2.1.1 p0) (cBt kT.1.2.2.1.2.1 p0) (kc.2.1 (4 * p0.toInt.toNat)) → v45.toInt = ((sPL kc kT.1 p0).length : Int) ∧ aNt (sPL kc kT.1 p0) (sDb kc kT.1 none p0 m19_L_4.toInt.toNat) m19_A_mT u45_1 (1 <<< (m19_L_4 &&& 31)) v45.toInt.toNat) := hw
          have F45 := f45_2
          refine lv_istore_n (lv' := [(3, .int v45), (4, .int m19_L_4), (2, .int v2), (0, .ref h0), (1, .int p0)]) hx hb dX6_fewestSketchers_48 rfl hl (by decide) rfl (fun ls hl => ?_)
          obtain ⟨v49, e49⟩ : ∃ y : Int32, y = m19_L_4 + Int32.ofInt (1) := ⟨_, rfl⟩
          refine lv_iinc (v := v49) (lv' := [(4, .int v49), (3, .int v45), (2, .int v2), (0, .ref h0), (1, .int p0)]) hx hb dX6_fewestSketchers_49 hl (k := 1) rfl e49.symm (by decide) rfl (fun ls hl => ?_)
          have i49 : v49.toInt = m19_L_4.toInt + 1 := zaddI e49 (by decide) (by omega) (by omega)
          refine lv_goto (tgt := 19) hx hb dX6_fewestSketchers_52 (by decide) ?_
          exact ih19 _ (by omega) u45_1 u45_0 v45 v49 ⟨f45_0, f45_1⟩ (by omega) (fun kc kT q_fr hc hb h hq => by have z3 := congrArg Int32.toInt (hc.2.2 (4 * m19_L_4.toInt.toNat + 3) (by omega)); have JJ := (jv19_0 kc kT _ hc hb h hq); first | (have a := F45 kc kT _ hc hb h (by omega) hq (by rw [zSc_lt h, zSc_sh h, ← hc.2.1 (4 * p0.toInt.toNat) (by omega)]; exact F2); exact zFwY JJ.1 (by omega) (by omega) i49 (by omega) a.1 a.2) | exact zFwN JJ.1 JJ.2 (by omega) i49 (by omega)) (by omega) rfl H locs ls hP hD hS (lv_sub hl [0, 1, 2, 3, 4] rfl)
  refine lv_istore (lv' := [(4, .int 0), (3, .int 0), (2, .int v2), (0, .ref h0), (1, .int p0)]) hx hb dX6_fewestSketchers_17 hl (by decide) rfl (fun ls hl => ?_)
  have zj19_m19_L_3 : (0 : Int32).toInt = 0 := by decide
  have zj19_m19_L_4 : (0 : Int32).toInt = 0 := by decide
  exact J19 _ u11_0 fV 0 0 (by decide) (by decide) (fun kc kT q_fr hc hb h hq => ⟨zFw_0 (fun j hj => F11 j hj), zFp_0⟩) (by omega) rfl H locs ls hP hD hS (lv_sub hl [0, 1, 2, 3, 4] rfl)
set_option maxHeartbeats 4000000 in
set_option maxRecDepth 100000 in
theorem g_X6_weighBy_l (l : Launch) (dC : Nat → ClassId) (dI : Nat → Nat → Nat) (cI cJ : ClassId) (h0 : Nat) (p0 : Int32) (p1 : Int32) (aC : Nat) (g0 : Nat) (sd : Nat) (mW : Nat) (mt : Int64) (lf : Int32) (mV : Nat) (mA : Nat) (mT : Nat) (aR : Nat) (aB : Nat) (aP : Nat) (nb : Int32) (np : Int32) (fb : Nat → Int32) (fp : Nat → Int32) (gY : Nat) (gF : Nat) (gP : Nat) (gpn : Int32) (glt : Int32) (gsh : Int32) (gwd : Int32) (gpu : Int32) (gmo : Int32) (gfY : Nat → Int32) (gfF : Nat → Int32) (gfP : Nat → Int32) (w1 : Nat) (w2 : Nat) (aL : Nat) (aK : Nat) (lw : Nat) (fL : Nat → Int32) (fK : Nat → Int32) (lS : Nat) (fS : Nat → Int32) (lk : Nat) (fW : Nat → Int64) (sz : Nat) (n_gpn : 0 ≤ gpn.toInt ∧ gpn.toInt ≤ 20) (n_p0 : 0 ≤ p0.toInt ∧ p0.toInt ≤ 19) (n_p1 : 0 ≤ p1.toInt ∧ p1.toInt ≤ 5) (hlk : lk ≤ 241) (ci_fS_zSt : zSt fS) (ci_gfP_zPo : zPo gfP)  : Met l yX6_weighBy (.code yX6_weighBy cX6_weighBy 7 none :: wA) ({ frames := 4, cells := 0, slots := 0, locals := 103 }) (zP (dC, dI) [(cI, .int), (cJ, .long)] [.ref h0, .int p0, .int p1] sz [(h0, .inr (6, [.ref aC, .ref g0, .ref sd, .ref mW, .long mt, .int lf, .ref mV, .ref mA, .ref mT])), (aC, .inr (1, [.ref aR, .ref aB, .ref aP, .int nb, .int np])), (aB, .inl (cI, 24, .inl fb)), (aP, .inl (cI, 20, .inl fp)), (g0, .inr (7, [.ref gY, .ref gF, .ref gP, .int gpn, .int glt, .int gsh, .int gwd, .int gpu, .int gmo])), (gY, .inl (cI, 6, .inl gfY)), (gF, .inl (cI, 5, .inl gfF)), (gP, .inl (cI, 80, .inl gfP)), (sd, .inr (8, [.ref w1, .ref w2, .ref aC, .ref g0, .ref aL, .ref aK, .ref lw])), (aL, .inl (cI, 6, .inl fL)), (aK, .inl (cI, 32, .inl fK)), (lw, .inr (4, [.ref lS])), (lS, .inl (cI, lk, .inl fS)), (mW, .inl (cJ, 10, .inr (.inl fW)))]) (va_Qv (fun (u : (Nat → Int32) × (Nat → Int32) × (Nat → Int64)) => (∀ (kc : zK3) (kT : zT) (q_fr : Nat → Int32) (kt : (Int → Int) × Int), zCn q_fr fb fp nb.toInt np.toInt kc → zKo nb.toInt np.toInt kc kT → zSc nb.toInt np.toInt kT.1 gfY gfF gfP gpn glt gsh gwd gpu gmo → zLwC fS lk kt → (0 ≤ p1.toInt ∧ p1.toInt < nb.toInt) → p0.toInt < gpn.toInt → zWb fW u.2.2 (fun j => sFc kc kT.1 (some kt) p1 (Int32.ofNat j) p0.toInt.toNat) 10)) (fun (u : (Nat → Int32) × (Nat → Int32) × (Nat → Int64)) (t : State) => va_P (dC, dI) vwCl [(h0, .inr (6, [.ref aC, .ref g0, .ref sd, .ref mW, .long mt, .int lf, .ref mV, .ref mA, .ref mT])), (aC, .inr (1, [.ref aR, .ref aB, .ref aP, .int nb, .int np])), (aB, .inl (cI, 24, .inl fb)), (aP, .inl (cI, 20, .inl fp)), (g0, .inr (7, [.ref gY, .ref gF, .ref gP, .int gpn, .int glt, .int gsh, .int gwd, .int gpu, .int gmo])), (gY, .inl (cI, 6, .inl gfY)), (gF, .inl (cI, 5, .inl gfF)), (gP, .inl (cI, 80, .inl gfP)), (sd, .inr (8, [.ref w1, .ref w2, .ref aC, .ref g0, .ref aL, .ref aK, .ref lw])), (aL, .inl (cI, 6, .inl u.1)), (aK, .inl (cI, 32, .inl u.2.1)), (lw, .inr (4, [.ref lS])), (lS, .inl (cI, lk, .inl fS)), (mW, .inl (cJ, 10, .inr (.inl u.2.2)))] t.heap ∧ va_D (va_A [(h0, .inr (6, [.ref aC, .ref g0, .ref sd, .ref mW, .long mt, .int lf, .ref mV, .ref mA, .ref mT])), (aC, .inr (1, [.ref aR, .ref aB, .ref aP, .int nb, .int np])), (aB, .inl (cI, 24, .inl fb)), (aP, .inl (cI, 20, .inl fp)), (g0, .inr (7, [.ref gY, .ref gF, .ref gP, .int gpn, .int glt, .int gsh, .int gwd, .int gpu, .int gmo])), (gY, .inl (cI, 6, .inl gfY)), (gF, .inl (cI, 5, .inl gfF)), (gP, .inl (cI, 80, .inl gfP)), (sd, .inr (8, [.ref w1, .ref w2, .ref aC, .ref g0, .ref aL, .ref aK, .ref lw])), (aL, .inl (cI, 6, .inl fL)), (aK, .inl (cI, 32, .inl fK)), (lw, .inr (4, [.ref lS])), (lS, .inl (cI, lk, .inl fS)), (mW, .inl (cJ, 10, .inr (.inl fW)))] sz) [(h0, .inr (6, [.ref aC, .ref g0, .ref sd, .ref mW, .long mt, .int lf, .ref mV, .ref mA, .ref mT])), (aC, .inr (1, [.ref aR, .ref aB, .ref aP, .int nb, .int np])), (aB, .inl (cI, 24, .inl fb)), (aP, .inl (cI, 20, .inl fp)), (g0, .inr (7, [.ref gY, .ref gF, .ref gP, .int gpn, .int glt, .int gsh, .int gwd, .int gpu, .int gmo])), (gY, .inl (cI, 6, .inl gfY)), (gF, .inl (cI, 5, .inl gfF)), (gP, .inl (cI, 80, .inl gfP)), (sd, .inr (8, [.ref w1, .ref w2, .ref aC, .ref g0, .ref aL, .ref aK, .ref lw])), (aL, .inl (cI, 6, .inl u.1)), (aK, .inl (cI, 32, .inl u.2.1)), (lw, .inr (4, [.ref lS])), (lS, .inl (cI, lk, .inl fS)), (mW, .inl (cJ, 10, .inr (.inl u.2.2)))]) (va_A [(h0, .inr (6, [.ref aC, .ref g0, .ref sd, .ref mW, .long mt, .int lf, .ref mV, .ref mA, .ref mT])), (aC, .inr (1, [.ref aR, .ref aB, .ref aP, .int nb, .int np])), (aB, .inl (cI, 24, .inl fb)), (aP, .inl (cI, 20, .inl fp)), (g0, .inr (7, [.ref gY, .ref gF, .ref gP, .int gpn, .int glt, .int gsh, .int gwd, .int gpu, .int gmo])), (gY, .inl (cI, 6, .inl gfY)), (gF, .inl (cI, 5, .inl gfF)), (gP, .inl (cI, 80, .inl gfP)), (sd, .inr (8, [.ref w1, .ref w2, .ref aC, .ref g0, .ref aL, .ref aK, .ref lw])), (aL, .inl (cI, 6, .inl fL)), (aK, .inl (cI, 32, .inl fK)), (lw, .inr (4, [.ref lS])), (lS, .inl (cI, lk, .inl fS)), (mW, .inl (cJ, 10, .inr (.inl fW)))] sz)) 0 0 (va_A [(h0, .inr (6, [.ref aC, .ref g0, .ref sd, .ref mW, .long mt, .int lf, .ref mV, .ref mA, .ref mT])), (aC, .inr (1, [.ref aR, .ref aB, .ref aP, .int nb, .int np])), (aB, .inl (cI, 24, .inl fb)), (aP, .inl (cI, 20, .inl fp)), (g0, .inr (7, [.ref gY, .ref gF, .ref gP, .int gpn, .int glt, .int gsh, .int gwd, .int gpu, .int gmo])), (gY, .inl (cI, 6, .inl gfY)), (gF, .inl (cI, 5, .inl gfF)), (gP, .inl (cI, 80, .inl gfP)), (sd, .inr (8, [.ref w1, .ref w2, .ref aC, .ref g0, .ref aL, .ref aK, .ref lw])), (aL, .inl (cI, 6, .inl fL)), (aK, .inl (cI, 32, .inl fK)), (lw, .inr (4, [.ref lS])), (lS, .inl (cI, lk, .inl fS)), (mW, .inl (cJ, 10, .inr (.inl fW)))] sz) := by
  refine Met.ofW (cc := cX6_weighBy) (maxL := 7) (ret := none) (by decide) rfl ?_
  intro p e s m args below meth c s₁ B hml hv
  obtain ⟨hargs, hsz, hP, hK, hT⟩ := hv
  have hx := B.exec
  have hb := B.bytes
  have hr := B.returns
  have hts : ∀ w ∈ wA, w.before args s = true := fun w h => atoms_spec (ws := .code yX6_weighBy cX6_weighBy 7 none :: wA) B.pre w (List.mem_cons_of_mem _ h)
  have hown : s.vm.findClass RX6 = some m.cls := findClass_of_methodNamed B.named
  have hlocks := B.notSynchronized
  subst hsz
  have hD := hT.self (sz := s.heap.size)
  generalize hAe : va_A [(h0, .inr (6, [.ref aC, .ref g0, .ref sd, .ref mW, .long mt, .int lf, .ref mV, .ref mA, .ref mT])), (aC, .inr (1, [.ref aR, .ref aB, .ref aP, .int nb, .int np])), (aB, .inl (cI, 24, .inl fb)), (aP, .inl (cI, 20, .inl fp)), (g0, .inr (7, [.ref gY, .ref gF, .ref gP, .int gpn, .int glt, .int gsh, .int gwd, .int gpu, .int gmo])), (gY, .inl (cI, 6, .inl gfY)), (gF, .inl (cI, 5, .inl gfF)), (gP, .inl (cI, 80, .inl gfP)), (sd, .inr (8, [.ref w1, .ref w2, .ref aC, .ref g0, .ref aL, .ref aK, .ref lw])), (aL, .inl (cI, 6, .inl fL)), (aK, .inl (cI, 32, .inl fK)), (lw, .inr (4, [.ref lS])), (lS, .inl (cI, lk, .inl fS)), (mW, .inl (cJ, 10, .inr (.inl fW)))] s.heap.size = A at hD ⊢
  have hA : ∀ q : Nat, s.heap.size ≤ q → A q := fun q h => by rw [← hAe]; exact Or.inr h
  have hl := lv_entry ([.ref h0, .int p0, .int p1]) (n := 7) (Nat.le_of_ble_eq_true rfl)
  rw [show entryFrame m args 7 = entryFrame m ([.ref h0, .int p0, .int p1] : List Value).toArray 7 by rw [hargs], lg_entry_eq]
  generalize (lg_sl ([.ref h0, .int p0, .int p1]) ++ List.replicate (7 - (lg_sl ([.ref h0, .int p0, .int p1])).length) Slot.unset).toArray = ls at hl ⊢
  have hl : lv_has ls 7 [(0, .ref h0), (1, .int p0), (2, .int p1)] := hl
  refine zstart (fun H hH => ?_)
  rw [← hH] at hP
  have hS : va_S A s.heap H [] := by rw [hH]; exact va_S.rf
  generalize ([] : List Loc) = locs at hS ⊢
  refine zgen (fun R Q hR hQ => ?_)
  refine lv_aload_n hx hb dX6_weighBy_0 rfl (lv_at hl 0 rfl) ?_
  refine va_get (D := (dC, dI)) (ci := 6) (v := .ref g0) (C := RX6) (T := TX6) (N := 9) hx hb hts iX6 hown hK hP 0 rfl rfl 1 (by decide) (hts _ qw317) (fun _ h9 => h9) rfl dX6_weighBy_1 ?_
  refine lv_iload_n hx hb dX6_weighBy_4 rfl (lv_at hl 1 rfl) ?_
  refine lv_iconst (v := 1) hx hb dX6_weighBy_5 (by decide) ?_
  obtain ⟨hPc, hDc⟩ := zc2 (wc := [(g0, .inr (7, [.ref gY, .ref gF, .ref gP, .int gpn, .int glt, .int gsh, .int gwd, .int gpu, .int gmo])), (gP, .inl (cI, 80, .inl gfP))]) hP hD [4, 7] (by decide +kernel) rfl
  have hFc := zfr hS hA
  refine va_calli (va_runV (As := [.int p0, .int 1]) (rest := []) ⟨hx, hb, hml, hown, hts⟩ (g_X7_ofPortrait_1 l dC dI cI cJ g0 p0 gY gF gP gpn glt gsh gwd gpu gmo gfP H.size n_p0 ci_gfP_zPo) (cwV 2 hts (zgV qw834 qw653 qw654 qw103 qw655) rfl rfl rfl hd_X7_ofPortrait ⟨by rw [hR]; exact Nat.le_of_ble_eq_true rfl, by rw [hR]; exact Nat.le_of_ble_eq_true rfl⟩) (zPV hPc hK hDc (va_recv (q := (RX7, TX7, 9)) hK hP (ci := 7) (q0 := 4) rfl rfl)) rfl rfl hl.1 rfl (lv_room (Nat.le_of_ble_eq_true rfl)) dX6_weighBy_6 ⟨Nat.zero_le _, Nat.zero_le _⟩) hS (fun q _ h => hFc q h) hFc (fun v6 u6 t H locs ht hvm hw hB hz1 hk1 hS9 => ?_)
  replace hP := zkeep hP hk1
  replace hS := hS9
  clear hPc hDc hFc hk1 hz1 hvm hS9
  obtain ⟨f6_0, f6_1, f6_2⟩ : (0 ≤ v6.toInt) ∧ (v6.toInt ≤ 4) ∧ (v6 = gfP (4 * p0.toInt.toNat + 1)) := hw
  have F6 := f6_2
  refine lv_istore_n (lv' := [(3, .int v6), (0, .ref h0), (1, .int p0), (2, .int p1)]) hx hb dX6_weighBy_9 rfl hl (by decide) rfl (fun ls hl => ?_)
  refine lv_aload_n hx hb dX6_weighBy_10 rfl (lv_at hl 1 rfl) ?_
  refine va_get (D := (dC, dI)) (ci := 6) (v := .ref g0) (C := RX6) (T := TX6) (N := 9) hx hb hts iX6 hown hK hP 0 rfl rfl 1 (by decide) (hts _ qw317) (fun _ h9 => h9) rfl dX6_weighBy_11 ?_
  refine lv_iload_n hx hb dX6_weighBy_14 rfl (lv_at hl 2 rfl) ?_
  refine lv_iconst (v := 2) hx hb dX6_weighBy_15 (by decide) ?_
  obtain ⟨hPc, hDc⟩ := zc2 (wc := [(g0, .inr (7, [.ref gY, .ref gF, .ref gP, .int gpn, .int glt, .int gsh, .int gwd, .int gpu, .int gmo])), (gP, .inl (cI, 80, .inl gfP))]) hP hD [4, 7] (by decide +kernel) rfl
  have hFc := zfr hS hA
  refine va_calli (va_runV (As := [.int p0, .int 2]) (rest := []) ⟨hx, hb, hml, hown, hts⟩ (g_X7_ofPortrait_2 l dC dI cI cJ g0 p0 gY gF gP gpn glt gsh gwd gpu gmo gfP H.size n_p0 ci_gfP_zPo) (cwV 2 hts (zgV qw834 qw653 qw654 qw103 qw655) rfl rfl rfl hd_X7_ofPortrait ⟨by rw [hR]; exact Nat.le_of_ble_eq_true rfl, by rw [hR]; exact Nat.le_of_ble_eq_true rfl⟩) (zPV hPc hK hDc (va_recv (q := (RX7, TX7, 9)) hK hP (ci := 7) (q0 := 4) rfl rfl)) rfl rfl hl.1 rfl (lv_room (Nat.le_of_ble_eq_true rfl)) dX6_weighBy_16 ⟨Nat.zero_le _, Nat.zero_le _⟩) hS (fun q _ h => hFc q h) hFc (fun v16 u16 t H locs ht hvm hw hB hz1 hk1 hS9 => ?_)
  replace hP := zkeep hP hk1
  replace hS := hS9
  clear hPc hDc hFc hk1 hz1 hvm hS9
  obtain ⟨f16_0, f16_1, f16_2⟩ : (0 ≤ v16.toInt) ∧ (v16.toInt ≤ 9) ∧ (v16 = gfP (4 * p0.toInt.toNat + 2)) := hw
  have F16 := f16_2
  refine lv_istore (lv' := [(4, .int v16), (3, .int v6), (0, .ref h0), (1, .int p0), (2, .int p1)]) hx hb dX6_weighBy_19 hl (by decide) rfl (fun ls hl => ?_)
  refine lv_iconst (v := 0) hx hb dX6_weighBy_21 (by decide) ?_
  have J24 : ∀ (n : Nat) (m24_A_aK : Nat → Int32) (m24_A_aL : Nat → Int32) (m24_A_mW : Nat → Int64) (m24_L_5 : Int32), (0 ≤ m24_L_5.toInt ∧ m24_L_5.toInt ≤ 10) → (∀ (kc : zK3) (kT : zT) (q_fr : Nat → Int32) (kt : (Int → Int) × Int), zCn q_fr fb fp nb.toInt np.toInt kc → zKo nb.toInt np.toInt kc kT → zSc nb.toInt np.toInt kT.1 gfY gfF gfP gpn glt gsh gwd gpu gmo → zLwC fS lk kt → (0 ≤ p1.toInt ∧ p1.toInt < nb.toInt) → p0.toInt < gpn.toInt → zWb fW m24_A_mW (fun j => sFc kc kT.1 (some kt) p1 (Int32.ofNat j) p0.toInt.toNat) m24_L_5.toInt) → (11 - m24_L_5.toInt).toNat = n → ∀ (H : Heap) (locs : List Loc) (ls : Array Slot), va_P (dC, dI) vwCl [(h0, .inr (6, [.ref aC, .ref g0, .ref sd, .ref mW, .long mt, .int lf, .ref mV, .ref mA, .ref mT])), (aC, .inr (1, [.ref aR, .ref aB, .ref aP, .int nb, .int np])), (aB, .inl (cI, 24, .inl fb)), (aP, .inl (cI, 20, .inl fp)), (g0, .inr (7, [.ref gY, .ref gF, .ref gP, .int gpn, .int glt, .int gsh, .int gwd, .int gpu, .int gmo])), (gY, .inl (cI, 6, .inl gfY)), (gF, .inl (cI, 5, .inl gfF)), (gP, .inl (cI, 80, .inl gfP)), (sd, .inr (8, [.ref w1, .ref w2, .ref aC, .ref g0, .ref aL, .ref aK, .ref lw])), (aL, .inl (cI, 6, .inl m24_A_aL)), (aK, .inl (cI, 32, .inl m24_A_aK)), (lw, .inr (4, [.ref lS])), (lS, .inl (cI, lk, .inl fS)), (mW, .inl (cJ, 10, .inr (.inl m24_A_mW)))] H → va_D A [(h0, .inr (6, [.ref aC, .ref g0, .ref sd, .ref mW, .long mt, .int lf, .ref mV, .ref mA, .ref mT])), (aC, .inr (1, [.ref aR, .ref aB, .ref aP, .int nb, .int np])), (aB, .inl (cI, 24, .inl fb)), (aP, .inl (cI, 20, .inl fp)), (g0, .inr (7, [.ref gY, .ref gF, .ref gP, .int gpn, .int glt, .int gsh, .int gwd, .int gpu, .int gmo])), (gY, .inl (cI, 6, .inl gfY)), (gF, .inl (cI, 5, .inl gfF)), (gP, .inl (cI, 80, .inl gfP)), (sd, .inr (8, [.ref w1, .ref w2, .ref aC, .ref g0, .ref aL, .ref aK, .ref lw])), (aL, .inl (cI, 6, .inl m24_A_aL)), (aK, .inl (cI, 32, .inl m24_A_aK)), (lw, .inr (4, [.ref lS])), (lS, .inl (cI, lk, .inl fS)), (mW, .inl (cJ, 10, .inr (.inl m24_A_mW)))] → va_S A s.heap H locs → lv_has ls 7 [(5, .int m24_L_5), (4, .int v16), (3, .int v6), (0, .ref h0), (1, .int p0), (2, .int p1)] → W p l e R s m args below meth c H locs 0 0 Q (F0 m 24 ls []) := by
    intro n24
    induction n24 using Nat.strongRecOn with
    | _ n24 ih24 =>
      intro m24_A_aK m24_A_aL m24_A_mW m24_L_5 jf24_0 jv24_0 hmu24 H locs ls hP hD hS hl
      refine lv_iload hx hb dX6_weighBy_24 (lv_at hl 0 rfl) ?_
      refine lv_bipush (v := 10) hx hb dX6_weighBy_26 (by decide) ?_
      refine lv_icmp_ge (tgt := 96) hx hb dX6_weighBy_28 (by decide) (fun c28 => ?_) (fun c28 => ?_)
      · have c28 : 10 ≤ m24_L_5.toInt := z3 (by decide) rfl c28
        rw [hQ]
        exact W.vret hx hb hr (fun t ht hW => ⟨⟨(m24_A_aL, m24_A_aK, m24_A_mW), rfl, (fun kc kT q_fr kt hc hb h ht hq hn => by have z := (jv24_0 kc kT _ kt hc hb h ht hq hn); rw [show m24_L_5.toInt = 10 by omega] at z; exact z), ⟨by rw [ht]; exact hP, hD⟩⟩, hS.F ht⟩) hS.2.2 dX6_weighBy_96
      · have c28 : m24_L_5.toInt < 10 := z4 (by decide) rfl c28
        refine lv_aload_n hx hb dX6_weighBy_31 rfl (lv_at hl 3 rfl) ?_
        refine va_get (D := (dC, dI)) (ci := 6) (v := .ref mW) (C := RX6) (T := TX6) (N := 9) hx hb hts iX6 hown hK hP 0 rfl rfl 3 (by decide) (hts _ qw319) (fun _ h9 => h9) rfl dX6_weighBy_32 ?_
        refine lv_iload hx hb dX6_weighBy_35 (lv_at hl 0 rfl) ?_
        refine va_lald hx hb hK hP 13 1 rfl rfl (vp_in_iff.mpr ⟨by omega, by omega⟩) dX6_weighBy_37 ?_
        refine lv_topl (fun v37 e37 => ?_)
        refine lv_lconst (v := 0) hx hb dX6_weighBy_38 rfl ?_
        refine W.lcmp hx hb dX6_weighBy_39 ?_
        refine lv_topi (fun v39 e39 => ?_)
        refine lv_if_eq (tgt := 90) hx hb dX6_weighBy_40 (by decide) (fun c40 => ?_) (fun c40 => ?_)
        · have c40 : v39.toInt = 0 := z5 rfl (by decide) c40
          obtain ⟨v90, e90⟩ : ∃ y : Int32, y = m24_L_5 + Int32.ofInt (1) := ⟨_, rfl⟩
          refine lv_iinc (v := v90) (lv' := [(5, .int v90), (4, .int v16), (3, .int v6), (0, .ref h0), (1, .int p0), (2, .int p1)]) hx hb dX6_weighBy_90 hl (k := 0) rfl e90.symm (by decide) rfl (fun ls hl => ?_)
          have i90 : v90.toInt = m24_L_5.toInt + 1 := zaddI e90 (by decide) (by omega) (by omega)
          refine lv_goto (tgt := 24) hx hb dX6_weighBy_93 (by decide) ?_
          exact ih24 _ (by omega) m24_A_aK m24_A_aL m24_A_mW v90 (by omega) (fun kc kT q_fr kt hc hb h ht hq hn => by first | (have zb := hb.2.2.2.1.2.2.2.2.2 p0.toInt.toNat (by rw [zSc_pn h]; omega); have y6 : v6 = kT.1.2.2.2.2 (4 * p0.toInt.toNat + 1) := F6.trans (h.2.2.2.2 _ (by omega)); have z6 := congrArg Int32.toInt y6; have y16 : v16 = kT.1.2.2.2.2 (4 * p0.toInt.toNat + 2) := F16.trans (h.2.2.2.2 _ (by omega)); have y77 : v77 = kc.2.2 (4 * v6.toInt.toNat) := F77.trans (hc.2.2 _ (by omega)); have s0 : v51 = sShow kc kT.1 (some kt) v6 p1 m24_L_5 := sShow_l hc hb h (by omega) hq (by omega) ht F51; have fc : v84 = sFc kc kT.1 (some kt) p1 (Int32.ofNat m24_L_5.toInt.toNat) p0.toInt.toNat := (by rw [← zk32 (show 0 ≤ m24_L_5.toInt by omega)]; exact sFc_mk y6 y16 s0 y77 e56 e57 e80 e83 e84); exact zWbY (jv24_0 kc kT _ kt hc hb h ht hq hn) (by omega) (by omega) i90 e69 (by rw [e69, ← e37]; exact zl0 e39 (by omega)) fc e87 e88 e89) | exact zWbN (jv24_0 kc kT _ kt hc hb h ht hq hn) (by omega) (by omega) i90 e37 (zl0z e39 (by omega))) rfl H locs ls hP hD hS (lv_sub hl [0, 1, 2, 3, 4, 5] rfl)
        · have c40 : ¬ v39.toInt = 0 := z6 rfl (by decide) c40
          refine lv_aload_n hx hb dX6_weighBy_43 rfl (lv_at hl 3 rfl) ?_
          refine va_get (D := (dC, dI)) (ci := 6) (v := .ref sd) (C := RX6) (T := TX6) (N := 9) hx hb hts iX6 hown hK hP 0 rfl rfl 2 (by decide) (hts _ qw318) (fun _ h9 => h9) rfl dX6_weighBy_44 ?_
          refine lv_iload_n hx hb dX6_weighBy_47 rfl (lv_at hl 2 rfl) ?_
          refine lv_iload_n hx hb dX6_weighBy_48 rfl (lv_at hl 5 rfl) ?_
          refine lv_iload hx hb dX6_weighBy_49 (lv_at hl 0 rfl) ?_
          obtain ⟨hPc, hDc, hFc⟩ := zc3 (wc := [(sd, .inr (8, [.ref w1, .ref w2, .ref aC, .ref g0, .ref aL, .ref aK, .ref lw])), (aC, .inr (1, [.ref aR, .ref aB, .ref aP, .int nb, .int np])), (aB, .inl (cI, 24, .inl fb)), (aP, .inl (cI, 20, .inl fp)), (g0, .inr (7, [.ref gY, .ref gF, .ref gP, .int gpn, .int glt, .int gsh, .int gwd, .int gpu, .int gmo])), (gY, .inl (cI, 6, .inl gfY)), (gF, .inl (cI, 5, .inl gfF)), (gP, .inl (cI, 80, .inl gfP)), (aL, .inl (cI, 6, .inl m24_A_aL)), (aK, .inl (cI, 32, .inl m24_A_aK)), (lw, .inr (4, [.ref lS])), (lS, .inl (cI, lk, .inl fS))]) hP hD hS hA [8, 1, 2, 3, 4, 5, 6, 7, 9, 10, 11, 12] (by decide +kernel) rfl
          refine va_calli (va_runV (As := [.int v6, .int p1, .int m24_L_5]) (rest := []) ⟨hx, hb, hml, hown, hts⟩ (g_X8_showOf_l l dC dI cI cJ sd v6 p1 m24_L_5 w1 w2 aC g0 aL aK lw aR aB aP nb np fb fp gY gF gP gpn glt gsh gwd gpu gmo gfY gfF gfP m24_A_aL m24_A_aK lS fS lk H.size n_gpn ⟨f6_0, f6_1⟩ n_p1 (hlk) ci_fS_zSt ci_gfP_zPo) (cwV 3 hts (zgV qw844 qw644 qw645 qw105 qw646) rfl rfl rfl hd_X8_showOf ⟨by rw [hR]; exact Nat.le_of_ble_eq_true rfl, by rw [hR]; exact Nat.le_of_ble_eq_true rfl⟩) (zPV hPc hK hDc (va_recv (q := (RX8, TX8, 7)) hK hP (ci := 8) (q0 := 8) rfl rfl)) rfl rfl hl.1 rfl (lv_room (Nat.le_of_ble_eq_true rfl)) dX6_weighBy_51 ⟨Nat.zero_le _, Nat.zero_le _⟩) hS (fun q _ h => hFc q h) hFc (fun v51 u51 t H locs ht hvm hw hB hz1 hk1 hS9 => ?_)
          obtain ⟨u51_0, u51_1⟩ := u51
          obtain ⟨hP9, hD9⟩ := zj2 (wX := [(h0, .inr (6, [.ref aC, .ref g0, .ref sd, .ref mW, .long mt, .int lf, .ref mV, .ref mA, .ref mT])), (aC, .inr (1, [.ref aR, .ref aB, .ref aP, .int nb, .int np])), (aB, .inl (cI, 24, .inl fb)), (aP, .inl (cI, 20, .inl fp)), (g0, .inr (7, [.ref gY, .ref gF, .ref gP, .int gpn, .int glt, .int gsh, .int gwd, .int gpu, .int gmo])), (gY, .inl (cI, 6, .inl gfY)), (gF, .inl (cI, 5, .inl gfF)), (gP, .inl (cI, 80, .inl gfP)), (sd, .inr (8, [.ref w1, .ref w2, .ref aC, .ref g0, .ref aL, .ref aK, .ref lw])), (aL, .inl (cI, 6, .inl u51_0)), (aK, .inl (cI, 32, .inl u51_1)), (lw, .inr (4, [.ref lS])), (lS, .inl (cI, lk, .inl fS)), (mW, .inl (cJ, 10, .inr (.inl m24_A_mW)))]) hP hD hk1 hFc ht hB [8, 1, 2, 3, 4, 5, 6, 7, 9, 10, 11, 12] [(false, 0), (true, 1), (true, 2), (true, 3), (true, 4), (true, 5), (true, 6), (true, 7), (true, 0), (true, 8), (true, 9), (true, 10), (true, 11), (false, 13)] rfl (by decide +kernel) (by decide +kernel) rfl
          clear hP hD hS hPc hDc hFc hB hk1 hz1 hvm
          have hP := hP9
          have hD := hD9
          have hS := hS9
          clear hP9 hD9 hS9
          obtain ⟨f51_0, f51_1, f51_2⟩ : (0 ≤ v51.toInt) ∧ (v51.toInt ≤ 9) ∧ (∀ t : (Int → Int) × Int, zLwC fS lk t → zB5 m24_L_5 (fb (4 * p1.toInt.toNat + 2)) (gfY p1.toInt.toNat) (fp (4 * v6.toInt.toNat)) (gfF v6.toInt.toNat) gmo → v51 = zSh (fp (4 * v6.toInt.toNat + 3)) (zLat gfP v6 gpn.toInt.toNat) (zLkv (some t) m24_L_5 (fb (4 * p1.toInt.toNat + 2)) (gfY p1.toInt.toNat) (fp (4 * v6.toInt.toNat)) (gfF v6.toInt.toNat) gmo)) := hw
          have F51 := f51_2
          refine lv_iload hx hb dX6_weighBy_54 (lv_at hl 1 rfl) ?_
          refine lv_isub hx hb dX6_weighBy_56 ?_
          refine lv_topi (fun v56 e56 => ?_)
          have i56 : v56.toInt = v51.toInt - v16.toInt := zsub e56 rfl rfl (by omega) (by omega)
          refine va_mabs hx hb (by rw [hml]; exact hl.1.symm) hown (hts _ qw845) (hts _ qw846) (hts _ qw112) (hts _ qw847) (by rw [hR]; exact Nat.le_of_ble_eq_true rfl) (by rw [hR]; exact Nat.le_of_ble_eq_true rfl) (Nat.zero_le _) (Nat.zero_le _) dX6_weighBy_57 ?_
          refine lv_topi (fun v57 e57 => ?_)
          refine lv_istore (lv' := [(6, .int v57), (5, .int m24_L_5), (4, .int v16), (3, .int v6), (0, .ref h0), (1, .int p0), (2, .int p1)]) hx hb dX6_weighBy_60 hl (by decide) rfl (fun ls hl => ?_)
          refine lv_aload_n hx hb dX6_weighBy_62 rfl (lv_at hl 4 rfl) ?_
          refine va_get (D := (dC, dI)) (ci := 6) (v := .ref mW) (C := RX6) (T := TX6) (N := 9) hx hb hts iX6 hown hK hP 0 rfl rfl 3 (by decide) (hts _ qw319) (fun _ h9 => h9) rfl dX6_weighBy_63 ?_
          refine lv_iload hx hb dX6_weighBy_66 (lv_at hl 1 rfl) ?_
          refine lv_dup2_11 hx hb dX6_weighBy_68 rfl rfl ?_
          refine va_lald hx hb hK hP 13 1 rfl rfl (vp_in_iff.mpr ⟨by omega, by omega⟩) dX6_weighBy_69 ?_
          refine lv_topl (fun v69 e69 => ?_)
          refine lv_iconst (v := 1) hx hb dX6_weighBy_70 (by decide) ?_
          refine lv_iconst (v := 1) hx hb dX6_weighBy_71 (by decide) ?_
          refine lv_aload_n hx hb dX6_weighBy_72 rfl (lv_at hl 4 rfl) ?_
          refine va_get (D := (dC, dI)) (ci := 6) (v := .ref aC) (C := RX6) (T := TX6) (N := 9) hx hb hts iX6 hown hK hP 0 rfl rfl 0 (by decide) (hts _ qw316) (fun _ h9 => h9) rfl dX6_weighBy_73 ?_
          refine lv_iload_n hx hb dX6_weighBy_76 rfl (lv_at hl 3 rfl) ?_
          obtain ⟨hPc, hDc⟩ := zc2 (wc := [(aC, .inr (1, [.ref aR, .ref aB, .ref aP, .int nb, .int np])), (aP, .inl (cI, 20, .inl fp))]) hP hD [1, 3] (by decide +kernel) rfl
          have hFc := zfr hS hA
          refine va_calli (va_runV (As := [.int v6]) (rest := [.int 1, .int 1, .long v69, .int m24_L_5, .ref mW]) ⟨hx, hb, hml, hown, hts⟩ (g_X1_skillOf l dC dI cI cJ aC v6 aR aB aP nb np fp H.size ⟨f6_0, f6_1⟩) (cwV 1 hts (zgV qw848 qw605 qw606 qw102 qw607) rfl rfl rfl hd_X1_skillOf ⟨by rw [hR]; exact Nat.le_of_ble_eq_true rfl, by rw [hR]; exact Nat.le_of_ble_eq_true rfl⟩) (zPV hPc hK hDc (va_recv (q := (RX1, TX1, 5)) hK hP (ci := 1) (q0 := 1) rfl rfl)) rfl rfl hl.1 rfl (lv_room (Nat.le_of_ble_eq_true rfl)) dX6_weighBy_77 ⟨Nat.zero_le _, Nat.zero_le _⟩) hS (fun q _ h => hFc q h) hFc (fun v77 u77 t H locs ht hvm hw hB hz1 hk1 hS9 => ?_)
          replace hP := zkeep hP hk1
          replace hS := hS9
          clear hPc hDc hFc hk1 hz1 hvm hS9
          have f77_0 : (v77 = fp (4 * v6.toInt.toNat)) := hw
          have F77 := f77_0
          refine lv_iadd hx hb dX6_weighBy_80 ?_
          refine lv_topi (fun v80 e80 => ?_)
          refine lv_iload hx hb dX6_weighBy_81 (lv_at hl 0 rfl) ?_
          refine lv_isub hx hb dX6_weighBy_83 ?_
          refine lv_topi (fun v83 e83 => ?_)
          refine va_mmax hx hb (by rw [hml]; exact hl.1.symm) hown (hts _ qw849) (hts _ qw634) (hts _ qw112) (hts _ qw635) (by rw [hR]; exact Nat.le_of_ble_eq_true rfl) (by rw [hR]; exact Nat.le_of_ble_eq_true rfl) (Nat.zero_le _) (Nat.zero_le _) dX6_weighBy_84 ?_
          refine lv_topi (fun v84 e84 => ?_)
          have zc84_0 : (1 : Int32).toInt = 1 := by decide
          have i84 := zmmax e84
          refine lv_i2l hx hb dX6_weighBy_87 rfl ?_
          refine lv_topl (fun v87 e87 => ?_)
          refine lv_lmul hx hb dX6_weighBy_88 ?_
          refine lv_topl (fun v88 e88 => ?_)
          refine va_last hx hb hK hP hD hS 13 1 rfl rfl (vp_in_iff.mpr ⟨by omega, by omega⟩) dX6_weighBy_89 (fun H locs hP9 hD9 hS9 => ?_)
          clear hP hD hS
          obtain ⟨v89_f, e89⟩ : ∃ g : Nat → Int64, g = vp_updL m24_A_mW (m24_L_5).toNatClampNeg v88 := ⟨_, rfl⟩
          rw [← e89] at hP9 hD9
          obtain ⟨hP, hD⟩ := zst (wX := [(h0, .inr (6, [.ref aC, .ref g0, .ref sd, .ref mW, .long mt, .int lf, .ref mV, .ref mA, .ref mT])), (aC, .inr (1, [.ref aR, .ref aB, .ref aP, .int nb, .int np])), (aB, .inl (cI, 24, .inl fb)), (aP, .inl (cI, 20, .inl fp)), (g0, .inr (7, [.ref gY, .ref gF, .ref gP, .int gpn, .int glt, .int gsh, .int gwd, .int gpu, .int gmo])), (gY, .inl (cI, 6, .inl gfY)), (gF, .inl (cI, 5, .inl gfF)), (gP, .inl (cI, 80, .inl gfP)), (sd, .inr (8, [.ref w1, .ref w2, .ref aC, .ref g0, .ref aL, .ref aK, .ref lw])), (aL, .inl (cI, 6, .inl u51_0)), (aK, .inl (cI, 32, .inl u51_1)), (lw, .inr (4, [.ref lS])), (lS, .inl (cI, lk, .inl fS)), (mW, .inl (cJ, 10, .inr (.inl v89_f)))]) hP9 hD9 rfl
          have hS := hS9
          clear hP9 hD9 hS9
          obtain ⟨v90, e90⟩ : ∃ y : Int32, y = m24_L_5 + Int32.ofInt (1) := ⟨_, rfl⟩
          refine lv_iinc (v := v90) (lv' := [(5, .int v90), (6, .int v57), (4, .int v16), (3, .int v6), (0, .ref h0), (1, .int p0), (2, .int p1)]) hx hb dX6_weighBy_90 hl (k := 1) rfl e90.symm (by decide) rfl (fun ls hl => ?_)
          have i90 : v90.toInt = m24_L_5.toInt + 1 := zaddI e90 (by decide) (by omega) (by omega)
          refine lv_goto (tgt := 24) hx hb dX6_weighBy_93 (by decide) ?_
          exact ih24 _ (by omega) u51_1 u51_0 v89_f v90 (by omega) (fun kc kT q_fr kt hc hb h ht hq hn => by first | (have zb := hb.2.2.2.1.2.2.2.2.2 p0.toInt.toNat (by rw [zSc_pn h]; omega); have y6 : v6 = kT.1.2.2.2.2 (4 * p0.toInt.toNat + 1) := F6.trans (h.2.2.2.2 _ (by omega)); have z6 := congrArg Int32.toInt y6; have y16 : v16 = kT.1.2.2.2.2 (4 * p0.toInt.toNat + 2) := F16.trans (h.2.2.2.2 _ (by omega)); have y77 : v77 = kc.2.2 (4 * v6.toInt.toNat) := F77.trans (hc.2.2 _ (by omega)); have s0 : v51 = sShow kc kT.1 (some kt) v6 p1 m24_L_5 := sShow_l hc hb h (by omega) hq (by omega) ht F51; have fc : v84 = sFc kc kT.1 (some kt) p1 (Int32.ofNat m24_L_5.toInt.toNat) p0.toInt.toNat := (by rw [← zk32 (show 0 ≤ m24_L_5.toInt by omega)]; exact sFc_mk y6 y16 s0 y77 e56 e57 e80 e83 e84); exact zWbY (jv24_0 kc kT _ kt hc hb h ht hq hn) (by omega) (by omega) i90 e69 (by rw [e69, ← e37]; exact zl0 e39 (by omega)) fc e87 e88 e89) | exact zWbN (jv24_0 kc kT _ kt hc hb h ht hq hn) (by omega) (by omega) i90 e37 (zl0z e39 (by omega))) rfl H locs ls hP hD hS (lv_sub hl [0, 2, 3, 4, 5, 6] rfl)
  refine lv_istore (lv' := [(5, .int 0), (4, .int v16), (3, .int v6), (0, .ref h0), (1, .int p0), (2, .int p1)]) hx hb dX6_weighBy_22 hl (by decide) rfl (fun ls hl => ?_)
  have zj24_m24_L_5 : (0 : Int32).toInt = 0 := by decide
  exact J24 _ fK fL fW 0 (by decide) (fun kc kT q_fr kt hc hb h ht hq hn => zWb0) rfl H locs ls hP hD hS (lv_sub hl [0, 1, 2, 3, 4, 5] rfl)
set_option maxHeartbeats 4000000 in
set_option maxRecDepth 100000 in
theorem g_X6_weigh_l (l : Launch) (dC : Nat → ClassId) (dI : Nat → Nat → Nat) (cI cJ : ClassId) (h0 : Nat) (p0 : Int32) (aC : Nat) (g0 : Nat) (sd : Nat) (mW : Nat) (mt : Int64) (lf : Int32) (mV : Nat) (mA : Nat) (mT : Nat) (aR : Nat) (aB : Nat) (aP : Nat) (nb : Int32) (np : Int32) (fb : Nat → Int32) (fp : Nat → Int32) (gY : Nat) (gF : Nat) (gP : Nat) (gpn : Int32) (glt : Int32) (gsh : Int32) (gwd : Int32) (gpu : Int32) (gmo : Int32) (gfY : Nat → Int32) (gfF : Nat → Int32) (gfP : Nat → Int32) (w1 : Nat) (w2 : Nat) (aL : Nat) (aK : Nat) (lw : Nat) (fL : Nat → Int32) (fK : Nat → Int32) (lS : Nat) (fS : Nat → Int32) (lk : Nat) (fW : Nat → Int64) (sz : Nat) (n_gpn : 0 ≤ gpn.toInt ∧ gpn.toInt ≤ 20) (n_lf : 0 ≤ lf.toInt ∧ lf.toInt ≤ 9) (n_p0 : 0 ≤ p0.toInt ∧ p0.toInt ≤ 5) (hlk : lk ≤ 241) (ci_fS_zSt : zSt fS) (ci_gfP_zPo : zPo gfP)  : Met l yX6_weigh (.code yX6_weigh cX6_weigh 5 none :: wA) ({ frames := 5, cells := 0, slots := 0, locals := 129 }) (zPW (dC, dI) [(cI, .int), (cJ, .long)] [.ref h0, .int p0] sz [(h0, .inr (6, [.ref aC, .ref g0, .ref sd, .ref mW, .long mt, .int lf, .ref mV, .ref mA, .ref mT])), (aC, .inr (1, [.ref aR, .ref aB, .ref aP, .int nb, .int np])), (aB, .inl (cI, 24, .inl fb)), (aP, .inl (cI, 20, .inl fp)), (g0, .inr (7, [.ref gY, .ref gF, .ref gP, .int gpn, .int glt, .int gsh, .int gwd, .int gpu, .int gmo])), (gY, .inl (cI, 6, .inl gfY)), (gF, .inl (cI, 5, .inl gfF)), (gP, .inl (cI, 80, .inl gfP)), (sd, .inr (8, [.ref w1, .ref w2, .ref aC, .ref g0, .ref aL, .ref aK, .ref lw])), (aL, .inl (cI, 6, .inl fL)), (aK, .inl (cI, 32, .inl fK)), (lw, .inr (4, [.ref lS])), (lS, .inl (cI, lk, .inl fS)), (mW, .inl (cJ, 10, .inr (.inl fW)))] (va_A [(h0, .inr (6, [.ref aC, .ref g0, .ref sd, .ref mW, .long mt, .int lf, .ref mV, .ref mA, .ref mT])), (aC, .inr (1, [.ref aR, .ref aB, .ref aP, .int nb, .int np])), (aB, .inl (cI, 24, .inl fb)), (aP, .inl (cI, 20, .inl fp)), (g0, .inr (7, [.ref gY, .ref gF, .ref gP, .int gpn, .int glt, .int gsh, .int gwd, .int gpu, .int gmo])), (gY, .inl (cI, 6, .inl gfY)), (gF, .inl (cI, 5, .inl gfF)), (gP, .inl (cI, 80, .inl gfP)), (sd, .inr (8, [.ref w1, .ref w2, .ref aC, .ref g0, .ref aL, .ref aK, .ref lw])), (aL, .inl (cI, 6, .inl fL)), (aK, .inl (cI, 32, .inl fK)), (lw, .inr (4, [.ref lS])), (lS, .inl (cI, lk, .inl fS)), (mW, .inl (cJ, 10, .inr (.inl fW)))] sz)) (va_Qv (fun (u : Int64 × Int32 × (Nat → Int32) × (Nat → Int32) × (Nat → Int64)) => (0 ≤ u.2.1.toInt) ∧ (u.2.1.toInt ≤ 9) ∧ (∀ (kc : zK3) (kT : zT) (q_fr : Nat → Int32) (kt : (Int → Int) × Int), zCn q_fr fb fp nb.toInt np.toInt kc → zKo nb.toInt np.toInt kc kT → zSc nb.toInt np.toInt kT.1 gfY gfF gfP gpn glt gsh gwd gpu gmo → zLwC fS lk kt → (0 ≤ p0.toInt ∧ p0.toInt < nb.toInt) → zWe kc kT.1 (some kt) p0 u.2.2.2.2 u.1 u.2.1)) (fun (u : Int64 × Int32 × (Nat → Int32) × (Nat → Int32) × (Nat → Int64)) (t : State) => va_P (dC, dI) vwCl [(h0, .inr (6, [.ref aC, .ref g0, .ref sd, .ref mW, .long u.1, .int u.2.1, .ref mV, .ref mA, .ref mT])), (aC, .inr (1, [.ref aR, .ref aB, .ref aP, .int nb, .int np])), (aB, .inl (cI, 24, .inl fb)), (aP, .inl (cI, 20, .inl fp)), (g0, .inr (7, [.ref gY, .ref gF, .ref gP, .int gpn, .int glt, .int gsh, .int gwd, .int gpu, .int gmo])), (gY, .inl (cI, 6, .inl gfY)), (gF, .inl (cI, 5, .inl gfF)), (gP, .inl (cI, 80, .inl gfP)), (sd, .inr (8, [.ref w1, .ref w2, .ref aC, .ref g0, .ref aL, .ref aK, .ref lw])), (aL, .inl (cI, 6, .inl u.2.2.1)), (aK, .inl (cI, 32, .inl u.2.2.2.1)), (lw, .inr (4, [.ref lS])), (lS, .inl (cI, lk, .inl fS)), (mW, .inl (cJ, 10, .inr (.inl u.2.2.2.2)))] t.heap ∧ va_D (va_A [(h0, .inr (6, [.ref aC, .ref g0, .ref sd, .ref mW, .long mt, .int lf, .ref mV, .ref mA, .ref mT])), (aC, .inr (1, [.ref aR, .ref aB, .ref aP, .int nb, .int np])), (aB, .inl (cI, 24, .inl fb)), (aP, .inl (cI, 20, .inl fp)), (g0, .inr (7, [.ref gY, .ref gF, .ref gP, .int gpn, .int glt, .int gsh, .int gwd, .int gpu, .int gmo])), (gY, .inl (cI, 6, .inl gfY)), (gF, .inl (cI, 5, .inl gfF)), (gP, .inl (cI, 80, .inl gfP)), (sd, .inr (8, [.ref w1, .ref w2, .ref aC, .ref g0, .ref aL, .ref aK, .ref lw])), (aL, .inl (cI, 6, .inl fL)), (aK, .inl (cI, 32, .inl fK)), (lw, .inr (4, [.ref lS])), (lS, .inl (cI, lk, .inl fS)), (mW, .inl (cJ, 10, .inr (.inl fW)))] sz) [(h0, .inr (6, [.ref aC, .ref g0, .ref sd, .ref mW, .long u.1, .int u.2.1, .ref mV, .ref mA, .ref mT])), (aC, .inr (1, [.ref aR, .ref aB, .ref aP, .int nb, .int np])), (aB, .inl (cI, 24, .inl fb)), (aP, .inl (cI, 20, .inl fp)), (g0, .inr (7, [.ref gY, .ref gF, .ref gP, .int gpn, .int glt, .int gsh, .int gwd, .int gpu, .int gmo])), (gY, .inl (cI, 6, .inl gfY)), (gF, .inl (cI, 5, .inl gfF)), (gP, .inl (cI, 80, .inl gfP)), (sd, .inr (8, [.ref w1, .ref w2, .ref aC, .ref g0, .ref aL, .ref aK, .ref lw])), (aL, .inl (cI, 6, .inl u.2.2.1)), (aK, .inl (cI, 32, .inl u.2.2.2.1)), (lw, .inr (4, [.ref lS])), (lS, .inl (cI, lk, .inl fS)), (mW, .inl (cJ, 10, .inr (.inl u.2.2.2.2)))]) (va_A [(h0, .inr (6, [.ref aC, .ref g0, .ref sd, .ref mW, .long mt, .int lf, .ref mV, .ref mA, .ref mT])), (aC, .inr (1, [.ref aR, .ref aB, .ref aP, .int nb, .int np])), (aB, .inl (cI, 24, .inl fb)), (aP, .inl (cI, 20, .inl fp)), (g0, .inr (7, [.ref gY, .ref gF, .ref gP, .int gpn, .int glt, .int gsh, .int gwd, .int gpu, .int gmo])), (gY, .inl (cI, 6, .inl gfY)), (gF, .inl (cI, 5, .inl gfF)), (gP, .inl (cI, 80, .inl gfP)), (sd, .inr (8, [.ref w1, .ref w2, .ref aC, .ref g0, .ref aL, .ref aK, .ref lw])), (aL, .inl (cI, 6, .inl fL)), (aK, .inl (cI, 32, .inl fK)), (lw, .inr (4, [.ref lS])), (lS, .inl (cI, lk, .inl fS)), (mW, .inl (cJ, 10, .inr (.inl fW)))] sz)) 0 0 (va_A [(h0, .inr (6, [.ref aC, .ref g0, .ref sd, .ref mW, .long mt, .int lf, .ref mV, .ref mA, .ref mT])), (aC, .inr (1, [.ref aR, .ref aB, .ref aP, .int nb, .int np])), (aB, .inl (cI, 24, .inl fb)), (aP, .inl (cI, 20, .inl fp)), (g0, .inr (7, [.ref gY, .ref gF, .ref gP, .int gpn, .int glt, .int gsh, .int gwd, .int gpu, .int gmo])), (gY, .inl (cI, 6, .inl gfY)), (gF, .inl (cI, 5, .inl gfF)), (gP, .inl (cI, 80, .inl gfP)), (sd, .inr (8, [.ref w1, .ref w2, .ref aC, .ref g0, .ref aL, .ref aK, .ref lw])), (aL, .inl (cI, 6, .inl fL)), (aK, .inl (cI, 32, .inl fK)), (lw, .inr (4, [.ref lS])), (lS, .inl (cI, lk, .inl fS)), (mW, .inl (cJ, 10, .inr (.inl fW)))] sz) := by
  refine Met.ofW (cc := cX6_weigh) (maxL := 5) (ret := none) (by decide) rfl ?_
  intro p e s m args below meth c s₁ B hml hv
  have y_lf : zHid (0 ≤ lf.toInt ∧ lf.toInt ≤ 9) := n_lf
  clear n_lf
  obtain ⟨⟨hargs, hsz, hP, hK, hT⟩, hV⟩ := hv
  have hx := B.exec
  have hb := B.bytes
  have hr := B.returns
  have hts : ∀ w ∈ wA, w.before args s = true := fun w h => atoms_spec (ws := .code yX6_weigh cX6_weigh 5 none :: wA) B.pre w (List.mem_cons_of_mem _ h)
  have hown : s.vm.findClass RX6 = some m.cls := findClass_of_methodNamed B.named
  have hlocks := B.notSynchronized
  subst hsz
  have hD := hT.self (sz := s.heap.size)
  generalize hAe : va_A [(h0, .inr (6, [.ref aC, .ref g0, .ref sd, .ref mW, .long mt, .int lf, .ref mV, .ref mA, .ref mT])), (aC, .inr (1, [.ref aR, .ref aB, .ref aP, .int nb, .int np])), (aB, .inl (cI, 24, .inl fb)), (aP, .inl (cI, 20, .inl fp)), (g0, .inr (7, [.ref gY, .ref gF, .ref gP, .int gpn, .int glt, .int gsh, .int gwd, .int gpu, .int gmo])), (gY, .inl (cI, 6, .inl gfY)), (gF, .inl (cI, 5, .inl gfF)), (gP, .inl (cI, 80, .inl gfP)), (sd, .inr (8, [.ref w1, .ref w2, .ref aC, .ref g0, .ref aL, .ref aK, .ref lw])), (aL, .inl (cI, 6, .inl fL)), (aK, .inl (cI, 32, .inl fK)), (lw, .inr (4, [.ref lS])), (lS, .inl (cI, lk, .inl fS)), (mW, .inl (cJ, 10, .inr (.inl fW)))] s.heap.size = A at hD hV ⊢
  have hA : ∀ q : Nat, s.heap.size ≤ q → A q := fun q h => by rw [← hAe]; exact Or.inr h
  have hl := lv_entry ([.ref h0, .int p0]) (n := 5) (Nat.le_of_ble_eq_true rfl)
  rw [show entryFrame m args 5 = entryFrame m ([.ref h0, .int p0] : List Value).toArray 5 by rw [hargs], lg_entry_eq]
  generalize (lg_sl ([.ref h0, .int p0]) ++ List.replicate (5 - (lg_sl ([.ref h0, .int p0])).length) Slot.unset).toArray = ls at hl ⊢
  have hl : lv_has ls 5 [(0, .ref h0), (1, .int p0)] := hl
  refine zstart (fun H hH => ?_)
  rw [← hH] at hP
  have hS : va_S A s.heap H [] := by rw [hH]; exact va_S.rf
  generalize ([] : List Loc) = locs at hS ⊢
  refine zgen (fun R Q hR hQ => ?_)
  refine lv_aload_n hx hb dX6_weigh_0 rfl (lv_at hl 0 rfl) ?_
  refine lv_iload_n hx hb dX6_weigh_1 rfl (lv_at hl 1 rfl) ?_
  obtain ⟨hPc, hDc⟩ := zc2 (wc := [(h0, .inr (6, [.ref aC, .ref g0, .ref sd, .ref mW, .long mt, .int lf, .ref mV, .ref mA, .ref mT])), (aC, .inr (1, [.ref aR, .ref aB, .ref aP, .int nb, .int np])), (aB, .inl (cI, 24, .inl fb)), (g0, .inr (7, [.ref gY, .ref gF, .ref gP, .int gpn, .int glt, .int gsh, .int gwd, .int gpu, .int gmo]))]) hP hD [0, 1, 2, 4] (by decide +kernel) rfl
  have hFc := zfr hS hA
  refine va_calli (va_runV (As := [.int p0]) (rest := []) ⟨hx, hb, hml, hown, hts⟩ (g_X6_fitting l dC dI cI cJ h0 p0 aC g0 sd mW mt lf mV mA mT aR aB aP nb np fb gY gF gP gpn glt gsh gwd gpu gmo H.size n_p0) (cwV 1 hts (zgV qw833 qw820 qw821 qw106 qw822) rfl rfl rfl hd_X6_fitting ⟨by rw [hR]; exact Nat.le_of_ble_eq_true rfl, by rw [hR]; exact Nat.le_of_ble_eq_true rfl⟩) (zPWV hPc hK hDc (va_recv (q := (RX6, TX6, 9)) hK hP (ci := 6) (q0 := 0) rfl rfl) (zV_call hV hS hFc)) rfl rfl hl.1 rfl (lv_room (Nat.le_of_ble_eq_true rfl)) dX6_weigh_2 ⟨Nat.zero_le _, Nat.zero_le _⟩) hS (fun q _ h => hFc q h) hFc (fun v2 u2 t H locs ht hvm hw hB hz1 hk1 hS9 => ?_)
  replace hP := zkeep hP hk1
  replace hS := hS9
  clear hPc hDc hFc hk1 hz1 hvm hS9
  obtain ⟨f2_0, f2_1, f2_2⟩ : (10 ≤ v2.toInt) ∧ (v2.toInt ≤ 1023) ∧ (v2 = zFit (cBt glt p0) (cBt gsh p0) (fb (4 * p0.toInt.toNat))) := hw
  have F2 := f2_2
  refine lv_istore_n (lv' := [(2, .int v2), (0, .ref h0), (1, .int p0)]) hx hb dX6_weigh_5 rfl hl (by decide) rfl (fun ls hl => ?_)
  refine lv_iconst (v := 0) hx hb dX6_weigh_6 (by decide) ?_
  have J8 : ∀ (n : Nat) (m8_A_mW : Nat → Int64) (m8_L_3 : Int32), (0 ≤ m8_L_3.toInt ∧ m8_L_3.toInt ≤ 10) → (zJ0 m8_A_mW v2 m8_L_3.toInt) → (11 - m8_L_3.toInt).toNat = n → ∀ (H : Heap) (locs : List Loc) (ls : Array Slot), va_P (dC, dI) vwCl [(h0, .inr (6, [.ref aC, .ref g0, .ref sd, .ref mW, .long mt, .int lf, .ref mV, .ref mA, .ref mT])), (aC, .inr (1, [.ref aR, .ref aB, .ref aP, .int nb, .int np])), (aB, .inl (cI, 24, .inl fb)), (aP, .inl (cI, 20, .inl fp)), (g0, .inr (7, [.ref gY, .ref gF, .ref gP, .int gpn, .int glt, .int gsh, .int gwd, .int gpu, .int gmo])), (gY, .inl (cI, 6, .inl gfY)), (gF, .inl (cI, 5, .inl gfF)), (gP, .inl (cI, 80, .inl gfP)), (sd, .inr (8, [.ref w1, .ref w2, .ref aC, .ref g0, .ref aL, .ref aK, .ref lw])), (aL, .inl (cI, 6, .inl fL)), (aK, .inl (cI, 32, .inl fK)), (lw, .inr (4, [.ref lS])), (lS, .inl (cI, lk, .inl fS)), (mW, .inl (cJ, 10, .inr (.inl m8_A_mW)))] H → va_D A [(h0, .inr (6, [.ref aC, .ref g0, .ref sd, .ref mW, .long mt, .int lf, .ref mV, .ref mA, .ref mT])), (aC, .inr (1, [.ref aR, .ref aB, .ref aP, .int nb, .int np])), (aB, .inl (cI, 24, .inl fb)), (aP, .inl (cI, 20, .inl fp)), (g0, .inr (7, [.ref gY, .ref gF, .ref gP, .int gpn, .int glt, .int gsh, .int gwd, .int gpu, .int gmo])), (gY, .inl (cI, 6, .inl gfY)), (gF, .inl (cI, 5, .inl gfF)), (gP, .inl (cI, 80, .inl gfP)), (sd, .inr (8, [.ref w1, .ref w2, .ref aC, .ref g0, .ref aL, .ref aK, .ref lw])), (aL, .inl (cI, 6, .inl fL)), (aK, .inl (cI, 32, .inl fK)), (lw, .inr (4, [.ref lS])), (lS, .inl (cI, lk, .inl fS)), (mW, .inl (cJ, 10, .inr (.inl m8_A_mW)))] → va_S A s.heap H locs → lv_has ls 5 [(3, .int m8_L_3), (2, .int v2), (0, .ref h0), (1, .int p0)] → W p l e R s m args below meth c H locs 0 0 Q (F0 m 8 ls []) := by
    intro n8
    induction n8 using Nat.strongRecOn with
    | _ n8 ih8 =>
      intro m8_A_mW m8_L_3 jf8_0 jv8_0 hmu8 H locs ls hP hD hS hl
      refine lv_iload_n hx hb dX6_weigh_8 rfl (lv_at hl 0 rfl) ?_
      refine lv_bipush (v := 10) hx hb dX6_weigh_9 (by decide) ?_
      refine lv_icmp_ge (tgt := 32) hx hb dX6_weigh_11 (by decide) (fun c11 => ?_) (fun c11 => ?_)
      · have c11 : 10 ≤ m8_L_3.toInt := z3 (by decide) rfl c11
        refine lv_iconst (v := 0) hx hb dX6_weigh_32 (by decide) ?_
        refine lv_istore_n (lv' := [(3, .int 0), (2, .int v2), (0, .ref h0), (1, .int p0)]) hx hb dX6_weigh_33 rfl hl (by decide) rfl (fun ls hl => ?_)
        refine lv_aload_n hx hb dX6_weigh_34 rfl (lv_at hl 2 rfl) ?_
        refine va_get (D := (dC, dI)) (ci := 6) (v := .ref g0) (C := RX6) (T := TX6) (N := 9) hx hb hts iX6 hown hK hP 0 rfl rfl 1 (by decide) (hts _ qw317) (fun _ h9 => h9) rfl dX6_weigh_35 ?_
        refine va_get (D := (dC, dI)) (ci := 7) (v := .int gpn) (C := RX7) (T := TX7) (N := 9) hx hb hts iX7 hown hK hP 4 rfl rfl 3 (by decide) (hts _ qw228) (fun _ h9 => h9) rfl dX6_weigh_38 ?_
        refine lv_iconst (v := 1) hx hb dX6_weigh_41 (by decide) ?_
        refine lv_isub hx hb dX6_weigh_42 ?_
        refine lv_topi (fun v42 e42 => ?_)
        have i42 : v42.toInt = gpn.toInt - 1 := zsub e42 rfl (by decide) (by omega) (by omega)
        have J45 : ∀ (n : Nat) (m45_A_aK : Nat → Int32) (m45_A_aL : Nat → Int32) (m45_A_mW : Nat → Int64) (m45_L_3 : Int32) (m45_L_4 : Int32), (0 ≤ m45_L_3.toInt ∧ m45_L_3.toInt ≤ 12) → ((-1) ≤ m45_L_4.toInt ∧ m45_L_4.toInt ≤ 19) → (∀ (kc : zK3) (kT : zT) (q_fr : Nat → Int32) (kt : (Int → Int) × Int), zCn q_fr fb fp nb.toInt np.toInt kc → zKo nb.toInt np.toInt kc kT → zSc nb.toInt np.toInt kT.1 gfY gfF gfP gpn glt gsh gwd gpu gmo → zLwC fS lk kt → (0 ≤ p0.toInt ∧ p0.toInt < nb.toInt) → zJv kc kT.1 (some kt) p0 m45_A_mW (m45_L_4.toInt + 1).toNat (12 - m45_L_3.toInt).toNat) → (m45_L_4.toInt < gpn.toInt) → (m45_L_4.toInt - (-2)).toNat = n → ∀ (H : Heap) (locs : List Loc) (ls : Array Slot), va_P (dC, dI) vwCl [(h0, .inr (6, [.ref aC, .ref g0, .ref sd, .ref mW, .long mt, .int lf, .ref mV, .ref mA, .ref mT])), (aC, .inr (1, [.ref aR, .ref aB, .ref aP, .int nb, .int np])), (aB, .inl (cI, 24, .inl fb)), (aP, .inl (cI, 20, .inl fp)), (g0, .inr (7, [.ref gY, .ref gF, .ref gP, .int gpn, .int glt, .int gsh, .int gwd, .int gpu, .int gmo])), (gY, .inl (cI, 6, .inl gfY)), (gF, .inl (cI, 5, .inl gfF)), (gP, .inl (cI, 80, .inl gfP)), (sd, .inr (8, [.ref w1, .ref w2, .ref aC, .ref g0, .ref aL, .ref aK, .ref lw])), (aL, .inl (cI, 6, .inl m45_A_aL)), (aK, .inl (cI, 32, .inl m45_A_aK)), (lw, .inr (4, [.ref lS])), (lS, .inl (cI, lk, .inl fS)), (mW, .inl (cJ, 10, .inr (.inl m45_A_mW)))] H → va_D A [(h0, .inr (6, [.ref aC, .ref g0, .ref sd, .ref mW, .long mt, .int lf, .ref mV, .ref mA, .ref mT])), (aC, .inr (1, [.ref aR, .ref aB, .ref aP, .int nb, .int np])), (aB, .inl (cI, 24, .inl fb)), (aP, .inl (cI, 20, .inl fp)), (g0, .inr (7, [.ref gY, .ref gF, .ref gP, .int gpn, .int glt, .int gsh, .int gwd, .int gpu, .int gmo])), (gY, .inl (cI, 6, .inl gfY)), (gF, .inl (cI, 5, .inl gfF)), (gP, .inl (cI, 80, .inl gfP)), (sd, .inr (8, [.ref w1, .ref w2, .ref aC, .ref g0, .ref aL, .ref aK, .ref lw])), (aL, .inl (cI, 6, .inl m45_A_aL)), (aK, .inl (cI, 32, .inl m45_A_aK)), (lw, .inr (4, [.ref lS])), (lS, .inl (cI, lk, .inl fS)), (mW, .inl (cJ, 10, .inr (.inl m45_A_mW)))] → va_S A s.heap H locs → lv_has ls 5 [(4, .int m45_L_4), (3, .int m45_L_3), (2, .int v2), (0, .ref h0), (1, .int p0)] → W p l e R s m args below meth c H locs 0 0 Q (F0 m 45 ls []) := by
          intro n45
          induction n45 using Nat.strongRecOn with
          | _ n45 ih45 =>
            intro m45_A_aK m45_A_aL m45_A_mW m45_L_3 m45_L_4 jf45_0 jf45_1 jv45_0 jf45_3 hmu45 H locs ls hP hD hS hl
            refine lv_iload hx hb dX6_weigh_45 (lv_at hl 0 rfl) ?_
            have J103 : (∀ (kc : zK3) (kT : zT) (q_fr : Nat → Int32) (kt : (Int → Int) × Int), zCn q_fr fb fp nb.toInt np.toInt kc → zKo nb.toInt np.toInt kc kT → zSc nb.toInt np.toInt kT.1 gfY gfF gfP gpn glt gsh gwd gpu gmo → zLwC fS lk kt → (0 ≤ p0.toInt ∧ p0.toInt < nb.toInt) → ∀ j : Nat, j < 10 → m45_A_mW j = sWt kc kT.1 (some kt) p0 (Int32.ofNat j)) → ∀ (H : Heap) (locs : List Loc) (ls : Array Slot), va_P (dC, dI) vwCl [(h0, .inr (6, [.ref aC, .ref g0, .ref sd, .ref mW, .long mt, .int lf, .ref mV, .ref mA, .ref mT])), (aC, .inr (1, [.ref aR, .ref aB, .ref aP, .int nb, .int np])), (aB, .inl (cI, 24, .inl fb)), (aP, .inl (cI, 20, .inl fp)), (g0, .inr (7, [.ref gY, .ref gF, .ref gP, .int gpn, .int glt, .int gsh, .int gwd, .int gpu, .int gmo])), (gY, .inl (cI, 6, .inl gfY)), (gF, .inl (cI, 5, .inl gfF)), (gP, .inl (cI, 80, .inl gfP)), (sd, .inr (8, [.ref w1, .ref w2, .ref aC, .ref g0, .ref aL, .ref aK, .ref lw])), (aL, .inl (cI, 6, .inl m45_A_aL)), (aK, .inl (cI, 32, .inl m45_A_aK)), (lw, .inr (4, [.ref lS])), (lS, .inl (cI, lk, .inl fS)), (mW, .inl (cJ, 10, .inr (.inl m45_A_mW)))] H → va_D A [(h0, .inr (6, [.ref aC, .ref g0, .ref sd, .ref mW, .long mt, .int lf, .ref mV, .ref mA, .ref mT])), (aC, .inr (1, [.ref aR, .ref aB, .ref aP, .int nb, .int np])), (aB, .inl (cI, 24, .inl fb)), (aP, .inl (cI, 20, .inl fp)), (g0, .inr (7, [.ref gY, .ref gF, .ref gP, .int gpn, .int glt, .int gsh, .int gwd, .int gpu, .int gmo])), (gY, .inl (cI, 6, .inl gfY)), (gF, .inl (cI, 5, .inl gfF)), (gP, .inl (cI, 80, .inl gfP)), (sd, .inr (8, [.ref w1, .ref w2, .ref aC, .ref g0, .ref aL, .ref aK, .ref lw])), (aL, .inl (cI, 6, .inl m45_A_aL)), (aK, .inl (cI, 32, .inl m45_A_aK)), (lw, .inr (4, [.ref lS])), (lS, .inl (cI, lk, .inl fS)), (mW, .inl (cJ, 10, .inr (.inl m45_A_mW)))] → va_S A s.heap H locs → lv_has ls 5 [(4, .int m45_L_4), (3, .int m45_L_3), (2, .int v2), (0, .ref h0), (1, .int p0)] → W p l e R s m args below meth c H locs 0 0 Q (F0 m 103 ls []) := by
              intro  jv103_0 H locs ls hP hD hS hl
              refine lv_aload_n hx hb dX6_weigh_103 rfl (lv_at hl 3 rfl) ?_
              refine lv_lconst (v := 0) hx hb dX6_weigh_104 rfl ?_
              refine va_put (D := (dC, dI)) (ci := 6) (v := .long 0) (ty := .long) (C := RX6) (T := TX6) (N := 9) hx hb hts iX6 tyX6 tyX6_ok nmX6 hown hK hP hD hS 0 rfl rfl 4 (by decide) (hts _ qw320) (fun _ h9 => h9) rfl (by decide +kernel) rfl rfl (Nat.le_of_ble_eq_true rfl) dX6_weigh_105 (fun H locs hP9 hD9 hS9 => ?_)
              clear hP hD hS
              obtain ⟨hP, hD⟩ := zst (wX := [(h0, .inr (6, [.ref aC, .ref g0, .ref sd, .ref mW, .long 0, .int lf, .ref mV, .ref mA, .ref mT])), (aC, .inr (1, [.ref aR, .ref aB, .ref aP, .int nb, .int np])), (aB, .inl (cI, 24, .inl fb)), (aP, .inl (cI, 20, .inl fp)), (g0, .inr (7, [.ref gY, .ref gF, .ref gP, .int gpn, .int glt, .int gsh, .int gwd, .int gpu, .int gmo])), (gY, .inl (cI, 6, .inl gfY)), (gF, .inl (cI, 5, .inl gfF)), (gP, .inl (cI, 80, .inl gfP)), (sd, .inr (8, [.ref w1, .ref w2, .ref aC, .ref g0, .ref aL, .ref aK, .ref lw])), (aL, .inl (cI, 6, .inl m45_A_aL)), (aK, .inl (cI, 32, .inl m45_A_aK)), (lw, .inr (4, [.ref lS])), (lS, .inl (cI, lk, .inl fS)), (mW, .inl (cJ, 10, .inr (.inl m45_A_mW)))]) hP9 hD9 rfl
              have hS := hS9
              clear hP9 hD9 hS9
              refine lv_iconst (v := 0) hx hb dX6_weigh_108 (by decide) ?_
              have J111 : ∀ (n : Nat) (m111_A_aK : Nat → Int32) (m111_A_aL : Nat → Int32) (m111_A_mW : Nat → Int64) (m111_F_h0_4 : Int64) (m111_L_4 : Int32), (0 ≤ m111_L_4.toInt ∧ m111_L_4.toInt ≤ 10) → (∀ (kc : zK3) (kT : zT) (q_fr : Nat → Int32) (kt : (Int → Int) × Int), zCn q_fr fb fp nb.toInt np.toInt kc → zKo nb.toInt np.toInt kc kT → zSc nb.toInt np.toInt kT.1 gfY gfF gfP gpn glt gsh gwd gpu gmo → zLwC fS lk kt → (0 ≤ p0.toInt ∧ p0.toInt < nb.toInt) → ∀ j : Nat, j < 10 → m111_A_mW j = sWt kc kT.1 (some kt) p0 (Int32.ofNat j)) → (m111_F_h0_4 = zSm m111_A_mW m111_L_4.toInt.toNat) → (11 - m111_L_4.toInt).toNat = n → ∀ (H : Heap) (locs : List Loc) (ls : Array Slot), va_P (dC, dI) vwCl [(h0, .inr (6, [.ref aC, .ref g0, .ref sd, .ref mW, .long m111_F_h0_4, .int lf, .ref mV, .ref mA, .ref mT])), (aC, .inr (1, [.ref aR, .ref aB, .ref aP, .int nb, .int np])), (aB, .inl (cI, 24, .inl fb)), (aP, .inl (cI, 20, .inl fp)), (g0, .inr (7, [.ref gY, .ref gF, .ref gP, .int gpn, .int glt, .int gsh, .int gwd, .int gpu, .int gmo])), (gY, .inl (cI, 6, .inl gfY)), (gF, .inl (cI, 5, .inl gfF)), (gP, .inl (cI, 80, .inl gfP)), (sd, .inr (8, [.ref w1, .ref w2, .ref aC, .ref g0, .ref aL, .ref aK, .ref lw])), (aL, .inl (cI, 6, .inl m111_A_aL)), (aK, .inl (cI, 32, .inl m111_A_aK)), (lw, .inr (4, [.ref lS])), (lS, .inl (cI, lk, .inl fS)), (mW, .inl (cJ, 10, .inr (.inl m111_A_mW)))] H → va_D A [(h0, .inr (6, [.ref aC, .ref g0, .ref sd, .ref mW, .long m111_F_h0_4, .int lf, .ref mV, .ref mA, .ref mT])), (aC, .inr (1, [.ref aR, .ref aB, .ref aP, .int nb, .int np])), (aB, .inl (cI, 24, .inl fb)), (aP, .inl (cI, 20, .inl fp)), (g0, .inr (7, [.ref gY, .ref gF, .ref gP, .int gpn, .int glt, .int gsh, .int gwd, .int gpu, .int gmo])), (gY, .inl (cI, 6, .inl gfY)), (gF, .inl (cI, 5, .inl gfF)), (gP, .inl (cI, 80, .inl gfP)), (sd, .inr (8, [.ref w1, .ref w2, .ref aC, .ref g0, .ref aL, .ref aK, .ref lw])), (aL, .inl (cI, 6, .inl m111_A_aL)), (aK, .inl (cI, 32, .inl m111_A_aK)), (lw, .inr (4, [.ref lS])), (lS, .inl (cI, lk, .inl fS)), (mW, .inl (cJ, 10, .inr (.inl m111_A_mW)))] → va_S A s.heap H locs → lv_has ls 5 [(4, .int m111_L_4), (3, .int m45_L_3), (2, .int v2), (0, .ref h0), (1, .int p0)] → W p l e R s m args below meth c H locs 0 0 Q (F0 m 111 ls []) := by
                intro n111
                induction n111 using Nat.strongRecOn with
                | _ n111 ih111 =>
                  intro m111_A_aK m111_A_aL m111_A_mW m111_F_h0_4 m111_L_4 jf111_0 jv111_0 jv111_1 hmu111 H locs ls hP hD hS hl
                  refine lv_iload hx hb dX6_weigh_111 (lv_at hl 0 rfl) ?_
                  refine lv_bipush (v := 10) hx hb dX6_weigh_113 (by decide) ?_
                  refine lv_icmp_ge (tgt := 140) hx hb dX6_weigh_115 (by decide) (fun c115 => ?_) (fun c115 => ?_)
                  · have c115 : 10 ≤ m111_L_4.toInt := z3 (by decide) rfl c115
                    refine lv_aload_n hx hb dX6_weigh_140 rfl (lv_at hl 3 rfl) ?_
                    refine lv_iconst (v := 0) hx hb dX6_weigh_141 (by decide) ?_
                    refine va_put (D := (dC, dI)) (ci := 6) (v := .int 0) (ty := .int) (C := RX6) (T := TX6) (N := 9) hx hb hts iX6 tyX6 tyX6_ok nmX6 hown hK hP hD hS 0 rfl rfl 5 (by decide) (hts _ qw321) (fun _ h9 => h9) rfl (by decide +kernel) rfl rfl (Nat.le_of_ble_eq_true rfl) dX6_weigh_142 (fun H locs hP9 hD9 hS9 => ?_)
                    clear hP hD hS
                    obtain ⟨hP, hD⟩ := zst (wX := [(h0, .inr (6, [.ref aC, .ref g0, .ref sd, .ref mW, .long m111_F_h0_4, .int 0, .ref mV, .ref mA, .ref mT])), (aC, .inr (1, [.ref aR, .ref aB, .ref aP, .int nb, .int np])), (aB, .inl (cI, 24, .inl fb)), (aP, .inl (cI, 20, .inl fp)), (g0, .inr (7, [.ref gY, .ref gF, .ref gP, .int gpn, .int glt, .int gsh, .int gwd, .int gpu, .int gmo])), (gY, .inl (cI, 6, .inl gfY)), (gF, .inl (cI, 5, .inl gfF)), (gP, .inl (cI, 80, .inl gfP)), (sd, .inr (8, [.ref w1, .ref w2, .ref aC, .ref g0, .ref aL, .ref aK, .ref lw])), (aL, .inl (cI, 6, .inl m111_A_aL)), (aK, .inl (cI, 32, .inl m111_A_aK)), (lw, .inr (4, [.ref lS])), (lS, .inl (cI, lk, .inl fS)), (mW, .inl (cJ, 10, .inr (.inl m111_A_mW)))]) hP9 hD9 rfl
                    have hS := hS9
                    clear hP9 hD9 hS9
                    refine lv_iconst (v := 1) hx hb dX6_weigh_145 (by decide) ?_
                    have J148 : ∀ (n : Nat) (m148_F_h0_5 : Int32) (m148_L_4 : Int32), (0 ≤ m148_F_h0_5.toInt ∧ m148_F_h0_5.toInt ≤ 9) → (1 ≤ m148_L_4.toInt ∧ m148_L_4.toInt ≤ 10) → (m148_F_h0_5 = zXm (sBv m111_A_mW m111_F_h0_4) (m148_L_4.toInt.toNat - 1)) → (11 - m148_L_4.toInt).toNat = n → ∀ (H : Heap) (locs : List Loc) (ls : Array Slot), va_P (dC, dI) vwCl [(h0, .inr (6, [.ref aC, .ref g0, .ref sd, .ref mW, .long m111_F_h0_4, .int m148_F_h0_5, .ref mV, .ref mA, .ref mT])), (aC, .inr (1, [.ref aR, .ref aB, .ref aP, .int nb, .int np])), (aB, .inl (cI, 24, .inl fb)), (aP, .inl (cI, 20, .inl fp)), (g0, .inr (7, [.ref gY, .ref gF, .ref gP, .int gpn, .int glt, .int gsh, .int gwd, .int gpu, .int gmo])), (gY, .inl (cI, 6, .inl gfY)), (gF, .inl (cI, 5, .inl gfF)), (gP, .inl (cI, 80, .inl gfP)), (sd, .inr (8, [.ref w1, .ref w2, .ref aC, .ref g0, .ref aL, .ref aK, .ref lw])), (aL, .inl (cI, 6, .inl m111_A_aL)), (aK, .inl (cI, 32, .inl m111_A_aK)), (lw, .inr (4, [.ref lS])), (lS, .inl (cI, lk, .inl fS)), (mW, .inl (cJ, 10, .inr (.inl m111_A_mW)))] H → va_D A [(h0, .inr (6, [.ref aC, .ref g0, .ref sd, .ref mW, .long m111_F_h0_4, .int m148_F_h0_5, .ref mV, .ref mA, .ref mT])), (aC, .inr (1, [.ref aR, .ref aB, .ref aP, .int nb, .int np])), (aB, .inl (cI, 24, .inl fb)), (aP, .inl (cI, 20, .inl fp)), (g0, .inr (7, [.ref gY, .ref gF, .ref gP, .int gpn, .int glt, .int gsh, .int gwd, .int gpu, .int gmo])), (gY, .inl (cI, 6, .inl gfY)), (gF, .inl (cI, 5, .inl gfF)), (gP, .inl (cI, 80, .inl gfP)), (sd, .inr (8, [.ref w1, .ref w2, .ref aC, .ref g0, .ref aL, .ref aK, .ref lw])), (aL, .inl (cI, 6, .inl m111_A_aL)), (aK, .inl (cI, 32, .inl m111_A_aK)), (lw, .inr (4, [.ref lS])), (lS, .inl (cI, lk, .inl fS)), (mW, .inl (cJ, 10, .inr (.inl m111_A_mW)))] → va_S A s.heap H locs → lv_has ls 5 [(4, .int m148_L_4), (3, .int m45_L_3), (2, .int v2), (0, .ref h0), (1, .int p0)] → W p l e R s m args below meth c H locs 0 0 Q (F0 m 148 ls []) := by
                      intro n148
                      induction n148 using Nat.strongRecOn with
                      | _ n148 ih148 =>
                        intro m148_F_h0_5 m148_L_4 jf148_0 jf148_1 jv148_0 hmu148 H locs ls hP hD hS hl
                        refine lv_iload hx hb dX6_weigh_148 (lv_at hl 0 rfl) ?_
                        refine lv_bipush (v := 10) hx hb dX6_weigh_150 (by decide) ?_
                        refine lv_icmp_ge (tgt := 184) hx hb dX6_weigh_152 (by decide) (fun c152 => ?_) (fun c152 => ?_)
                        · have c152 : 10 ≤ m148_L_4.toInt := z3 (by decide) rfl c152
                          rw [hQ]
                          exact W.vret hx hb hr (fun t ht hW => ⟨⟨(m111_F_h0_4, m148_F_h0_5, m111_A_aL, m111_A_aK, m111_A_mW), rfl, ⟨by (try dsimp only); omega, by (try dsimp only); omega, fun kc kT q_fr kt hc hb h ht hq => zWe_mk (jv111_0 kc kT _ kt hc hb h ht hq) jv111_1 (by omega) jv148_0 (by omega)⟩, ⟨by rw [ht]; exact hP, hD⟩⟩, hS.F ht⟩) hS.2.2 dX6_weigh_184
                        · have c152 : m148_L_4.toInt < 10 := z4 (by decide) rfl c152
                          refine lv_aload_n hx hb dX6_weigh_155 rfl (lv_at hl 3 rfl) ?_
                          refine lv_iload hx hb dX6_weigh_156 (lv_at hl 0 rfl) ?_
                          obtain ⟨hPc, hDc⟩ := zc2 (wc := [(h0, .inr (6, [.ref aC, .ref g0, .ref sd, .ref mW, .long m111_F_h0_4, .int m148_F_h0_5, .ref mV, .ref mA, .ref mT])), (mW, .inl (cJ, 10, .inr (.inl m111_A_mW)))]) hP hD [0, 13] (by decide +kernel) rfl
                          have hFc := zfr hS hA
                          refine va_calli (va_runV (As := [.int m148_L_4]) (rest := []) ⟨hx, hb, hml, hown, hts⟩ (g_X6_share l dC dI cI cJ h0 m148_L_4 aC g0 sd mW m111_F_h0_4 m148_F_h0_5 mV mA mT m111_A_mW H.size (by omega)) (cwV 1 hts (zgV qw850 qw851 qw852 qw106 qw853) rfl rfl rfl hd_X6_share ⟨by rw [hR]; exact Nat.le_of_ble_eq_true rfl, by rw [hR]; exact Nat.le_of_ble_eq_true rfl⟩) (zPV hPc hK hDc (va_recv (q := (RX6, TX6, 9)) hK hP (ci := 6) (q0 := 0) rfl rfl)) rfl rfl hl.1 rfl (lv_room (Nat.le_of_ble_eq_true rfl)) dX6_weigh_158 ⟨Nat.zero_le _, Nat.zero_le _⟩) hS (fun q _ h => hFc q h) hFc (fun v158 u158 t H locs ht hvm hw hB hz1 hk1 hS9 => ?_)
                          replace hP := zkeep hP hk1
                          replace hS := hS9
                          clear hPc hDc hFc hk1 hz1 hvm hS9
                          have f158_0 : (v158 = sBv m111_A_mW m111_F_h0_4 m148_L_4.toInt.toNat) := hw
                          have F158 := f158_0
                          refine lv_aload_n hx hb dX6_weigh_161 rfl (lv_at hl 3 rfl) ?_
                          refine lv_aload_n hx hb dX6_weigh_162 rfl (lv_at hl 3 rfl) ?_
                          refine va_get (D := (dC, dI)) (ci := 6) (v := .int m148_F_h0_5) (C := RX6) (T := TX6) (N := 9) hx hb hts iX6 hown hK hP 0 rfl rfl 5 (by decide) (hts _ qw321) (fun _ h9 => h9) rfl dX6_weigh_163 ?_
                          obtain ⟨hPc, hDc⟩ := zc2 (wc := [(h0, .inr (6, [.ref aC, .ref g0, .ref sd, .ref mW, .long m111_F_h0_4, .int m148_F_h0_5, .ref mV, .ref mA, .ref mT])), (mW, .inl (cJ, 10, .inr (.inl m111_A_mW)))]) hP hD [0, 13] (by decide +kernel) rfl
                          have hFc := zfr hS hA
                          refine va_calli (va_runV (As := [.int m148_F_h0_5]) (rest := [.int v158]) ⟨hx, hb, hml, hown, hts⟩ (g_X6_share l dC dI cI cJ h0 m148_F_h0_5 aC g0 sd mW m111_F_h0_4 m148_F_h0_5 mV mA mT m111_A_mW H.size jf148_0) (cwV 1 hts (zgV qw850 qw851 qw852 qw106 qw853) rfl rfl rfl hd_X6_share ⟨by rw [hR]; exact Nat.le_of_ble_eq_true rfl, by rw [hR]; exact Nat.le_of_ble_eq_true rfl⟩) (zPV hPc hK hDc (va_recv (q := (RX6, TX6, 9)) hK hP (ci := 6) (q0 := 0) rfl rfl)) rfl rfl hl.1 rfl (lv_room (Nat.le_of_ble_eq_true rfl)) dX6_weigh_166 ⟨Nat.zero_le _, Nat.zero_le _⟩) hS (fun q _ h => hFc q h) hFc (fun v166 u166 t H locs ht hvm hw hB hz1 hk1 hS9 => ?_)
                          replace hP := zkeep hP hk1
                          replace hS := hS9
                          clear hPc hDc hFc hk1 hz1 hvm hS9
                          have f166_0 : (v166 = sBv m111_A_mW m111_F_h0_4 m148_F_h0_5.toInt.toNat) := hw
                          have F166 := f166_0
                          refine lv_icmp_le (tgt := 178) hx hb dX6_weigh_169 (by decide) (fun c169 => ?_) (fun c169 => ?_)
                          · have c169 : v158.toInt ≤ v166.toInt := z3 rfl rfl c169
                            obtain ⟨v178, e178⟩ : ∃ y : Int32, y = m148_L_4 + Int32.ofInt (1) := ⟨_, rfl⟩
                            refine lv_iinc (v := v178) (lv' := [(4, .int v178), (3, .int m45_L_3), (2, .int v2), (0, .ref h0), (1, .int p0)]) hx hb dX6_weigh_178 hl (k := 0) rfl e178.symm (by decide) rfl (fun ls hl => ?_)
                            have i178 : v178.toInt = m148_L_4.toInt + 1 := zaddI e178 (by decide) (by omega) (by omega)
                            refine lv_goto (tgt := 148) hx hb dX6_weigh_181 (by decide) ?_
                            exact ih148 _ (by omega) m148_F_h0_5 v178 jf148_0 (by omega) (by first | exact zXmS jv148_0 (by omega) i178 F158 F166 (Or.inl ⟨by omega, rfl⟩) | exact zXmS jv148_0 (by omega) i178 F158 F166 (Or.inr ⟨by omega, rfl⟩)) rfl H locs ls hP hD hS (lv_sub hl [0, 1, 2, 3, 4] rfl)
                          · have c169 : v166.toInt < v158.toInt := z4 rfl rfl c169
                            refine lv_aload_n hx hb dX6_weigh_172 rfl (lv_at hl 3 rfl) ?_
                            refine lv_iload hx hb dX6_weigh_173 (lv_at hl 0 rfl) ?_
                            refine va_put (D := (dC, dI)) (ci := 6) (v := .int m148_L_4) (ty := .int) (C := RX6) (T := TX6) (N := 9) hx hb hts iX6 tyX6 tyX6_ok nmX6 hown hK hP hD hS 0 rfl rfl 5 (by decide) (hts _ qw321) (fun _ h9 => h9) rfl (by decide +kernel) rfl rfl (Nat.le_of_ble_eq_true rfl) dX6_weigh_175 (fun H locs hP9 hD9 hS9 => ?_)
                            clear hP hD hS
                            obtain ⟨hP, hD⟩ := zst (wX := [(h0, .inr (6, [.ref aC, .ref g0, .ref sd, .ref mW, .long m111_F_h0_4, .int m148_L_4, .ref mV, .ref mA, .ref mT])), (aC, .inr (1, [.ref aR, .ref aB, .ref aP, .int nb, .int np])), (aB, .inl (cI, 24, .inl fb)), (aP, .inl (cI, 20, .inl fp)), (g0, .inr (7, [.ref gY, .ref gF, .ref gP, .int gpn, .int glt, .int gsh, .int gwd, .int gpu, .int gmo])), (gY, .inl (cI, 6, .inl gfY)), (gF, .inl (cI, 5, .inl gfF)), (gP, .inl (cI, 80, .inl gfP)), (sd, .inr (8, [.ref w1, .ref w2, .ref aC, .ref g0, .ref aL, .ref aK, .ref lw])), (aL, .inl (cI, 6, .inl m111_A_aL)), (aK, .inl (cI, 32, .inl m111_A_aK)), (lw, .inr (4, [.ref lS])), (lS, .inl (cI, lk, .inl fS)), (mW, .inl (cJ, 10, .inr (.inl m111_A_mW)))]) hP9 hD9 rfl
                            have hS := hS9
                            clear hP9 hD9 hS9
                            obtain ⟨v178, e178⟩ : ∃ y : Int32, y = m148_L_4 + Int32.ofInt (1) := ⟨_, rfl⟩
                            refine lv_iinc (v := v178) (lv' := [(4, .int v178), (3, .int m45_L_3), (2, .int v2), (0, .ref h0), (1, .int p0)]) hx hb dX6_weigh_178 hl (k := 0) rfl e178.symm (by decide) rfl (fun ls hl => ?_)
                            have i178 : v178.toInt = m148_L_4.toInt + 1 := zaddI e178 (by decide) (by omega) (by omega)
                            refine lv_goto (tgt := 148) hx hb dX6_weigh_181 (by decide) ?_
                            exact ih148 _ (by omega) m148_L_4 v178 (by omega) (by omega) (by first | exact zXmS jv148_0 (by omega) i178 F158 F166 (Or.inl ⟨by omega, rfl⟩) | exact zXmS jv148_0 (by omega) i178 F158 F166 (Or.inr ⟨by omega, rfl⟩)) rfl H locs ls hP hD hS (lv_sub hl [0, 1, 2, 3, 4] rfl)
                    refine lv_istore (lv' := [(4, .int 1), (3, .int m45_L_3), (2, .int v2), (0, .ref h0), (1, .int p0)]) hx hb dX6_weigh_146 hl (by decide) rfl (fun ls hl => ?_)
                    have zj148_m148_L_4 : (1 : Int32).toInt = 1 := by decide
                    have zj148_m148_F_h0_5 : (0 : Int32).toInt = 0 := by decide
                    exact J148 _ 0 1 (by decide) (by decide) (rfl) rfl H locs ls hP hD hS (lv_sub hl [0, 1, 2, 3, 4] rfl)
                  · have c115 : m111_L_4.toInt < 10 := z4 (by decide) rfl c115
                    refine lv_aload_n hx hb dX6_weigh_118 rfl (lv_at hl 3 rfl) ?_
                    refine lv_dup hx hb dX6_weigh_119 rfl ?_
                    refine va_get (D := (dC, dI)) (ci := 6) (v := .long m111_F_h0_4) (C := RX6) (T := TX6) (N := 9) hx hb hts iX6 hown hK hP 0 rfl rfl 4 (by decide) (hts _ qw320) (fun _ h9 => h9) rfl dX6_weigh_120 ?_
                    refine lv_aload_n hx hb dX6_weigh_123 rfl (lv_at hl 3 rfl) ?_
                    refine va_get (D := (dC, dI)) (ci := 6) (v := .ref mW) (C := RX6) (T := TX6) (N := 9) hx hb hts iX6 hown hK hP 0 rfl rfl 3 (by decide) (hts _ qw319) (fun _ h9 => h9) rfl dX6_weigh_124 ?_
                    refine lv_iload hx hb dX6_weigh_127 (lv_at hl 0 rfl) ?_
                    refine va_lald hx hb hK hP 13 1 rfl rfl (vp_in_iff.mpr ⟨by omega, by omega⟩) dX6_weigh_129 ?_
                    refine lv_topl (fun v129 e129 => ?_)
                    refine lv_ladd hx hb dX6_weigh_130 ?_
                    refine lv_topl (fun v130 e130 => ?_)
                    refine va_put (D := (dC, dI)) (ci := 6) (v := .long v130) (ty := .long) (C := RX6) (T := TX6) (N := 9) hx hb hts iX6 tyX6 tyX6_ok nmX6 hown hK hP hD hS 0 rfl rfl 4 (by decide) (hts _ qw320) (fun _ h9 => h9) rfl (by decide +kernel) rfl rfl (Nat.le_of_ble_eq_true rfl) dX6_weigh_131 (fun H locs hP9 hD9 hS9 => ?_)
                    clear hP hD hS
                    obtain ⟨hP, hD⟩ := zst (wX := [(h0, .inr (6, [.ref aC, .ref g0, .ref sd, .ref mW, .long v130, .int lf, .ref mV, .ref mA, .ref mT])), (aC, .inr (1, [.ref aR, .ref aB, .ref aP, .int nb, .int np])), (aB, .inl (cI, 24, .inl fb)), (aP, .inl (cI, 20, .inl fp)), (g0, .inr (7, [.ref gY, .ref gF, .ref gP, .int gpn, .int glt, .int gsh, .int gwd, .int gpu, .int gmo])), (gY, .inl (cI, 6, .inl gfY)), (gF, .inl (cI, 5, .inl gfF)), (gP, .inl (cI, 80, .inl gfP)), (sd, .inr (8, [.ref w1, .ref w2, .ref aC, .ref g0, .ref aL, .ref aK, .ref lw])), (aL, .inl (cI, 6, .inl m111_A_aL)), (aK, .inl (cI, 32, .inl m111_A_aK)), (lw, .inr (4, [.ref lS])), (lS, .inl (cI, lk, .inl fS)), (mW, .inl (cJ, 10, .inr (.inl m111_A_mW)))]) hP9 hD9 rfl
                    have hS := hS9
                    clear hP9 hD9 hS9
                    obtain ⟨v134, e134⟩ : ∃ y : Int32, y = m111_L_4 + Int32.ofInt (1) := ⟨_, rfl⟩
                    refine lv_iinc (v := v134) (lv' := [(4, .int v134), (3, .int m45_L_3), (2, .int v2), (0, .ref h0), (1, .int p0)]) hx hb dX6_weigh_134 hl (k := 0) rfl e134.symm (by decide) rfl (fun ls hl => ?_)
                    have i134 : v134.toInt = m111_L_4.toInt + 1 := zaddI e134 (by decide) (by omega) (by omega)
                    refine lv_goto (tgt := 111) hx hb dX6_weigh_137 (by decide) ?_
                    exact ih111 _ (by omega) m111_A_aK m111_A_aL m111_A_mW v130 v134 (by omega) (jv111_0) (zSmS jv111_1 (by omega) i134 e129 e130) rfl H locs ls hP hD hS (lv_sub hl [0, 1, 2, 3, 4] rfl)
              refine lv_istore (lv' := [(4, .int 0), (3, .int m45_L_3), (2, .int v2), (0, .ref h0), (1, .int p0)]) hx hb dX6_weigh_109 hl (by decide) rfl (fun ls hl => ?_)
              have zj111_m111_L_4 : (0 : Int32).toInt = 0 := by decide
              exact J111 _ m45_A_aK m45_A_aL m45_A_mW 0 0 (by decide) (jv103_0) (rfl) rfl H locs ls hP hD hS (lv_sub hl [0, 1, 2, 3, 4] rfl)
            refine lv_if_lt (tgt := 103) hx hb dX6_weigh_47 (by decide) (fun c47 => ?_) (fun c47 => ?_)
            · have c47 : m45_L_4.toInt < 0 := z1 rfl (by decide) c47
              exact J103  (fun kc kT q_fr kt hc hb h ht hq => zJvE (jv45_0 kc kT _ kt hc hb h ht hq) (by omega)) H locs ls hP hD hS (lv_sub hl [0, 1, 2, 3, 4] rfl)
            · have c47 : 0 ≤ m45_L_4.toInt := z2 rfl (by decide) c47
              refine lv_iload_n hx hb dX6_weigh_50 rfl (lv_at hl 1 rfl) ?_
              refine lv_bipush (v := 12) hx hb dX6_weigh_51 (by decide) ?_
              refine lv_icmp_ge (tgt := 103) hx hb dX6_weigh_53 (by decide) (fun c53 => ?_) (fun c53 => ?_)
              · have c53 : 12 ≤ m45_L_3.toInt := z3 (by decide) rfl c53
                exact J103  (fun kc kT q_fr kt hc hb h ht hq => zJvE (jv45_0 kc kT _ kt hc hb h ht hq) (by omega)) H locs ls hP hD hS (lv_sub hl [0, 1, 2, 3, 4] rfl)
              · have c53 : m45_L_3.toInt < 12 := z4 (by decide) rfl c53
                refine lv_aload_n hx hb dX6_weigh_56 rfl (lv_at hl 3 rfl) ?_
                refine va_get (D := (dC, dI)) (ci := 6) (v := .ref g0) (C := RX6) (T := TX6) (N := 9) hx hb hts iX6 hown hK hP 0 rfl rfl 1 (by decide) (hts _ qw317) (fun _ h9 => h9) rfl dX6_weigh_57 ?_
                refine lv_iload hx hb dX6_weigh_60 (lv_at hl 0 rfl) ?_
                refine lv_iconst (v := 0) hx hb dX6_weigh_62 (by decide) ?_
                obtain ⟨hPc, hDc⟩ := zc2 (wc := [(g0, .inr (7, [.ref gY, .ref gF, .ref gP, .int gpn, .int glt, .int gsh, .int gwd, .int gpu, .int gmo])), (gP, .inl (cI, 80, .inl gfP))]) hP hD [4, 7] (by decide +kernel) rfl
                have hFc := zfr hS hA
                refine va_calli (va_runV (As := [.int m45_L_4, .int 0]) (rest := []) ⟨hx, hb, hml, hown, hts⟩ (g_X7_ofPortrait_0 l dC dI cI cJ g0 m45_L_4 gY gF gP gpn glt gsh gwd gpu gmo gfP H.size (by omega) ci_gfP_zPo) (cwV 2 hts (zgV qw834 qw653 qw654 qw103 qw655) rfl rfl rfl hd_X7_ofPortrait ⟨by rw [hR]; exact Nat.le_of_ble_eq_true rfl, by rw [hR]; exact Nat.le_of_ble_eq_true rfl⟩) (zPV hPc hK hDc (va_recv (q := (RX7, TX7, 9)) hK hP (ci := 7) (q0 := 4) rfl rfl)) rfl rfl hl.1 rfl (lv_room (Nat.le_of_ble_eq_true rfl)) dX6_weigh_63 ⟨Nat.zero_le _, Nat.zero_le _⟩) hS (fun q _ h => hFc q h) hFc (fun v63 u63 t H locs ht hvm hw hB hz1 hk1 hS9 => ?_)
                replace hP := zkeep hP hk1
                replace hS := hS9
                clear hPc hDc hFc hk1 hz1 hvm hS9
                obtain ⟨f63_0, f63_1, f63_2⟩ : (0 ≤ v63.toInt) ∧ (v63.toInt ≤ 5) ∧ (v63 = gfP (4 * m45_L_4.toInt.toNat)) := hw
                have F63 := f63_2
                refine lv_iload_n hx hb dX6_weigh_66 rfl (lv_at hl 4 rfl) ?_
                refine lv_icmp_ne (tgt := 97) hx hb dX6_weigh_67 (by decide) (fun c67 => ?_) (fun c67 => ?_)
                · have c67 : ¬ v63.toInt = p0.toInt := z6 rfl rfl c67
                  obtain ⟨v97, e97⟩ : ∃ y : Int32, y = m45_L_4 + Int32.ofInt (-1) := ⟨_, rfl⟩
                  refine lv_iinc (v := v97) (lv' := [(4, .int v97), (3, .int m45_L_3), (2, .int v2), (0, .ref h0), (1, .int p0)]) hx hb dX6_weigh_97 hl (k := 0) rfl e97.symm (by decide) rfl (fun ls hl => ?_)
                  have i97 : v97.toInt = m45_L_4.toInt + (-1) := zaddI e97 (by decide) (by omega) (by omega)
                  refine lv_goto (tgt := 45) hx hb dX6_weigh_100 (by decide) ?_
                  exact ih45 _ (by omega) m45_A_aK m45_A_aL m45_A_mW m45_L_3 v97 jf45_0 (by omega) (fun kc kT q_fr kt hc hb h ht hq => by have zb := hb.2.2.2.1.2.2.2.2.2 m45_L_4.toInt.toNat (by rw [zSc_pn h]; omega); have y63 : v63 = kT.1.2.2.2.2 (4 * m45_L_4.toInt.toNat) := F63.trans (h.2.2.2.2 _ (by omega)); have z63 := congrArg Int32.toInt y63; first | (have y78 : v78 = kT.1.2.2.2.2 (4 * m45_L_4.toInt.toNat + 1) := F78.trans (h.2.2.2.2 _ (by omega)); have z78 := congrArg Int32.toInt y78; have y3 : fp (4 * v78.toInt.toNat + 3) = kc.2.2 (4 * (kT.1.2.2.2.2 (4 * m45_L_4.toInt.toNat + 1)).toInt.toNat + 3) := (hc.2.2 _ (by omega)).trans (by rw [y78]); have z3 := congrArg Int32.toInt y3; first | exact zJvY (jv45_0 kc kT _ kt hc hb h ht hq) (by omega) i97 (by omega) (by omega) i87 ⟨by omega, by omega⟩ hb (by rw [zSc_pn h]; omega) (F94 kc kT _ kt hc hb h ht hq (by omega)) | exact zJvN (jv45_0 kc kT _ kt hc hb h ht hq) (by omega) i97 (by omega) (fun z => z.2 (by omega))) | exact zJvN (jv45_0 kc kT _ kt hc hb h ht hq) (by omega) i97 (by omega) (fun z => absurd z.1 (by omega))) (by omega) rfl H locs ls hP hD hS (lv_sub hl [0, 1, 2, 3, 4] rfl)
                · have c67 : v63.toInt = p0.toInt := z5 rfl rfl c67
                  refine lv_aload_n hx hb dX6_weigh_70 rfl (lv_at hl 3 rfl) ?_
                  refine lv_aload_n hx hb dX6_weigh_71 rfl (lv_at hl 3 rfl) ?_
                  refine va_get (D := (dC, dI)) (ci := 6) (v := .ref g0) (C := RX6) (T := TX6) (N := 9) hx hb hts iX6 hown hK hP 0 rfl rfl 1 (by decide) (hts _ qw317) (fun _ h9 => h9) rfl dX6_weigh_72 ?_
                  refine lv_iload hx hb dX6_weigh_75 (lv_at hl 0 rfl) ?_
                  refine lv_iconst (v := 1) hx hb dX6_weigh_77 (by decide) ?_
                  obtain ⟨hPc, hDc⟩ := zc2 (wc := [(g0, .inr (7, [.ref gY, .ref gF, .ref gP, .int gpn, .int glt, .int gsh, .int gwd, .int gpu, .int gmo])), (gP, .inl (cI, 80, .inl gfP))]) hP hD [4, 7] (by decide +kernel) rfl
                  have hFc := zfr hS hA
                  refine va_calli (va_runV (As := [.int m45_L_4, .int 1]) (rest := [.ref h0]) ⟨hx, hb, hml, hown, hts⟩ (g_X7_ofPortrait_1 l dC dI cI cJ g0 m45_L_4 gY gF gP gpn glt gsh gwd gpu gmo gfP H.size (by omega) ci_gfP_zPo) (cwV 2 hts (zgV qw834 qw653 qw654 qw103 qw655) rfl rfl rfl hd_X7_ofPortrait ⟨by rw [hR]; exact Nat.le_of_ble_eq_true rfl, by rw [hR]; exact Nat.le_of_ble_eq_true rfl⟩) (zPV hPc hK hDc (va_recv (q := (RX7, TX7, 9)) hK hP (ci := 7) (q0 := 4) rfl rfl)) rfl rfl hl.1 rfl (lv_room (Nat.le_of_ble_eq_true rfl)) dX6_weigh_78 ⟨Nat.zero_le _, Nat.zero_le _⟩) hS (fun q _ h => hFc q h) hFc (fun v78 u78 t H locs ht hvm hw hB hz1 hk1 hS9 => ?_)
                  replace hP := zkeep hP hk1
                  replace hS := hS9
                  clear hPc hDc hFc hk1 hz1 hvm hS9
                  obtain ⟨f78_0, f78_1, f78_2⟩ : (0 ≤ v78.toInt) ∧ (v78.toInt ≤ 4) ∧ (v78 = gfP (4 * m45_L_4.toInt.toNat + 1)) := hw
                  have F78 := f78_2
                  obtain ⟨hPc, hDc⟩ := zc2 (wc := [(h0, .inr (6, [.ref aC, .ref g0, .ref sd, .ref mW, .long mt, .int lf, .ref mV, .ref mA, .ref mT])), (aC, .inr (1, [.ref aR, .ref aB, .ref aP, .int nb, .int np])), (aP, .inl (cI, 20, .inl fp))]) hP hD [0, 1, 3] (by decide +kernel) rfl
                  have hFc := zfr hS hA
                  refine va_calli (va_runV (As := [.int v78]) (rest := []) ⟨hx, hb, hml, hown, hts⟩ (g_X6_sketches l dC dI cI cJ h0 v78 aC g0 sd mW mt lf mV mA mT aR aB aP nb np fp H.size ⟨f78_0, f78_1⟩) (cwV 1 hts (zgV qw835 qw837 qw19 qw106 qw838) rfl rfl rfl hd_X6_sketches ⟨by rw [hR]; exact Nat.le_of_ble_eq_true rfl, by rw [hR]; exact Nat.le_of_ble_eq_true rfl⟩) (zPV hPc hK hDc (va_recv (q := (RX6, TX6, 9)) hK hP (ci := 6) (q0 := 0) rfl rfl)) rfl rfl hl.1 rfl (lv_room (Nat.le_of_ble_eq_true rfl)) dX6_weigh_81 ⟨Nat.zero_le _, Nat.zero_le _⟩) hS (fun q _ h => hFc q h) hFc (fun v81 u81 t H locs ht hvm hw hB hz1 hk1 hS9 => ?_)
                  replace hP := zkeep hP hk1
                  replace hS := hS9
                  clear hPc hDc hFc hk1 hz1 hvm hS9
                  obtain ⟨f81_0, f81_1, f81_2⟩ : (0 ≤ v81.toInt) ∧ (v81.toInt ≤ 1) ∧ ((v81.toInt = 1 ∧ ¬ (fp (4 * v78.toInt.toNat + 3)).toInt = 3) ∨ (v81.toInt = 0 ∧ (fp (4 * v78.toInt.toNat + 3)).toInt = 3)) := hw
                  have F81 := f81_2
                  refine lv_if_eq (tgt := 97) hx hb dX6_weigh_84 (by decide) (fun c84 => ?_) (fun c84 => ?_)
                  · have c84 : v81.toInt = 0 := z5 rfl (by decide) c84
                    obtain ⟨v97, e97⟩ : ∃ y : Int32, y = m45_L_4 + Int32.ofInt (-1) := ⟨_, rfl⟩
                    refine lv_iinc (v := v97) (lv' := [(4, .int v97), (3, .int m45_L_3), (2, .int v2), (0, .ref h0), (1, .int p0)]) hx hb dX6_weigh_97 hl (k := 0) rfl e97.symm (by decide) rfl (fun ls hl => ?_)
                    have i97 : v97.toInt = m45_L_4.toInt + (-1) := zaddI e97 (by decide) (by omega) (by omega)
                    refine lv_goto (tgt := 45) hx hb dX6_weigh_100 (by decide) ?_
                    exact ih45 _ (by omega) m45_A_aK m45_A_aL m45_A_mW m45_L_3 v97 jf45_0 (by omega) (fun kc kT q_fr kt hc hb h ht hq => by have zb := hb.2.2.2.1.2.2.2.2.2 m45_L_4.toInt.toNat (by rw [zSc_pn h]; omega); have y63 : v63 = kT.1.2.2.2.2 (4 * m45_L_4.toInt.toNat) := F63.trans (h.2.2.2.2 _ (by omega)); have z63 := congrArg Int32.toInt y63; first | (have y78 : v78 = kT.1.2.2.2.2 (4 * m45_L_4.toInt.toNat + 1) := F78.trans (h.2.2.2.2 _ (by omega)); have z78 := congrArg Int32.toInt y78; have y3 : fp (4 * v78.toInt.toNat + 3) = kc.2.2 (4 * (kT.1.2.2.2.2 (4 * m45_L_4.toInt.toNat + 1)).toInt.toNat + 3) := (hc.2.2 _ (by omega)).trans (by rw [y78]); have z3 := congrArg Int32.toInt y3; first | exact zJvY (jv45_0 kc kT _ kt hc hb h ht hq) (by omega) i97 (by omega) (by omega) i87 ⟨by omega, by omega⟩ hb (by rw [zSc_pn h]; omega) (F94 kc kT _ kt hc hb h ht hq (by omega)) | exact zJvN (jv45_0 kc kT _ kt hc hb h ht hq) (by omega) i97 (by omega) (fun z => z.2 (by omega))) | exact zJvN (jv45_0 kc kT _ kt hc hb h ht hq) (by omega) i97 (by omega) (fun z => absurd z.1 (by omega))) (by omega) rfl H locs ls hP hD hS (lv_sub hl [0, 1, 2, 3, 4] rfl)
                  · have c84 : ¬ v81.toInt = 0 := z6 rfl (by decide) c84
                    obtain ⟨v87, e87⟩ : ∃ y : Int32, y = m45_L_3 + Int32.ofInt (1) := ⟨_, rfl⟩
                    refine lv_iinc (v := v87) (lv' := [(3, .int v87), (4, .int m45_L_4), (2, .int v2), (0, .ref h0), (1, .int p0)]) hx hb dX6_weigh_87 hl (k := 1) rfl e87.symm (by decide) rfl (fun ls hl => ?_)
                    have i87 : v87.toInt = m45_L_3.toInt + 1 := zaddI e87 (by decide) (by omega) (by omega)
                    refine lv_aload_n hx hb dX6_weigh_90 rfl (lv_at hl 3 rfl) ?_
                    refine lv_iload hx hb dX6_weigh_91 (lv_at hl 1 rfl) ?_
                    refine lv_iload_n hx hb dX6_weigh_93 rfl (lv_at hl 4 rfl) ?_
                    obtain ⟨hPc, hDc, hFc⟩ := zc3 (wc := [(h0, .inr (6, [.ref aC, .ref g0, .ref sd, .ref mW, .long mt, .int lf, .ref mV, .ref mA, .ref mT])), (aC, .inr (1, [.ref aR, .ref aB, .ref aP, .int nb, .int np])), (aB, .inl (cI, 24, .inl fb)), (aP, .inl (cI, 20, .inl fp)), (g0, .inr (7, [.ref gY, .ref gF, .ref gP, .int gpn, .int glt, .int gsh, .int gwd, .int gpu, .int gmo])), (gY, .inl (cI, 6, .inl gfY)), (gF, .inl (cI, 5, .inl gfF)), (gP, .inl (cI, 80, .inl gfP)), (sd, .inr (8, [.ref w1, .ref w2, .ref aC, .ref g0, .ref aL, .ref aK, .ref lw])), (aL, .inl (cI, 6, .inl m45_A_aL)), (aK, .inl (cI, 32, .inl m45_A_aK)), (lw, .inr (4, [.ref lS])), (lS, .inl (cI, lk, .inl fS)), (mW, .inl (cJ, 10, .inr (.inl m45_A_mW)))]) hP hD hS hA [0, 1, 2, 3, 4, 5, 6, 7, 8, 9, 10, 11, 12, 13] (by decide +kernel) rfl
                    refine va_callv (va_runV (As := [.int m45_L_4, .int p0]) (rest := []) ⟨hx, hb, hml, hown, hts⟩ (g_X6_weighBy_l l dC dI cI cJ h0 m45_L_4 p0 aC g0 sd mW mt lf mV mA mT aR aB aP nb np fb fp gY gF gP gpn glt gsh gwd gpu gmo gfY gfF gfP w1 w2 aL aK lw m45_A_aL m45_A_aK lS fS lk m45_A_mW H.size n_gpn (by omega) n_p0 (hlk) ci_fS_zSt ci_gfP_zPo) (cwV 2 hts (zgV qw840 qw842 qw20 qw106 qw843) rfl rfl rfl hd_X6_weighBy ⟨by rw [hR]; exact Nat.le_of_ble_eq_true rfl, by rw [hR]; exact Nat.le_of_ble_eq_true rfl⟩) (zPV hPc hK hDc (va_recv (q := (RX6, TX6, 9)) hK hP (ci := 6) (q0 := 0) rfl rfl)) rfl rfl hl.1 rfl (lv_room (Nat.le_of_ble_eq_true rfl)) dX6_weigh_94 ⟨Nat.zero_le _, Nat.zero_le _⟩) hS (fun q _ h => hFc q h) hFc (fun u94 t H locs ht hvm hw hB hz1 hk1 hS9 => ?_)
                    obtain ⟨u94_0, u94_1, u94_2⟩ := u94
                    obtain ⟨hP9, hD9⟩ := zj2 (wX := [(h0, .inr (6, [.ref aC, .ref g0, .ref sd, .ref mW, .long mt, .int lf, .ref mV, .ref mA, .ref mT])), (aC, .inr (1, [.ref aR, .ref aB, .ref aP, .int nb, .int np])), (aB, .inl (cI, 24, .inl fb)), (aP, .inl (cI, 20, .inl fp)), (g0, .inr (7, [.ref gY, .ref gF, .ref gP, .int gpn, .int glt, .int gsh, .int gwd, .int gpu, .int gmo])), (gY, .inl (cI, 6, .inl gfY)), (gF, .inl (cI, 5, .inl gfF)), (gP, .inl (cI, 80, .inl gfP)), (sd, .inr (8, [.ref w1, .ref w2, .ref aC, .ref g0, .ref aL, .ref aK, .ref lw])), (aL, .inl (cI, 6, .inl u94_0)), (aK, .inl (cI, 32, .inl u94_1)), (lw, .inr (4, [.ref lS])), (lS, .inl (cI, lk, .inl fS)), (mW, .inl (cJ, 10, .inr (.inl u94_2)))]) hP hD hk1 hFc ht hB [0, 1, 2, 3, 4, 5, 6, 7, 8, 9, 10, 11, 12, 13] [(true, 0), (true, 1), (true, 2), (true, 3), (true, 4), (true, 5), (true, 6), (true, 7), (true, 8), (true, 9), (true, 10), (true, 11), (true, 12), (true, 13)] rfl (by decide +kernel) (by decide +kernel) rfl
                    clear hP hD hS hPc hDc hFc hB hk1 hz1 hvm
                    have hP := hP9
                    have hD := hD9
                    have hS := hS9
                    clear hP9 hD9 hS9
                    have f94_0 : (∀ (kc : zK3) (kT : zT) (q_fr : Nat → Int32) (kt : (Int → Int) × Int), zCn q_fr fb fp nb.toInt np.toInt kc → zKo nb.toInt np.toInt kc kT → zSc nb.toInt np.toInt kT.1 gfY gfF gfP gpn glt gsh gwd gpu gmo → zLwC fS lk kt → (0 ≤ p0.toInt ∧ p0.toInt < nb.toInt) → m45_L_4.toInt < gpn.toInt → zWb m45_A_mW u94_2 (fun j => sFc kc kT.1 (some kt) p0 (Int32.ofNat j) m45_L_4.toInt.toNat) 10) := hw
                    have F94 := f94_0
                    obtain ⟨v97, e97⟩ : ∃ y : Int32, y = m45_L_4 + Int32.ofInt (-1) := ⟨_, rfl⟩
                    refine lv_iinc (v := v97) (lv' := [(4, .int v97), (3, .int v87), (2, .int v2), (0, .ref h0), (1, .int p0)]) hx hb dX6_weigh_97 hl (k := 1) rfl e97.symm (by decide) rfl (fun ls hl => ?_)
                    have i97 : v97.toInt = m45_L_4.toInt + (-1) := zaddI e97 (by decide) (by omega) (by omega)
                    refine lv_goto (tgt := 45) hx hb dX6_weigh_100 (by decide) ?_
                    exact ih45 _ (by omega) u94_1 u94_0 u94_2 v87 v97 (by omega) (by omega) (fun kc kT q_fr kt hc hb h ht hq => by have zb := hb.2.2.2.1.2.2.2.2.2 m45_L_4.toInt.toNat (by rw [zSc_pn h]; omega); have y63 : v63 = kT.1.2.2.2.2 (4 * m45_L_4.toInt.toNat) := F63.trans (h.2.2.2.2 _ (by omega)); have z63 := congrArg Int32.toInt y63; first | (have y78 : v78 = kT.1.2.2.2.2 (4 * m45_L_4.toInt.toNat + 1) := F78.trans (h.2.2.2.2 _ (by omega)); have z78 := congrArg Int32.toInt y78; have y3 : fp (4 * v78.toInt.toNat + 3) = kc.2.2 (4 * (kT.1.2.2.2.2 (4 * m45_L_4.toInt.toNat + 1)).toInt.toNat + 3) := (hc.2.2 _ (by omega)).trans (by rw [y78]); have z3 := congrArg Int32.toInt y3; first | exact zJvY (jv45_0 kc kT _ kt hc hb h ht hq) (by omega) i97 (by omega) (by omega) i87 ⟨by omega, by omega⟩ hb (by rw [zSc_pn h]; omega) (F94 kc kT _ kt hc hb h ht hq (by omega)) | exact zJvN (jv45_0 kc kT _ kt hc hb h ht hq) (by omega) i97 (by omega) (fun z => z.2 (by omega))) | exact zJvN (jv45_0 kc kT _ kt hc hb h ht hq) (by omega) i97 (by omega) (fun z => absurd z.1 (by omega))) (by omega) rfl H locs ls hP hD hS (lv_sub hl [0, 1, 2, 3, 4] rfl)
        refine lv_istore (lv' := [(4, .int v42), (3, .int 0), (2, .int v2), (0, .ref h0), (1, .int p0)]) hx hb dX6_weigh_43 hl (by decide) rfl (fun ls hl => ?_)
        have zj45_m45_L_3 : (0 : Int32).toInt = 0 := by decide
        exact J45 _ fK fL m8_A_mW 0 v42 (by decide) (by omega) (fun kc kT q_fr kt hc hb h ht hq => by rw [show (v42.toInt + 1).toNat = kT.1.2.2.2.1.2.2.toInt.toNat by rw [zSc_pn h]; omega, show (12 - (0 : Int32).toInt).toNat = 12 by decide]; exact zJv_0 jv8_0 (by omega) (by rw [zSc_lt h, zSc_sh h, ← hc.2.1 (4 * p0.toInt.toNat) (by omega)]; exact F2)) (by omega) rfl H locs ls hP hD hS (lv_sub hl [0, 1, 2, 3, 4] rfl)
      · have c11 : m8_L_3.toInt < 10 := z4 (by decide) rfl c11
        refine lv_aload_n hx hb dX6_weigh_14 rfl (lv_at hl 2 rfl) ?_
        refine va_get (D := (dC, dI)) (ci := 6) (v := .ref mW) (C := RX6) (T := TX6) (N := 9) hx hb hts iX6 hown hK hP 0 rfl rfl 3 (by decide) (hts _ qw319) (fun _ h9 => h9) rfl dX6_weigh_15 ?_
        refine lv_iload_n hx hb dX6_weigh_18 rfl (lv_at hl 0 rfl) ?_
        refine lv_iload_n hx hb dX6_weigh_19 rfl (lv_at hl 1 rfl) ?_
        refine lv_iload_n hx hb dX6_weigh_20 rfl (lv_at hl 0 rfl) ?_
        have hPc : va_P (dC, dI) vwCl [] H := zP0
        have hDc : va_D (fun _ => True) [] := zD0
        have hFc := zfr hS hA
        refine va_calli (va_runSN (As := [.int v2, .int m8_L_3]) (rest := [.int m8_L_3, .ref mW]) ⟨hx, hb, hml, hown, hts⟩ (g_X10_bit l dC dI cI cJ v2 m8_L_3 H.size) ⟨va_cnB 2 hts (zgI qw454) rfl rfl rfl hV.1 (hts _ qw98) (hd_X10_bit).2 ⟨by rw [hR]; exact Nat.le_of_ble_eq_true rfl, by rw [hR]; exact Nat.le_of_ble_eq_true rfl⟩, hts _ qw453, trivial⟩ (zPS hPc hK hDc) rfl rfl hl.1 rfl (lv_room (Nat.le_of_ble_eq_true rfl)) dX6_weigh_21 ⟨Nat.zero_le _, Nat.zero_le _⟩) hS (fun q _ h => hFc q h) hFc (fun v21 u21 t H locs ht hvm hw hB hz1 hk1 hS9 => ?_)
        replace hP := zkeep hP hk1
        replace hS := hS9
        clear hPc hDc hFc hk1 hz1 hvm hS9
        obtain ⟨f21_0, f21_1, f21_2⟩ : (0 ≤ v21.toInt) ∧ (v21.toInt ≤ 1) ∧ (v21 = cBt v2 m8_L_3) := hw
        have F21 := f21_2
        refine lv_i2l hx hb dX6_weigh_24 rfl ?_
        refine lv_topl (fun v24 e24 => ?_)
        refine va_last hx hb hK hP hD hS 13 1 rfl rfl (vp_in_iff.mpr ⟨by omega, by omega⟩) dX6_weigh_25 (fun H locs hP9 hD9 hS9 => ?_)
        clear hP hD hS
        obtain ⟨v25_f, e25⟩ : ∃ g : Nat → Int64, g = vp_updL m8_A_mW (m8_L_3).toNatClampNeg v24 := ⟨_, rfl⟩
        rw [← e25] at hP9 hD9
        obtain ⟨hP, hD⟩ := zst (wX := [(h0, .inr (6, [.ref aC, .ref g0, .ref sd, .ref mW, .long mt, .int lf, .ref mV, .ref mA, .ref mT])), (aC, .inr (1, [.ref aR, .ref aB, .ref aP, .int nb, .int np])), (aB, .inl (cI, 24, .inl fb)), (aP, .inl (cI, 20, .inl fp)), (g0, .inr (7, [.ref gY, .ref gF, .ref gP, .int gpn, .int glt, .int gsh, .int gwd, .int gpu, .int gmo])), (gY, .inl (cI, 6, .inl gfY)), (gF, .inl (cI, 5, .inl gfF)), (gP, .inl (cI, 80, .inl gfP)), (sd, .inr (8, [.ref w1, .ref w2, .ref aC, .ref g0, .ref aL, .ref aK, .ref lw])), (aL, .inl (cI, 6, .inl fL)), (aK, .inl (cI, 32, .inl fK)), (lw, .inr (4, [.ref lS])), (lS, .inl (cI, lk, .inl fS)), (mW, .inl (cJ, 10, .inr (.inl v25_f)))]) hP9 hD9 rfl
        have hS := hS9
        clear hP9 hD9 hS9
        obtain ⟨v26, e26⟩ : ∃ y : Int32, y = m8_L_3 + Int32.ofInt (1) := ⟨_, rfl⟩
        refine lv_iinc (v := v26) (lv' := [(3, .int v26), (2, .int v2), (0, .ref h0), (1, .int p0)]) hx hb dX6_weigh_26 hl (k := 0) rfl e26.symm (by decide) rfl (fun ls hl => ?_)
        have i26 : v26.toInt = m8_L_3.toInt + 1 := zaddI e26 (by decide) (by omega) (by omega)
        refine lv_goto (tgt := 8) hx hb dX6_weigh_29 (by decide) ?_
        exact ih8 _ (by omega) v25_f v26 (by omega) (zJ0_s jv8_0 (by omega) i26 F21 e24 e25) rfl H locs ls hP hD hS (lv_sub hl [0, 1, 2, 3] rfl)
  refine lv_istore_n (lv' := [(3, .int 0), (2, .int v2), (0, .ref h0), (1, .int p0)]) hx hb dX6_weigh_7 rfl hl (by decide) rfl (fun ls hl => ?_)
  have zj8_m8_L_3 : (0 : Int32).toInt = 0 := by decide
  exact J8 _ fW 0 (by decide) (zJ0_0) rfl H locs ls hP hD hS (lv_sub hl [0, 1, 2, 3] rfl)
set_option maxHeartbeats 4000000 in
set_option maxRecDepth 100000 in
theorem g_X6_mostAlike_l (l : Launch) (dC : Nat → ClassId) (dI : Nat → Nat → Nat) (cI cJ : ClassId) (h0 : Nat) (p0 : Int32) (p1 : Int32) (p2 : Int32) (aC : Nat) (g0 : Nat) (sd : Nat) (mW : Nat) (mt : Int64) (lf : Int32) (mV : Nat) (mA : Nat) (mT : Nat) (aR : Nat) (aB : Nat) (aP : Nat) (nb : Int32) (np : Int32) (fb : Nat → Int32) (fp : Nat → Int32) (gY : Nat) (gF : Nat) (gP : Nat) (gpn : Int32) (glt : Int32) (gsh : Int32) (gwd : Int32) (gpu : Int32) (gmo : Int32) (gfY : Nat → Int32) (gfF : Nat → Int32) (gfP : Nat → Int32) (w1 : Nat) (w2 : Nat) (aL : Nat) (aK : Nat) (lw : Nat) (fL : Nat → Int32) (fK : Nat → Int32) (lS : Nat) (fS : Nat → Int32) (lk : Nat) (fA : Nat → Int32) (sz : Nat) (n_gpn : 0 ≤ gpn.toInt ∧ gpn.toInt ≤ 20) (n_p0 : 0 ≤ p0.toInt ∧ p0.toInt ≤ 4) (n_p1 : 0 ≤ p1.toInt ∧ p1.toInt ≤ 5) (hlk : lk ≤ 241) (ci_fS_zSt : zSt fS) (ci_gfP_zPo : zPo gfP)  : Met l yX6_mostAlike (.code yX6_mostAlike cX6_mostAlike 7 (some .int) :: wA) ({ frames := 4, cells := 0, slots := 0, locals := 103 }) (zPW (dC, dI) [(cI, .int), (cJ, .long)] [.ref h0, .int p0, .int p1, .int p2] sz [(h0, .inr (6, [.ref aC, .ref g0, .ref sd, .ref mW, .long mt, .int lf, .ref mV, .ref mA, .ref mT])), (aC, .inr (1, [.ref aR, .ref aB, .ref aP, .int nb, .int np])), (aB, .inl (cI, 24, .inl fb)), (aP, .inl (cI, 20, .inl fp)), (g0, .inr (7, [.ref gY, .ref gF, .ref gP, .int gpn, .int glt, .int gsh, .int gwd, .int gpu, .int gmo])), (gY, .inl (cI, 6, .inl gfY)), (gF, .inl (cI, 5, .inl gfF)), (gP, .inl (cI, 80, .inl gfP)), (sd, .inr (8, [.ref w1, .ref w2, .ref aC, .ref g0, .ref aL, .ref aK, .ref lw])), (aL, .inl (cI, 6, .inl fL)), (aK, .inl (cI, 32, .inl fK)), (lw, .inr (4, [.ref lS])), (lS, .inl (cI, lk, .inl fS)), (mA, .inl (cI, 10, .inl fA))] (va_A [(h0, .inr (6, [.ref aC, .ref g0, .ref sd, .ref mW, .long mt, .int lf, .ref mV, .ref mA, .ref mT])), (aC, .inr (1, [.ref aR, .ref aB, .ref aP, .int nb, .int np])), (aB, .inl (cI, 24, .inl fb)), (aP, .inl (cI, 20, .inl fp)), (g0, .inr (7, [.ref gY, .ref gF, .ref gP, .int gpn, .int glt, .int gsh, .int gwd, .int gpu, .int gmo])), (gY, .inl (cI, 6, .inl gfY)), (gF, .inl (cI, 5, .inl gfF)), (gP, .inl (cI, 80, .inl gfP)), (sd, .inr (8, [.ref w1, .ref w2, .ref aC, .ref g0, .ref aL, .ref aK, .ref lw])), (aL, .inl (cI, 6, .inl fL)), (aK, .inl (cI, 32, .inl fK)), (lw, .inr (4, [.ref lS])), (lS, .inl (cI, lk, .inl fS)), (mA, .inl (cI, 10, .inl fA))] sz)) (va_Qi (fun (r : Int32) (u : (Nat → Int32) × (Nat → Int32) × (Nat → Int32)) => (0 ≤ r.toInt) ∧ (∀ (kc : zK3) (kT : zT) (q_fr : Nat → Int32) (kt : (Int → Int) × Int), zCn q_fr fb fp nb.toInt np.toInt kc → zKo nb.toInt np.toInt kc kT → zSc nb.toInt np.toInt kT.1 gfY gfF gfP gpn glt gsh gwd gpu gmo → zLwC fS lk kt → (0 ≤ p0.toInt ∧ p0.toInt < np.toInt) → (0 ≤ p1.toInt ∧ p1.toInt < nb.toInt) → p2 = zFit (cBt kT.1.2.2.1.1 p1) (cBt kT.1.2.2.1.2.1 p1) (kc.2.1 (4 * p1.toInt.toNat)) → r.toInt = (sAl kc kT.1 (some kt) p0 p1 : Int))) (fun (u : (Nat → Int32) × (Nat → Int32) × (Nat → Int32)) (t : State) => va_P (dC, dI) vwCl [(h0, .inr (6, [.ref aC, .ref g0, .ref sd, .ref mW, .long mt, .int lf, .ref mV, .ref mA, .ref mT])), (aC, .inr (1, [.ref aR, .ref aB, .ref aP, .int nb, .int np])), (aB, .inl (cI, 24, .inl fb)), (aP, .inl (cI, 20, .inl fp)), (g0, .inr (7, [.ref gY, .ref gF, .ref gP, .int gpn, .int glt, .int gsh, .int gwd, .int gpu, .int gmo])), (gY, .inl (cI, 6, .inl gfY)), (gF, .inl (cI, 5, .inl gfF)), (gP, .inl (cI, 80, .inl gfP)), (sd, .inr (8, [.ref w1, .ref w2, .ref aC, .ref g0, .ref aL, .ref aK, .ref lw])), (aL, .inl (cI, 6, .inl u.1)), (aK, .inl (cI, 32, .inl u.2.1)), (lw, .inr (4, [.ref lS])), (lS, .inl (cI, lk, .inl fS)), (mA, .inl (cI, 10, .inl u.2.2))] t.heap ∧ va_D (va_A [(h0, .inr (6, [.ref aC, .ref g0, .ref sd, .ref mW, .long mt, .int lf, .ref mV, .ref mA, .ref mT])), (aC, .inr (1, [.ref aR, .ref aB, .ref aP, .int nb, .int np])), (aB, .inl (cI, 24, .inl fb)), (aP, .inl (cI, 20, .inl fp)), (g0, .inr (7, [.ref gY, .ref gF, .ref gP, .int gpn, .int glt, .int gsh, .int gwd, .int gpu, .int gmo])), (gY, .inl (cI, 6, .inl gfY)), (gF, .inl (cI, 5, .inl gfF)), (gP, .inl (cI, 80, .inl gfP)), (sd, .inr (8, [.ref w1, .ref w2, .ref aC, .ref g0, .ref aL, .ref aK, .ref lw])), (aL, .inl (cI, 6, .inl fL)), (aK, .inl (cI, 32, .inl fK)), (lw, .inr (4, [.ref lS])), (lS, .inl (cI, lk, .inl fS)), (mA, .inl (cI, 10, .inl fA))] sz) [(h0, .inr (6, [.ref aC, .ref g0, .ref sd, .ref mW, .long mt, .int lf, .ref mV, .ref mA, .ref mT])), (aC, .inr (1, [.ref aR, .ref aB, .ref aP, .int nb, .int np])), (aB, .inl (cI, 24, .inl fb)), (aP, .inl (cI, 20, .inl fp)), (g0, .inr (7, [.ref gY, .ref gF, .ref gP, .int gpn, .int glt, .int gsh, .int gwd, .int gpu, .int gmo])), (gY, .inl (cI, 6, .inl gfY)), (gF, .inl (cI, 5, .inl gfF)), (gP, .inl (cI, 80, .inl gfP)), (sd, .inr (8, [.ref w1, .ref w2, .ref aC, .ref g0, .ref aL, .ref aK, .ref lw])), (aL, .inl (cI, 6, .inl u.1)), (aK, .inl (cI, 32, .inl u.2.1)), (lw, .inr (4, [.ref lS])), (lS, .inl (cI, lk, .inl fS)), (mA, .inl (cI, 10, .inl u.2.2))]) (va_A [(h0, .inr (6, [.ref aC, .ref g0, .ref sd, .ref mW, .long mt, .int lf, .ref mV, .ref mA, .ref mT])), (aC, .inr (1, [.ref aR, .ref aB, .ref aP, .int nb, .int np])), (aB, .inl (cI, 24, .inl fb)), (aP, .inl (cI, 20, .inl fp)), (g0, .inr (7, [.ref gY, .ref gF, .ref gP, .int gpn, .int glt, .int gsh, .int gwd, .int gpu, .int gmo])), (gY, .inl (cI, 6, .inl gfY)), (gF, .inl (cI, 5, .inl gfF)), (gP, .inl (cI, 80, .inl gfP)), (sd, .inr (8, [.ref w1, .ref w2, .ref aC, .ref g0, .ref aL, .ref aK, .ref lw])), (aL, .inl (cI, 6, .inl fL)), (aK, .inl (cI, 32, .inl fK)), (lw, .inr (4, [.ref lS])), (lS, .inl (cI, lk, .inl fS)), (mA, .inl (cI, 10, .inl fA))] sz)) 0 0 (va_A [(h0, .inr (6, [.ref aC, .ref g0, .ref sd, .ref mW, .long mt, .int lf, .ref mV, .ref mA, .ref mT])), (aC, .inr (1, [.ref aR, .ref aB, .ref aP, .int nb, .int np])), (aB, .inl (cI, 24, .inl fb)), (aP, .inl (cI, 20, .inl fp)), (g0, .inr (7, [.ref gY, .ref gF, .ref gP, .int gpn, .int glt, .int gsh, .int gwd, .int gpu, .int gmo])), (gY, .inl (cI, 6, .inl gfY)), (gF, .inl (cI, 5, .inl gfF)), (gP, .inl (cI, 80, .inl gfP)), (sd, .inr (8, [.ref w1, .ref w2, .ref aC, .ref g0, .ref aL, .ref aK, .ref lw])), (aL, .inl (cI, 6, .inl fL)), (aK, .inl (cI, 32, .inl fK)), (lw, .inr (4, [.ref lS])), (lS, .inl (cI, lk, .inl fS)), (mA, .inl (cI, 10, .inl fA))] sz) := by
  refine Met.ofW (cc := cX6_mostAlike) (maxL := 7) (ret := (some .int)) (by decide) rfl ?_
  intro p e s m args below meth c s₁ B hml hv
  obtain ⟨⟨hargs, hsz, hP, hK, hT⟩, hV⟩ := hv
  have hx := B.exec
  have hb := B.bytes
  have hr := B.returns
  have hts : ∀ w ∈ wA, w.before args s = true := fun w h => atoms_spec (ws := .code yX6_mostAlike cX6_mostAlike 7 (some .int) :: wA) B.pre w (List.mem_cons_of_mem _ h)
  have hown : s.vm.findClass RX6 = some m.cls := findClass_of_methodNamed B.named
  have hlocks := B.notSynchronized
  subst hsz
  have hD := hT.self (sz := s.heap.size)
  generalize hAe : va_A [(h0, .inr (6, [.ref aC, .ref g0, .ref sd, .ref mW, .long mt, .int lf, .ref mV, .ref mA, .ref mT])), (aC, .inr (1, [.ref aR, .ref aB, .ref aP, .int nb, .int np])), (aB, .inl (cI, 24, .inl fb)), (aP, .inl (cI, 20, .inl fp)), (g0, .inr (7, [.ref gY, .ref gF, .ref gP, .int gpn, .int glt, .int gsh, .int gwd, .int gpu, .int gmo])), (gY, .inl (cI, 6, .inl gfY)), (gF, .inl (cI, 5, .inl gfF)), (gP, .inl (cI, 80, .inl gfP)), (sd, .inr (8, [.ref w1, .ref w2, .ref aC, .ref g0, .ref aL, .ref aK, .ref lw])), (aL, .inl (cI, 6, .inl fL)), (aK, .inl (cI, 32, .inl fK)), (lw, .inr (4, [.ref lS])), (lS, .inl (cI, lk, .inl fS)), (mA, .inl (cI, 10, .inl fA))] s.heap.size = A at hD hV ⊢
  have hA : ∀ q : Nat, s.heap.size ≤ q → A q := fun q h => by rw [← hAe]; exact Or.inr h
  have hl := lv_entry ([.ref h0, .int p0, .int p1, .int p2]) (n := 7) (Nat.le_of_ble_eq_true rfl)
  rw [show entryFrame m args 7 = entryFrame m ([.ref h0, .int p0, .int p1, .int p2] : List Value).toArray 7 by rw [hargs], lg_entry_eq]
  generalize (lg_sl ([.ref h0, .int p0, .int p1, .int p2]) ++ List.replicate (7 - (lg_sl ([.ref h0, .int p0, .int p1, .int p2])).length) Slot.unset).toArray = ls at hl ⊢
  have hl : lv_has ls 7 [(0, .ref h0), (1, .int p0), (2, .int p1), (3, .int p2)] := hl
  refine zstart (fun H hH => ?_)
  rw [← hH] at hP
  have hS : va_S A s.heap H [] := by rw [hH]; exact va_S.rf
  generalize ([] : List Loc) = locs at hS ⊢
  refine zgen (fun R Q hR hQ => ?_)
  refine lv_aload_n hx hb dX6_mostAlike_0 rfl (lv_at hl 0 rfl) ?_
  refine va_get (D := (dC, dI)) (ci := 6) (v := .ref mA) (C := RX6) (T := TX6) (N := 9) hx hb hts iX6 hown hK hP 0 rfl rfl 7 (by decide) (hts _ qw324) (fun _ h9 => h9) rfl dX6_mostAlike_1 ?_
  refine lv_iconst (v := 0) hx hb dX6_mostAlike_4 (by decide) ?_
  obtain ⟨hPc, hDc, hFc⟩ := zc3 (wc := [(mA, .inl (cI, 10, .inl fA))]) hP hD hS hA [13] (by decide +kernel) rfl
  refine va_callv (va_runS (As := [.ref mA, .int 0]) (rest := []) ⟨hx, hb, hml, hown, hts⟩ (g_J7_fill_53178_10 l dC dI cI cJ mA 0 fA H.size) (va_cwS 2 hts (zgSW qw877 qw878 qw111 qw879) rfl rfl rfl (hd_J7_fill_53178).2 ⟨by rw [hR]; exact Nat.le_of_ble_eq_true rfl, by rw [hR]; exact Nat.le_of_ble_eq_true rfl⟩) (zPS hPc hK hDc) rfl rfl hl.1 rfl (lv_room (Nat.le_of_ble_eq_true rfl)) dX6_mostAlike_5 ⟨Nat.zero_le _, Nat.zero_le _⟩) hS (fun q _ h => hFc q h) hFc (fun u5 t H locs ht hvm hw hB hz1 hk1 hS9 => ?_)
  obtain ⟨u5_0, rfl⟩ : ∃ z, z = u5 := ⟨_, rfl⟩
  obtain ⟨hP9, hD9⟩ := zj2 (wX := [(h0, .inr (6, [.ref aC, .ref g0, .ref sd, .ref mW, .long mt, .int lf, .ref mV, .ref mA, .ref mT])), (aC, .inr (1, [.ref aR, .ref aB, .ref aP, .int nb, .int np])), (aB, .inl (cI, 24, .inl fb)), (aP, .inl (cI, 20, .inl fp)), (g0, .inr (7, [.ref gY, .ref gF, .ref gP, .int gpn, .int glt, .int gsh, .int gwd, .int gpu, .int gmo])), (gY, .inl (cI, 6, .inl gfY)), (gF, .inl (cI, 5, .inl gfF)), (gP, .inl (cI, 80, .inl gfP)), (sd, .inr (8, [.ref w1, .ref w2, .ref aC, .ref g0, .ref aL, .ref aK, .ref lw])), (aL, .inl (cI, 6, .inl fL)), (aK, .inl (cI, 32, .inl fK)), (lw, .inr (4, [.ref lS])), (lS, .inl (cI, lk, .inl fS)), (mA, .inl (cI, 10, .inl u5_0))]) hP hD hk1 hFc ht hB [13] [(false, 0), (false, 1), (false, 2), (false, 3), (false, 4), (false, 5), (false, 6), (false, 7), (false, 8), (false, 9), (false, 10), (false, 11), (false, 12), (true, 0)] rfl (by decide +kernel) (by decide +kernel) rfl
  clear hP hD hS hPc hDc hFc hB hk1 hz1 hvm
  have hP := hP9
  have hD := hD9
  have hS := hS9
  clear hP9 hD9 hS9
  have f5_0 : (∀ j : Nat, j < 10 → u5_0 j = 0) := hw
  have F5 := f5_0
  refine lv_iconst (v := 0) hx hb dX6_mostAlike_8 (by decide) ?_
  refine lv_istore (lv' := [(4, .int 0), (0, .ref h0), (1, .int p0), (2, .int p1), (3, .int p2)]) hx hb dX6_mostAlike_9 hl (by decide) rfl (fun ls hl => ?_)
  refine lv_iconst (v := 0) hx hb dX6_mostAlike_11 (by decide) ?_
  have J14 : ∀ (n : Nat) (m14_A_aK : Nat → Int32) (m14_A_aL : Nat → Int32) (m14_A_mA : Nat → Int32) (m14_L_4 : Int32) (m14_L_5 : Int32), (0 ≤ m14_L_4.toInt) → (0 ≤ m14_L_5.toInt ∧ m14_L_5.toInt ≤ 10) → (∀ (kc : zK3) (kT : zT) (q_fr : Nat → Int32) (kt : (Int → Int) × Int), zCn q_fr fb fp nb.toInt np.toInt kc → zKo nb.toInt np.toInt kc kT → zSc nb.toInt np.toInt kT.1 gfY gfF gfP gpn glt gsh gwd gpu gmo → zLwC fS lk kt → (0 ≤ p0.toInt ∧ p0.toInt < np.toInt) → (0 ≤ p1.toInt ∧ p1.toInt < nb.toInt) → p2 = zFit (cBt kT.1.2.2.1.1 p1) (cBt kT.1.2.2.1.2.1 p1) (kc.2.1 (4 * p1.toInt.toNat)) → zAk2 kc kT.1 (some kt) p0 p1 m14_A_mA m14_L_4 m14_L_5.toInt.toNat) → (11 - m14_L_5.toInt).toNat = n → ∀ (H : Heap) (locs : List Loc) (ls : Array Slot), va_P (dC, dI) vwCl [(h0, .inr (6, [.ref aC, .ref g0, .ref sd, .ref mW, .long mt, .int lf, .ref mV, .ref mA, .ref mT])), (aC, .inr (1, [.ref aR, .ref aB, .ref aP, .int nb, .int np])), (aB, .inl (cI, 24, .inl fb)), (aP, .inl (cI, 20, .inl fp)), (g0, .inr (7, [.ref gY, .ref gF, .ref gP, .int gpn, .int glt, .int gsh, .int gwd, .int gpu, .int gmo])), (gY, .inl (cI, 6, .inl gfY)), (gF, .inl (cI, 5, .inl gfF)), (gP, .inl (cI, 80, .inl gfP)), (sd, .inr (8, [.ref w1, .ref w2, .ref aC, .ref g0, .ref aL, .ref aK, .ref lw])), (aL, .inl (cI, 6, .inl m14_A_aL)), (aK, .inl (cI, 32, .inl m14_A_aK)), (lw, .inr (4, [.ref lS])), (lS, .inl (cI, lk, .inl fS)), (mA, .inl (cI, 10, .inl m14_A_mA))] H → va_D A [(h0, .inr (6, [.ref aC, .ref g0, .ref sd, .ref mW, .long mt, .int lf, .ref mV, .ref mA, .ref mT])), (aC, .inr (1, [.ref aR, .ref aB, .ref aP, .int nb, .int np])), (aB, .inl (cI, 24, .inl fb)), (aP, .inl (cI, 20, .inl fp)), (g0, .inr (7, [.ref gY, .ref gF, .ref gP, .int gpn, .int glt, .int gsh, .int gwd, .int gpu, .int gmo])), (gY, .inl (cI, 6, .inl gfY)), (gF, .inl (cI, 5, .inl gfF)), (gP, .inl (cI, 80, .inl gfP)), (sd, .inr (8, [.ref w1, .ref w2, .ref aC, .ref g0, .ref aL, .ref aK, .ref lw])), (aL, .inl (cI, 6, .inl m14_A_aL)), (aK, .inl (cI, 32, .inl m14_A_aK)), (lw, .inr (4, [.ref lS])), (lS, .inl (cI, lk, .inl fS)), (mA, .inl (cI, 10, .inl m14_A_mA))] → va_S A s.heap H locs → lv_has ls 7 [(5, .int m14_L_5), (4, .int m14_L_4), (0, .ref h0), (1, .int p0), (2, .int p1), (3, .int p2)] → W p l e R s m args below meth c H locs 0 0 Q (F0 m 14 ls []) := by
    intro n14
    induction n14 using Nat.strongRecOn with
    | _ n14 ih14 =>
      intro m14_A_aK m14_A_aL m14_A_mA m14_L_4 m14_L_5 jf14_0 jf14_1 jv14_0 hmu14 H locs ls hP hD hS hl
      refine lv_iload hx hb dX6_mostAlike_14 (lv_at hl 0 rfl) ?_
      refine lv_bipush (v := 10) hx hb dX6_mostAlike_16 (by decide) ?_
      refine lv_icmp_ge (tgt := 75) hx hb dX6_mostAlike_18 (by decide) (fun c18 => ?_) (fun c18 => ?_)
      · have c18 : 10 ≤ m14_L_5.toInt := z3 (by decide) rfl c18
        refine lv_iload hx hb dX6_mostAlike_75 (lv_at hl 1 rfl) ?_
        rw [hQ]
        exact W.iret (v := m14_L_4) hx hb hr (fun t ht hW => ⟨⟨m14_L_4, (m14_A_aL, m14_A_aK, m14_A_mA), rfl, ⟨by (try dsimp only); omega, fun kc kT q_fr kt hc hb h ht hp hq hf => zAk2E (jv14_0 kc kT _ kt hc hb h ht hp hq hf) (by omega)⟩, ⟨by rw [ht]; exact hP, hD⟩⟩, hS.F ht⟩) hS.2.2 dX6_mostAlike_77
      · have c18 : m14_L_5.toInt < 10 := z4 (by decide) rfl c18
        refine lv_iload_n hx hb dX6_mostAlike_21 rfl (lv_at hl 5 rfl) ?_
        refine lv_iload hx hb dX6_mostAlike_22 (lv_at hl 0 rfl) ?_
        have hPc : va_P (dC, dI) vwCl [] H := zP0
        have hDc : va_D (fun _ => True) [] := zD0
        have hFc := zfr hS hA
        refine va_calli (va_runSN (As := [.int p2, .int m14_L_5]) (rest := []) ⟨hx, hb, hml, hown, hts⟩ (g_X10_bit l dC dI cI cJ p2 m14_L_5 H.size) ⟨va_cnB 2 hts (zgI qw454) rfl rfl rfl hV.1 (hts _ qw98) (hd_X10_bit).2 ⟨by rw [hR]; exact Nat.le_of_ble_eq_true rfl, by rw [hR]; exact Nat.le_of_ble_eq_true rfl⟩, hts _ qw453, trivial⟩ (zPS hPc hK hDc) rfl rfl hl.1 rfl (lv_room (Nat.le_of_ble_eq_true rfl)) dX6_mostAlike_24 ⟨Nat.zero_le _, Nat.zero_le _⟩) hS (fun q _ h => hFc q h) hFc (fun v24 u24 t H locs ht hvm hw hB hz1 hk1 hS9 => ?_)
        replace hP := zkeep hP hk1
        replace hS := hS9
        clear hPc hDc hFc hk1 hz1 hvm hS9
        obtain ⟨f24_0, f24_1, f24_2⟩ : (0 ≤ v24.toInt) ∧ (v24.toInt ≤ 1) ∧ (v24 = cBt p2 m14_L_5) := hw
        have F24 := f24_2
        refine lv_iconst (v := 1) hx hb dX6_mostAlike_27 (by decide) ?_
        refine lv_icmp_ne (tgt := 69) hx hb dX6_mostAlike_28 (by decide) (fun c28 => ?_) (fun c28 => ?_)
        · have c28 : ¬ v24.toInt = 1 := z6 rfl (by decide) c28
          obtain ⟨v69, e69⟩ : ∃ y : Int32, y = m14_L_5 + Int32.ofInt (1) := ⟨_, rfl⟩
          refine lv_iinc (v := v69) (lv' := [(5, .int v69), (4, .int m14_L_4), (0, .ref h0), (1, .int p0), (2, .int p1), (3, .int p2)]) hx hb dX6_mostAlike_69 hl (k := 0) rfl e69.symm (by decide) rfl (fun ls hl => ?_)
          have i69 : v69.toInt = m14_L_5.toInt + 1 := zaddI e69 (by decide) (by omega) (by omega)
          refine lv_goto (tgt := 14) hx hb dX6_mostAlike_72 (by decide) ?_
          exact ih14 _ (by omega) m14_A_aK m14_A_aL m14_A_mA m14_L_4 v69 jf14_0 (by omega) (fun kc kT q_fr kt hc hb h ht hp hq hf => by first | (have ft : sFt kc kT.1 p1 m14_L_5 := (by show (cBt (zFit (cBt kT.1.2.2.1.1 p1) (cBt kT.1.2.2.1.2.1 p1) (kc.2.1 (4 * p1.toInt.toNat))) m14_L_5).toInt = 1; rw [← hf, ← F24]; omega); have s0 : v39 = sShow kc kT.1 (some kt) p0 p1 m14_L_5 := sShow_l hc hb h hp hq (by omega) ht F39; exact zAk2Y (jv14_0 kc kT _ kt hc hb h ht hp hq hf) (by omega) (by omega) i69 ft s0 (by omega) (by omega) e51 e53 e54 (by rw [← e63]; exact i64)) | exact zAk2N (jv14_0 kc kT _ kt hc hb h ht hp hq hf) (by omega) i69 (fun z => by have z2 : (cBt (zFit (cBt kT.1.2.2.1.1 p1) (cBt kT.1.2.2.1.2.1 p1) (kc.2.1 (4 * p1.toInt.toNat))) m14_L_5).toInt = 1 := z; rw [← hf, ← F24] at z2; omega)) rfl H locs ls hP hD hS (lv_sub hl [0, 1, 2, 3, 4, 5] rfl)
        · have c28 : v24.toInt = 1 := z5 rfl (by decide) c28
          refine lv_aload_n hx hb dX6_mostAlike_31 rfl (lv_at hl 2 rfl) ?_
          refine va_get (D := (dC, dI)) (ci := 6) (v := .ref sd) (C := RX6) (T := TX6) (N := 9) hx hb hts iX6 hown hK hP 0 rfl rfl 2 (by decide) (hts _ qw318) (fun _ h9 => h9) rfl dX6_mostAlike_32 ?_
          refine lv_iload_n hx hb dX6_mostAlike_35 rfl (lv_at hl 3 rfl) ?_
          refine lv_iload_n hx hb dX6_mostAlike_36 rfl (lv_at hl 4 rfl) ?_
          refine lv_iload hx hb dX6_mostAlike_37 (lv_at hl 0 rfl) ?_
          obtain ⟨hPc, hDc, hFc⟩ := zc3 (wc := [(sd, .inr (8, [.ref w1, .ref w2, .ref aC, .ref g0, .ref aL, .ref aK, .ref lw])), (aC, .inr (1, [.ref aR, .ref aB, .ref aP, .int nb, .int np])), (aB, .inl (cI, 24, .inl fb)), (aP, .inl (cI, 20, .inl fp)), (g0, .inr (7, [.ref gY, .ref gF, .ref gP, .int gpn, .int glt, .int gsh, .int gwd, .int gpu, .int gmo])), (gY, .inl (cI, 6, .inl gfY)), (gF, .inl (cI, 5, .inl gfF)), (gP, .inl (cI, 80, .inl gfP)), (aL, .inl (cI, 6, .inl m14_A_aL)), (aK, .inl (cI, 32, .inl m14_A_aK)), (lw, .inr (4, [.ref lS])), (lS, .inl (cI, lk, .inl fS))]) hP hD hS hA [8, 1, 2, 3, 4, 5, 6, 7, 9, 10, 11, 12] (by decide +kernel) rfl
          refine va_calli (va_runV (As := [.int p0, .int p1, .int m14_L_5]) (rest := []) ⟨hx, hb, hml, hown, hts⟩ (g_X8_showOf_l l dC dI cI cJ sd p0 p1 m14_L_5 w1 w2 aC g0 aL aK lw aR aB aP nb np fb fp gY gF gP gpn glt gsh gwd gpu gmo gfY gfF gfP m14_A_aL m14_A_aK lS fS lk H.size n_gpn n_p0 n_p1 (hlk) ci_fS_zSt ci_gfP_zPo) (cwV 3 hts (zgV qw844 qw644 qw645 qw105 qw646) rfl rfl rfl hd_X8_showOf ⟨by rw [hR]; exact Nat.le_of_ble_eq_true rfl, by rw [hR]; exact Nat.le_of_ble_eq_true rfl⟩) (zPV hPc hK hDc (va_recv (q := (RX8, TX8, 7)) hK hP (ci := 8) (q0 := 8) rfl rfl)) rfl rfl hl.1 rfl (lv_room (Nat.le_of_ble_eq_true rfl)) dX6_mostAlike_39 ⟨Nat.zero_le _, Nat.zero_le _⟩) hS (fun q _ h => hFc q h) hFc (fun v39 u39 t H locs ht hvm hw hB hz1 hk1 hS9 => ?_)
          obtain ⟨u39_0, u39_1⟩ := u39
          obtain ⟨hP9, hD9⟩ := zj2 (wX := [(h0, .inr (6, [.ref aC, .ref g0, .ref sd, .ref mW, .long mt, .int lf, .ref mV, .ref mA, .ref mT])), (aC, .inr (1, [.ref aR, .ref aB, .ref aP, .int nb, .int np])), (aB, .inl (cI, 24, .inl fb)), (aP, .inl (cI, 20, .inl fp)), (g0, .inr (7, [.ref gY, .ref gF, .ref gP, .int gpn, .int glt, .int gsh, .int gwd, .int gpu, .int gmo])), (gY, .inl (cI, 6, .inl gfY)), (gF, .inl (cI, 5, .inl gfF)), (gP, .inl (cI, 80, .inl gfP)), (sd, .inr (8, [.ref w1, .ref w2, .ref aC, .ref g0, .ref aL, .ref aK, .ref lw])), (aL, .inl (cI, 6, .inl u39_0)), (aK, .inl (cI, 32, .inl u39_1)), (lw, .inr (4, [.ref lS])), (lS, .inl (cI, lk, .inl fS)), (mA, .inl (cI, 10, .inl m14_A_mA))]) hP hD hk1 hFc ht hB [8, 1, 2, 3, 4, 5, 6, 7, 9, 10, 11, 12] [(false, 0), (true, 1), (true, 2), (true, 3), (true, 4), (true, 5), (true, 6), (true, 7), (true, 0), (true, 8), (true, 9), (true, 10), (true, 11), (false, 13)] rfl (by decide +kernel) (by decide +kernel) rfl
          clear hP hD hS hPc hDc hFc hB hk1 hz1 hvm
          have hP := hP9
          have hD := hD9
          have hS := hS9
          clear hP9 hD9 hS9
          obtain ⟨f39_0, f39_1, f39_2⟩ : (0 ≤ v39.toInt) ∧ (v39.toInt ≤ 9) ∧ (∀ t : (Int → Int) × Int, zLwC fS lk t → zB5 m14_L_5 (fb (4 * p1.toInt.toNat + 2)) (gfY p1.toInt.toNat) (fp (4 * p0.toInt.toNat)) (gfF p0.toInt.toNat) gmo → v39 = zSh (fp (4 * p0.toInt.toNat + 3)) (zLat gfP p0 gpn.toInt.toNat) (zLkv (some t) m14_L_5 (fb (4 * p1.toInt.toNat + 2)) (gfY p1.toInt.toNat) (fp (4 * p0.toInt.toNat)) (gfF p0.toInt.toNat) gmo)) := hw
          have F39 := f39_2
          refine lv_istore (lv' := [(6, .int v39), (5, .int m14_L_5), (4, .int m14_L_4), (0, .ref h0), (1, .int p0), (2, .int p1), (3, .int p2)]) hx hb dX6_mostAlike_42 hl (by decide) rfl (fun ls hl => ?_)
          refine lv_aload_n hx hb dX6_mostAlike_44 rfl (lv_at hl 3 rfl) ?_
          refine va_get (D := (dC, dI)) (ci := 6) (v := .ref mA) (C := RX6) (T := TX6) (N := 9) hx hb hts iX6 hown hK hP 0 rfl rfl 7 (by decide) (hts _ qw324) (fun _ h9 => h9) rfl dX6_mostAlike_45 ?_
          refine lv_iload hx hb dX6_mostAlike_48 (lv_at hl 0 rfl) ?_
          refine lv_dup2_11 hx hb dX6_mostAlike_50 rfl rfl ?_
          refine va_iald hx hb hK hP 13 0 rfl rfl (vp_in_iff.mpr ⟨by omega, by omega⟩) dX6_mostAlike_51 ?_
          refine lv_topi (fun v51 e51 => ?_)
          refine lv_iconst (v := 1) hx hb dX6_mostAlike_52 (by decide) ?_
          refine lv_iadd hx hb dX6_mostAlike_53 ?_
          refine lv_topi (fun v53 e53 => ?_)
          refine va_iast hx hb hK hP hD hS 13 0 rfl rfl (vp_in_iff.mpr ⟨by omega, by omega⟩) dX6_mostAlike_54 (fun H locs hP9 hD9 hS9 => ?_)
          clear hP hD hS
          obtain ⟨v54_f, e54⟩ : ∃ g : Nat → Int32, g = upd m14_A_mA (v39).toNatClampNeg v53 := ⟨_, rfl⟩
          rw [← e54] at hP9 hD9
          obtain ⟨hP, hD⟩ := zst (wX := [(h0, .inr (6, [.ref aC, .ref g0, .ref sd, .ref mW, .long mt, .int lf, .ref mV, .ref mA, .ref mT])), (aC, .inr (1, [.ref aR, .ref aB, .ref aP, .int nb, .int np])), (aB, .inl (cI, 24, .inl fb)), (aP, .inl (cI, 20, .inl fp)), (g0, .inr (7, [.ref gY, .ref gF, .ref gP, .int gpn, .int glt, .int gsh, .int gwd, .int gpu, .int gmo])), (gY, .inl (cI, 6, .inl gfY)), (gF, .inl (cI, 5, .inl gfF)), (gP, .inl (cI, 80, .inl gfP)), (sd, .inr (8, [.ref w1, .ref w2, .ref aC, .ref g0, .ref aL, .ref aK, .ref lw])), (aL, .inl (cI, 6, .inl u39_0)), (aK, .inl (cI, 32, .inl u39_1)), (lw, .inr (4, [.ref lS])), (lS, .inl (cI, lk, .inl fS)), (mA, .inl (cI, 10, .inl v54_f))]) hP9 hD9 rfl
          have hS := hS9
          clear hP9 hD9 hS9
          refine lv_iload hx hb dX6_mostAlike_55 (lv_at hl 2 rfl) ?_
          refine lv_aload_n hx hb dX6_mostAlike_57 rfl (lv_at hl 3 rfl) ?_
          refine va_get (D := (dC, dI)) (ci := 6) (v := .ref mA) (C := RX6) (T := TX6) (N := 9) hx hb hts iX6 hown hK hP 0 rfl rfl 7 (by decide) (hts _ qw324) (fun _ h9 => h9) rfl dX6_mostAlike_58 ?_
          refine lv_iload hx hb dX6_mostAlike_61 (lv_at hl 0 rfl) ?_
          refine va_iald hx hb hK hP 13 0 rfl rfl (vp_in_iff.mpr ⟨by omega, by omega⟩) dX6_mostAlike_63 ?_
          refine lv_topi (fun v63 e63 => ?_)
          refine va_mmax hx hb (by rw [hml]; exact hl.1.symm) hown (hts _ qw849) (hts _ qw634) (hts _ qw112) (hts _ qw635) (by rw [hR]; exact Nat.le_of_ble_eq_true rfl) (by rw [hR]; exact Nat.le_of_ble_eq_true rfl) (Nat.zero_le _) (Nat.zero_le _) dX6_mostAlike_64 ?_
          refine lv_topi (fun v64 e64 => ?_)
          have i64 := zmmax e64
          refine lv_istore (lv' := [(4, .int v64), (6, .int v39), (5, .int m14_L_5), (0, .ref h0), (1, .int p0), (2, .int p1), (3, .int p2)]) hx hb dX6_mostAlike_67 hl (by decide) rfl (fun ls hl => ?_)
          obtain ⟨v69, e69⟩ : ∃ y : Int32, y = m14_L_5 + Int32.ofInt (1) := ⟨_, rfl⟩
          refine lv_iinc (v := v69) (lv' := [(5, .int v69), (4, .int v64), (6, .int v39), (0, .ref h0), (1, .int p0), (2, .int p1), (3, .int p2)]) hx hb dX6_mostAlike_69 hl (k := 2) rfl e69.symm (by decide) rfl (fun ls hl => ?_)
          have i69 : v69.toInt = m14_L_5.toInt + 1 := zaddI e69 (by decide) (by omega) (by omega)
          refine lv_goto (tgt := 14) hx hb dX6_mostAlike_72 (by decide) ?_
          exact ih14 _ (by omega) u39_1 u39_0 v54_f v64 v69 (by omega) (by omega) (fun kc kT q_fr kt hc hb h ht hp hq hf => by first | (have ft : sFt kc kT.1 p1 m14_L_5 := (by show (cBt (zFit (cBt kT.1.2.2.1.1 p1) (cBt kT.1.2.2.1.2.1 p1) (kc.2.1 (4 * p1.toInt.toNat))) m14_L_5).toInt = 1; rw [← hf, ← F24]; omega); have s0 : v39 = sShow kc kT.1 (some kt) p0 p1 m14_L_5 := sShow_l hc hb h hp hq (by omega) ht F39; exact zAk2Y (jv14_0 kc kT _ kt hc hb h ht hp hq hf) (by omega) (by omega) i69 ft s0 (by omega) (by omega) e51 e53 e54 (by rw [← e63]; exact i64)) | exact zAk2N (jv14_0 kc kT _ kt hc hb h ht hp hq hf) (by omega) i69 (fun z => by have z2 : (cBt (zFit (cBt kT.1.2.2.1.1 p1) (cBt kT.1.2.2.1.2.1 p1) (kc.2.1 (4 * p1.toInt.toNat))) m14_L_5).toInt = 1 := z; rw [← hf, ← F24] at z2; omega)) rfl H locs ls hP hD hS (lv_sub hl [0, 1, 3, 4, 5, 6] rfl)
  refine lv_istore (lv' := [(5, .int 0), (4, .int 0), (0, .ref h0), (1, .int p0), (2, .int p1), (3, .int p2)]) hx hb dX6_mostAlike_12 hl (by decide) rfl (fun ls hl => ?_)
  have zj14_m14_L_4 : (0 : Int32).toInt = 0 := by decide
  have zj14_m14_L_5 : (0 : Int32).toInt = 0 := by decide
  exact J14 _ fK fL u5_0 0 0 (by decide) (by decide) (fun kc kT q_fr kt hc hb h ht hp hq hf => zAk2_0 (fun j hj => F5 j hj)) rfl H locs ls hP hD hS (lv_sub hl [0, 1, 2, 3, 4, 5] rfl)
set_option maxHeartbeats 4000000 in
set_option maxRecDepth 100000 in
theorem g_X6_bestSketcher_l (l : Launch) (dC : Nat → ClassId) (dI : Nat → Nat → Nat) (cI cJ : ClassId) (h0 : Nat) (p0 : Int32) (aC : Nat) (g0 : Nat) (sd : Nat) (mW : Nat) (mt : Int64) (lf : Int32) (mV : Nat) (mA : Nat) (mT : Nat) (aR : Nat) (aB : Nat) (aP : Nat) (nb : Int32) (np : Int32) (fb : Nat → Int32) (fp : Nat → Int32) (gY : Nat) (gF : Nat) (gP : Nat) (gpn : Int32) (glt : Int32) (gsh : Int32) (gwd : Int32) (gpu : Int32) (gmo : Int32) (gfY : Nat → Int32) (gfF : Nat → Int32) (gfP : Nat → Int32) (w1 : Nat) (w2 : Nat) (aL : Nat) (aK : Nat) (lw : Nat) (fL : Nat → Int32) (fK : Nat → Int32) (lS : Nat) (fS : Nat → Int32) (lk : Nat) (fA : Nat → Int32) (sz : Nat) (n_gpn : 0 ≤ gpn.toInt ∧ gpn.toInt ≤ 20) (n_np : 0 ≤ np.toInt ∧ np.toInt ≤ 5) (n_p0 : 0 ≤ p0.toInt ∧ p0.toInt ≤ 5) (hlk : lk ≤ 241) (ci_fS_zSt : zSt fS) (ci_gfP_zPo : zPo gfP)  : Met l yX6_bestSketcher (.code yX6_bestSketcher cX6_bestSketcher 7 (some .int) :: wA) ({ frames := 5, cells := 0, slots := 0, locals := 129 }) (zPW (dC, dI) [(cI, .int), (cJ, .long)] [.ref h0, .int p0] sz [(h0, .inr (6, [.ref aC, .ref g0, .ref sd, .ref mW, .long mt, .int lf, .ref mV, .ref mA, .ref mT])), (aC, .inr (1, [.ref aR, .ref aB, .ref aP, .int nb, .int np])), (aB, .inl (cI, 24, .inl fb)), (aP, .inl (cI, 20, .inl fp)), (g0, .inr (7, [.ref gY, .ref gF, .ref gP, .int gpn, .int glt, .int gsh, .int gwd, .int gpu, .int gmo])), (gY, .inl (cI, 6, .inl gfY)), (gF, .inl (cI, 5, .inl gfF)), (gP, .inl (cI, 80, .inl gfP)), (sd, .inr (8, [.ref w1, .ref w2, .ref aC, .ref g0, .ref aL, .ref aK, .ref lw])), (aL, .inl (cI, 6, .inl fL)), (aK, .inl (cI, 32, .inl fK)), (lw, .inr (4, [.ref lS])), (lS, .inl (cI, lk, .inl fS)), (mA, .inl (cI, 10, .inl fA))] (va_A [(h0, .inr (6, [.ref aC, .ref g0, .ref sd, .ref mW, .long mt, .int lf, .ref mV, .ref mA, .ref mT])), (aC, .inr (1, [.ref aR, .ref aB, .ref aP, .int nb, .int np])), (aB, .inl (cI, 24, .inl fb)), (aP, .inl (cI, 20, .inl fp)), (g0, .inr (7, [.ref gY, .ref gF, .ref gP, .int gpn, .int glt, .int gsh, .int gwd, .int gpu, .int gmo])), (gY, .inl (cI, 6, .inl gfY)), (gF, .inl (cI, 5, .inl gfF)), (gP, .inl (cI, 80, .inl gfP)), (sd, .inr (8, [.ref w1, .ref w2, .ref aC, .ref g0, .ref aL, .ref aK, .ref lw])), (aL, .inl (cI, 6, .inl fL)), (aK, .inl (cI, 32, .inl fK)), (lw, .inr (4, [.ref lS])), (lS, .inl (cI, lk, .inl fS)), (mA, .inl (cI, 10, .inl fA))] sz)) (va_Qi (fun (r : Int32) (u : (Nat → Int32) × (Nat → Int32) × (Nat → Int32)) => ((-1) ≤ r.toInt) ∧ (r.toInt ≤ 4) ∧ (∀ (kc : zK3) (kT : zT) (q_fr : Nat → Int32) (kt : (Int → Int) × Int), zCn q_fr fb fp nb.toInt np.toInt kc → zKo nb.toInt np.toInt kc kT → zSc nb.toInt np.toInt kT.1 gfY gfF gfP gpn glt gsh gwd gpu gmo → zLwC fS lk kt → (0 ≤ p0.toInt ∧ p0.toInt < nb.toInt) → r.toInt = (sNe kc kT.1 (some kt) p0 np.toInt.toNat).1)) (fun (u : (Nat → Int32) × (Nat → Int32) × (Nat → Int32)) (t : State) => va_P (dC, dI) vwCl [(h0, .inr (6, [.ref aC, .ref g0, .ref sd, .ref mW, .long mt, .int lf, .ref mV, .ref mA, .ref mT])), (aC, .inr (1, [.ref aR, .ref aB, .ref aP, .int nb, .int np])), (aB, .inl (cI, 24, .inl fb)), (aP, .inl (cI, 20, .inl fp)), (g0, .inr (7, [.ref gY, .ref gF, .ref gP, .int gpn, .int glt, .int gsh, .int gwd, .int gpu, .int gmo])), (gY, .inl (cI, 6, .inl gfY)), (gF, .inl (cI, 5, .inl gfF)), (gP, .inl (cI, 80, .inl gfP)), (sd, .inr (8, [.ref w1, .ref w2, .ref aC, .ref g0, .ref aL, .ref aK, .ref lw])), (aL, .inl (cI, 6, .inl u.1)), (aK, .inl (cI, 32, .inl u.2.1)), (lw, .inr (4, [.ref lS])), (lS, .inl (cI, lk, .inl fS)), (mA, .inl (cI, 10, .inl u.2.2))] t.heap ∧ va_D (va_A [(h0, .inr (6, [.ref aC, .ref g0, .ref sd, .ref mW, .long mt, .int lf, .ref mV, .ref mA, .ref mT])), (aC, .inr (1, [.ref aR, .ref aB, .ref aP, .int nb, .int np])), (aB, .inl (cI, 24, .inl fb)), (aP, .inl (cI, 20, .inl fp)), (g0, .inr (7, [.ref gY, .ref gF, .ref gP, .int gpn, .int glt, .int gsh, .int gwd, .int gpu, .int gmo])), (gY, .inl (cI, 6, .inl gfY)), (gF, .inl (cI, 5, .inl gfF)), (gP, .inl (cI, 80, .inl gfP)), (sd, .inr (8, [.ref w1, .ref w2, .ref aC, .ref g0, .ref aL, .ref aK, .ref lw])), (aL, .inl (cI, 6, .inl fL)), (aK, .inl (cI, 32, .inl fK)), (lw, .inr (4, [.ref lS])), (lS, .inl (cI, lk, .inl fS)), (mA, .inl (cI, 10, .inl fA))] sz) [(h0, .inr (6, [.ref aC, .ref g0, .ref sd, .ref mW, .long mt, .int lf, .ref mV, .ref mA, .ref mT])), (aC, .inr (1, [.ref aR, .ref aB, .ref aP, .int nb, .int np])), (aB, .inl (cI, 24, .inl fb)), (aP, .inl (cI, 20, .inl fp)), (g0, .inr (7, [.ref gY, .ref gF, .ref gP, .int gpn, .int glt, .int gsh, .int gwd, .int gpu, .int gmo])), (gY, .inl (cI, 6, .inl gfY)), (gF, .inl (cI, 5, .inl gfF)), (gP, .inl (cI, 80, .inl gfP)), (sd, .inr (8, [.ref w1, .ref w2, .ref aC, .ref g0, .ref aL, .ref aK, .ref lw])), (aL, .inl (cI, 6, .inl u.1)), (aK, .inl (cI, 32, .inl u.2.1)), (lw, .inr (4, [.ref lS])), (lS, .inl (cI, lk, .inl fS)), (mA, .inl (cI, 10, .inl u.2.2))]) (va_A [(h0, .inr (6, [.ref aC, .ref g0, .ref sd, .ref mW, .long mt, .int lf, .ref mV, .ref mA, .ref mT])), (aC, .inr (1, [.ref aR, .ref aB, .ref aP, .int nb, .int np])), (aB, .inl (cI, 24, .inl fb)), (aP, .inl (cI, 20, .inl fp)), (g0, .inr (7, [.ref gY, .ref gF, .ref gP, .int gpn, .int glt, .int gsh, .int gwd, .int gpu, .int gmo])), (gY, .inl (cI, 6, .inl gfY)), (gF, .inl (cI, 5, .inl gfF)), (gP, .inl (cI, 80, .inl gfP)), (sd, .inr (8, [.ref w1, .ref w2, .ref aC, .ref g0, .ref aL, .ref aK, .ref lw])), (aL, .inl (cI, 6, .inl fL)), (aK, .inl (cI, 32, .inl fK)), (lw, .inr (4, [.ref lS])), (lS, .inl (cI, lk, .inl fS)), (mA, .inl (cI, 10, .inl fA))] sz)) 0 0 (va_A [(h0, .inr (6, [.ref aC, .ref g0, .ref sd, .ref mW, .long mt, .int lf, .ref mV, .ref mA, .ref mT])), (aC, .inr (1, [.ref aR, .ref aB, .ref aP, .int nb, .int np])), (aB, .inl (cI, 24, .inl fb)), (aP, .inl (cI, 20, .inl fp)), (g0, .inr (7, [.ref gY, .ref gF, .ref gP, .int gpn, .int glt, .int gsh, .int gwd, .int gpu, .int gmo])), (gY, .inl (cI, 6, .inl gfY)), (gF, .inl (cI, 5, .inl gfF)), (gP, .inl (cI, 80, .inl gfP)), (sd, .inr (8, [.ref w1, .ref w2, .ref aC, .ref g0, .ref aL, .ref aK, .ref lw])), (aL, .inl (cI, 6, .inl fL)), (aK, .inl (cI, 32, .inl fK)), (lw, .inr (4, [.ref lS])), (lS, .inl (cI, lk, .inl fS)), (mA, .inl (cI, 10, .inl fA))] sz) := by
  refine Met.ofW (cc := cX6_bestSketcher) (maxL := 7) (ret := (some .int)) (by decide) rfl ?_
  intro p e s m args below meth c s₁ B hml hv
  have y_gpn : zHid (0 ≤ gpn.toInt ∧ gpn.toInt ≤ 20) := n_gpn
  clear n_gpn
  obtain ⟨⟨hargs, hsz, hP, hK, hT⟩, hV⟩ := hv
  have hx := B.exec
  have hb := B.bytes
  have hr := B.returns
  have hts : ∀ w ∈ wA, w.before args s = true := fun w h => atoms_spec (ws := .code yX6_bestSketcher cX6_bestSketcher 7 (some .int) :: wA) B.pre w (List.mem_cons_of_mem _ h)
  have hown : s.vm.findClass RX6 = some m.cls := findClass_of_methodNamed B.named
  have hlocks := B.notSynchronized
  subst hsz
  have hD := hT.self (sz := s.heap.size)
  generalize hAe : va_A [(h0, .inr (6, [.ref aC, .ref g0, .ref sd, .ref mW, .long mt, .int lf, .ref mV, .ref mA, .ref mT])), (aC, .inr (1, [.ref aR, .ref aB, .ref aP, .int nb, .int np])), (aB, .inl (cI, 24, .inl fb)), (aP, .inl (cI, 20, .inl fp)), (g0, .inr (7, [.ref gY, .ref gF, .ref gP, .int gpn, .int glt, .int gsh, .int gwd, .int gpu, .int gmo])), (gY, .inl (cI, 6, .inl gfY)), (gF, .inl (cI, 5, .inl gfF)), (gP, .inl (cI, 80, .inl gfP)), (sd, .inr (8, [.ref w1, .ref w2, .ref aC, .ref g0, .ref aL, .ref aK, .ref lw])), (aL, .inl (cI, 6, .inl fL)), (aK, .inl (cI, 32, .inl fK)), (lw, .inr (4, [.ref lS])), (lS, .inl (cI, lk, .inl fS)), (mA, .inl (cI, 10, .inl fA))] s.heap.size = A at hD hV ⊢
  have hA : ∀ q : Nat, s.heap.size ≤ q → A q := fun q h => by rw [← hAe]; exact Or.inr h
  have hl := lv_entry ([.ref h0, .int p0]) (n := 7) (Nat.le_of_ble_eq_true rfl)
  rw [show entryFrame m args 7 = entryFrame m ([.ref h0, .int p0] : List Value).toArray 7 by rw [hargs], lg_entry_eq]
  generalize (lg_sl ([.ref h0, .int p0]) ++ List.replicate (7 - (lg_sl ([.ref h0, .int p0])).length) Slot.unset).toArray = ls at hl ⊢
  have hl : lv_has ls 7 [(0, .ref h0), (1, .int p0)] := hl
  refine zstart (fun H hH => ?_)
  rw [← hH] at hP
  have hS : va_S A s.heap H [] := by rw [hH]; exact va_S.rf
  generalize ([] : List Loc) = locs at hS ⊢
  refine zgen (fun R Q hR hQ => ?_)
  refine lv_aload_n hx hb dX6_bestSketcher_0 rfl (lv_at hl 0 rfl) ?_
  refine lv_iload_n hx hb dX6_bestSketcher_1 rfl (lv_at hl 1 rfl) ?_
  obtain ⟨hPc, hDc⟩ := zc2 (wc := [(h0, .inr (6, [.ref aC, .ref g0, .ref sd, .ref mW, .long mt, .int lf, .ref mV, .ref mA, .ref mT])), (aC, .inr (1, [.ref aR, .ref aB, .ref aP, .int nb, .int np])), (aB, .inl (cI, 24, .inl fb)), (g0, .inr (7, [.ref gY, .ref gF, .ref gP, .int gpn, .int glt, .int gsh, .int gwd, .int gpu, .int gmo]))]) hP hD [0, 1, 2, 4] (by decide +kernel) rfl
  have hFc := zfr hS hA
  refine va_calli (va_runV (As := [.int p0]) (rest := []) ⟨hx, hb, hml, hown, hts⟩ (g_X6_fitting l dC dI cI cJ h0 p0 aC g0 sd mW mt lf mV mA mT aR aB aP nb np fb gY gF gP gpn glt gsh gwd gpu gmo H.size n_p0) (cwV 1 hts (zgV qw833 qw820 qw821 qw106 qw822) rfl rfl rfl hd_X6_fitting ⟨by rw [hR]; exact Nat.le_of_ble_eq_true rfl, by rw [hR]; exact Nat.le_of_ble_eq_true rfl⟩) (zPWV hPc hK hDc (va_recv (q := (RX6, TX6, 9)) hK hP (ci := 6) (q0 := 0) rfl rfl) (zV_call hV hS hFc)) rfl rfl hl.1 rfl (lv_room (Nat.le_of_ble_eq_true rfl)) dX6_bestSketcher_2 ⟨Nat.zero_le _, Nat.zero_le _⟩) hS (fun q _ h => hFc q h) hFc (fun v2 u2 t H locs ht hvm hw hB hz1 hk1 hS9 => ?_)
  replace hP := zkeep hP hk1
  replace hS := hS9
  clear hPc hDc hFc hk1 hz1 hvm hS9
  obtain ⟨f2_0, f2_1, f2_2⟩ : (10 ≤ v2.toInt) ∧ (v2.toInt ≤ 1023) ∧ (v2 = zFit (cBt glt p0) (cBt gsh p0) (fb (4 * p0.toInt.toNat))) := hw
  have F2 := f2_2
  refine lv_istore_n (lv' := [(2, .int v2), (0, .ref h0), (1, .int p0)]) hx hb dX6_bestSketcher_5 rfl hl (by decide) rfl (fun ls hl => ?_)
  refine lv_iconst (v := (-1)) hx hb dX6_bestSketcher_6 (by decide) ?_
  refine lv_istore_n (lv' := [(3, .int (-1)), (2, .int v2), (0, .ref h0), (1, .int p0)]) hx hb dX6_bestSketcher_7 rfl hl (by decide) rfl (fun ls hl => ?_)
  refine lv_bipush (v := 11) hx hb dX6_bestSketcher_8 (by decide) ?_
  refine lv_istore (lv' := [(4, .int 11), (3, .int (-1)), (2, .int v2), (0, .ref h0), (1, .int p0)]) hx hb dX6_bestSketcher_10 hl (by decide) rfl (fun ls hl => ?_)
  refine lv_iconst (v := 0) hx hb dX6_bestSketcher_12 (by decide) ?_
  have J15 : ∀ (n : Nat) (m15_A_aK : Nat → Int32) (m15_A_aL : Nat → Int32) (m15_A_mA : Nat → Int32) (m15_L_3 : Int32) (m15_L_4 : Int32) (m15_L_5 : Int32), ((-1) ≤ m15_L_3.toInt ∧ m15_L_3.toInt ≤ 4) → (0 ≤ m15_L_4.toInt ∧ m15_L_4.toInt ≤ 11) → (0 ≤ m15_L_5.toInt ∧ m15_L_5.toInt ≤ 5) → (∀ (kc : zK3) (kT : zT) (q_fr : Nat → Int32) (kt : (Int → Int) × Int), zCn q_fr fb fp nb.toInt np.toInt kc → zKo nb.toInt np.toInt kc kT → zSc nb.toInt np.toInt kT.1 gfY gfF gfP gpn glt gsh gwd gpu gmo → zLwC fS lk kt → (0 ≤ p0.toInt ∧ p0.toInt < nb.toInt) → zNeC kc kT.1 (some kt) p0 m15_L_3 m15_L_4 m15_L_5.toInt.toNat) → (m15_L_5.toInt ≤ np.toInt) → (6 - m15_L_5.toInt).toNat = n → ∀ (H : Heap) (locs : List Loc) (ls : Array Slot), va_P (dC, dI) vwCl [(h0, .inr (6, [.ref aC, .ref g0, .ref sd, .ref mW, .long mt, .int lf, .ref mV, .ref mA, .ref mT])), (aC, .inr (1, [.ref aR, .ref aB, .ref aP, .int nb, .int np])), (aB, .inl (cI, 24, .inl fb)), (aP, .inl (cI, 20, .inl fp)), (g0, .inr (7, [.ref gY, .ref gF, .ref gP, .int gpn, .int glt, .int gsh, .int gwd, .int gpu, .int gmo])), (gY, .inl (cI, 6, .inl gfY)), (gF, .inl (cI, 5, .inl gfF)), (gP, .inl (cI, 80, .inl gfP)), (sd, .inr (8, [.ref w1, .ref w2, .ref aC, .ref g0, .ref aL, .ref aK, .ref lw])), (aL, .inl (cI, 6, .inl m15_A_aL)), (aK, .inl (cI, 32, .inl m15_A_aK)), (lw, .inr (4, [.ref lS])), (lS, .inl (cI, lk, .inl fS)), (mA, .inl (cI, 10, .inl m15_A_mA))] H → va_D A [(h0, .inr (6, [.ref aC, .ref g0, .ref sd, .ref mW, .long mt, .int lf, .ref mV, .ref mA, .ref mT])), (aC, .inr (1, [.ref aR, .ref aB, .ref aP, .int nb, .int np])), (aB, .inl (cI, 24, .inl fb)), (aP, .inl (cI, 20, .inl fp)), (g0, .inr (7, [.ref gY, .ref gF, .ref gP, .int gpn, .int glt, .int gsh, .int gwd, .int gpu, .int gmo])), (gY, .inl (cI, 6, .inl gfY)), (gF, .inl (cI, 5, .inl gfF)), (gP, .inl (cI, 80, .inl gfP)), (sd, .inr (8, [.ref w1, .ref w2, .ref aC, .ref g0, .ref aL, .ref aK, .ref lw])), (aL, .inl (cI, 6, .inl m15_A_aL)), (aK, .inl (cI, 32, .inl m15_A_aK)), (lw, .inr (4, [.ref lS])), (lS, .inl (cI, lk, .inl fS)), (mA, .inl (cI, 10, .inl m15_A_mA))] → va_S A s.heap H locs → lv_has ls 7 [(5, .int m15_L_5), (4, .int m15_L_4), (3, .int m15_L_3), (2, .int v2), (0, .ref h0), (1, .int p0)] → W p l e R s m args below meth c H locs 0 0 Q (F0 m 15 ls []) := by
    intro n15
    induction n15 using Nat.strongRecOn with
    | _ n15 ih15 =>
      intro m15_A_aK m15_A_aL m15_A_mA m15_L_3 m15_L_4 m15_L_5 jf15_0 jf15_1 jf15_2 jv15_0 jf15_4 hmu15 H locs ls hP hD hS hl
      refine lv_iload hx hb dX6_bestSketcher_15 (lv_at hl 0 rfl) ?_
      refine lv_aload_n hx hb dX6_bestSketcher_17 rfl (lv_at hl 4 rfl) ?_
      refine va_get (D := (dC, dI)) (ci := 6) (v := .ref aC) (C := RX6) (T := TX6) (N := 9) hx hb hts iX6 hown hK hP 0 rfl rfl 0 (by decide) (hts _ qw316) (fun _ h9 => h9) rfl dX6_bestSketcher_18 ?_
      refine va_get (D := (dC, dI)) (ci := 1) (v := .int np) (C := RX1) (T := TX1) (N := 5) hx hb hts iX1 hown hK hP 1 rfl rfl 4 (by decide) (hts _ qw199) (fun _ h9 => h9) rfl dX6_bestSketcher_21 ?_
      refine lv_icmp_ge (tgt := 69) hx hb dX6_bestSketcher_24 (by decide) (fun c24 => ?_) (fun c24 => ?_)
      · have c24 : np.toInt ≤ m15_L_5.toInt := z3 rfl rfl c24
        refine lv_iload_n hx hb dX6_bestSketcher_69 rfl (lv_at hl 2 rfl) ?_
        rw [hQ]
        exact W.iret (v := m15_L_3) hx hb hr (fun t ht hW => ⟨⟨m15_L_3, (m15_A_aL, m15_A_aK, m15_A_mA), rfl, ⟨by (try dsimp only); omega, by (try dsimp only); omega, fun kc kT q_fr kt hc hb h ht hq => by have z := (jv15_0 kc kT _ kt hc hb h ht hq).1; rw [show m15_L_5.toInt.toNat = np.toInt.toNat by omega] at z; exact z⟩, ⟨by rw [ht]; exact hP, hD⟩⟩, hS.F ht⟩) hS.2.2 dX6_bestSketcher_70
      · have c24 : m15_L_5.toInt < np.toInt := z4 rfl rfl c24
        refine lv_aload_n hx hb dX6_bestSketcher_27 rfl (lv_at hl 4 rfl) ?_
        refine lv_iload hx hb dX6_bestSketcher_28 (lv_at hl 0 rfl) ?_
        obtain ⟨hPc, hDc⟩ := zc2 (wc := [(h0, .inr (6, [.ref aC, .ref g0, .ref sd, .ref mW, .long mt, .int lf, .ref mV, .ref mA, .ref mT])), (aC, .inr (1, [.ref aR, .ref aB, .ref aP, .int nb, .int np])), (aP, .inl (cI, 20, .inl fp))]) hP hD [0, 1, 3] (by decide +kernel) rfl
        have hFc := zfr hS hA
        refine va_calli (va_runV (As := [.int m15_L_5]) (rest := []) ⟨hx, hb, hml, hown, hts⟩ (g_X6_sketches l dC dI cI cJ h0 m15_L_5 aC g0 sd mW mt lf mV mA mT aR aB aP nb np fp H.size (by omega)) (cwV 1 hts (zgV qw835 qw837 qw19 qw106 qw838) rfl rfl rfl hd_X6_sketches ⟨by rw [hR]; exact Nat.le_of_ble_eq_true rfl, by rw [hR]; exact Nat.le_of_ble_eq_true rfl⟩) (zPV hPc hK hDc (va_recv (q := (RX6, TX6, 9)) hK hP (ci := 6) (q0 := 0) rfl rfl)) rfl rfl hl.1 rfl (lv_room (Nat.le_of_ble_eq_true rfl)) dX6_bestSketcher_30 ⟨Nat.zero_le _, Nat.zero_le _⟩) hS (fun q _ h => hFc q h) hFc (fun v30 u30 t H locs ht hvm hw hB hz1 hk1 hS9 => ?_)
        replace hP := zkeep hP hk1
        replace hS := hS9
        clear hPc hDc hFc hk1 hz1 hvm hS9
        obtain ⟨f30_0, f30_1, f30_2⟩ : (0 ≤ v30.toInt) ∧ (v30.toInt ≤ 1) ∧ ((v30.toInt = 1 ∧ ¬ (fp (4 * m15_L_5.toInt.toNat + 3)).toInt = 3) ∨ (v30.toInt = 0 ∧ (fp (4 * m15_L_5.toInt.toNat + 3)).toInt = 3)) := hw
        have F30 := f30_2
        refine lv_if_ne (tgt := 39) hx hb dX6_bestSketcher_33 (by decide) (fun c33 => ?_) (fun c33 => ?_)
        · have c33 : ¬ v30.toInt = 0 := z6 rfl (by decide) c33
          refine lv_aload_n hx hb dX6_bestSketcher_39 rfl (lv_at hl 4 rfl) ?_
          refine lv_iload hx hb dX6_bestSketcher_40 (lv_at hl 0 rfl) ?_
          refine lv_iload_n hx hb dX6_bestSketcher_42 rfl (lv_at hl 5 rfl) ?_
          refine lv_iload_n hx hb dX6_bestSketcher_43 rfl (lv_at hl 3 rfl) ?_
          obtain ⟨hPc, hDc, hFc⟩ := zc3 (wc := [(h0, .inr (6, [.ref aC, .ref g0, .ref sd, .ref mW, .long mt, .int lf, .ref mV, .ref mA, .ref mT])), (aC, .inr (1, [.ref aR, .ref aB, .ref aP, .int nb, .int np])), (aB, .inl (cI, 24, .inl fb)), (aP, .inl (cI, 20, .inl fp)), (g0, .inr (7, [.ref gY, .ref gF, .ref gP, .int gpn, .int glt, .int gsh, .int gwd, .int gpu, .int gmo])), (gY, .inl (cI, 6, .inl gfY)), (gF, .inl (cI, 5, .inl gfF)), (gP, .inl (cI, 80, .inl gfP)), (sd, .inr (8, [.ref w1, .ref w2, .ref aC, .ref g0, .ref aL, .ref aK, .ref lw])), (aL, .inl (cI, 6, .inl m15_A_aL)), (aK, .inl (cI, 32, .inl m15_A_aK)), (lw, .inr (4, [.ref lS])), (lS, .inl (cI, lk, .inl fS)), (mA, .inl (cI, 10, .inl m15_A_mA))]) hP hD hS hA [0, 1, 2, 3, 4, 5, 6, 7, 8, 9, 10, 11, 12, 13] (by decide +kernel) rfl
          refine va_calli (va_runV (As := [.int m15_L_5, .int p0, .int v2]) (rest := []) ⟨hx, hb, hml, hown, hts⟩ (g_X6_mostAlike_l l dC dI cI cJ h0 m15_L_5 p0 v2 aC g0 sd mW mt lf mV mA mT aR aB aP nb np fb fp gY gF gP gpn glt gsh gwd gpu gmo gfY gfF gfP w1 w2 aL aK lw m15_A_aL m15_A_aK lS fS lk m15_A_mA H.size y_gpn (by omega) n_p0 (hlk) ci_fS_zSt ci_gfP_zPo) (cwV 3 hts (zgV qw873 qw875 qw21 qw106 qw876) rfl rfl rfl hd_X6_mostAlike ⟨by rw [hR]; exact Nat.le_of_ble_eq_true rfl, by rw [hR]; exact Nat.le_of_ble_eq_true rfl⟩) (zPWV hPc hK hDc (va_recv (q := (RX6, TX6, 9)) hK hP (ci := 6) (q0 := 0) rfl rfl) (zV_call hV hS hFc)) rfl rfl hl.1 rfl (lv_room (Nat.le_of_ble_eq_true rfl)) dX6_bestSketcher_44 ⟨Nat.zero_le _, Nat.zero_le _⟩) hS (fun q _ h => hFc q h) hFc (fun v44 u44 t H locs ht hvm hw hB hz1 hk1 hS9 => ?_)
          obtain ⟨u44_0, u44_1, u44_2⟩ := u44
          obtain ⟨hP9, hD9⟩ := zj2 (wX := [(h0, .inr (6, [.ref aC, .ref g0, .ref sd, .ref mW, .long mt, .int lf, .ref mV, .ref mA, .ref mT])), (aC, .inr (1, [.ref aR, .ref aB, .ref aP, .int nb, .int np])), (aB, .inl (cI, 24, .inl fb)), (aP, .inl (cI, 20, .inl fp)), (g0, .inr (7, [.ref gY, .ref gF, .ref gP, .int gpn, .int glt, .int gsh, .int gwd, .int gpu, .int gmo])), (gY, .inl (cI, 6, .inl gfY)), (gF, .inl (cI, 5, .inl gfF)), (gP, .inl (cI, 80, .inl gfP)), (sd, .inr (8, [.ref w1, .ref w2, .ref aC, .ref g0, .ref aL, .ref aK, .ref lw])), (aL, .inl (cI, 6, .inl u44_0)), (aK, .inl (cI, 32, .inl u44_1)), (lw, .inr (4, [.ref lS])), (lS, .inl (cI, lk, .inl fS)), (mA, .inl (cI, 10, .inl u44_2))]) hP hD hk1 hFc ht hB [0, 1, 2, 3, 4, 5, 6, 7, 8, 9, 10, 11, 12, 13] [(true, 0), (true, 1), (true, 2), (true, 3), (true, 4), (true, 5), (true, 6), (true, 7), (true, 8), (true, 9), (true, 10), (true, 11), (true, 12), (true, 13)] rfl (by decide +kernel) (by decide +kernel) rfl
          clear hP hD hS hPc hDc hFc hB hk1 hz1 hvm
          have hP := hP9
          have hD := hD9
          have hS := hS9
          clear hP9 hD9 hS9
          obtain ⟨f44_0, f44_1⟩ : (0 ≤ v44.toInt) ∧ (∀ (kc : zK3) (kT : zT) (q_fr : Nat → Int32) (kt : (Int → Int) × Int), zCn q_fr fb fp nb.toInt np.toInt kc → zKo nb.toInt np.toInt kc kT → zSc nb.toInt np.toInt kT.1 gfY gfF gfP gpn glt gsh gwd gpu gmo → zLwC fS lk kt → (0 ≤ m15_L_5.toInt ∧ m15_L_5.toInt < np.toInt) → (0 ≤ p0.toInt ∧ p0.toInt < nb.toInt) → v2 = zFit (cBt kT.1.2.2.1.1 p0) (cBt kT.1.2.2.1.2.1 p0) (kc.2.1 (4 * p0.toInt.toNat)) → v44.toInt = (sAl kc kT.1 (some kt) m15_L_5 p0 : Int)) := hw
          have F44 := f44_1
          refine lv_istore (lv' := [(6, .int v44), (5, .int m15_L_5), (4, .int m15_L_4), (3, .int m15_L_3), (2, .int v2), (0, .ref h0), (1, .int p0)]) hx hb dX6_bestSketcher_47 hl (by decide) rfl (fun ls hl => ?_)
          refine lv_iload hx hb dX6_bestSketcher_49 (lv_at hl 0 rfl) ?_
          refine lv_iload hx hb dX6_bestSketcher_51 (lv_at hl 2 rfl) ?_
          refine lv_icmp_ge (tgt := 63) hx hb dX6_bestSketcher_53 (by decide) (fun c53 => ?_) (fun c53 => ?_)
          · have c53 : m15_L_4.toInt ≤ v44.toInt := z3 rfl rfl c53
            obtain ⟨v63, e63⟩ : ∃ y : Int32, y = m15_L_5 + Int32.ofInt (1) := ⟨_, rfl⟩
            refine lv_iinc (v := v63) (lv' := [(5, .int v63), (6, .int v44), (4, .int m15_L_4), (3, .int m15_L_3), (2, .int v2), (0, .ref h0), (1, .int p0)]) hx hb dX6_bestSketcher_63 hl (k := 1) rfl e63.symm (by decide) rfl (fun ls hl => ?_)
            have i63 : v63.toInt = m15_L_5.toInt + 1 := zaddI e63 (by decide) (by omega) (by omega)
            refine lv_goto (tgt := 15) hx hb dX6_bestSketcher_66 (by decide) ?_
            exact ih15 _ (by omega) u44_1 u44_0 u44_2 m15_L_3 m15_L_4 v63 jf15_0 jf15_1 (by omega) (fun kc kT q_fr kt hc hb h ht hq => by have y3 : fp (4 * m15_L_5.toInt.toNat + 3) = kc.2.2 (4 * m15_L_5.toInt.toNat + 3) := hc.2.2 _ (by omega); have z3 := congrArg Int32.toInt y3; first | (have a := F44 kc kT _ kt hc hb h ht (by omega) hq (by rw [zSc_lt h, zSc_sh h, ← hc.2.1 (4 * p0.toInt.toNat) (by omega)]; exact F2); first | exact zNeCY (jv15_0 kc kT _ kt hc hb h ht hq) (by omega) i63 (by omega) a (by omega) | exact zNeCN (jv15_0 kc kT _ kt hc hb h ht hq) (by omega) i63 (Or.inr ⟨v44, a, by omega⟩)) | exact zNeCN (jv15_0 kc kT _ kt hc hb h ht hq) (by omega) i63 (Or.inl (by omega))) (by omega) rfl H locs ls hP hD hS (lv_sub hl [0, 2, 3, 4, 5, 6] rfl)
          · have c53 : v44.toInt < m15_L_4.toInt := z4 rfl rfl c53
            refine lv_iload hx hb dX6_bestSketcher_56 (lv_at hl 1 rfl) ?_
            refine lv_istore_n (lv' := [(3, .int m15_L_5), (6, .int v44), (5, .int m15_L_5), (4, .int m15_L_4), (2, .int v2), (0, .ref h0), (1, .int p0)]) hx hb dX6_bestSketcher_58 rfl hl (by decide) rfl (fun ls hl => ?_)
            refine lv_iload hx hb dX6_bestSketcher_59 (lv_at hl 1 rfl) ?_
            refine lv_istore (lv' := [(4, .int v44), (3, .int m15_L_5), (6, .int v44), (5, .int m15_L_5), (2, .int v2), (0, .ref h0), (1, .int p0)]) hx hb dX6_bestSketcher_61 hl (by decide) rfl (fun ls hl => ?_)
            obtain ⟨v63, e63⟩ : ∃ y : Int32, y = m15_L_5 + Int32.ofInt (1) := ⟨_, rfl⟩
            refine lv_iinc (v := v63) (lv' := [(5, .int v63), (4, .int v44), (3, .int m15_L_5), (6, .int v44), (2, .int v2), (0, .ref h0), (1, .int p0)]) hx hb dX6_bestSketcher_63 hl (k := 3) rfl e63.symm (by decide) rfl (fun ls hl => ?_)
            have i63 : v63.toInt = m15_L_5.toInt + 1 := zaddI e63 (by decide) (by omega) (by omega)
            refine lv_goto (tgt := 15) hx hb dX6_bestSketcher_66 (by decide) ?_
            exact ih15 _ (by omega) u44_1 u44_0 u44_2 m15_L_5 v44 v63 (by omega) (by omega) (by omega) (fun kc kT q_fr kt hc hb h ht hq => by have y3 : fp (4 * m15_L_5.toInt.toNat + 3) = kc.2.2 (4 * m15_L_5.toInt.toNat + 3) := hc.2.2 _ (by omega); have z3 := congrArg Int32.toInt y3; first | (have a := F44 kc kT _ kt hc hb h ht (by omega) hq (by rw [zSc_lt h, zSc_sh h, ← hc.2.1 (4 * p0.toInt.toNat) (by omega)]; exact F2); first | exact zNeCY (jv15_0 kc kT _ kt hc hb h ht hq) (by omega) i63 (by omega) a (by omega) | exact zNeCN (jv15_0 kc kT _ kt hc hb h ht hq) (by omega) i63 (Or.inr ⟨v44, a, by omega⟩)) | exact zNeCN (jv15_0 kc kT _ kt hc hb h ht hq) (by omega) i63 (Or.inl (by omega))) (by omega) rfl H locs ls hP hD hS (lv_sub hl [0, 1, 2, 4, 5, 6] rfl)
        · have c33 : v30.toInt = 0 := z5 rfl (by decide) c33
          refine lv_goto (tgt := 63) hx hb dX6_bestSketcher_36 (by decide) ?_
          obtain ⟨v63, e63⟩ : ∃ y : Int32, y = m15_L_5 + Int32.ofInt (1) := ⟨_, rfl⟩
          refine lv_iinc (v := v63) (lv' := [(5, .int v63), (4, .int m15_L_4), (3, .int m15_L_3), (2, .int v2), (0, .ref h0), (1, .int p0)]) hx hb dX6_bestSketcher_63 hl (k := 0) rfl e63.symm (by decide) rfl (fun ls hl => ?_)
          have i63 : v63.toInt = m15_L_5.toInt + 1 := zaddI e63 (by decide) (by omega) (by omega)
          refine lv_goto (tgt := 15) hx hb dX6_bestSketcher_66 (by decide) ?_
          exact ih15 _ (by omega) m15_A_aK m15_A_aL m15_A_mA m15_L_3 m15_L_4 v63 jf15_0 jf15_1 (by omega) (fun kc kT q_fr kt hc hb h ht hq => by have y3 : fp (4 * m15_L_5.toInt.toNat + 3) = kc.2.2 (4 * m15_L_5.toInt.toNat + 3) := hc.2.2 _ (by omega); have z3 := congrArg Int32.toInt y3; first | (have a := F44 kc kT _ kt hc hb h ht (by omega) hq (by rw [zSc_lt h, zSc_sh h, ← hc.2.1 (4 * p0.toInt.toNat) (by omega)]; exact F2); first | exact zNeCY (jv15_0 kc kT _ kt hc hb h ht hq) (by omega) i63 (by omega) a (by omega) | exact zNeCN (jv15_0 kc kT _ kt hc hb h ht hq) (by omega) i63 (Or.inr ⟨v44, a, by omega⟩)) | exact zNeCN (jv15_0 kc kT _ kt hc hb h ht hq) (by omega) i63 (Or.inl (by omega))) (by omega) rfl H locs ls hP hD hS (lv_sub hl [0, 1, 2, 3, 4, 5] rfl)
  refine lv_istore (lv' := [(5, .int 0), (4, .int 11), (3, .int (-1)), (2, .int v2), (0, .ref h0), (1, .int p0)]) hx hb dX6_bestSketcher_13 hl (by decide) rfl (fun ls hl => ?_)
  have zj15_m15_L_3 : ((-1) : Int32).toInt = (-1) := by decide
  have zj15_m15_L_4 : (11 : Int32).toInt = 11 := by decide
  have zj15_m15_L_5 : (0 : Int32).toInt = 0 := by decide
  exact J15 _ fK fL fA (-1) 11 0 (by decide) (by decide) (by decide) (fun kc kT q_fr kt hc hb h ht hq => zNeC_0) (by omega) rfl H locs ls hP hD hS (lv_sub hl [0, 1, 2, 3, 4, 5] rfl)
set_option maxHeartbeats 4000000 in
set_option maxRecDepth 100000 in
theorem g_X6_addTeller_l (l : Launch) (dC : Nat → ClassId) (dI : Nat → Nat → Nat) (cI cJ : ClassId) (h0 : Nat) (p0 : Int32) (p1 : Int32) (p2 : Int32) (aC : Nat) (g0 : Nat) (sd : Nat) (mW : Nat) (mt : Int64) (lf : Int32) (mV : Nat) (mA : Nat) (mT : Nat) (aR : Nat) (aB : Nat) (aP : Nat) (nb : Int32) (np : Int32) (fb : Nat → Int32) (fp : Nat → Int32) (gY : Nat) (gF : Nat) (gP : Nat) (gpn : Int32) (glt : Int32) (gsh : Int32) (gwd : Int32) (gpu : Int32) (gmo : Int32) (gfY : Nat → Int32) (gfF : Nat → Int32) (gfP : Nat → Int32) (w1 : Nat) (w2 : Nat) (aL : Nat) (aK : Nat) (lw : Nat) (fL : Nat → Int32) (fK : Nat → Int32) (lS : Nat) (fS : Nat → Int32) (lk : Nat) (fV : Nat → Int32) (fT : Nat → Int32) (sz : Nat) (n_gpn : 0 ≤ gpn.toInt ∧ gpn.toInt ≤ 20) (n_p0 : 0 ≤ p0.toInt ∧ p0.toInt ≤ 4) (n_p1 : 0 ≤ p1.toInt ∧ p1.toInt ≤ 5) (hlk : lk ≤ 241) (ci_fS_zSt : zSt fS) (ci_gfP_zPo : zPo gfP)  : Met l yX6_addTeller (.code yX6_addTeller cX6_addTeller 7 (some .int) :: wA) ({ frames := 4, cells := 0, slots := 0, locals := 103 }) (zPW (dC, dI) [(cI, .int), (cJ, .long)] [.ref h0, .int p0, .int p1, .int p2] sz [(h0, .inr (6, [.ref aC, .ref g0, .ref sd, .ref mW, .long mt, .int lf, .ref mV, .ref mA, .ref mT])), (aC, .inr (1, [.ref aR, .ref aB, .ref aP, .int nb, .int np])), (aB, .inl (cI, 24, .inl fb)), (aP, .inl (cI, 20, .inl fp)), (g0, .inr (7, [.ref gY, .ref gF, .ref gP, .int gpn, .int glt, .int gsh, .int gwd, .int gpu, .int gmo])), (gY, .inl (cI, 6, .inl gfY)), (gF, .inl (cI, 5, .inl gfF)), (gP, .inl (cI, 80, .inl gfP)), (sd, .inr (8, [.ref w1, .ref w2, .ref aC, .ref g0, .ref aL, .ref aK, .ref lw])), (aL, .inl (cI, 6, .inl fL)), (aK, .inl (cI, 32, .inl fK)), (lw, .inr (4, [.ref lS])), (lS, .inl (cI, lk, .inl fS)), (mV, .inl (cI, 10, .inl fV)), (mT, .inl (cI, 45, .inl fT))] (va_A [(h0, .inr (6, [.ref aC, .ref g0, .ref sd, .ref mW, .long mt, .int lf, .ref mV, .ref mA, .ref mT])), (aC, .inr (1, [.ref aR, .ref aB, .ref aP, .int nb, .int np])), (aB, .inl (cI, 24, .inl fb)), (aP, .inl (cI, 20, .inl fp)), (g0, .inr (7, [.ref gY, .ref gF, .ref gP, .int gpn, .int glt, .int gsh, .int gwd, .int gpu, .int gmo])), (gY, .inl (cI, 6, .inl gfY)), (gF, .inl (cI, 5, .inl gfF)), (gP, .inl (cI, 80, .inl gfP)), (sd, .inr (8, [.ref w1, .ref w2, .ref aC, .ref g0, .ref aL, .ref aK, .ref lw])), (aL, .inl (cI, 6, .inl fL)), (aK, .inl (cI, 32, .inl fK)), (lw, .inr (4, [.ref lS])), (lS, .inl (cI, lk, .inl fS)), (mV, .inl (cI, 10, .inl fV)), (mT, .inl (cI, 45, .inl fT))] sz)) (va_Qi (fun (r : Int32) (u : (Nat → Int32) × (Nat → Int32) × (Nat → Int32) × (Nat → Int32)) => (0 ≤ r.toInt) ∧ (r.toInt ≤ 45) ∧ (∀ (kc : zK3) (kT : zT) (q_fr : Nat → Int32) (kt : (Int → Int) × Int), zCn q_fr fb fp nb.toInt np.toInt kc → zKo nb.toInt np.toInt kc kT → zSc nb.toInt np.toInt kT.1 gfY gfF gfP gpn glt gsh gwd gpu gmo → zLwC fS lk kt → (0 ≤ p0.toInt ∧ p0.toInt < np.toInt) → (0 ≤ p1.toInt ∧ p1.toInt < nb.toInt) → p2 = zFit (cBt kT.1.2.2.1.1 p1) (cBt kT.1.2.2.1.2.1 p1) (kc.2.1 (4 * p1.toInt.toNat)) → r.toInt = ((sPL kc kT.1 p1).length : Int) ∧ aNt (sPL kc kT.1 p1) (sDb kc kT.1 (some kt) p1 p0.toInt.toNat) fT u.2.2.2 (1 <<< (p0 &&& 31)) r.toInt.toNat)) (fun (u : (Nat → Int32) × (Nat → Int32) × (Nat → Int32) × (Nat → Int32)) (t : State) => va_P (dC, dI) vwCl [(h0, .inr (6, [.ref aC, .ref g0, .ref sd, .ref mW, .long mt, .int lf, .ref mV, .ref mA, .ref mT])), (aC, .inr (1, [.ref aR, .ref aB, .ref aP, .int nb, .int np])), (aB, .inl (cI, 24, .inl fb)), (aP, .inl (cI, 20, .inl fp)), (g0, .inr (7, [.ref gY, .ref gF, .ref gP, .int gpn, .int glt, .int gsh, .int gwd, .int gpu, .int gmo])), (gY, .inl (cI, 6, .inl gfY)), (gF, .inl (cI, 5, .inl gfF)), (gP, .inl (cI, 80, .inl gfP)), (sd, .inr (8, [.ref w1, .ref w2, .ref aC, .ref g0, .ref aL, .ref aK, .ref lw])), (aL, .inl (cI, 6, .inl u.1)), (aK, .inl (cI, 32, .inl u.2.1)), (lw, .inr (4, [.ref lS])), (lS, .inl (cI, lk, .inl fS)), (mV, .inl (cI, 10, .inl u.2.2.1)), (mT, .inl (cI, 45, .inl u.2.2.2))] t.heap ∧ va_D (va_A [(h0, .inr (6, [.ref aC, .ref g0, .ref sd, .ref mW, .long mt, .int lf, .ref mV, .ref mA, .ref mT])), (aC, .inr (1, [.ref aR, .ref aB, .ref aP, .int nb, .int np])), (aB, .inl (cI, 24, .inl fb)), (aP, .inl (cI, 20, .inl fp)), (g0, .inr (7, [.ref gY, .ref gF, .ref gP, .int gpn, .int glt, .int gsh, .int gwd, .int gpu, .int gmo])), (gY, .inl (cI, 6, .inl gfY)), (gF, .inl (cI, 5, .inl gfF)), (gP, .inl (cI, 80, .inl gfP)), (sd, .inr (8, [.ref w1, .ref w2, .ref aC, .ref g0, .ref aL, .ref aK, .ref lw])), (aL, .inl (cI, 6, .inl fL)), (aK, .inl (cI, 32, .inl fK)), (lw, .inr (4, [.ref lS])), (lS, .inl (cI, lk, .inl fS)), (mV, .inl (cI, 10, .inl fV)), (mT, .inl (cI, 45, .inl fT))] sz) [(h0, .inr (6, [.ref aC, .ref g0, .ref sd, .ref mW, .long mt, .int lf, .ref mV, .ref mA, .ref mT])), (aC, .inr (1, [.ref aR, .ref aB, .ref aP, .int nb, .int np])), (aB, .inl (cI, 24, .inl fb)), (aP, .inl (cI, 20, .inl fp)), (g0, .inr (7, [.ref gY, .ref gF, .ref gP, .int gpn, .int glt, .int gsh, .int gwd, .int gpu, .int gmo])), (gY, .inl (cI, 6, .inl gfY)), (gF, .inl (cI, 5, .inl gfF)), (gP, .inl (cI, 80, .inl gfP)), (sd, .inr (8, [.ref w1, .ref w2, .ref aC, .ref g0, .ref aL, .ref aK, .ref lw])), (aL, .inl (cI, 6, .inl u.1)), (aK, .inl (cI, 32, .inl u.2.1)), (lw, .inr (4, [.ref lS])), (lS, .inl (cI, lk, .inl fS)), (mV, .inl (cI, 10, .inl u.2.2.1)), (mT, .inl (cI, 45, .inl u.2.2.2))]) (va_A [(h0, .inr (6, [.ref aC, .ref g0, .ref sd, .ref mW, .long mt, .int lf, .ref mV, .ref mA, .ref mT])), (aC, .inr (1, [.ref aR, .ref aB, .ref aP, .int nb, .int np])), (aB, .inl (cI, 24, .inl fb)), (aP, .inl (cI, 20, .inl fp)), (g0, .inr (7, [.ref gY, .ref gF, .ref gP, .int gpn, .int glt, .int gsh, .int gwd, .int gpu, .int gmo])), (gY, .inl (cI, 6, .inl gfY)), (gF, .inl (cI, 5, .inl gfF)), (gP, .inl (cI, 80, .inl gfP)), (sd, .inr (8, [.ref w1, .ref w2, .ref aC, .ref g0, .ref aL, .ref aK, .ref lw])), (aL, .inl (cI, 6, .inl fL)), (aK, .inl (cI, 32, .inl fK)), (lw, .inr (4, [.ref lS])), (lS, .inl (cI, lk, .inl fS)), (mV, .inl (cI, 10, .inl fV)), (mT, .inl (cI, 45, .inl fT))] sz)) 0 0 (va_A [(h0, .inr (6, [.ref aC, .ref g0, .ref sd, .ref mW, .long mt, .int lf, .ref mV, .ref mA, .ref mT])), (aC, .inr (1, [.ref aR, .ref aB, .ref aP, .int nb, .int np])), (aB, .inl (cI, 24, .inl fb)), (aP, .inl (cI, 20, .inl fp)), (g0, .inr (7, [.ref gY, .ref gF, .ref gP, .int gpn, .int glt, .int gsh, .int gwd, .int gpu, .int gmo])), (gY, .inl (cI, 6, .inl gfY)), (gF, .inl (cI, 5, .inl gfF)), (gP, .inl (cI, 80, .inl gfP)), (sd, .inr (8, [.ref w1, .ref w2, .ref aC, .ref g0, .ref aL, .ref aK, .ref lw])), (aL, .inl (cI, 6, .inl fL)), (aK, .inl (cI, 32, .inl fK)), (lw, .inr (4, [.ref lS])), (lS, .inl (cI, lk, .inl fS)), (mV, .inl (cI, 10, .inl fV)), (mT, .inl (cI, 45, .inl fT))] sz) := by
  refine Met.ofW (cc := cX6_addTeller) (maxL := 7) (ret := (some .int)) (by decide) rfl ?_
  intro p e s m args below meth c s₁ B hml hv
  obtain ⟨⟨hargs, hsz, hP, hK, hT⟩, hV⟩ := hv
  have hx := B.exec
  have hb := B.bytes
  have hr := B.returns
  have hts : ∀ w ∈ wA, w.before args s = true := fun w h => atoms_spec (ws := .code yX6_addTeller cX6_addTeller 7 (some .int) :: wA) B.pre w (List.mem_cons_of_mem _ h)
  have hown : s.vm.findClass RX6 = some m.cls := findClass_of_methodNamed B.named
  have hlocks := B.notSynchronized
  subst hsz
  have hD := hT.self (sz := s.heap.size)
  generalize hAe : va_A [(h0, .inr (6, [.ref aC, .ref g0, .ref sd, .ref mW, .long mt, .int lf, .ref mV, .ref mA, .ref mT])), (aC, .inr (1, [.ref aR, .ref aB, .ref aP, .int nb, .int np])), (aB, .inl (cI, 24, .inl fb)), (aP, .inl (cI, 20, .inl fp)), (g0, .inr (7, [.ref gY, .ref gF, .ref gP, .int gpn, .int glt, .int gsh, .int gwd, .int gpu, .int gmo])), (gY, .inl (cI, 6, .inl gfY)), (gF, .inl (cI, 5, .inl gfF)), (gP, .inl (cI, 80, .inl gfP)), (sd, .inr (8, [.ref w1, .ref w2, .ref aC, .ref g0, .ref aL, .ref aK, .ref lw])), (aL, .inl (cI, 6, .inl fL)), (aK, .inl (cI, 32, .inl fK)), (lw, .inr (4, [.ref lS])), (lS, .inl (cI, lk, .inl fS)), (mV, .inl (cI, 10, .inl fV)), (mT, .inl (cI, 45, .inl fT))] s.heap.size = A at hD hV ⊢
  have hA : ∀ q : Nat, s.heap.size ≤ q → A q := fun q h => by rw [← hAe]; exact Or.inr h
  have hl := lv_entry ([.ref h0, .int p0, .int p1, .int p2]) (n := 7) (Nat.le_of_ble_eq_true rfl)
  rw [show entryFrame m args 7 = entryFrame m ([.ref h0, .int p0, .int p1, .int p2] : List Value).toArray 7 by rw [hargs], lg_entry_eq]
  generalize (lg_sl ([.ref h0, .int p0, .int p1, .int p2]) ++ List.replicate (7 - (lg_sl ([.ref h0, .int p0, .int p1, .int p2])).length) Slot.unset).toArray = ls at hl ⊢
  have hl : lv_has ls 7 [(0, .ref h0), (1, .int p0), (2, .int p1), (3, .int p2)] := hl
  refine zstart (fun H hH => ?_)
  rw [← hH] at hP
  have hS : va_S A s.heap H [] := by rw [hH]; exact va_S.rf
  generalize ([] : List Loc) = locs at hS ⊢
  refine zgen (fun R Q hR hQ => ?_)
  refine lv_iconst (v := 0) hx hb dX6_addTeller_0 (by decide) ?_
  have J3 : ∀ (n : Nat) (m3_A_aK : Nat → Int32) (m3_A_aL : Nat → Int32) (m3_A_mV : Nat → Int32) (m3_L_4 : Int32), (0 ≤ m3_L_4.toInt ∧ m3_L_4.toInt ≤ 10) → (∀ (kc : zK3) (kT : zT) (q_fr : Nat → Int32) (kt : (Int → Int) × Int), zCn q_fr fb fp nb.toInt np.toInt kc → zKo nb.toInt np.toInt kc kT → zSc nb.toInt np.toInt kT.1 gfY gfF gfP gpn glt gsh gwd gpu gmo → zLwC fS lk kt → (0 ≤ p0.toInt ∧ p0.toInt < np.toInt) → (0 ≤ p1.toInt ∧ p1.toInt < nb.toInt) → p2 = zFit (cBt kT.1.2.2.1.1 p1) (cBt kT.1.2.2.1.2.1 p1) (kc.2.1 (4 * p1.toInt.toNat)) → ∀ j : Nat, (j : Int) < m3_L_4.toInt → m3_A_mV j = (fun j => sShow kc kT.1 (some kt) p0 p1 (Int32.ofNat j)) j) → (11 - m3_L_4.toInt).toNat = n → ∀ (H : Heap) (locs : List Loc) (ls : Array Slot), va_P (dC, dI) vwCl [(h0, .inr (6, [.ref aC, .ref g0, .ref sd, .ref mW, .long mt, .int lf, .ref mV, .ref mA, .ref mT])), (aC, .inr (1, [.ref aR, .ref aB, .ref aP, .int nb, .int np])), (aB, .inl (cI, 24, .inl fb)), (aP, .inl (cI, 20, .inl fp)), (g0, .inr (7, [.ref gY, .ref gF, .ref gP, .int gpn, .int glt, .int gsh, .int gwd, .int gpu, .int gmo])), (gY, .inl (cI, 6, .inl gfY)), (gF, .inl (cI, 5, .inl gfF)), (gP, .inl (cI, 80, .inl gfP)), (sd, .inr (8, [.ref w1, .ref w2, .ref aC, .ref g0, .ref aL, .ref aK, .ref lw])), (aL, .inl (cI, 6, .inl m3_A_aL)), (aK, .inl (cI, 32, .inl m3_A_aK)), (lw, .inr (4, [.ref lS])), (lS, .inl (cI, lk, .inl fS)), (mV, .inl (cI, 10, .inl m3_A_mV)), (mT, .inl (cI, 45, .inl fT))] H → va_D A [(h0, .inr (6, [.ref aC, .ref g0, .ref sd, .ref mW, .long mt, .int lf, .ref mV, .ref mA, .ref mT])), (aC, .inr (1, [.ref aR, .ref aB, .ref aP, .int nb, .int np])), (aB, .inl (cI, 24, .inl fb)), (aP, .inl (cI, 20, .inl fp)), (g0, .inr (7, [.ref gY, .ref gF, .ref gP, .int gpn, .int glt, .int gsh, .int gwd, .int gpu, .int gmo])), (gY, .inl (cI, 6, .inl gfY)), (gF, .inl (cI, 5, .inl gfF)), (gP, .inl (cI, 80, .inl gfP)), (sd, .inr (8, [.ref w1, .ref w2, .ref aC, .ref g0, .ref aL, .ref aK, .ref lw])), (aL, .inl (cI, 6, .inl m3_A_aL)), (aK, .inl (cI, 32, .inl m3_A_aK)), (lw, .inr (4, [.ref lS])), (lS, .inl (cI, lk, .inl fS)), (mV, .inl (cI, 10, .inl m3_A_mV)), (mT, .inl (cI, 45, .inl fT))] → va_S A s.heap H locs → lv_has ls 7 [(4, .int m3_L_4), (0, .ref h0), (1, .int p0), (2, .int p1), (3, .int p2)] → W p l e R s m args below meth c H locs 0 0 Q (F0 m 3 ls []) := by
    intro n3
    induction n3 using Nat.strongRecOn with
    | _ n3 ih3 =>
      intro m3_A_aK m3_A_aL m3_A_mV m3_L_4 jf3_0 jv3_0 hmu3 H locs ls hP hD hS hl
      refine lv_iload hx hb dX6_addTeller_3 (lv_at hl 0 rfl) ?_
      refine lv_bipush (v := 10) hx hb dX6_addTeller_5 (by decide) ?_
      refine lv_icmp_ge (tgt := 34) hx hb dX6_addTeller_7 (by decide) (fun c7 => ?_) (fun c7 => ?_)
      · have c7 : 10 ≤ m3_L_4.toInt := z3 (by decide) rfl c7
        refine lv_iconst (v := 0) hx hb dX6_addTeller_34 (by decide) ?_
        refine lv_istore (lv' := [(4, .int 0), (0, .ref h0), (1, .int p0), (2, .int p1), (3, .int p2)]) hx hb dX6_addTeller_35 hl (by decide) rfl (fun ls hl => ?_)
        refine lv_iconst (v := 0) hx hb dX6_addTeller_37 (by decide) ?_
        have J40 : ∀ (n : Nat) (m40_A_mT : Nat → Int32) (m40_L_4 : Int32) (m40_L_5 : Int32), (0 ≤ m40_L_4.toInt ∧ m40_L_4.toInt ≤ 45) → (0 ≤ m40_L_5.toInt ∧ m40_L_5.toInt ≤ 10) → (m40_L_4.toInt ≤ (ztri m40_L_5.toInt.toNat : Int) ∧ 0 ≤ m40_L_4.toInt) → (∀ (kc : zK3) (kT : zT) (q_fr : Nat → Int32) (kt : (Int → Int) × Int), zCn q_fr fb fp nb.toInt np.toInt kc → zKo nb.toInt np.toInt kc kT → zSc nb.toInt np.toInt kT.1 gfY gfF gfP gpn glt gsh gwd gpu gmo → zLwC fS lk kt → (0 ≤ p0.toInt ∧ p0.toInt < np.toInt) → (0 ≤ p1.toInt ∧ p1.toInt < nb.toInt) → p2 = zFit (cBt kT.1.2.2.1.1 p1) (cBt kT.1.2.2.1.2.1 p1) (kc.2.1 (4 * p1.toInt.toNat)) → aNt (aPr.filter (sPf kc kT.1 p1)) (sDb kc kT.1 (some kt) p1 p0.toInt.toNat) fT m40_A_mT (1 <<< (p0 &&& 31)) m40_L_4.toInt.toNat ∧ zNp (sPf kc kT.1 p1) (ztri m40_L_5.toInt.toNat) m40_L_4) → (11 - m40_L_5.toInt).toNat = n → ∀ (H : Heap) (locs : List Loc) (ls : Array Slot), va_P (dC, dI) vwCl [(h0, .inr (6, [.ref aC, .ref g0, .ref sd, .ref mW, .long mt, .int lf, .ref mV, .ref mA, .ref mT])), (aC, .inr (1, [.ref aR, .ref aB, .ref aP, .int nb, .int np])), (aB, .inl (cI, 24, .inl fb)), (aP, .inl (cI, 20, .inl fp)), (g0, .inr (7, [.ref gY, .ref gF, .ref gP, .int gpn, .int glt, .int gsh, .int gwd, .int gpu, .int gmo])), (gY, .inl (cI, 6, .inl gfY)), (gF, .inl (cI, 5, .inl gfF)), (gP, .inl (cI, 80, .inl gfP)), (sd, .inr (8, [.ref w1, .ref w2, .ref aC, .ref g0, .ref aL, .ref aK, .ref lw])), (aL, .inl (cI, 6, .inl m3_A_aL)), (aK, .inl (cI, 32, .inl m3_A_aK)), (lw, .inr (4, [.ref lS])), (lS, .inl (cI, lk, .inl fS)), (mV, .inl (cI, 10, .inl m3_A_mV)), (mT, .inl (cI, 45, .inl m40_A_mT))] H → va_D A [(h0, .inr (6, [.ref aC, .ref g0, .ref sd, .ref mW, .long mt, .int lf, .ref mV, .ref mA, .ref mT])), (aC, .inr (1, [.ref aR, .ref aB, .ref aP, .int nb, .int np])), (aB, .inl (cI, 24, .inl fb)), (aP, .inl (cI, 20, .inl fp)), (g0, .inr (7, [.ref gY, .ref gF, .ref gP, .int gpn, .int glt, .int gsh, .int gwd, .int gpu, .int gmo])), (gY, .inl (cI, 6, .inl gfY)), (gF, .inl (cI, 5, .inl gfF)), (gP, .inl (cI, 80, .inl gfP)), (sd, .inr (8, [.ref w1, .ref w2, .ref aC, .ref g0, .ref aL, .ref aK, .ref lw])), (aL, .inl (cI, 6, .inl m3_A_aL)), (aK, .inl (cI, 32, .inl m3_A_aK)), (lw, .inr (4, [.ref lS])), (lS, .inl (cI, lk, .inl fS)), (mV, .inl (cI, 10, .inl m3_A_mV)), (mT, .inl (cI, 45, .inl m40_A_mT))] → va_S A s.heap H locs → lv_has ls 7 [(5, .int m40_L_5), (4, .int m40_L_4), (0, .ref h0), (1, .int p0), (2, .int p1), (3, .int p2)] → W p l e R s m args below meth c H locs 0 0 Q (F0 m 40 ls []) := by
          intro n40
          induction n40 using Nat.strongRecOn with
          | _ n40 ih40 =>
            intro m40_A_mT m40_L_4 m40_L_5 jf40_0 jf40_1 jf40_2 jv40_0 hmu40 H locs ls hP hD hS hl
            refine lv_iload hx hb dX6_addTeller_40 (lv_at hl 0 rfl) ?_
            refine lv_bipush (v := 10) hx hb dX6_addTeller_42 (by decide) ?_
            refine lv_icmp_ge (tgt := 126) hx hb dX6_addTeller_44 (by decide) (fun c44 => ?_) (fun c44 => ?_)
            · have c44 : 10 ≤ m40_L_5.toInt := z3 (by decide) rfl c44
              have q126 : m40_L_4.toInt ≤ 45 := ztri_10 (a := m40_L_5) (by omega) (by omega)
              refine lv_iload hx hb dX6_addTeller_126 (lv_at hl 1 rfl) ?_
              rw [hQ]
              exact W.iret (v := m40_L_4) hx hb hr (fun t ht hW => ⟨⟨m40_L_4, (m3_A_aL, m3_A_aK, m3_A_mV, m40_A_mT), rfl, ⟨by (try dsimp only); omega, by (try dsimp only); omega, fun kc kT q_fr kt hc hb h ht hp hq hf => by have JJ := (jv40_0 kc kT _ kt hc hb h ht hp hq hf); have tz : ztri m40_L_5.toInt.toNat = 45 := (by rw [show m40_L_5.toInt.toNat = 10 by omega]; rfl); rw [tz] at JJ; exact ⟨zNp45 JJ.2, JJ.1⟩⟩, ⟨by rw [ht]; exact hP, hD⟩⟩, hS.F ht⟩) hS.2.2 dX6_addTeller_128
            · have c44 : m40_L_5.toInt < 10 := z4 (by decide) rfl c44
              refine lv_iload hx hb dX6_addTeller_47 (lv_at hl 0 rfl) ?_
              refine lv_iconst (v := 1) hx hb dX6_addTeller_49 (by decide) ?_
              refine lv_iadd hx hb dX6_addTeller_50 ?_
              refine lv_topi (fun v50 e50 => ?_)
              have i50 : v50.toInt = m40_L_5.toInt + 1 := zadd e50 rfl (by decide) (by omega) (by omega)
              have J53 : ∀ (n : Nat) (m53_A_mT : Nat → Int32) (m53_L_4 : Int32) (m53_L_6 : Int32), (0 ≤ m53_L_4.toInt ∧ m53_L_4.toInt ≤ 45) → (1 ≤ m53_L_6.toInt ∧ m53_L_6.toInt ≤ 10) → (m53_L_4.toInt ≤ (ztri m40_L_5.toInt.toNat : Int) + (m53_L_6.toInt - m40_L_5.toInt - 1) ∧ 0 ≤ m53_L_4.toInt ∧ m40_L_5.toInt + 1 ≤ m53_L_6.toInt) → (∀ (kc : zK3) (kT : zT) (q_fr : Nat → Int32) (kt : (Int → Int) × Int), zCn q_fr fb fp nb.toInt np.toInt kc → zKo nb.toInt np.toInt kc kT → zSc nb.toInt np.toInt kT.1 gfY gfF gfP gpn glt gsh gwd gpu gmo → zLwC fS lk kt → (0 ≤ p0.toInt ∧ p0.toInt < np.toInt) → (0 ≤ p1.toInt ∧ p1.toInt < nb.toInt) → p2 = zFit (cBt kT.1.2.2.1.1 p1) (cBt kT.1.2.2.1.2.1 p1) (kc.2.1 (4 * p1.toInt.toNat)) → aNt (aPr.filter (sPf kc kT.1 p1)) (sDb kc kT.1 (some kt) p1 p0.toInt.toNat) fT m53_A_mT (1 <<< (p0 &&& 31)) m53_L_4.toInt.toNat ∧ zNp (sPf kc kT.1 p1) (zTn m40_L_5 m53_L_6) m53_L_4) → (11 - m53_L_6.toInt).toNat = n → ∀ (H : Heap) (locs : List Loc) (ls : Array Slot), va_P (dC, dI) vwCl [(h0, .inr (6, [.ref aC, .ref g0, .ref sd, .ref mW, .long mt, .int lf, .ref mV, .ref mA, .ref mT])), (aC, .inr (1, [.ref aR, .ref aB, .ref aP, .int nb, .int np])), (aB, .inl (cI, 24, .inl fb)), (aP, .inl (cI, 20, .inl fp)), (g0, .inr (7, [.ref gY, .ref gF, .ref gP, .int gpn, .int glt, .int gsh, .int gwd, .int gpu, .int gmo])), (gY, .inl (cI, 6, .inl gfY)), (gF, .inl (cI, 5, .inl gfF)), (gP, .inl (cI, 80, .inl gfP)), (sd, .inr (8, [.ref w1, .ref w2, .ref aC, .ref g0, .ref aL, .ref aK, .ref lw])), (aL, .inl (cI, 6, .inl m3_A_aL)), (aK, .inl (cI, 32, .inl m3_A_aK)), (lw, .inr (4, [.ref lS])), (lS, .inl (cI, lk, .inl fS)), (mV, .inl (cI, 10, .inl m3_A_mV)), (mT, .inl (cI, 45, .inl m53_A_mT))] H → va_D A [(h0, .inr (6, [.ref aC, .ref g0, .ref sd, .ref mW, .long mt, .int lf, .ref mV, .ref mA, .ref mT])), (aC, .inr (1, [.ref aR, .ref aB, .ref aP, .int nb, .int np])), (aB, .inl (cI, 24, .inl fb)), (aP, .inl (cI, 20, .inl fp)), (g0, .inr (7, [.ref gY, .ref gF, .ref gP, .int gpn, .int glt, .int gsh, .int gwd, .int gpu, .int gmo])), (gY, .inl (cI, 6, .inl gfY)), (gF, .inl (cI, 5, .inl gfF)), (gP, .inl (cI, 80, .inl gfP)), (sd, .inr (8, [.ref w1, .ref w2, .ref aC, .ref g0, .ref aL, .ref aK, .ref lw])), (aL, .inl (cI, 6, .inl m3_A_aL)), (aK, .inl (cI, 32, .inl m3_A_aK)), (lw, .inr (4, [.ref lS])), (lS, .inl (cI, lk, .inl fS)), (mV, .inl (cI, 10, .inl m3_A_mV)), (mT, .inl (cI, 45, .inl m53_A_mT))] → va_S A s.heap H locs → lv_has ls 7 [(6, .int m53_L_6), (5, .int m40_L_5), (4, .int m53_L_4), (0, .ref h0), (1, .int p0), (2, .int p1), (3, .int p2)] → W p l e R s m args below meth c H locs 0 0 Q (F0 m 53 ls []) := by
                intro n53
                induction n53 using Nat.strongRecOn with
                | _ n53 ih53 =>
                  intro m53_A_mT m53_L_4 m53_L_6 jf53_0 jf53_1 jf53_2 jv53_0 hmu53 H locs ls hP hD hS hl
                  refine lv_iload hx hb dX6_addTeller_53 (lv_at hl 0 rfl) ?_
                  refine lv_bipush (v := 10) hx hb dX6_addTeller_55 (by decide) ?_
                  refine lv_icmp_ge (tgt := 120) hx hb dX6_addTeller_57 (by decide) (fun c57 => ?_) (fun c57 => ?_)
                  · have c57 : 10 ≤ m53_L_6.toInt := z3 (by decide) rfl c57
                    obtain ⟨v120, e120⟩ : ∃ y : Int32, y = m40_L_5 + Int32.ofInt (1) := ⟨_, rfl⟩
                    refine lv_iinc (v := v120) (lv' := [(5, .int v120), (6, .int m53_L_6), (4, .int m53_L_4), (0, .ref h0), (1, .int p0), (2, .int p1), (3, .int p2)]) hx hb dX6_addTeller_120 hl (k := 1) rfl e120.symm (by decide) rfl (fun ls hl => ?_)
                    have i120 : v120.toInt = m40_L_5.toInt + 1 := zaddI e120 (by decide) (by omega) (by omega)
                    have q123 := ztri_s (a := m40_L_5) (b := v120) (by omega) (by omega)
                    refine lv_goto (tgt := 40) hx hb dX6_addTeller_123 (by decide) ?_
                    exact ih40 _ (by omega) m53_A_mT m53_L_4 v120 jf53_0 (by omega) (by omega) (fun kc kT q_fr kt hc hb h ht hp hq hf => by have j := (jv53_0 kc kT _ kt hc hb h ht hp hq hf); rw [show zTn m40_L_5 m53_L_6 = ztri v120.toInt.toNat by unfold zTn; omega] at j; exact j) rfl H locs ls hP hD hS (lv_sub hl [0, 2, 3, 4, 5, 6] rfl)
                  · have c57 : m53_L_6.toInt < 10 := z4 (by decide) rfl c57
                    refine lv_iload_n hx hb dX6_addTeller_60 rfl (lv_at hl 6 rfl) ?_
                    refine lv_iload hx hb dX6_addTeller_61 (lv_at hl 1 rfl) ?_
                    have hPc : va_P (dC, dI) vwCl [] H := zP0
                    have hDc : va_D (fun _ => True) [] := zD0
                    have hFc := zfr hS hA
                    refine va_calli (va_runSN (As := [.int p2, .int m40_L_5]) (rest := []) ⟨hx, hb, hml, hown, hts⟩ (g_X10_bit l dC dI cI cJ p2 m40_L_5 H.size) ⟨va_cnB 2 hts (zgI qw454) rfl rfl rfl hV.1 (hts _ qw98) (hd_X10_bit).2 ⟨by rw [hR]; exact Nat.le_of_ble_eq_true rfl, by rw [hR]; exact Nat.le_of_ble_eq_true rfl⟩, hts _ qw453, trivial⟩ (zPS hPc hK hDc) rfl rfl hl.1 rfl (lv_room (Nat.le_of_ble_eq_true rfl)) dX6_addTeller_63 ⟨Nat.zero_le _, Nat.zero_le _⟩) hS (fun q _ h => hFc q h) hFc (fun v63 u63 t H locs ht hvm hw hB hz1 hk1 hS9 => ?_)
                    replace hP := zkeep hP hk1
                    replace hS := hS9
                    clear hPc hDc hFc hk1 hz1 hvm hS9
                    obtain ⟨f63_0, f63_1, f63_2⟩ : (0 ≤ v63.toInt) ∧ (v63.toInt ≤ 1) ∧ (v63 = cBt p2 m40_L_5) := hw
                    have F63 := f63_2
                    refine lv_if_eq (tgt := 114) hx hb dX6_addTeller_66 (by decide) (fun c66 => ?_) (fun c66 => ?_)
                    · have c66 : v63.toInt = 0 := z5 rfl (by decide) c66
                      obtain ⟨v114, e114⟩ : ∃ y : Int32, y = m53_L_6 + Int32.ofInt (1) := ⟨_, rfl⟩
                      refine lv_iinc (v := v114) (lv' := [(6, .int v114), (5, .int m40_L_5), (4, .int m53_L_4), (0, .ref h0), (1, .int p0), (2, .int p1), (3, .int p2)]) hx hb dX6_addTeller_114 hl (k := 0) rfl e114.symm (by decide) rfl (fun ls hl => ?_)
                      have i114 : v114.toInt = m53_L_6.toInt + 1 := zaddI e114 (by decide) (by omega) (by omega)
                      refine lv_goto (tgt := 53) hx hb dX6_addTeller_117 (by decide) ?_
                      exact ih53 _ (by omega) m53_A_mT m53_L_4 v114 jf53_0 (by omega) (by omega) (fun kc kT q_fr kt hc hb h ht hp hq hf => by have JJ := (jv53_0 kc kT _ kt hc hb h ht hp hq hf); rw [show zTn m40_L_5 v114 = zTn m40_L_5 m53_L_6 + 1 by unfold zTn; omega]; first | (have z63 := congrArg Int32.toInt F63; have z72 := congrArg Int32.toInt F72; have fy := (sPf_t (c := kc) (S := kT.1) (b := p1) (f := m40_L_5) (g := m53_L_6) hf (by omega) (by omega)).mpr ⟨by omega, by omega⟩; have y87 : v87 = sShow kc kT.1 (some kt) p0 p1 m40_L_5 := (zIxN (n := m40_L_5.toInt.toNat) e87 (by omega)).trans (((jv3_0 kc kT _ kt hc hb h ht hp hq hf) _ (by omega)).trans (by show sShow _ _ _ _ _ (Int32.ofNat m40_L_5.toInt.toNat) = _; rw [← zk32 (show 0 ≤ m40_L_5.toInt by omega)])); have y94 : v94 = sShow kc kT.1 (some kt) p0 p1 m53_L_6 := (zIxN (n := m53_L_6.toInt.toNat) e94 (by omega)).trans (((jv3_0 kc kT _ kt hc hb h ht hp hq hf) _ (by omega)).trans (by show sShow _ _ _ _ _ (Int32.ofNat m53_L_6.toInt.toNat) = _; rw [← zk32 (show 0 ≤ m53_L_6.toInt by omega)])); have db := sDb_t (c := kc) (S := kT.1) (lw := (some kt)) (b := p1) (p := p0) (f := m40_L_5) (g := m53_L_6) (by omega) (by omega) (by omega) y87 y94; exact aNtY JJ.1 JJ.2 (zTn_i (f := m40_L_5) (g := m53_L_6) (by omega) (by omega) (by omega)) fy (db.mpr (by omega)) e105 (e109.trans (by rw [e108])) e110 i111 (by omega) (by omega)) | (have z63 := congrArg Int32.toInt F63; have z72 := congrArg Int32.toInt F72; have fy := (sPf_t (c := kc) (S := kT.1) (b := p1) (f := m40_L_5) (g := m53_L_6) hf (by omega) (by omega)).mpr ⟨by omega, by omega⟩; have y87 : v87 = sShow kc kT.1 (some kt) p0 p1 m40_L_5 := (zIxN (n := m40_L_5.toInt.toNat) e87 (by omega)).trans (((jv3_0 kc kT _ kt hc hb h ht hp hq hf) _ (by omega)).trans (by show sShow _ _ _ _ _ (Int32.ofNat m40_L_5.toInt.toNat) = _; rw [← zk32 (show 0 ≤ m40_L_5.toInt by omega)])); have y94 : v94 = sShow kc kT.1 (some kt) p0 p1 m53_L_6 := (zIxN (n := m53_L_6.toInt.toNat) e94 (by omega)).trans (((jv3_0 kc kT _ kt hc hb h ht hp hq hf) _ (by omega)).trans (by show sShow _ _ _ _ _ (Int32.ofNat m53_L_6.toInt.toNat) = _; rw [← zk32 (show 0 ≤ m53_L_6.toInt by omega)])); have db := sDb_t (c := kc) (S := kT.1) (lw := (some kt)) (b := p1) (p := p0) (f := m40_L_5) (g := m53_L_6) (by omega) (by omega) (by omega) y87 y94; exact aNtS JJ.1 JJ.2 (zTn_i (f := m40_L_5) (g := m53_L_6) (by omega) (by omega) (by omega)) fy (Bool.eq_false_iff.mpr (fun z => absurd (db.mp z) (by omega))) i111) | (have z63 := congrArg Int32.toInt F63; have z72 := congrArg Int32.toInt F72; have fn : sPf kc kT.1 p1 (m40_L_5.toInt.toNat, m53_L_6.toInt.toNat) = false := (Bool.eq_false_iff.mpr (fun z => by have w := ((sPf_t (c := kc) (S := kT.1) (b := p1) (f := m40_L_5) (g := m53_L_6) hf (by omega) (by omega)).mp z); omega)); exact ⟨JJ.1, aNtN JJ.1 JJ.2 (zTn_i (f := m40_L_5) (g := m53_L_6) (by omega) (by omega) (by omega)) fn⟩) | (have z63 := congrArg Int32.toInt F63; have fn : sPf kc kT.1 p1 (m40_L_5.toInt.toNat, m53_L_6.toInt.toNat) = false := (Bool.eq_false_iff.mpr (fun z => by have w := ((sPf_t (c := kc) (S := kT.1) (b := p1) (f := m40_L_5) (g := m53_L_6) hf (by omega) (by omega)).mp z); omega)); exact ⟨JJ.1, aNtN JJ.1 JJ.2 (zTn_i (f := m40_L_5) (g := m53_L_6) (by omega) (by omega) (by omega)) fn⟩)) rfl H locs ls hP hD hS (lv_sub hl [0, 1, 2, 3, 4, 5, 6] rfl)
                    · have c66 : ¬ v63.toInt = 0 := z6 rfl (by decide) c66
                      refine lv_iload_n hx hb dX6_addTeller_69 rfl (lv_at hl 6 rfl) ?_
                      refine lv_iload hx hb dX6_addTeller_70 (lv_at hl 0 rfl) ?_
                      have hPc : va_P (dC, dI) vwCl [] H := zP0
                      have hDc : va_D (fun _ => True) [] := zD0
                      have hFc := zfr hS hA
                      refine va_calli (va_runSN (As := [.int p2, .int m53_L_6]) (rest := []) ⟨hx, hb, hml, hown, hts⟩ (g_X10_bit l dC dI cI cJ p2 m53_L_6 H.size) ⟨va_cnB 2 hts (zgI qw454) rfl rfl rfl hV.1 (hts _ qw98) (hd_X10_bit).2 ⟨by rw [hR]; exact Nat.le_of_ble_eq_true rfl, by rw [hR]; exact Nat.le_of_ble_eq_true rfl⟩, hts _ qw453, trivial⟩ (zPS hPc hK hDc) rfl rfl hl.1 rfl (lv_room (Nat.le_of_ble_eq_true rfl)) dX6_addTeller_72 ⟨Nat.zero_le _, Nat.zero_le _⟩) hS (fun q _ h => hFc q h) hFc (fun v72 u72 t H locs ht hvm hw hB hz1 hk1 hS9 => ?_)
                      replace hP := zkeep hP hk1
                      replace hS := hS9
                      clear hPc hDc hFc hk1 hz1 hvm hS9
                      obtain ⟨f72_0, f72_1, f72_2⟩ : (0 ≤ v72.toInt) ∧ (v72.toInt ≤ 1) ∧ (v72 = cBt p2 m53_L_6) := hw
                      have F72 := f72_2
                      refine lv_if_ne (tgt := 81) hx hb dX6_addTeller_75 (by decide) (fun c75 => ?_) (fun c75 => ?_)
                      · have c75 : ¬ v72.toInt = 0 := z6 rfl (by decide) c75
                        refine lv_aload_n hx hb dX6_addTeller_81 rfl (lv_at hl 3 rfl) ?_
                        refine va_get (D := (dC, dI)) (ci := 6) (v := .ref mV) (C := RX6) (T := TX6) (N := 9) hx hb hts iX6 hown hK hP 0 rfl rfl 6 (by decide) (hts _ qw323) (fun _ h9 => h9) rfl dX6_addTeller_82 ?_
                        refine lv_iload hx hb dX6_addTeller_85 (lv_at hl 1 rfl) ?_
                        refine va_iald hx hb hK hP 13 0 rfl rfl (vp_in_iff.mpr ⟨by omega, by omega⟩) dX6_addTeller_87 ?_
                        refine lv_topi (fun v87 e87 => ?_)
                        refine lv_aload_n hx hb dX6_addTeller_88 rfl (lv_at hl 3 rfl) ?_
                        refine va_get (D := (dC, dI)) (ci := 6) (v := .ref mV) (C := RX6) (T := TX6) (N := 9) hx hb hts iX6 hown hK hP 0 rfl rfl 6 (by decide) (hts _ qw323) (fun _ h9 => h9) rfl dX6_addTeller_89 ?_
                        refine lv_iload hx hb dX6_addTeller_92 (lv_at hl 0 rfl) ?_
                        refine va_iald hx hb hK hP 13 0 rfl rfl (vp_in_iff.mpr ⟨by omega, by omega⟩) dX6_addTeller_94 ?_
                        refine lv_topi (fun v94 e94 => ?_)
                        refine lv_icmp_eq (tgt := 111) hx hb dX6_addTeller_95 (by decide) (fun c95 => ?_) (fun c95 => ?_)
                        · have c95 : v87.toInt = v94.toInt := z5 rfl rfl c95
                          have q111 := ztri_c m40_L_5.toInt.toNat (by omega)
                          obtain ⟨v111, e111⟩ : ∃ y : Int32, y = m53_L_4 + Int32.ofInt (1) := ⟨_, rfl⟩
                          refine lv_iinc (v := v111) (lv' := [(4, .int v111), (6, .int m53_L_6), (5, .int m40_L_5), (0, .ref h0), (1, .int p0), (2, .int p1), (3, .int p2)]) hx hb dX6_addTeller_111 hl (k := 2) rfl e111.symm (by decide) rfl (fun ls hl => ?_)
                          have i111 : v111.toInt = m53_L_4.toInt + 1 := zaddI e111 (by decide) (by omega) (by omega)
                          obtain ⟨v114, e114⟩ : ∃ y : Int32, y = m53_L_6 + Int32.ofInt (1) := ⟨_, rfl⟩
                          refine lv_iinc (v := v114) (lv' := [(6, .int v114), (4, .int v111), (5, .int m40_L_5), (0, .ref h0), (1, .int p0), (2, .int p1), (3, .int p2)]) hx hb dX6_addTeller_114 hl (k := 1) rfl e114.symm (by decide) rfl (fun ls hl => ?_)
                          have i114 : v114.toInt = m53_L_6.toInt + 1 := zaddI e114 (by decide) (by omega) (by omega)
                          refine lv_goto (tgt := 53) hx hb dX6_addTeller_117 (by decide) ?_
                          exact ih53 _ (by omega) m53_A_mT v111 v114 (by omega) (by omega) (by omega) (fun kc kT q_fr kt hc hb h ht hp hq hf => by have JJ := (jv53_0 kc kT _ kt hc hb h ht hp hq hf); rw [show zTn m40_L_5 v114 = zTn m40_L_5 m53_L_6 + 1 by unfold zTn; omega]; first | (have z63 := congrArg Int32.toInt F63; have z72 := congrArg Int32.toInt F72; have fy := (sPf_t (c := kc) (S := kT.1) (b := p1) (f := m40_L_5) (g := m53_L_6) hf (by omega) (by omega)).mpr ⟨by omega, by omega⟩; have y87 : v87 = sShow kc kT.1 (some kt) p0 p1 m40_L_5 := (zIxN (n := m40_L_5.toInt.toNat) e87 (by omega)).trans (((jv3_0 kc kT _ kt hc hb h ht hp hq hf) _ (by omega)).trans (by show sShow _ _ _ _ _ (Int32.ofNat m40_L_5.toInt.toNat) = _; rw [← zk32 (show 0 ≤ m40_L_5.toInt by omega)])); have y94 : v94 = sShow kc kT.1 (some kt) p0 p1 m53_L_6 := (zIxN (n := m53_L_6.toInt.toNat) e94 (by omega)).trans (((jv3_0 kc kT _ kt hc hb h ht hp hq hf) _ (by omega)).trans (by show sShow _ _ _ _ _ (Int32.ofNat m53_L_6.toInt.toNat) = _; rw [← zk32 (show 0 ≤ m53_L_6.toInt by omega)])); have db := sDb_t (c := kc) (S := kT.1) (lw := (some kt)) (b := p1) (p := p0) (f := m40_L_5) (g := m53_L_6) (by omega) (by omega) (by omega) y87 y94; exact aNtY JJ.1 JJ.2 (zTn_i (f := m40_L_5) (g := m53_L_6) (by omega) (by omega) (by omega)) fy (db.mpr (by omega)) e105 (e109.trans (by rw [e108])) e110 i111 (by omega) (by omega)) | (have z63 := congrArg Int32.toInt F63; have z72 := congrArg Int32.toInt F72; have fy := (sPf_t (c := kc) (S := kT.1) (b := p1) (f := m40_L_5) (g := m53_L_6) hf (by omega) (by omega)).mpr ⟨by omega, by omega⟩; have y87 : v87 = sShow kc kT.1 (some kt) p0 p1 m40_L_5 := (zIxN (n := m40_L_5.toInt.toNat) e87 (by omega)).trans (((jv3_0 kc kT _ kt hc hb h ht hp hq hf) _ (by omega)).trans (by show sShow _ _ _ _ _ (Int32.ofNat m40_L_5.toInt.toNat) = _; rw [← zk32 (show 0 ≤ m40_L_5.toInt by omega)])); have y94 : v94 = sShow kc kT.1 (some kt) p0 p1 m53_L_6 := (zIxN (n := m53_L_6.toInt.toNat) e94 (by omega)).trans (((jv3_0 kc kT _ kt hc hb h ht hp hq hf) _ (by omega)).trans (by show sShow _ _ _ _ _ (Int32.ofNat m53_L_6.toInt.toNat) = _; rw [← zk32 (show 0 ≤ m53_L_6.toInt by omega)])); have db := sDb_t (c := kc) (S := kT.1) (lw := (some kt)) (b := p1) (p := p0) (f := m40_L_5) (g := m53_L_6) (by omega) (by omega) (by omega) y87 y94; exact aNtS JJ.1 JJ.2 (zTn_i (f := m40_L_5) (g := m53_L_6) (by omega) (by omega) (by omega)) fy (Bool.eq_false_iff.mpr (fun z => absurd (db.mp z) (by omega))) i111) | (have z63 := congrArg Int32.toInt F63; have z72 := congrArg Int32.toInt F72; have fn : sPf kc kT.1 p1 (m40_L_5.toInt.toNat, m53_L_6.toInt.toNat) = false := (Bool.eq_false_iff.mpr (fun z => by have w := ((sPf_t (c := kc) (S := kT.1) (b := p1) (f := m40_L_5) (g := m53_L_6) hf (by omega) (by omega)).mp z); omega)); exact ⟨JJ.1, aNtN JJ.1 JJ.2 (zTn_i (f := m40_L_5) (g := m53_L_6) (by omega) (by omega) (by omega)) fn⟩) | (have z63 := congrArg Int32.toInt F63; have fn : sPf kc kT.1 p1 (m40_L_5.toInt.toNat, m53_L_6.toInt.toNat) = false := (Bool.eq_false_iff.mpr (fun z => by have w := ((sPf_t (c := kc) (S := kT.1) (b := p1) (f := m40_L_5) (g := m53_L_6) hf (by omega) (by omega)).mp z); omega)); exact ⟨JJ.1, aNtN JJ.1 JJ.2 (zTn_i (f := m40_L_5) (g := m53_L_6) (by omega) (by omega) (by omega)) fn⟩)) rfl H locs ls hP hD hS (lv_sub hl [0, 2, 1, 3, 4, 5, 6] rfl)
                        · have c95 : ¬ v87.toInt = v94.toInt := z6 rfl rfl c95
                          refine lv_aload_n hx hb dX6_addTeller_98 rfl (lv_at hl 3 rfl) ?_
                          refine va_get (D := (dC, dI)) (ci := 6) (v := .ref mT) (C := RX6) (T := TX6) (N := 9) hx hb hts iX6 hown hK hP 0 rfl rfl 8 (by decide) (hts _ qw325) (fun _ h9 => h9) rfl dX6_addTeller_99 ?_
                          have q102 := ztri_c m40_L_5.toInt.toNat (by omega)
                          refine lv_iload hx hb dX6_addTeller_102 (lv_at hl 2 rfl) ?_
                          refine lv_dup2_11 hx hb dX6_addTeller_104 rfl rfl ?_
                          refine va_iald hx hb hK hP 14 0 rfl rfl (vp_in_iff.mpr ⟨by omega, by omega⟩) dX6_addTeller_105 ?_
                          refine lv_topi (fun v105 e105 => ?_)
                          refine lv_iconst (v := 1) hx hb dX6_addTeller_106 (by decide) ?_
                          refine lv_iload_n hx hb dX6_addTeller_107 rfl (lv_at hl 4 rfl) ?_
                          refine lv_ishl hx hb dX6_addTeller_108 ?_
                          refine lv_topi (fun v108 e108 => ?_)
                          have i108 : 1 ≤ v108.toInt ∧ v108.toInt ≤ 32 := zshl1 e108 (by omega) (by omega)
                          refine lv_ior hx hb dX6_addTeller_109 ?_
                          refine lv_topi (fun v109 e109 => ?_)
                          refine va_iast hx hb hK hP hD hS 14 0 rfl rfl (vp_in_iff.mpr ⟨by omega, by omega⟩) dX6_addTeller_110 (fun H locs hP9 hD9 hS9 => ?_)
                          clear hP hD hS
                          obtain ⟨v110_f, e110⟩ : ∃ g : Nat → Int32, g = upd m53_A_mT (m53_L_4).toNatClampNeg v109 := ⟨_, rfl⟩
                          rw [← e110] at hP9 hD9
                          obtain ⟨hP, hD⟩ := zst (wX := [(h0, .inr (6, [.ref aC, .ref g0, .ref sd, .ref mW, .long mt, .int lf, .ref mV, .ref mA, .ref mT])), (aC, .inr (1, [.ref aR, .ref aB, .ref aP, .int nb, .int np])), (aB, .inl (cI, 24, .inl fb)), (aP, .inl (cI, 20, .inl fp)), (g0, .inr (7, [.ref gY, .ref gF, .ref gP, .int gpn, .int glt, .int gsh, .int gwd, .int gpu, .int gmo])), (gY, .inl (cI, 6, .inl gfY)), (gF, .inl (cI, 5, .inl gfF)), (gP, .inl (cI, 80, .inl gfP)), (sd, .inr (8, [.ref w1, .ref w2, .ref aC, .ref g0, .ref aL, .ref aK, .ref lw])), (aL, .inl (cI, 6, .inl m3_A_aL)), (aK, .inl (cI, 32, .inl m3_A_aK)), (lw, .inr (4, [.ref lS])), (lS, .inl (cI, lk, .inl fS)), (mV, .inl (cI, 10, .inl m3_A_mV)), (mT, .inl (cI, 45, .inl v110_f))]) hP9 hD9 rfl
                          have hS := hS9
                          clear hP9 hD9 hS9
                          have q111 := ztri_c m40_L_5.toInt.toNat (by omega)
                          obtain ⟨v111, e111⟩ : ∃ y : Int32, y = m53_L_4 + Int32.ofInt (1) := ⟨_, rfl⟩
                          refine lv_iinc (v := v111) (lv' := [(4, .int v111), (6, .int m53_L_6), (5, .int m40_L_5), (0, .ref h0), (1, .int p0), (2, .int p1), (3, .int p2)]) hx hb dX6_addTeller_111 hl (k := 2) rfl e111.symm (by decide) rfl (fun ls hl => ?_)
                          have i111 : v111.toInt = m53_L_4.toInt + 1 := zaddI e111 (by decide) (by omega) (by omega)
                          obtain ⟨v114, e114⟩ : ∃ y : Int32, y = m53_L_6 + Int32.ofInt (1) := ⟨_, rfl⟩
                          refine lv_iinc (v := v114) (lv' := [(6, .int v114), (4, .int v111), (5, .int m40_L_5), (0, .ref h0), (1, .int p0), (2, .int p1), (3, .int p2)]) hx hb dX6_addTeller_114 hl (k := 1) rfl e114.symm (by decide) rfl (fun ls hl => ?_)
                          have i114 : v114.toInt = m53_L_6.toInt + 1 := zaddI e114 (by decide) (by omega) (by omega)
                          refine lv_goto (tgt := 53) hx hb dX6_addTeller_117 (by decide) ?_
                          exact ih53 _ (by omega) v110_f v111 v114 (by omega) (by omega) (by omega) (fun kc kT q_fr kt hc hb h ht hp hq hf => by have JJ := (jv53_0 kc kT _ kt hc hb h ht hp hq hf); rw [show zTn m40_L_5 v114 = zTn m40_L_5 m53_L_6 + 1 by unfold zTn; omega]; first | (have z63 := congrArg Int32.toInt F63; have z72 := congrArg Int32.toInt F72; have fy := (sPf_t (c := kc) (S := kT.1) (b := p1) (f := m40_L_5) (g := m53_L_6) hf (by omega) (by omega)).mpr ⟨by omega, by omega⟩; have y87 : v87 = sShow kc kT.1 (some kt) p0 p1 m40_L_5 := (zIxN (n := m40_L_5.toInt.toNat) e87 (by omega)).trans (((jv3_0 kc kT _ kt hc hb h ht hp hq hf) _ (by omega)).trans (by show sShow _ _ _ _ _ (Int32.ofNat m40_L_5.toInt.toNat) = _; rw [← zk32 (show 0 ≤ m40_L_5.toInt by omega)])); have y94 : v94 = sShow kc kT.1 (some kt) p0 p1 m53_L_6 := (zIxN (n := m53_L_6.toInt.toNat) e94 (by omega)).trans (((jv3_0 kc kT _ kt hc hb h ht hp hq hf) _ (by omega)).trans (by show sShow _ _ _ _ _ (Int32.ofNat m53_L_6.toInt.toNat) = _; rw [← zk32 (show 0 ≤ m53_L_6.toInt by omega)])); have db := sDb_t (c := kc) (S := kT.1) (lw := (some kt)) (b := p1) (p := p0) (f := m40_L_5) (g := m53_L_6) (by omega) (by omega) (by omega) y87 y94; exact aNtY JJ.1 JJ.2 (zTn_i (f := m40_L_5) (g := m53_L_6) (by omega) (by omega) (by omega)) fy (db.mpr (by omega)) e105 (e109.trans (by rw [e108])) e110 i111 (by omega) (by omega)) | (have z63 := congrArg Int32.toInt F63; have z72 := congrArg Int32.toInt F72; have fy := (sPf_t (c := kc) (S := kT.1) (b := p1) (f := m40_L_5) (g := m53_L_6) hf (by omega) (by omega)).mpr ⟨by omega, by omega⟩; have y87 : v87 = sShow kc kT.1 (some kt) p0 p1 m40_L_5 := (zIxN (n := m40_L_5.toInt.toNat) e87 (by omega)).trans (((jv3_0 kc kT _ kt hc hb h ht hp hq hf) _ (by omega)).trans (by show sShow _ _ _ _ _ (Int32.ofNat m40_L_5.toInt.toNat) = _; rw [← zk32 (show 0 ≤ m40_L_5.toInt by omega)])); have y94 : v94 = sShow kc kT.1 (some kt) p0 p1 m53_L_6 := (zIxN (n := m53_L_6.toInt.toNat) e94 (by omega)).trans (((jv3_0 kc kT _ kt hc hb h ht hp hq hf) _ (by omega)).trans (by show sShow _ _ _ _ _ (Int32.ofNat m53_L_6.toInt.toNat) = _; rw [← zk32 (show 0 ≤ m53_L_6.toInt by omega)])); have db := sDb_t (c := kc) (S := kT.1) (lw := (some kt)) (b := p1) (p := p0) (f := m40_L_5) (g := m53_L_6) (by omega) (by omega) (by omega) y87 y94; exact aNtS JJ.1 JJ.2 (zTn_i (f := m40_L_5) (g := m53_L_6) (by omega) (by omega) (by omega)) fy (Bool.eq_false_iff.mpr (fun z => absurd (db.mp z) (by omega))) i111) | (have z63 := congrArg Int32.toInt F63; have z72 := congrArg Int32.toInt F72; have fn : sPf kc kT.1 p1 (m40_L_5.toInt.toNat, m53_L_6.toInt.toNat) = false := (Bool.eq_false_iff.mpr (fun z => by have w := ((sPf_t (c := kc) (S := kT.1) (b := p1) (f := m40_L_5) (g := m53_L_6) hf (by omega) (by omega)).mp z); omega)); exact ⟨JJ.1, aNtN JJ.1 JJ.2 (zTn_i (f := m40_L_5) (g := m53_L_6) (by omega) (by omega) (by omega)) fn⟩) | (have z63 := congrArg Int32.toInt F63; have fn : sPf kc kT.1 p1 (m40_L_5.toInt.toNat, m53_L_6.toInt.toNat) = false := (Bool.eq_false_iff.mpr (fun z => by have w := ((sPf_t (c := kc) (S := kT.1) (b := p1) (f := m40_L_5) (g := m53_L_6) hf (by omega) (by omega)).mp z); omega)); exact ⟨JJ.1, aNtN JJ.1 JJ.2 (zTn_i (f := m40_L_5) (g := m53_L_6) (by omega) (by omega) (by omega)) fn⟩)) rfl H locs ls hP hD hS (lv_sub hl [0, 2, 1, 3, 4, 5, 6] rfl)
                      · have c75 : v72.toInt = 0 := z5 rfl (by decide) c75
                        refine lv_goto (tgt := 114) hx hb dX6_addTeller_78 (by decide) ?_
                        obtain ⟨v114, e114⟩ : ∃ y : Int32, y = m53_L_6 + Int32.ofInt (1) := ⟨_, rfl⟩
                        refine lv_iinc (v := v114) (lv' := [(6, .int v114), (5, .int m40_L_5), (4, .int m53_L_4), (0, .ref h0), (1, .int p0), (2, .int p1), (3, .int p2)]) hx hb dX6_addTeller_114 hl (k := 0) rfl e114.symm (by decide) rfl (fun ls hl => ?_)
                        have i114 : v114.toInt = m53_L_6.toInt + 1 := zaddI e114 (by decide) (by omega) (by omega)
                        refine lv_goto (tgt := 53) hx hb dX6_addTeller_117 (by decide) ?_
                        exact ih53 _ (by omega) m53_A_mT m53_L_4 v114 jf53_0 (by omega) (by omega) (fun kc kT q_fr kt hc hb h ht hp hq hf => by have JJ := (jv53_0 kc kT _ kt hc hb h ht hp hq hf); rw [show zTn m40_L_5 v114 = zTn m40_L_5 m53_L_6 + 1 by unfold zTn; omega]; first | (have z63 := congrArg Int32.toInt F63; have z72 := congrArg Int32.toInt F72; have fy := (sPf_t (c := kc) (S := kT.1) (b := p1) (f := m40_L_5) (g := m53_L_6) hf (by omega) (by omega)).mpr ⟨by omega, by omega⟩; have y87 : v87 = sShow kc kT.1 (some kt) p0 p1 m40_L_5 := (zIxN (n := m40_L_5.toInt.toNat) e87 (by omega)).trans (((jv3_0 kc kT _ kt hc hb h ht hp hq hf) _ (by omega)).trans (by show sShow _ _ _ _ _ (Int32.ofNat m40_L_5.toInt.toNat) = _; rw [← zk32 (show 0 ≤ m40_L_5.toInt by omega)])); have y94 : v94 = sShow kc kT.1 (some kt) p0 p1 m53_L_6 := (zIxN (n := m53_L_6.toInt.toNat) e94 (by omega)).trans (((jv3_0 kc kT _ kt hc hb h ht hp hq hf) _ (by omega)).trans (by show sShow _ _ _ _ _ (Int32.ofNat m53_L_6.toInt.toNat) = _; rw [← zk32 (show 0 ≤ m53_L_6.toInt by omega)])); have db := sDb_t (c := kc) (S := kT.1) (lw := (some kt)) (b := p1) (p := p0) (f := m40_L_5) (g := m53_L_6) (by omega) (by omega) (by omega) y87 y94; exact aNtY JJ.1 JJ.2 (zTn_i (f := m40_L_5) (g := m53_L_6) (by omega) (by omega) (by omega)) fy (db.mpr (by omega)) e105 (e109.trans (by rw [e108])) e110 i111 (by omega) (by omega)) | (have z63 := congrArg Int32.toInt F63; have z72 := congrArg Int32.toInt F72; have fy := (sPf_t (c := kc) (S := kT.1) (b := p1) (f := m40_L_5) (g := m53_L_6) hf (by omega) (by omega)).mpr ⟨by omega, by omega⟩; have y87 : v87 = sShow kc kT.1 (some kt) p0 p1 m40_L_5 := (zIxN (n := m40_L_5.toInt.toNat) e87 (by omega)).trans (((jv3_0 kc kT _ kt hc hb h ht hp hq hf) _ (by omega)).trans (by show sShow _ _ _ _ _ (Int32.ofNat m40_L_5.toInt.toNat) = _; rw [← zk32 (show 0 ≤ m40_L_5.toInt by omega)])); have y94 : v94 = sShow kc kT.1 (some kt) p0 p1 m53_L_6 := (zIxN (n := m53_L_6.toInt.toNat) e94 (by omega)).trans (((jv3_0 kc kT _ kt hc hb h ht hp hq hf) _ (by omega)).trans (by show sShow _ _ _ _ _ (Int32.ofNat m53_L_6.toInt.toNat) = _; rw [← zk32 (show 0 ≤ m53_L_6.toInt by omega)])); have db := sDb_t (c := kc) (S := kT.1) (lw := (some kt)) (b := p1) (p := p0) (f := m40_L_5) (g := m53_L_6) (by omega) (by omega) (by omega) y87 y94; exact aNtS JJ.1 JJ.2 (zTn_i (f := m40_L_5) (g := m53_L_6) (by omega) (by omega) (by omega)) fy (Bool.eq_false_iff.mpr (fun z => absurd (db.mp z) (by omega))) i111) | (have z63 := congrArg Int32.toInt F63; have z72 := congrArg Int32.toInt F72; have fn : sPf kc kT.1 p1 (m40_L_5.toInt.toNat, m53_L_6.toInt.toNat) = false := (Bool.eq_false_iff.mpr (fun z => by have w := ((sPf_t (c := kc) (S := kT.1) (b := p1) (f := m40_L_5) (g := m53_L_6) hf (by omega) (by omega)).mp z); omega)); exact ⟨JJ.1, aNtN JJ.1 JJ.2 (zTn_i (f := m40_L_5) (g := m53_L_6) (by omega) (by omega) (by omega)) fn⟩) | (have z63 := congrArg Int32.toInt F63; have fn : sPf kc kT.1 p1 (m40_L_5.toInt.toNat, m53_L_6.toInt.toNat) = false := (Bool.eq_false_iff.mpr (fun z => by have w := ((sPf_t (c := kc) (S := kT.1) (b := p1) (f := m40_L_5) (g := m53_L_6) hf (by omega) (by omega)).mp z); omega)); exact ⟨JJ.1, aNtN JJ.1 JJ.2 (zTn_i (f := m40_L_5) (g := m53_L_6) (by omega) (by omega) (by omega)) fn⟩)) rfl H locs ls hP hD hS (lv_sub hl [0, 1, 2, 3, 4, 5, 6] rfl)
              refine lv_istore (lv' := [(6, .int v50), (5, .int m40_L_5), (4, .int m40_L_4), (0, .ref h0), (1, .int p0), (2, .int p1), (3, .int p2)]) hx hb dX6_addTeller_51 hl (by decide) rfl (fun ls hl => ?_)
              exact J53 _ m40_A_mT m40_L_4 v50 jf40_0 (by omega) (by omega) (fun kc kT q_fr kt hc hb h ht hp hq hf => by rw [show zTn m40_L_5 v50 = ztri m40_L_5.toInt.toNat by unfold zTn; omega]; exact (jv40_0 kc kT _ kt hc hb h ht hp hq hf)) rfl H locs ls hP hD hS (lv_sub hl [0, 1, 2, 3, 4, 5, 6] rfl)
        refine lv_istore (lv' := [(5, .int 0), (4, .int 0), (0, .ref h0), (1, .int p0), (2, .int p1), (3, .int p2)]) hx hb dX6_addTeller_38 hl (by decide) rfl (fun ls hl => ?_)
        have zj40_m40_L_4 : (0 : Int32).toInt = 0 := by decide
        have zj40_m40_L_5 : (0 : Int32).toInt = 0 := by decide
        exact J40 _ fT 0 0 (by decide) (by decide) (by omega) (fun kc kT q_fr kt hc hb h ht hp hq hf => ⟨aNt_0, by unfold zNp; rfl⟩) rfl H locs ls hP hD hS (lv_sub hl [0, 1, 2, 3, 4, 5] rfl)
      · have c7 : m3_L_4.toInt < 10 := z4 (by decide) rfl c7
        refine lv_aload_n hx hb dX6_addTeller_10 rfl (lv_at hl 1 rfl) ?_
        refine va_get (D := (dC, dI)) (ci := 6) (v := .ref mV) (C := RX6) (T := TX6) (N := 9) hx hb hts iX6 hown hK hP 0 rfl rfl 6 (by decide) (hts _ qw323) (fun _ h9 => h9) rfl dX6_addTeller_11 ?_
        refine lv_iload hx hb dX6_addTeller_14 (lv_at hl 0 rfl) ?_
        refine lv_aload_n hx hb dX6_addTeller_16 rfl (lv_at hl 1 rfl) ?_
        refine va_get (D := (dC, dI)) (ci := 6) (v := .ref sd) (C := RX6) (T := TX6) (N := 9) hx hb hts iX6 hown hK hP 0 rfl rfl 2 (by decide) (hts _ qw318) (fun _ h9 => h9) rfl dX6_addTeller_17 ?_
        refine lv_iload_n hx hb dX6_addTeller_20 rfl (lv_at hl 2 rfl) ?_
        refine lv_iload_n hx hb dX6_addTeller_21 rfl (lv_at hl 3 rfl) ?_
        refine lv_iload hx hb dX6_addTeller_22 (lv_at hl 0 rfl) ?_
        obtain ⟨hPc, hDc, hFc⟩ := zc3 (wc := [(sd, .inr (8, [.ref w1, .ref w2, .ref aC, .ref g0, .ref aL, .ref aK, .ref lw])), (aC, .inr (1, [.ref aR, .ref aB, .ref aP, .int nb, .int np])), (aB, .inl (cI, 24, .inl fb)), (aP, .inl (cI, 20, .inl fp)), (g0, .inr (7, [.ref gY, .ref gF, .ref gP, .int gpn, .int glt, .int gsh, .int gwd, .int gpu, .int gmo])), (gY, .inl (cI, 6, .inl gfY)), (gF, .inl (cI, 5, .inl gfF)), (gP, .inl (cI, 80, .inl gfP)), (aL, .inl (cI, 6, .inl m3_A_aL)), (aK, .inl (cI, 32, .inl m3_A_aK)), (lw, .inr (4, [.ref lS])), (lS, .inl (cI, lk, .inl fS))]) hP hD hS hA [8, 1, 2, 3, 4, 5, 6, 7, 9, 10, 11, 12] (by decide +kernel) rfl
        refine va_calli (va_runV (As := [.int p0, .int p1, .int m3_L_4]) (rest := [.int m3_L_4, .ref mV]) ⟨hx, hb, hml, hown, hts⟩ (g_X8_showOf_l l dC dI cI cJ sd p0 p1 m3_L_4 w1 w2 aC g0 aL aK lw aR aB aP nb np fb fp gY gF gP gpn glt gsh gwd gpu gmo gfY gfF gfP m3_A_aL m3_A_aK lS fS lk H.size n_gpn n_p0 n_p1 (hlk) ci_fS_zSt ci_gfP_zPo) (cwV 3 hts (zgV qw844 qw644 qw645 qw105 qw646) rfl rfl rfl hd_X8_showOf ⟨by rw [hR]; exact Nat.le_of_ble_eq_true rfl, by rw [hR]; exact Nat.le_of_ble_eq_true rfl⟩) (zPV hPc hK hDc (va_recv (q := (RX8, TX8, 7)) hK hP (ci := 8) (q0 := 8) rfl rfl)) rfl rfl hl.1 rfl (lv_room (Nat.le_of_ble_eq_true rfl)) dX6_addTeller_24 ⟨Nat.zero_le _, Nat.zero_le _⟩) hS (fun q _ h => hFc q h) hFc (fun v24 u24 t H locs ht hvm hw hB hz1 hk1 hS9 => ?_)
        obtain ⟨u24_0, u24_1⟩ := u24
        obtain ⟨hP9, hD9⟩ := zj2 (wX := [(h0, .inr (6, [.ref aC, .ref g0, .ref sd, .ref mW, .long mt, .int lf, .ref mV, .ref mA, .ref mT])), (aC, .inr (1, [.ref aR, .ref aB, .ref aP, .int nb, .int np])), (aB, .inl (cI, 24, .inl fb)), (aP, .inl (cI, 20, .inl fp)), (g0, .inr (7, [.ref gY, .ref gF, .ref gP, .int gpn, .int glt, .int gsh, .int gwd, .int gpu, .int gmo])), (gY, .inl (cI, 6, .inl gfY)), (gF, .inl (cI, 5, .inl gfF)), (gP, .inl (cI, 80, .inl gfP)), (sd, .inr (8, [.ref w1, .ref w2, .ref aC, .ref g0, .ref aL, .ref aK, .ref lw])), (aL, .inl (cI, 6, .inl u24_0)), (aK, .inl (cI, 32, .inl u24_1)), (lw, .inr (4, [.ref lS])), (lS, .inl (cI, lk, .inl fS)), (mV, .inl (cI, 10, .inl m3_A_mV)), (mT, .inl (cI, 45, .inl fT))]) hP hD hk1 hFc ht hB [8, 1, 2, 3, 4, 5, 6, 7, 9, 10, 11, 12] [(false, 0), (true, 1), (true, 2), (true, 3), (true, 4), (true, 5), (true, 6), (true, 7), (true, 0), (true, 8), (true, 9), (true, 10), (true, 11), (false, 13), (false, 14)] rfl (by decide +kernel) (by decide +kernel) rfl
        clear hP hD hS hPc hDc hFc hB hk1 hz1 hvm
        have hP := hP9
        have hD := hD9
        have hS := hS9
        clear hP9 hD9 hS9
        obtain ⟨f24_0, f24_1, f24_2⟩ : (0 ≤ v24.toInt) ∧ (v24.toInt ≤ 9) ∧ (∀ t : (Int → Int) × Int, zLwC fS lk t → zB5 m3_L_4 (fb (4 * p1.toInt.toNat + 2)) (gfY p1.toInt.toNat) (fp (4 * p0.toInt.toNat)) (gfF p0.toInt.toNat) gmo → v24 = zSh (fp (4 * p0.toInt.toNat + 3)) (zLat gfP p0 gpn.toInt.toNat) (zLkv (some t) m3_L_4 (fb (4 * p1.toInt.toNat + 2)) (gfY p1.toInt.toNat) (fp (4 * p0.toInt.toNat)) (gfF p0.toInt.toNat) gmo)) := hw
        have F24 := f24_2
        refine va_iast hx hb hK hP hD hS 13 0 rfl rfl (vp_in_iff.mpr ⟨by omega, by omega⟩) dX6_addTeller_27 (fun H locs hP9 hD9 hS9 => ?_)
        clear hP hD hS
        obtain ⟨v27_f, e27⟩ : ∃ g : Nat → Int32, g = upd m3_A_mV (m3_L_4).toNatClampNeg v24 := ⟨_, rfl⟩
        rw [← e27] at hP9 hD9
        obtain ⟨hP, hD⟩ := zst (wX := [(h0, .inr (6, [.ref aC, .ref g0, .ref sd, .ref mW, .long mt, .int lf, .ref mV, .ref mA, .ref mT])), (aC, .inr (1, [.ref aR, .ref aB, .ref aP, .int nb, .int np])), (aB, .inl (cI, 24, .inl fb)), (aP, .inl (cI, 20, .inl fp)), (g0, .inr (7, [.ref gY, .ref gF, .ref gP, .int gpn, .int glt, .int gsh, .int gwd, .int gpu, .int gmo])), (gY, .inl (cI, 6, .inl gfY)), (gF, .inl (cI, 5, .inl gfF)), (gP, .inl (cI, 80, .inl gfP)), (sd, .inr (8, [.ref w1, .ref w2, .ref aC, .ref g0, .ref aL, .ref aK, .ref lw])), (aL, .inl (cI, 6, .inl u24_0)), (aK, .inl (cI, 32, .inl u24_1)), (lw, .inr (4, [.ref lS])), (lS, .inl (cI, lk, .inl fS)), (mV, .inl (cI, 10, .inl v27_f)), (mT, .inl (cI, 45, .inl fT))]) hP9 hD9 rfl
        have hS := hS9
        clear hP9 hD9 hS9
        obtain ⟨v28, e28⟩ : ∃ y : Int32, y = m3_L_4 + Int32.ofInt (1) := ⟨_, rfl⟩
        refine lv_iinc (v := v28) (lv' := [(4, .int v28), (0, .ref h0), (1, .int p0), (2, .int p1), (3, .int p2)]) hx hb dX6_addTeller_28 hl (k := 0) rfl e28.symm (by decide) rfl (fun ls hl => ?_)
        have i28 : v28.toInt = m3_L_4.toInt + 1 := zaddI e28 (by decide) (by omega) (by omega)
        refine lv_goto (tgt := 3) hx hb dX6_addTeller_31 (by decide) ?_
        exact ih3 _ (by omega) u24_1 u24_0 v27_f v28 (by omega) (fun kc kT q_fr kt hc hb h ht hp hq hf => zBlS (B := (fun j => sShow kc kT.1 (some kt) p0 p1 (Int32.ofNat j))) (jv3_0 kc kT _ kt hc hb h ht hp hq hf) (by omega) i28 e27 (show v24 = sShow kc kT.1 (some kt) p0 p1 (Int32.ofNat m3_L_4.toInt.toNat) from by rw [← zk32 (show 0 ≤ m3_L_4.toInt by omega)]; exact sShow_l hc hb h hp hq (by omega) ht F24)) rfl H locs ls hP hD hS (lv_sub hl [0, 1, 2, 3, 4] rfl)
  refine lv_istore (lv' := [(4, .int 0), (0, .ref h0), (1, .int p0), (2, .int p1), (3, .int p2)]) hx hb dX6_addTeller_1 hl (by decide) rfl (fun ls hl => ?_)
  have zj3_m3_L_4 : (0 : Int32).toInt = 0 := by decide
  exact J3 _ fK fL fV 0 (by decide) (fun kc kT q_fr kt hc hb h ht hp hq hf => fun j hj => by exfalso; have z1 : (0 : Int32).toInt = 0 := (by decide); omega) rfl H locs ls hP hD hS (lv_sub hl [0, 1, 2, 3, 4] rfl)
set_option maxHeartbeats 4000000 in
set_option maxRecDepth 100000 in
theorem g_X6_fewestSketchers_l (l : Launch) (dC : Nat → ClassId) (dI : Nat → Nat → Nat) (cI cJ : ClassId) (h0 : Nat) (p0 : Int32) (aC : Nat) (g0 : Nat) (sd : Nat) (mW : Nat) (mt : Int64) (lf : Int32) (mV : Nat) (mA : Nat) (mT : Nat) (aR : Nat) (aB : Nat) (aP : Nat) (nb : Int32) (np : Int32) (fb : Nat → Int32) (fp : Nat → Int32) (gY : Nat) (gF : Nat) (gP : Nat) (gpn : Int32) (glt : Int32) (gsh : Int32) (gwd : Int32) (gpu : Int32) (gmo : Int32) (gfY : Nat → Int32) (gfF : Nat → Int32) (gfP : Nat → Int32) (w1 : Nat) (w2 : Nat) (aL : Nat) (aK : Nat) (lw : Nat) (fL : Nat → Int32) (fK : Nat → Int32) (lS : Nat) (fS : Nat → Int32) (lk : Nat) (fV : Nat → Int32) (fT : Nat → Int32) (sz : Nat) (n_gpn : 0 ≤ gpn.toInt ∧ gpn.toInt ≤ 20) (n_np : 0 ≤ np.toInt ∧ np.toInt ≤ 5) (n_p0 : 0 ≤ p0.toInt ∧ p0.toInt ≤ 5) (hlk : lk ≤ 241) (ci_fS_zSt : zSt fS) (ci_gfP_zPo : zPo gfP)  : Met l yX6_fewestSketchers (.code yX6_fewestSketchers cX6_fewestSketchers 7 (some .int) :: wA) ({ frames := 5, cells := 0, slots := 0, locals := 129 }) (zPW (dC, dI) [(cI, .int), (cJ, .long)] [.ref h0, .int p0] sz [(h0, .inr (6, [.ref aC, .ref g0, .ref sd, .ref mW, .long mt, .int lf, .ref mV, .ref mA, .ref mT])), (aC, .inr (1, [.ref aR, .ref aB, .ref aP, .int nb, .int np])), (aB, .inl (cI, 24, .inl fb)), (aP, .inl (cI, 20, .inl fp)), (g0, .inr (7, [.ref gY, .ref gF, .ref gP, .int gpn, .int glt, .int gsh, .int gwd, .int gpu, .int gmo])), (gY, .inl (cI, 6, .inl gfY)), (gF, .inl (cI, 5, .inl gfF)), (gP, .inl (cI, 80, .inl gfP)), (sd, .inr (8, [.ref w1, .ref w2, .ref aC, .ref g0, .ref aL, .ref aK, .ref lw])), (aL, .inl (cI, 6, .inl fL)), (aK, .inl (cI, 32, .inl fK)), (lw, .inr (4, [.ref lS])), (lS, .inl (cI, lk, .inl fS)), (mV, .inl (cI, 10, .inl fV)), (mT, .inl (cI, 45, .inl fT))] (va_A [(h0, .inr (6, [.ref aC, .ref g0, .ref sd, .ref mW, .long mt, .int lf, .ref mV, .ref mA, .ref mT])), (aC, .inr (1, [.ref aR, .ref aB, .ref aP, .int nb, .int np])), (aB, .inl (cI, 24, .inl fb)), (aP, .inl (cI, 20, .inl fp)), (g0, .inr (7, [.ref gY, .ref gF, .ref gP, .int gpn, .int glt, .int gsh, .int gwd, .int gpu, .int gmo])), (gY, .inl (cI, 6, .inl gfY)), (gF, .inl (cI, 5, .inl gfF)), (gP, .inl (cI, 80, .inl gfP)), (sd, .inr (8, [.ref w1, .ref w2, .ref aC, .ref g0, .ref aL, .ref aK, .ref lw])), (aL, .inl (cI, 6, .inl fL)), (aK, .inl (cI, 32, .inl fK)), (lw, .inr (4, [.ref lS])), (lS, .inl (cI, lk, .inl fS)), (mV, .inl (cI, 10, .inl fV)), (mT, .inl (cI, 45, .inl fT))] sz)) (va_Qi (fun (r : Int32) (u : (Nat → Int32) × (Nat → Int32) × (Nat → Int32) × (Nat → Int32)) => ((-1) ≤ r.toInt) ∧ (r.toInt ≤ 98) ∧ (∀ (kc : zK3) (kT : zT) (q_fr : Nat → Int32) (kt : (Int → Int) × Int), zCn q_fr fb fp nb.toInt np.toInt kc → zKo nb.toInt np.toInt kc kT → zSc nb.toInt np.toInt kT.1 gfY gfF gfP gpn glt gsh gwd gpu gmo → zLwC fS lk kt → (0 ≤ p0.toInt ∧ p0.toInt < nb.toInt) → r.toInt = zBst (fun s => aAp kc kT.1 (some kt) np.toInt.toNat p0 s) sBn (2 ^ np.toInt.toNat))) (fun (u : (Nat → Int32) × (Nat → Int32) × (Nat → Int32) × (Nat → Int32)) (t : State) => va_P (dC, dI) vwCl [(h0, .inr (6, [.ref aC, .ref g0, .ref sd, .ref mW, .long mt, .int lf, .ref mV, .ref mA, .ref mT])), (aC, .inr (1, [.ref aR, .ref aB, .ref aP, .int nb, .int np])), (aB, .inl (cI, 24, .inl fb)), (aP, .inl (cI, 20, .inl fp)), (g0, .inr (7, [.ref gY, .ref gF, .ref gP, .int gpn, .int glt, .int gsh, .int gwd, .int gpu, .int gmo])), (gY, .inl (cI, 6, .inl gfY)), (gF, .inl (cI, 5, .inl gfF)), (gP, .inl (cI, 80, .inl gfP)), (sd, .inr (8, [.ref w1, .ref w2, .ref aC, .ref g0, .ref aL, .ref aK, .ref lw])), (aL, .inl (cI, 6, .inl u.1)), (aK, .inl (cI, 32, .inl u.2.1)), (lw, .inr (4, [.ref lS])), (lS, .inl (cI, lk, .inl fS)), (mV, .inl (cI, 10, .inl u.2.2.1)), (mT, .inl (cI, 45, .inl u.2.2.2))] t.heap ∧ va_D (va_A [(h0, .inr (6, [.ref aC, .ref g0, .ref sd, .ref mW, .long mt, .int lf, .ref mV, .ref mA, .ref mT])), (aC, .inr (1, [.ref aR, .ref aB, .ref aP, .int nb, .int np])), (aB, .inl (cI, 24, .inl fb)), (aP, .inl (cI, 20, .inl fp)), (g0, .inr (7, [.ref gY, .ref gF, .ref gP, .int gpn, .int glt, .int gsh, .int gwd, .int gpu, .int gmo])), (gY, .inl (cI, 6, .inl gfY)), (gF, .inl (cI, 5, .inl gfF)), (gP, .inl (cI, 80, .inl gfP)), (sd, .inr (8, [.ref w1, .ref w2, .ref aC, .ref g0, .ref aL, .ref aK, .ref lw])), (aL, .inl (cI, 6, .inl fL)), (aK, .inl (cI, 32, .inl fK)), (lw, .inr (4, [.ref lS])), (lS, .inl (cI, lk, .inl fS)), (mV, .inl (cI, 10, .inl fV)), (mT, .inl (cI, 45, .inl fT))] sz) [(h0, .inr (6, [.ref aC, .ref g0, .ref sd, .ref mW, .long mt, .int lf, .ref mV, .ref mA, .ref mT])), (aC, .inr (1, [.ref aR, .ref aB, .ref aP, .int nb, .int np])), (aB, .inl (cI, 24, .inl fb)), (aP, .inl (cI, 20, .inl fp)), (g0, .inr (7, [.ref gY, .ref gF, .ref gP, .int gpn, .int glt, .int gsh, .int gwd, .int gpu, .int gmo])), (gY, .inl (cI, 6, .inl gfY)), (gF, .inl (cI, 5, .inl gfF)), (gP, .inl (cI, 80, .inl gfP)), (sd, .inr (8, [.ref w1, .ref w2, .ref aC, .ref g0, .ref aL, .ref aK, .ref lw])), (aL, .inl (cI, 6, .inl u.1)), (aK, .inl (cI, 32, .inl u.2.1)), (lw, .inr (4, [.ref lS])), (lS, .inl (cI, lk, .inl fS)), (mV, .inl (cI, 10, .inl u.2.2.1)), (mT, .inl (cI, 45, .inl u.2.2.2))]) (va_A [(h0, .inr (6, [.ref aC, .ref g0, .ref sd, .ref mW, .long mt, .int lf, .ref mV, .ref mA, .ref mT])), (aC, .inr (1, [.ref aR, .ref aB, .ref aP, .int nb, .int np])), (aB, .inl (cI, 24, .inl fb)), (aP, .inl (cI, 20, .inl fp)), (g0, .inr (7, [.ref gY, .ref gF, .ref gP, .int gpn, .int glt, .int gsh, .int gwd, .int gpu, .int gmo])), (gY, .inl (cI, 6, .inl gfY)), (gF, .inl (cI, 5, .inl gfF)), (gP, .inl (cI, 80, .inl gfP)), (sd, .inr (8, [.ref w1, .ref w2, .ref aC, .ref g0, .ref aL, .ref aK, .ref lw])), (aL, .inl (cI, 6, .inl fL)), (aK, .inl (cI, 32, .inl fK)), (lw, .inr (4, [.ref lS])), (lS, .inl (cI, lk, .inl fS)), (mV, .inl (cI, 10, .inl fV)), (mT, .inl (cI, 45, .inl fT))] sz)) 0 0 (va_A [(h0, .inr (6, [.ref aC, .ref g0, .ref sd, .ref mW, .long mt, .int lf, .ref mV, .ref mA, .ref mT])), (aC, .inr (1, [.ref aR, .ref aB, .ref aP, .int nb, .int np])), (aB, .inl (cI, 24, .inl fb)), (aP, .inl (cI, 20, .inl fp)), (g0, .inr (7, [.ref gY, .ref gF, .ref gP, .int gpn, .int glt, .int gsh, .int gwd, .int gpu, .int gmo])), (gY, .inl (cI, 6, .inl gfY)), (gF, .inl (cI, 5, .inl gfF)), (gP, .inl (cI, 80, .inl gfP)), (sd, .inr (8, [.ref w1, .ref w2, .ref aC, .ref g0, .ref aL, .ref aK, .ref lw])), (aL, .inl (cI, 6, .inl fL)), (aK, .inl (cI, 32, .inl fK)), (lw, .inr (4, [.ref lS])), (lS, .inl (cI, lk, .inl fS)), (mV, .inl (cI, 10, .inl fV)), (mT, .inl (cI, 45, .inl fT))] sz) := by
  refine Met.ofW (cc := cX6_fewestSketchers) (maxL := 7) (ret := (some .int)) (by decide) rfl ?_
  intro p e s m args below meth c s₁ B hml hv
  have y_gpn : zHid (0 ≤ gpn.toInt ∧ gpn.toInt ≤ 20) := n_gpn
  clear n_gpn
  obtain ⟨⟨hargs, hsz, hP, hK, hT⟩, hV⟩ := hv
  have hx := B.exec
  have hb := B.bytes
  have hr := B.returns
  have hts : ∀ w ∈ wA, w.before args s = true := fun w h => atoms_spec (ws := .code yX6_fewestSketchers cX6_fewestSketchers 7 (some .int) :: wA) B.pre w (List.mem_cons_of_mem _ h)
  have hown : s.vm.findClass RX6 = some m.cls := findClass_of_methodNamed B.named
  have hlocks := B.notSynchronized
  subst hsz
  have hD := hT.self (sz := s.heap.size)
  generalize hAe : va_A [(h0, .inr (6, [.ref aC, .ref g0, .ref sd, .ref mW, .long mt, .int lf, .ref mV, .ref mA, .ref mT])), (aC, .inr (1, [.ref aR, .ref aB, .ref aP, .int nb, .int np])), (aB, .inl (cI, 24, .inl fb)), (aP, .inl (cI, 20, .inl fp)), (g0, .inr (7, [.ref gY, .ref gF, .ref gP, .int gpn, .int glt, .int gsh, .int gwd, .int gpu, .int gmo])), (gY, .inl (cI, 6, .inl gfY)), (gF, .inl (cI, 5, .inl gfF)), (gP, .inl (cI, 80, .inl gfP)), (sd, .inr (8, [.ref w1, .ref w2, .ref aC, .ref g0, .ref aL, .ref aK, .ref lw])), (aL, .inl (cI, 6, .inl fL)), (aK, .inl (cI, 32, .inl fK)), (lw, .inr (4, [.ref lS])), (lS, .inl (cI, lk, .inl fS)), (mV, .inl (cI, 10, .inl fV)), (mT, .inl (cI, 45, .inl fT))] s.heap.size = A at hD hV ⊢
  have hA : ∀ q : Nat, s.heap.size ≤ q → A q := fun q h => by rw [← hAe]; exact Or.inr h
  have hl := lv_entry ([.ref h0, .int p0]) (n := 7) (Nat.le_of_ble_eq_true rfl)
  rw [show entryFrame m args 7 = entryFrame m ([.ref h0, .int p0] : List Value).toArray 7 by rw [hargs], lg_entry_eq]
  generalize (lg_sl ([.ref h0, .int p0]) ++ List.replicate (7 - (lg_sl ([.ref h0, .int p0])).length) Slot.unset).toArray = ls at hl ⊢
  have hl : lv_has ls 7 [(0, .ref h0), (1, .int p0)] := hl
  refine zstart (fun H hH => ?_)
  rw [← hH] at hP
  have hS : va_S A s.heap H [] := by rw [hH]; exact va_S.rf
  generalize ([] : List Loc) = locs at hS ⊢
  refine zgen (fun R Q hR hQ => ?_)
  refine lv_aload_n hx hb dX6_fewestSketchers_0 rfl (lv_at hl 0 rfl) ?_
  refine lv_iload_n hx hb dX6_fewestSketchers_1 rfl (lv_at hl 1 rfl) ?_
  obtain ⟨hPc, hDc⟩ := zc2 (wc := [(h0, .inr (6, [.ref aC, .ref g0, .ref sd, .ref mW, .long mt, .int lf, .ref mV, .ref mA, .ref mT])), (aC, .inr (1, [.ref aR, .ref aB, .ref aP, .int nb, .int np])), (aB, .inl (cI, 24, .inl fb)), (g0, .inr (7, [.ref gY, .ref gF, .ref gP, .int gpn, .int glt, .int gsh, .int gwd, .int gpu, .int gmo]))]) hP hD [0, 1, 2, 4] (by decide +kernel) rfl
  have hFc := zfr hS hA
  refine va_calli (va_runV (As := [.int p0]) (rest := []) ⟨hx, hb, hml, hown, hts⟩ (g_X6_fitting l dC dI cI cJ h0 p0 aC g0 sd mW mt lf mV mA mT aR aB aP nb np fb gY gF gP gpn glt gsh gwd gpu gmo H.size n_p0) (cwV 1 hts (zgV qw833 qw820 qw821 qw106 qw822) rfl rfl rfl hd_X6_fitting ⟨by rw [hR]; exact Nat.le_of_ble_eq_true rfl, by rw [hR]; exact Nat.le_of_ble_eq_true rfl⟩) (zPWV hPc hK hDc (va_recv (q := (RX6, TX6, 9)) hK hP (ci := 6) (q0 := 0) rfl rfl) (zV_call hV hS hFc)) rfl rfl hl.1 rfl (lv_room (Nat.le_of_ble_eq_true rfl)) dX6_fewestSketchers_2 ⟨Nat.zero_le _, Nat.zero_le _⟩) hS (fun q _ h => hFc q h) hFc (fun v2 u2 t H locs ht hvm hw hB hz1 hk1 hS9 => ?_)
  replace hP := zkeep hP hk1
  replace hS := hS9
  clear hPc hDc hFc hk1 hz1 hvm hS9
  obtain ⟨f2_0, f2_1, f2_2⟩ : (10 ≤ v2.toInt) ∧ (v2.toInt ≤ 1023) ∧ (v2 = zFit (cBt glt p0) (cBt gsh p0) (fb (4 * p0.toInt.toNat))) := hw
  have F2 := f2_2
  refine lv_istore_n (lv' := [(2, .int v2), (0, .ref h0), (1, .int p0)]) hx hb dX6_fewestSketchers_5 rfl hl (by decide) rfl (fun ls hl => ?_)
  refine lv_aload_n hx hb dX6_fewestSketchers_6 rfl (lv_at hl 1 rfl) ?_
  refine va_get (D := (dC, dI)) (ci := 6) (v := .ref mT) (C := RX6) (T := TX6) (N := 9) hx hb hts iX6 hown hK hP 0 rfl rfl 8 (by decide) (hts _ qw325) (fun _ h9 => h9) rfl dX6_fewestSketchers_7 ?_
  refine lv_iconst (v := 0) hx hb dX6_fewestSketchers_10 (by decide) ?_
  obtain ⟨hPc, hDc, hFc⟩ := zc3 (wc := [(mT, .inl (cI, 45, .inl fT))]) hP hD hS hA [14] (by decide +kernel) rfl
  refine va_callv (va_runS (As := [.ref mT, .int 0]) (rest := []) ⟨hx, hb, hml, hown, hts⟩ (g_J7_fill_53178_45 l dC dI cI cJ mT 0 fT H.size) (va_cwS 2 hts (zgSW qw877 qw878 qw111 qw879) rfl rfl rfl (hd_J7_fill_53178).2 ⟨by rw [hR]; exact Nat.le_of_ble_eq_true rfl, by rw [hR]; exact Nat.le_of_ble_eq_true rfl⟩) (zPS hPc hK hDc) rfl rfl hl.1 rfl (lv_room (Nat.le_of_ble_eq_true rfl)) dX6_fewestSketchers_11 ⟨Nat.zero_le _, Nat.zero_le _⟩) hS (fun q _ h => hFc q h) hFc (fun u11 t H locs ht hvm hw hB hz1 hk1 hS9 => ?_)
  obtain ⟨u11_0, rfl⟩ : ∃ z, z = u11 := ⟨_, rfl⟩
  obtain ⟨hP9, hD9⟩ := zj2 (wX := [(h0, .inr (6, [.ref aC, .ref g0, .ref sd, .ref mW, .long mt, .int lf, .ref mV, .ref mA, .ref mT])), (aC, .inr (1, [.ref aR, .ref aB, .ref aP, .int nb, .int np])), (aB, .inl (cI, 24, .inl fb)), (aP, .inl (cI, 20, .inl fp)), (g0, .inr (7, [.ref gY, .ref gF, .ref gP, .int gpn, .int glt, .int gsh, .int gwd, .int gpu, .int gmo])), (gY, .inl (cI, 6, .inl gfY)), (gF, .inl (cI, 5, .inl gfF)), (gP, .inl (cI, 80, .inl gfP)), (sd, .inr (8, [.ref w1, .ref w2, .ref aC, .ref g0, .ref aL, .ref aK, .ref lw])), (aL, .inl (cI, 6, .inl fL)), (aK, .inl (cI, 32, .inl fK)), (lw, .inr (4, [.ref lS])), (lS, .inl (cI, lk, .inl fS)), (mV, .inl (cI, 10, .inl fV)), (mT, .inl (cI, 45, .inl u11_0))]) hP hD hk1 hFc ht hB [14] [(false, 0), (false, 1), (false, 2), (false, 3), (false, 4), (false, 5), (false, 6), (false, 7), (false, 8), (false, 9), (false, 10), (false, 11), (false, 12), (false, 13), (true, 0)] rfl (by decide +kernel) (by decide +kernel) rfl
  clear hP hD hS hPc hDc hFc hB hk1 hz1 hvm
  have hP := hP9
  have hD := hD9
  have hS := hS9
  clear hP9 hD9 hS9
  have f11_0 : (∀ j : Nat, j < 45 → u11_0 j = 0) := hw
  have F11 := f11_0
  refine lv_iconst (v := 0) hx hb dX6_fewestSketchers_14 (by decide) ?_
  refine lv_istore_n (lv' := [(3, .int 0), (2, .int v2), (0, .ref h0), (1, .int p0)]) hx hb dX6_fewestSketchers_15 rfl hl (by decide) rfl (fun ls hl => ?_)
  refine lv_iconst (v := 0) hx hb dX6_fewestSketchers_16 (by decide) ?_
  have J19 : ∀ (n : Nat) (m19_A_aK : Nat → Int32) (m19_A_aL : Nat → Int32) (m19_A_mT : Nat → Int32) (m19_A_mV : Nat → Int32) (m19_L_3 : Int32) (m19_L_4 : Int32), (0 ≤ m19_L_3.toInt ∧ m19_L_3.toInt ≤ 45) → (0 ≤ m19_L_4.toInt ∧ m19_L_4.toInt ≤ 5) → (∀ (kc : zK3) (kT : zT) (q_fr : Nat → Int32) (kt : (Int → Int) × Int), zCn q_fr fb fp nb.toInt np.toInt kc → zKo nb.toInt np.toInt kc kT → zSc nb.toInt np.toInt kT.1 gfY gfF gfP gpn glt gsh gwd gpu gmo → zLwC fS lk kt → (0 ≤ p0.toInt ∧ p0.toInt < nb.toInt) → zFw kc kT.1 (some kt) p0 m19_A_mT m19_L_4.toInt.toNat ∧ zFp kc kT.1 p0 m19_L_3 m19_L_4.toInt.toNat) → (m19_L_4.toInt ≤ np.toInt) → (6 - m19_L_4.toInt).toNat = n → ∀ (H : Heap) (locs : List Loc) (ls : Array Slot), va_P (dC, dI) vwCl [(h0, .inr (6, [.ref aC, .ref g0, .ref sd, .ref mW, .long mt, .int lf, .ref mV, .ref mA, .ref mT])), (aC, .inr (1, [.ref aR, .ref aB, .ref aP, .int nb, .int np])), (aB, .inl (cI, 24, .inl fb)), (aP, .inl (cI, 20, .inl fp)), (g0, .inr (7, [.ref gY, .ref gF, .ref gP, .int gpn, .int glt, .int gsh, .int gwd, .int gpu, .int gmo])), (gY, .inl (cI, 6, .inl gfY)), (gF, .inl (cI, 5, .inl gfF)), (gP, .inl (cI, 80, .inl gfP)), (sd, .inr (8, [.ref w1, .ref w2, .ref aC, .ref g0, .ref aL, .ref aK, .ref lw])), (aL, .inl (cI, 6, .inl m19_A_aL)), (aK, .inl (cI, 32, .inl m19_A_aK)), (lw, .inr (4, [.ref lS])), (lS, .inl (cI, lk, .inl fS)), (mV, .inl (cI, 10, .inl m19_A_mV)), (mT, .inl (cI, 45, .inl m19_A_mT))] H → va_D A [(h0, .inr (6, [.ref aC, .ref g0, .ref sd, .ref mW, .long mt, .int lf, .ref mV, .ref mA, .ref mT])), (aC, .inr (1, [.ref aR, .ref aB, .ref aP, .int nb, .int np])), (aB, .inl (cI, 24, .inl fb)), (aP, .inl (cI, 20, .inl fp)), (g0, .inr (7, [.ref gY, .ref gF, .ref gP, .int gpn, .int glt, .int gsh, .int gwd, .int gpu, .int gmo])), (gY, .inl (cI, 6, .inl gfY)), (gF, .inl (cI, 5, .inl gfF)), (gP, .inl (cI, 80, .inl gfP)), (sd, .inr (8, [.ref w1, .ref w2, .ref aC, .ref g0, .ref aL, .ref aK, .ref lw])), (aL, .inl (cI, 6, .inl m19_A_aL)), (aK, .inl (cI, 32, .inl m19_A_aK)), (lw, .inr (4, [.ref lS])), (lS, .inl (cI, lk, .inl fS)), (mV, .inl (cI, 10, .inl m19_A_mV)), (mT, .inl (cI, 45, .inl m19_A_mT))] → va_S A s.heap H locs → lv_has ls 7 [(4, .int m19_L_4), (3, .int m19_L_3), (2, .int v2), (0, .ref h0), (1, .int p0)] → W p l e R s m args below meth c H locs 0 0 Q (F0 m 19 ls []) := by
    intro n19
    induction n19 using Nat.strongRecOn with
    | _ n19 ih19 =>
      intro m19_A_aK m19_A_aL m19_A_mT m19_A_mV m19_L_3 m19_L_4 jf19_0 jf19_1 jv19_0 jf19_3 hmu19 H locs ls hP hD hS hl
      refine lv_iload hx hb dX6_fewestSketchers_19 (lv_at hl 0 rfl) ?_
      refine lv_aload_n hx hb dX6_fewestSketchers_21 rfl (lv_at hl 3 rfl) ?_
      refine va_get (D := (dC, dI)) (ci := 6) (v := .ref aC) (C := RX6) (T := TX6) (N := 9) hx hb hts iX6 hown hK hP 0 rfl rfl 0 (by decide) (hts _ qw316) (fun _ h9 => h9) rfl dX6_fewestSketchers_22 ?_
      refine va_get (D := (dC, dI)) (ci := 1) (v := .int np) (C := RX1) (T := TX1) (N := 5) hx hb hts iX1 hown hK hP 1 rfl rfl 4 (by decide) (hts _ qw199) (fun _ h9 => h9) rfl dX6_fewestSketchers_25 ?_
      refine lv_icmp_ge (tgt := 55) hx hb dX6_fewestSketchers_28 (by decide) (fun c28 => ?_) (fun c28 => ?_)
      · have c28 : np.toInt ≤ m19_L_4.toInt := z3 rfl rfl c28
        refine lv_iload_n hx hb dX6_fewestSketchers_55 rfl (lv_at hl 1 rfl) ?_
        refine lv_if_ne (tgt := 61) hx hb dX6_fewestSketchers_56 (by decide) (fun c56 => ?_) (fun c56 => ?_)
        · have c56 : ¬ m19_L_3.toInt = 0 := z6 rfl (by decide) c56
          have q61 := pw2_1 (n := np.toInt.toNat)
          refine lv_iconst (v := (-1)) hx hb dX6_fewestSketchers_61 (by decide) ?_
          refine lv_istore (lv' := [(4, .int (-1)), (3, .int m19_L_3), (2, .int v2), (0, .ref h0), (1, .int p0)]) hx hb dX6_fewestSketchers_62 hl (by decide) rfl (fun ls hl => ?_)
          refine lv_iconst (v := 0) hx hb dX6_fewestSketchers_64 (by decide) ?_
          have J67 : ∀ (n : Nat) (m67_L_4 : Int32) (m67_L_5 : Int32), ((-1) ≤ m67_L_4.toInt ∧ m67_L_4.toInt ≤ 98) → (0 ≤ m67_L_5.toInt ∧ m67_L_5.toInt ≤ 98) → (∀ (kc : zK3) (kT : zT) (q_fr : Nat → Int32) (kt : (Int → Int) × Int), zCn q_fr fb fp nb.toInt np.toInt kc → zKo nb.toInt np.toInt kc kT → zSc nb.toInt np.toInt kT.1 gfY gfF gfP gpn glt gsh gwd gpu gmo → zLwC fS lk kt → (0 ≤ p0.toInt ∧ p0.toInt < nb.toInt) → m67_L_4.toInt = zBst (fun s => aAp kc kT.1 (some kt) np.toInt.toNat p0 s) sBn m67_L_5.toInt.toNat) → (m67_L_5.toInt ≤ pw2 np.toInt.toNat) → (99 - m67_L_5.toInt).toNat = n → ∀ (H : Heap) (locs : List Loc) (ls : Array Slot), va_P (dC, dI) vwCl [(h0, .inr (6, [.ref aC, .ref g0, .ref sd, .ref mW, .long mt, .int lf, .ref mV, .ref mA, .ref mT])), (aC, .inr (1, [.ref aR, .ref aB, .ref aP, .int nb, .int np])), (aB, .inl (cI, 24, .inl fb)), (aP, .inl (cI, 20, .inl fp)), (g0, .inr (7, [.ref gY, .ref gF, .ref gP, .int gpn, .int glt, .int gsh, .int gwd, .int gpu, .int gmo])), (gY, .inl (cI, 6, .inl gfY)), (gF, .inl (cI, 5, .inl gfF)), (gP, .inl (cI, 80, .inl gfP)), (sd, .inr (8, [.ref w1, .ref w2, .ref aC, .ref g0, .ref aL, .ref aK, .ref lw])), (aL, .inl (cI, 6, .inl m19_A_aL)), (aK, .inl (cI, 32, .inl m19_A_aK)), (lw, .inr (4, [.ref lS])), (lS, .inl (cI, lk, .inl fS)), (mV, .inl (cI, 10, .inl m19_A_mV)), (mT, .inl (cI, 45, .inl m19_A_mT))] H → va_D A [(h0, .inr (6, [.ref aC, .ref g0, .ref sd, .ref mW, .long mt, .int lf, .ref mV, .ref mA, .ref mT])), (aC, .inr (1, [.ref aR, .ref aB, .ref aP, .int nb, .int np])), (aB, .inl (cI, 24, .inl fb)), (aP, .inl (cI, 20, .inl fp)), (g0, .inr (7, [.ref gY, .ref gF, .ref gP, .int gpn, .int glt, .int gsh, .int gwd, .int gpu, .int gmo])), (gY, .inl (cI, 6, .inl gfY)), (gF, .inl (cI, 5, .inl gfF)), (gP, .inl (cI, 80, .inl gfP)), (sd, .inr (8, [.ref w1, .ref w2, .ref aC, .ref g0, .ref aL, .ref aK, .ref lw])), (aL, .inl (cI, 6, .inl m19_A_aL)), (aK, .inl (cI, 32, .inl m19_A_aK)), (lw, .inr (4, [.ref lS])), (lS, .inl (cI, lk, .inl fS)), (mV, .inl (cI, 10, .inl m19_A_mV)), (mT, .inl (cI, 45, .inl m19_A_mT))] → va_S A s.heap H locs → lv_has ls 7 [(5, .int m67_L_5), (4, .int m67_L_4), (3, .int m19_L_3), (2, .int v2), (0, .ref h0), (1, .int p0)] → W p l e R s m args below meth c H locs 0 0 Q (F0 m 67 ls []) := by
            intro n67
            induction n67 using Nat.strongRecOn with
            | _ n67 ih67 =>
              intro m67_L_4 m67_L_5 jf67_0 jf67_1 jv67_0 jf67_3 hmu67 H locs ls hP hD hS hl
              refine lv_iload hx hb dX6_fewestSketchers_67 (lv_at hl 0 rfl) ?_
              refine lv_iconst (v := 1) hx hb dX6_fewestSketchers_69 (by decide) ?_
              refine lv_aload_n hx hb dX6_fewestSketchers_70 rfl (lv_at hl 4 rfl) ?_
              refine va_get (D := (dC, dI)) (ci := 6) (v := .ref aC) (C := RX6) (T := TX6) (N := 9) hx hb hts iX6 hown hK hP 0 rfl rfl 0 (by decide) (hts _ qw316) (fun _ h9 => h9) rfl dX6_fewestSketchers_71 ?_
              refine va_get (D := (dC, dI)) (ci := 1) (v := .int np) (C := RX1) (T := TX1) (N := 5) hx hb hts iX1 hown hK hP 1 rfl rfl 4 (by decide) (hts _ qw199) (fun _ h9 => h9) rfl dX6_fewestSketchers_74 ?_
              refine lv_ishl hx hb dX6_fewestSketchers_77 ?_
              refine lv_topi (fun v77 e77 => ?_)
              have i77 : v77.toInt = pw2 np.toInt.toNat ∧ 1 ≤ v77.toInt ∧ v77.toInt ≤ 64 := zpw e77 (by omega) (by omega)
              refine lv_icmp_ge (tgt := 132) hx hb dX6_fewestSketchers_78 (by decide) (fun c78 => ?_) (fun c78 => ?_)
              · have c78 : v77.toInt ≤ m67_L_5.toInt := z3 rfl rfl c78
                refine lv_iload hx hb dX6_fewestSketchers_132 (lv_at hl 1 rfl) ?_
                rw [hQ]
                exact W.iret (v := m67_L_4) hx hb hr (fun t ht hW => ⟨⟨m67_L_4, (m19_A_aL, m19_A_aK, m19_A_mV, m19_A_mT), rfl, ⟨by (try dsimp only); omega, by (try dsimp only); omega, fun kc kT q_fr kt hc hb h ht hq => by have JJ := (jv67_0 kc kT _ kt hc hb h ht hq); rw [show m67_L_5.toInt.toNat = 2 ^ np.toInt.toNat by unfold pw2 at i77 jf67_3; omega] at JJ; exact JJ⟩, ⟨by rw [ht]; exact hP, hD⟩⟩, hS.F ht⟩) hS.2.2 dX6_fewestSketchers_134
              · have c78 : m67_L_5.toInt < v77.toInt := z4 rfl rfl c78
                refine lv_iload hx hb dX6_fewestSketchers_81 (lv_at hl 1 rfl) ?_
                refine lv_iconst (v := (-1)) hx hb dX6_fewestSketchers_83 (by decide) ?_
                refine lv_icmp_eq (tgt := 100) hx hb dX6_fewestSketchers_84 (by decide) (fun c84 => ?_) (fun c84 => ?_)
                · have c84 : m67_L_4.toInt = (-1) := z5 rfl (by decide) c84
                  refine lv_iconst (v := 1) hx hb dX6_fewestSketchers_100 (by decide) ?_
                  refine lv_goto (tgt := 105) hx hb dX6_fewestSketchers_101 (by decide) ?_
                  refine lv_istore (lv' := [(6, .int 1), (5, .int m67_L_5), (4, .int m67_L_4), (3, .int m19_L_3), (2, .int v2), (0, .ref h0), (1, .int p0)]) hx hb dX6_fewestSketchers_105 hl (by decide) rfl (fun ls hl => ?_)
                  refine lv_iload hx hb dX6_fewestSketchers_107 (lv_at hl 0 rfl) ?_
                  refine lv_if_eq (tgt := 126) hx hb dX6_fewestSketchers_109 (by decide) (fun c => absurd c (by decide)) (fun _ => ?_)
                  refine lv_aload_n hx hb dX6_fewestSketchers_112 rfl (lv_at hl 5 rfl) ?_
                  refine lv_iload hx hb dX6_fewestSketchers_113 (lv_at hl 1 rfl) ?_
                  refine lv_iload_n hx hb dX6_fewestSketchers_115 rfl (lv_at hl 3 rfl) ?_
                  obtain ⟨hPc, hDc⟩ := zc2 (wc := [(h0, .inr (6, [.ref aC, .ref g0, .ref sd, .ref mW, .long mt, .int lf, .ref mV, .ref mA, .ref mT])), (mT, .inl (cI, 45, .inl m19_A_mT))]) hP hD [0, 14] (by decide +kernel) rfl
                  have hFc := zfr hS hA
                  refine va_calli (va_runV (As := [.int m67_L_5, .int m19_L_3]) (rest := []) ⟨hx, hb, hml, hown, hts⟩ (g_X6_tellsAll l dC dI cI cJ h0 m67_L_5 m19_L_3 aC g0 sd mW mt lf mV mA mT m19_A_mT H.size jf19_0) (cwV 2 hts (zgV qw898 qw900 qw23 qw106 qw901) rfl rfl rfl hd_X6_tellsAll ⟨by rw [hR]; exact Nat.le_of_ble_eq_true rfl, by rw [hR]; exact Nat.le_of_ble_eq_true rfl⟩) (zPV hPc hK hDc (va_recv (q := (RX6, TX6, 9)) hK hP (ci := 6) (q0 := 0) rfl rfl)) rfl rfl hl.1 rfl (lv_room (Nat.le_of_ble_eq_true rfl)) dX6_fewestSketchers_116 ⟨Nat.zero_le _, Nat.zero_le _⟩) hS (fun q _ h => hFc q h) hFc (fun v116 u116 t H locs ht hvm hw hB hz1 hk1 hS9 => ?_)
                  replace hP := zkeep hP hk1
                  replace hS := hS9
                  clear hPc hDc hFc hk1 hz1 hvm hS9
                  obtain ⟨f116_0, f116_1, f116_2⟩ : (0 ≤ v116.toInt) ∧ (v116.toInt ≤ 1) ∧ ((v116.toInt = 1 ∧ ∀ j : Nat, (j : Int) < m19_L_3.toInt → ¬ (m19_A_mT j &&& m67_L_5).toInt = 0) ∨ (v116.toInt = 0 ∧ ∃ j : Nat, (j : Int) < m19_L_3.toInt ∧ (m19_A_mT j &&& m67_L_5).toInt = 0)) := hw
                  have F116 := f116_2
                  refine lv_if_eq (tgt := 126) hx hb dX6_fewestSketchers_119 (by decide) (fun c119 => ?_) (fun c119 => ?_)
                  · have c119 : v116.toInt = 0 := z5 rfl (by decide) c119
                    obtain ⟨v126, e126⟩ : ∃ y : Int32, y = m67_L_5 + Int32.ofInt (1) := ⟨_, rfl⟩
                    refine lv_iinc (v := v126) (lv' := [(5, .int v126), (6, .int 1), (4, .int m67_L_4), (3, .int m19_L_3), (2, .int v2), (0, .ref h0), (1, .int p0)]) hx hb dX6_fewestSketchers_126 hl (k := 1) rfl e126.symm (by decide) rfl (fun ls hl => ?_)
                    have i126 : v126.toInt = m67_L_5.toInt + 1 := zaddI e126 (by decide) (by omega) (by omega)
                    refine lv_goto (tgt := 67) hx hb dX6_fewestSketchers_129 (by decide) ?_
                    exact ih67 _ (by omega) m67_L_4 v126 jf67_0 (by omega) (fun kc kT q_fr kt hc hb h ht hq => by have JJ := (jv67_0 kc kT _ kt hc hb h ht hq); first | (have w := zFwT (s := m67_L_5) (np := np.toInt.toNat) (jv19_0 kc kT _ kt hc hb h ht hq).1 (by omega) (by omega) (by have y := pw2_5 (n := np.toInt.toNat) (by omega); omega) (zFp_n (jv19_0 kc kT _ kt hc hb h ht hq).2 (by omega)) F116; first | (rcases w with w | w; rotate_left; (exfalso; omega); first | exact zBstY JJ (by omega) i126 (Or.inl (by omega)) w.2 | (have b89 := sBn_e F89 (by omega); have b94 := sBn_e F94 (by omega); exact zBstY JJ (by omega) i126 (Or.inr (by omega)) w.2)) | (rcases w with w | w; (exfalso; omega); exact zBstN JJ (by omega) i126 (Or.inr w.2))) | (have b89 := sBn_e F89 (by omega); have b94 := sBn_e F94 (by omega); exact zBstN JJ (by omega) i126 (Or.inl (by omega)))) (by omega) rfl H locs ls hP hD hS (lv_sub hl [0, 2, 3, 4, 5, 6] rfl)
                  · have c119 : ¬ v116.toInt = 0 := z6 rfl (by decide) c119
                    refine lv_iload hx hb dX6_fewestSketchers_122 (lv_at hl 1 rfl) ?_
                    refine lv_istore (lv' := [(4, .int m67_L_5), (6, .int 1), (5, .int m67_L_5), (3, .int m19_L_3), (2, .int v2), (0, .ref h0), (1, .int p0)]) hx hb dX6_fewestSketchers_124 hl (by decide) rfl (fun ls hl => ?_)
                    obtain ⟨v126, e126⟩ : ∃ y : Int32, y = m67_L_5 + Int32.ofInt (1) := ⟨_, rfl⟩
                    refine lv_iinc (v := v126) (lv' := [(5, .int v126), (4, .int m67_L_5), (6, .int 1), (3, .int m19_L_3), (2, .int v2), (0, .ref h0), (1, .int p0)]) hx hb dX6_fewestSketchers_126 hl (k := 2) rfl e126.symm (by decide) rfl (fun ls hl => ?_)
                    have i126 : v126.toInt = m67_L_5.toInt + 1 := zaddI e126 (by decide) (by omega) (by omega)
                    refine lv_goto (tgt := 67) hx hb dX6_fewestSketchers_129 (by decide) ?_
                    exact ih67 _ (by omega) m67_L_5 v126 (by omega) (by omega) (fun kc kT q_fr kt hc hb h ht hq => by have JJ := (jv67_0 kc kT _ kt hc hb h ht hq); first | (have w := zFwT (s := m67_L_5) (np := np.toInt.toNat) (jv19_0 kc kT _ kt hc hb h ht hq).1 (by omega) (by omega) (by have y := pw2_5 (n := np.toInt.toNat) (by omega); omega) (zFp_n (jv19_0 kc kT _ kt hc hb h ht hq).2 (by omega)) F116; first | (rcases w with w | w; rotate_left; (exfalso; omega); first | exact zBstY JJ (by omega) i126 (Or.inl (by omega)) w.2 | (have b89 := sBn_e F89 (by omega); have b94 := sBn_e F94 (by omega); exact zBstY JJ (by omega) i126 (Or.inr (by omega)) w.2)) | (rcases w with w | w; (exfalso; omega); exact zBstN JJ (by omega) i126 (Or.inr w.2))) | (have b89 := sBn_e F89 (by omega); have b94 := sBn_e F94 (by omega); exact zBstN JJ (by omega) i126 (Or.inl (by omega)))) (by omega) rfl H locs ls hP hD hS (lv_sub hl [0, 1, 3, 4, 5, 6] rfl)
                · have c84 : ¬ m67_L_4.toInt = (-1) := z6 rfl (by decide) c84
                  refine lv_iload hx hb dX6_fewestSketchers_87 (lv_at hl 0 rfl) ?_
                  have hPc : va_P (dC, dI) vwCl [] H := zP0
                  have hDc : va_D (fun _ => True) [] := zD0
                  have hFc := zfr hS hA
                  refine va_calli (va_runS (As := [.int m67_L_5]) (rest := []) ⟨hx, hb, hml, hown, hts⟩ (g_J6_bitCount_0f7a4 l dC dI cI cJ m67_L_5 H.size) (va_cwS 1 hts (zgSW qw892 qw893 qw117 qw894) rfl rfl rfl (hd_J6_bitCount_0f7a4).2 ⟨by rw [hR]; exact Nat.le_of_ble_eq_true rfl, by rw [hR]; exact Nat.le_of_ble_eq_true rfl⟩) (zPS hPc hK hDc) rfl rfl hl.1 rfl (lv_room (Nat.le_of_ble_eq_true rfl)) dX6_fewestSketchers_89 ⟨Nat.zero_le _, Nat.zero_le _⟩) hS (fun q _ h => hFc q h) hFc (fun v89 u89 t H locs ht hvm hw hB hz1 hk1 hS9 => ?_)
                  replace hP := zkeep hP hk1
                  replace hS := hS9
                  clear hPc hDc hFc hk1 hz1 hvm hS9
                  obtain ⟨f89_0, f89_1, f89_2⟩ : (0 ≤ v89.toInt) ∧ (v89.toInt ≤ 63) ∧ (v89 = sBc m67_L_5) := hw
                  have F89 := f89_2
                  refine lv_iload hx hb dX6_fewestSketchers_92 (lv_at hl 1 rfl) ?_
                  have hPc : va_P (dC, dI) vwCl [] H := zP0
                  have hDc : va_D (fun _ => True) [] := zD0
                  have hFc := zfr hS hA
                  refine va_calli (va_runS (As := [.int m67_L_4]) (rest := [.int v89]) ⟨hx, hb, hml, hown, hts⟩ (g_J6_bitCount_0f7a4 l dC dI cI cJ m67_L_4 H.size) (va_cwS 1 hts (zgSW qw892 qw893 qw117 qw894) rfl rfl rfl (hd_J6_bitCount_0f7a4).2 ⟨by rw [hR]; exact Nat.le_of_ble_eq_true rfl, by rw [hR]; exact Nat.le_of_ble_eq_true rfl⟩) (zPS hPc hK hDc) rfl rfl hl.1 rfl (lv_room (Nat.le_of_ble_eq_true rfl)) dX6_fewestSketchers_94 ⟨Nat.zero_le _, Nat.zero_le _⟩) hS (fun q _ h => hFc q h) hFc (fun v94 u94 t H locs ht hvm hw hB hz1 hk1 hS9 => ?_)
                  replace hP := zkeep hP hk1
                  replace hS := hS9
                  clear hPc hDc hFc hk1 hz1 hvm hS9
                  obtain ⟨f94_0, f94_1, f94_2⟩ : (0 ≤ v94.toInt) ∧ (v94.toInt ≤ 63) ∧ (v94 = sBc m67_L_4) := hw
                  have F94 := f94_2
                  refine lv_icmp_ge (tgt := 104) hx hb dX6_fewestSketchers_97 (by decide) (fun c97 => ?_) (fun c97 => ?_)
                  · have c97 : v94.toInt ≤ v89.toInt := z3 rfl rfl c97
                    refine lv_iconst (v := 0) hx hb dX6_fewestSketchers_104 (by decide) ?_
                    refine lv_istore (lv' := [(6, .int 0), (5, .int m67_L_5), (4, .int m67_L_4), (3, .int m19_L_3), (2, .int v2), (0, .ref h0), (1, .int p0)]) hx hb dX6_fewestSketchers_105 hl (by decide) rfl (fun ls hl => ?_)
                    refine lv_iload hx hb dX6_fewestSketchers_107 (lv_at hl 0 rfl) ?_
                    refine lv_if_eq (tgt := 126) hx hb dX6_fewestSketchers_109 (by decide) (fun _ => ?_) (fun c => absurd (by decide) c)
                    obtain ⟨v126, e126⟩ : ∃ y : Int32, y = m67_L_5 + Int32.ofInt (1) := ⟨_, rfl⟩
                    refine lv_iinc (v := v126) (lv' := [(5, .int v126), (6, .int 0), (4, .int m67_L_4), (3, .int m19_L_3), (2, .int v2), (0, .ref h0), (1, .int p0)]) hx hb dX6_fewestSketchers_126 hl (k := 1) rfl e126.symm (by decide) rfl (fun ls hl => ?_)
                    have i126 : v126.toInt = m67_L_5.toInt + 1 := zaddI e126 (by decide) (by omega) (by omega)
                    refine lv_goto (tgt := 67) hx hb dX6_fewestSketchers_129 (by decide) ?_
                    exact ih67 _ (by omega) m67_L_4 v126 jf67_0 (by omega) (fun kc kT q_fr kt hc hb h ht hq => by have JJ := (jv67_0 kc kT _ kt hc hb h ht hq); first | (have w := zFwT (s := m67_L_5) (np := np.toInt.toNat) (jv19_0 kc kT _ kt hc hb h ht hq).1 (by omega) (by omega) (by have y := pw2_5 (n := np.toInt.toNat) (by omega); omega) (zFp_n (jv19_0 kc kT _ kt hc hb h ht hq).2 (by omega)) F116; first | (rcases w with w | w; rotate_left; (exfalso; omega); first | exact zBstY JJ (by omega) i126 (Or.inl (by omega)) w.2 | (have b89 := sBn_e F89 (by omega); have b94 := sBn_e F94 (by omega); exact zBstY JJ (by omega) i126 (Or.inr (by omega)) w.2)) | (rcases w with w | w; (exfalso; omega); exact zBstN JJ (by omega) i126 (Or.inr w.2))) | (have b89 := sBn_e F89 (by omega); have b94 := sBn_e F94 (by omega); exact zBstN JJ (by omega) i126 (Or.inl (by omega)))) (by omega) rfl H locs ls hP hD hS (lv_sub hl [0, 2, 3, 4, 5, 6] rfl)
                  · have c97 : v89.toInt < v94.toInt := z4 rfl rfl c97
                    refine lv_iconst (v := 1) hx hb dX6_fewestSketchers_100 (by decide) ?_
                    refine lv_goto (tgt := 105) hx hb dX6_fewestSketchers_101 (by decide) ?_
                    refine lv_istore (lv' := [(6, .int 1), (5, .int m67_L_5), (4, .int m67_L_4), (3, .int m19_L_3), (2, .int v2), (0, .ref h0), (1, .int p0)]) hx hb dX6_fewestSketchers_105 hl (by decide) rfl (fun ls hl => ?_)
                    refine lv_iload hx hb dX6_fewestSketchers_107 (lv_at hl 0 rfl) ?_
                    refine lv_if_eq (tgt := 126) hx hb dX6_fewestSketchers_109 (by decide) (fun c => absurd c (by decide)) (fun _ => ?_)
                    refine lv_aload_n hx hb dX6_fewestSketchers_112 rfl (lv_at hl 5 rfl) ?_
                    refine lv_iload hx hb dX6_fewestSketchers_113 (lv_at hl 1 rfl) ?_
                    refine lv_iload_n hx hb dX6_fewestSketchers_115 rfl (lv_at hl 3 rfl) ?_
                    obtain ⟨hPc, hDc⟩ := zc2 (wc := [(h0, .inr (6, [.ref aC, .ref g0, .ref sd, .ref mW, .long mt, .int lf, .ref mV, .ref mA, .ref mT])), (mT, .inl (cI, 45, .inl m19_A_mT))]) hP hD [0, 14] (by decide +kernel) rfl
                    have hFc := zfr hS hA
                    refine va_calli (va_runV (As := [.int m67_L_5, .int m19_L_3]) (rest := []) ⟨hx, hb, hml, hown, hts⟩ (g_X6_tellsAll l dC dI cI cJ h0 m67_L_5 m19_L_3 aC g0 sd mW mt lf mV mA mT m19_A_mT H.size jf19_0) (cwV 2 hts (zgV qw898 qw900 qw23 qw106 qw901) rfl rfl rfl hd_X6_tellsAll ⟨by rw [hR]; exact Nat.le_of_ble_eq_true rfl, by rw [hR]; exact Nat.le_of_ble_eq_true rfl⟩) (zPV hPc hK hDc (va_recv (q := (RX6, TX6, 9)) hK hP (ci := 6) (q0 := 0) rfl rfl)) rfl rfl hl.1 rfl (lv_room (Nat.le_of_ble_eq_true rfl)) dX6_fewestSketchers_116 ⟨Nat.zero_le _, Nat.zero_le _⟩) hS (fun q _ h => hFc q h) hFc (fun v116 u116 t H locs ht hvm hw hB hz1 hk1 hS9 => ?_)
                    replace hP := zkeep hP hk1
                    replace hS := hS9
                    clear hPc hDc hFc hk1 hz1 hvm hS9
                    obtain ⟨f116_0, f116_1, f116_2⟩ : (0 ≤ v116.toInt) ∧ (v116.toInt ≤ 1) ∧ ((v116.toInt = 1 ∧ ∀ j : Nat, (j : Int) < m19_L_3.toInt → ¬ (m19_A_mT j &&& m67_L_5).toInt = 0) ∨ (v116.toInt = 0 ∧ ∃ j : Nat, (j : Int) < m19_L_3.toInt ∧ (m19_A_mT j &&& m67_L_5).toInt = 0)) := hw
                    have F116 := f116_2
                    refine lv_if_eq (tgt := 126) hx hb dX6_fewestSketchers_119 (by decide) (fun c119 => ?_) (fun c119 => ?_)
                    · have c119 : v116.toInt = 0 := z5 rfl (by decide) c119
                      obtain ⟨v126, e126⟩ : ∃ y : Int32, y = m67_L_5 + Int32.ofInt (1) := ⟨_, rfl⟩
                      refine lv_iinc (v := v126) (lv' := [(5, .int v126), (6, .int 1), (4, .int m67_L_4), (3, .int m19_L_3), (2, .int v2), (0, .ref h0), (1, .int p0)]) hx hb dX6_fewestSketchers_126 hl (k := 1) rfl e126.symm (by decide) rfl (fun ls hl => ?_)
                      have i126 : v126.toInt = m67_L_5.toInt + 1 := zaddI e126 (by decide) (by omega) (by omega)
                      refine lv_goto (tgt := 67) hx hb dX6_fewestSketchers_129 (by decide) ?_
                      exact ih67 _ (by omega) m67_L_4 v126 jf67_0 (by omega) (fun kc kT q_fr kt hc hb h ht hq => by have JJ := (jv67_0 kc kT _ kt hc hb h ht hq); first | (have w := zFwT (s := m67_L_5) (np := np.toInt.toNat) (jv19_0 kc kT _ kt hc hb h ht hq).1 (by omega) (by omega) (by have y := pw2_5 (n := np.toInt.toNat) (by omega); omega) (zFp_n (jv19_0 kc kT _ kt hc hb h ht hq).2 (by omega)) F116; first | (rcases w with w | w; rotate_left; (exfalso; omega); first | exact zBstY JJ (by omega) i126 (Or.inl (by omega)) w.2 | (have b89 := sBn_e F89 (by omega); have b94 := sBn_e F94 (by omega); exact zBstY JJ (by omega) i126 (Or.inr (by omega)) w.2)) | (rcases w with w | w; (exfalso; omega); exact zBstN JJ (by omega) i126 (Or.inr w.2))) | (have b89 := sBn_e F89 (by omega); have b94 := sBn_e F94 (by omega); exact zBstN JJ (by omega) i126 (Or.inl (by omega)))) (by omega) rfl H locs ls hP hD hS (lv_sub hl [0, 2, 3, 4, 5, 6] rfl)
                    · have c119 : ¬ v116.toInt = 0 := z6 rfl (by decide) c119
                      refine lv_iload hx hb dX6_fewestSketchers_122 (lv_at hl 1 rfl) ?_
                      refine lv_istore (lv' := [(4, .int m67_L_5), (6, .int 1), (5, .int m67_L_5), (3, .int m19_L_3), (2, .int v2), (0, .ref h0), (1, .int p0)]) hx hb dX6_fewestSketchers_124 hl (by decide) rfl (fun ls hl => ?_)
                      obtain ⟨v126, e126⟩ : ∃ y : Int32, y = m67_L_5 + Int32.ofInt (1) := ⟨_, rfl⟩
                      refine lv_iinc (v := v126) (lv' := [(5, .int v126), (4, .int m67_L_5), (6, .int 1), (3, .int m19_L_3), (2, .int v2), (0, .ref h0), (1, .int p0)]) hx hb dX6_fewestSketchers_126 hl (k := 2) rfl e126.symm (by decide) rfl (fun ls hl => ?_)
                      have i126 : v126.toInt = m67_L_5.toInt + 1 := zaddI e126 (by decide) (by omega) (by omega)
                      refine lv_goto (tgt := 67) hx hb dX6_fewestSketchers_129 (by decide) ?_
                      exact ih67 _ (by omega) m67_L_5 v126 (by omega) (by omega) (fun kc kT q_fr kt hc hb h ht hq => by have JJ := (jv67_0 kc kT _ kt hc hb h ht hq); first | (have w := zFwT (s := m67_L_5) (np := np.toInt.toNat) (jv19_0 kc kT _ kt hc hb h ht hq).1 (by omega) (by omega) (by have y := pw2_5 (n := np.toInt.toNat) (by omega); omega) (zFp_n (jv19_0 kc kT _ kt hc hb h ht hq).2 (by omega)) F116; first | (rcases w with w | w; rotate_left; (exfalso; omega); first | exact zBstY JJ (by omega) i126 (Or.inl (by omega)) w.2 | (have b89 := sBn_e F89 (by omega); have b94 := sBn_e F94 (by omega); exact zBstY JJ (by omega) i126 (Or.inr (by omega)) w.2)) | (rcases w with w | w; (exfalso; omega); exact zBstN JJ (by omega) i126 (Or.inr w.2))) | (have b89 := sBn_e F89 (by omega); have b94 := sBn_e F94 (by omega); exact zBstN JJ (by omega) i126 (Or.inl (by omega)))) (by omega) rfl H locs ls hP hD hS (lv_sub hl [0, 1, 3, 4, 5, 6] rfl)
          refine lv_istore (lv' := [(5, .int 0), (4, .int (-1)), (3, .int m19_L_3), (2, .int v2), (0, .ref h0), (1, .int p0)]) hx hb dX6_fewestSketchers_65 hl (by decide) rfl (fun ls hl => ?_)
          have zj67_m67_L_4 : ((-1) : Int32).toInt = (-1) := by decide
          have zj67_m67_L_5 : (0 : Int32).toInt = 0 := by decide
          exact J67 _ (-1) 0 (by decide) (by decide) (fun kc kT q_fr kt hc hb h ht hq => (show (-1 : Int32).toInt = (-1 : Int) from by decide)) (by omega) rfl H locs ls hP hD hS (lv_sub hl [0, 1, 2, 3, 4, 5] rfl)
        · have c56 : m19_L_3.toInt = 0 := z5 rfl (by decide) c56
          refine lv_iconst (v := (-1)) hx hb dX6_fewestSketchers_59 (by decide) ?_
          have zr0 : ((-1) : Int32).toInt = (-1) := by decide
          rw [hQ]
          exact W.iret (v := ((-1))) hx hb hr (fun t ht hW => ⟨⟨(-1), (m19_A_aL, m19_A_aK, m19_A_mV, m19_A_mT), rfl, ⟨by (try dsimp only); omega, by (try dsimp only); omega, fun kc kT q_fr kt hc hb h ht hq => by have JJ := (jv19_0 kc kT _ kt hc hb h ht hq); rw [show m19_L_4.toInt.toNat = np.toInt.toNat by omega] at JJ; rw [zFp_0n JJ.2 (by omega) (zFace_b hb hq)]; decide⟩, ⟨by rw [ht]; exact hP, hD⟩⟩, hS.F ht⟩) hS.2.2 dX6_fewestSketchers_60
      · have c28 : m19_L_4.toInt < np.toInt := z4 rfl rfl c28
        refine lv_aload_n hx hb dX6_fewestSketchers_31 rfl (lv_at hl 3 rfl) ?_
        refine lv_iload hx hb dX6_fewestSketchers_32 (lv_at hl 0 rfl) ?_
        obtain ⟨hPc, hDc⟩ := zc2 (wc := [(h0, .inr (6, [.ref aC, .ref g0, .ref sd, .ref mW, .long mt, .int lf, .ref mV, .ref mA, .ref mT])), (aC, .inr (1, [.ref aR, .ref aB, .ref aP, .int nb, .int np])), (aP, .inl (cI, 20, .inl fp))]) hP hD [0, 1, 3] (by decide +kernel) rfl
        have hFc := zfr hS hA
        refine va_calli (va_runV (As := [.int m19_L_4]) (rest := []) ⟨hx, hb, hml, hown, hts⟩ (g_X6_sketches l dC dI cI cJ h0 m19_L_4 aC g0 sd mW mt lf mV mA mT aR aB aP nb np fp H.size (by omega)) (cwV 1 hts (zgV qw835 qw837 qw19 qw106 qw838) rfl rfl rfl hd_X6_sketches ⟨by rw [hR]; exact Nat.le_of_ble_eq_true rfl, by rw [hR]; exact Nat.le_of_ble_eq_true rfl⟩) (zPV hPc hK hDc (va_recv (q := (RX6, TX6, 9)) hK hP (ci := 6) (q0 := 0) rfl rfl)) rfl rfl hl.1 rfl (lv_room (Nat.le_of_ble_eq_true rfl)) dX6_fewestSketchers_34 ⟨Nat.zero_le _, Nat.zero_le _⟩) hS (fun q _ h => hFc q h) hFc (fun v34 u34 t H locs ht hvm hw hB hz1 hk1 hS9 => ?_)
        replace hP := zkeep hP hk1
        replace hS := hS9
        clear hPc hDc hFc hk1 hz1 hvm hS9
        obtain ⟨f34_0, f34_1, f34_2⟩ : (0 ≤ v34.toInt) ∧ (v34.toInt ≤ 1) ∧ ((v34.toInt = 1 ∧ ¬ (fp (4 * m19_L_4.toInt.toNat + 3)).toInt = 3) ∨ (v34.toInt = 0 ∧ (fp (4 * m19_L_4.toInt.toNat + 3)).toInt = 3)) := hw
        have F34 := f34_2
        refine lv_if_eq (tgt := 49) hx hb dX6_fewestSketchers_37 (by decide) (fun c37 => ?_) (fun c37 => ?_)
        · have c37 : v34.toInt = 0 := z5 rfl (by decide) c37
          obtain ⟨v49, e49⟩ : ∃ y : Int32, y = m19_L_4 + Int32.ofInt (1) := ⟨_, rfl⟩
          refine lv_iinc (v := v49) (lv' := [(4, .int v49), (3, .int m19_L_3), (2, .int v2), (0, .ref h0), (1, .int p0)]) hx hb dX6_fewestSketchers_49 hl (k := 0) rfl e49.symm (by decide) rfl (fun ls hl => ?_)
          have i49 : v49.toInt = m19_L_4.toInt + 1 := zaddI e49 (by decide) (by omega) (by omega)
          refine lv_goto (tgt := 19) hx hb dX6_fewestSketchers_52 (by decide) ?_
          exact ih19 _ (by omega) m19_A_aK m19_A_aL m19_A_mT m19_A_mV m19_L_3 v49 jf19_0 (by omega) (fun kc kT q_fr kt hc hb h ht hq => by have z3 := congrArg Int32.toInt (hc.2.2 (4 * m19_L_4.toInt.toNat + 3) (by omega)); have JJ := (jv19_0 kc kT _ kt hc hb h ht hq); first | (have a := F45 kc kT _ kt hc hb h ht (by omega) hq (by rw [zSc_lt h, zSc_sh h, ← hc.2.1 (4 * p0.toInt.toNat) (by omega)]; exact F2); exact zFwY JJ.1 (by omega) (by omega) i49 (by omega) a.1 a.2) | exact zFwN JJ.1 JJ.2 (by omega) i49 (by omega)) (by omega) rfl H locs ls hP hD hS (lv_sub hl [0, 1, 2, 3, 4] rfl)
        · have c37 : ¬ v34.toInt = 0 := z6 rfl (by decide) c37
          refine lv_aload_n hx hb dX6_fewestSketchers_40 rfl (lv_at hl 3 rfl) ?_
          refine lv_iload hx hb dX6_fewestSketchers_41 (lv_at hl 0 rfl) ?_
          refine lv_iload_n hx hb dX6_fewestSketchers_43 rfl (lv_at hl 4 rfl) ?_
          refine lv_iload_n hx hb dX6_fewestSketchers_44 rfl (lv_at hl 2 rfl) ?_
          obtain ⟨hPc, hDc, hFc⟩ := zc3 (wc := [(h0, .inr (6, [.ref aC, .ref g0, .ref sd, .ref mW, .long mt, .int lf, .ref mV, .ref mA, .ref mT])), (aC, .inr (1, [.ref aR, .ref aB, .ref aP, .int nb, .int np])), (aB, .inl (cI, 24, .inl fb)), (aP, .inl (cI, 20, .inl fp)), (g0, .inr (7, [.ref gY, .ref gF, .ref gP, .int gpn, .int glt, .int gsh, .int gwd, .int gpu, .int gmo])), (gY, .inl (cI, 6, .inl gfY)), (gF, .inl (cI, 5, .inl gfF)), (gP, .inl (cI, 80, .inl gfP)), (sd, .inr (8, [.ref w1, .ref w2, .ref aC, .ref g0, .ref aL, .ref aK, .ref lw])), (aL, .inl (cI, 6, .inl m19_A_aL)), (aK, .inl (cI, 32, .inl m19_A_aK)), (lw, .inr (4, [.ref lS])), (lS, .inl (cI, lk, .inl fS)), (mV, .inl (cI, 10, .inl m19_A_mV)), (mT, .inl (cI, 45, .inl m19_A_mT))]) hP hD hS hA [0, 1, 2, 3, 4, 5, 6, 7, 8, 9, 10, 11, 12, 13, 14] (by decide +kernel) rfl
          refine va_calli (va_runV (As := [.int m19_L_4, .int p0, .int v2]) (rest := []) ⟨hx, hb, hml, hown, hts⟩ (g_X6_addTeller_l l dC dI cI cJ h0 m19_L_4 p0 v2 aC g0 sd mW mt lf mV mA mT aR aB aP nb np fb fp gY gF gP gpn glt gsh gwd gpu gmo gfY gfF gfP w1 w2 aL aK lw m19_A_aL m19_A_aK lS fS lk m19_A_mV m19_A_mT H.size y_gpn (by omega) n_p0 (hlk) ci_fS_zSt ci_gfP_zPo) (cwV 3 hts (zgV qw888 qw890 qw22 qw106 qw891) rfl rfl rfl hd_X6_addTeller ⟨by rw [hR]; exact Nat.le_of_ble_eq_true rfl, by rw [hR]; exact Nat.le_of_ble_eq_true rfl⟩) (zPWV hPc hK hDc (va_recv (q := (RX6, TX6, 9)) hK hP (ci := 6) (q0 := 0) rfl rfl) (zV_call hV hS hFc)) rfl rfl hl.1 rfl (lv_room (Nat.le_of_ble_eq_true rfl)) dX6_fewestSketchers_45 ⟨Nat.zero_le _, Nat.zero_le _⟩) hS (fun q _ h => hFc q h) hFc (fun v45 u45 t H locs ht hvm hw hB hz1 hk1 hS9 => ?_)
          obtain ⟨u45_0, u45_1, u45_2, u45_3⟩ := u45
          obtain ⟨hP9, hD9⟩ := zj2 (wX := [(h0, .inr (6, [.ref aC, .ref g0, .ref sd, .ref mW, .long mt, .int lf, .ref mV, .ref mA, .ref mT])), (aC, .inr (1, [.ref aR, .ref aB, .ref aP, .int nb, .int np])), (aB, .inl (cI, 24, .inl fb)), (aP, .inl (cI, 20, .inl fp)), (g0, .inr (7, [.ref gY, .ref gF, .ref gP, .int gpn, .int glt, .int gsh, .int gwd, .int gpu, .int gmo])), (gY, .inl (cI, 6, .inl gfY)), (gF, .inl (cI, 5, .inl gfF)), (gP, .inl (cI, 80, .inl gfP)), (sd, .inr (8, [.ref w1, .ref w2, .ref aC, .ref g0, .ref aL, .ref aK, .ref lw])), (aL, .inl (cI, 6, .inl u45_0)), (aK, .inl (cI, 32, .inl u45_1)), (lw, .inr (4, [.ref lS])), (lS, .inl (cI, lk, .inl fS)), (mV, .inl (cI, 10, .inl u45_2)), (mT, .inl (cI, 45, .inl u45_3))]) hP hD hk1 hFc ht hB [0, 1, 2, 3, 4, 5, 6, 7, 8, 9, 10, 11, 12, 13, 14] [(true, 0), (true, 1), (true, 2), (true, 3), (true, 4), (true, 5), (true, 6), (true, 7), (true, 8), (true, 9), (true, 10), (true, 11), (true, 12), (true, 13), (true, 14)] rfl (by decide +kernel) (by decide +kernel) rfl
          clear hP hD hS hPc hDc hFc hB hk1 hz1 hvm
          have hP := hP9
          have hD := hD9
          have hS := hS9
          clear hP9 hD9 hS9
          obtain ⟨f45_0, f45_1, f45_2⟩ : (0 ≤ v45.toInt) ∧ (v45.toInt ≤ 45) ∧ (∀ (kc : zK3) (kT : zT) (q_fr : Nat → Int32) (kt : (Int → Int) × Int), zCn q_fr fb fp nb.toInt np.toInt kc → zKo nb.toInt np.toInt kc kT → zSc nb.toInt np.toInt kT.1 gfY gfF gfP gpn glt gsh gwd gpu gmo → zLwC fS lk kt → (0 ≤ m19_L_4.toInt ∧ m19_L_4.toInt < np.toInt) → (0 ≤ p0.toInt ∧ p0.toInt < nb.toInt) → v2 = zFit (cBt kT.1.2.2.1.1 p0) (cBt kT.1.2.2.1.2.1 p0) (kc.2.1 (4 * p0.toInt.toNat)) → v45.toInt = ((sPL kc kT.1 p0).length : Int) ∧ aNt (sPL kc kT.1 p0) (sDb kc kT.1 (some kt) p0 m19_L_4.toInt.toNat) m19_A_mT u45_3 (1 <<< (m19_L_4 &&& 31)) v45.toInt.toNat) := hw
          have F45 := f45_2
          refine lv_istore_n (lv' := [(3, .int v45), (4, .int m19_L_4), (2, .int v2), (0, .ref h0), (1, .int p0)]) hx hb dX6_fewestSketchers_48 rfl hl (by decide) rfl (fun ls hl => ?_)
          obtain ⟨v49, e49⟩ : ∃ y : Int32, y = m19_L_4 + Int32.ofInt (1) := ⟨_, rfl⟩
          refine lv_iinc (v := v49) (lv' := [(4, .int v49), (3, .int v45), (2, .int v2), (0, .ref h0), (1, .int p0)]) hx hb dX6_fewestSketchers_49 hl (k := 1) rfl e49.symm (by decide) rfl (fun ls hl => ?_)
          have i49 : v49.toInt = m19_L_4.toInt + 1 := zaddI e49 (by decide) (by omega) (by omega)
          refine lv_goto (tgt := 19) hx hb dX6_fewestSketchers_52 (by decide) ?_
          exact ih19 _ (by omega) u45_1 u45_0 u45_3 u45_2 v45 v49 ⟨f45_0, f45_1⟩ (by omega) (fun kc kT q_fr kt hc hb h ht hq => by have z3 := congrArg Int32.toInt (hc.2.2 (4 * m19_L_4.toInt.toNat + 3) (by omega)); have JJ := (jv19_0 kc kT _ kt hc hb h ht hq); first | (have a := F45 kc kT _ kt hc hb h ht (by omega) hq (by rw [zSc_lt h, zSc_sh h, ← hc.2.1 (4 * p0.toInt.toNat) (by omega)]; exact F2); exact zFwY JJ.1 (by omega) (by omega) i49 (by omega) a.1 a.2) | exact zFwN JJ.1 JJ.2 (by omega) i49 (by omega)) (by omega) rfl H locs ls hP hD hS (lv_sub hl [0, 1, 2, 3, 4] rfl)
  refine lv_istore (lv' := [(4, .int 0), (3, .int 0), (2, .int v2), (0, .ref h0), (1, .int p0)]) hx hb dX6_fewestSketchers_17 hl (by decide) rfl (fun ls hl => ?_)
  have zj19_m19_L_3 : (0 : Int32).toInt = 0 := by decide
  have zj19_m19_L_4 : (0 : Int32).toInt = 0 := by decide
  exact J19 _ fK fL u11_0 fV 0 0 (by decide) (by decide) (fun kc kT q_fr kt hc hb h ht hq => ⟨zFw_0 (fun j hj => F11 j hj), zFp_0⟩) (by omega) rfl H locs ls hP hD hS (lv_sub hl [0, 1, 2, 3, 4] rfl)
