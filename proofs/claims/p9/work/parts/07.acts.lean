set_option maxHeartbeats 4000000 in
set_option maxRecDepth 100000 in
theorem g_X7_writeRow (l : Launch) (dC : Nat → ClassId) (dI : Nat → Nat → Nat) (cI cJ : ClassId) (h0 : Nat) (aW : Nat) (p1 : Int32) (sY : Nat) (sF : Nat) (sP : Nat) (pn : Int32) (lt : Int32) (sh : Int32) (wd : Int32) (pu : Int32) (mo : Int32) (fY : Nat → Int32) (fF : Nat → Int32) (fR : Nat → Int32) (sz : Nat) (n_p1 : 0 ≤ p1.toInt ∧ p1.toInt ≤ 663) (n_pn : 0 ≤ pn.toInt ∧ pn.toInt ≤ 20) (n_wd : (-1) ≤ wd.toInt ∧ wd.toInt ≤ 5) (x17 : p1.toInt % 17 = 0) (ci_fR_zRw : zRw fR)  : Met l yX7_writeRow (.code yX7_writeRow cX7_writeRow 4 none :: wA) ({ frames := 1, cells := 0, slots := 0, locals := 60 }) (zP (dC, dI) [(cI, .int), (cJ, .long)] [.ref h0, .ref aW, .int p1] sz [(h0, .inr (7, [.ref sY, .ref sF, .ref sP, .int pn, .int lt, .int sh, .int wd, .int pu, .int mo])), (sY, .inl (cI, 6, .inl fY)), (sF, .inl (cI, 5, .inl fF)), (aW, .inl (cI, 680, .inl fR))]) (va_Qv (fun (u : (Nat → Int32)) => (zWr fR u fY fF pn lt sh wd pu mo p1.toInt.toNat) ∧ (zRw u)) (fun (u : (Nat → Int32)) (t : State) => va_P (dC, dI) vwCl [(h0, .inr (7, [.ref sY, .ref sF, .ref sP, .int pn, .int lt, .int sh, .int wd, .int pu, .int mo])), (sY, .inl (cI, 6, .inl fY)), (sF, .inl (cI, 5, .inl fF)), (aW, .inl (cI, 680, .inl u))] t.heap ∧ va_D (va_A [(h0, .inr (7, [.ref sY, .ref sF, .ref sP, .int pn, .int lt, .int sh, .int wd, .int pu, .int mo])), (sY, .inl (cI, 6, .inl fY)), (sF, .inl (cI, 5, .inl fF)), (aW, .inl (cI, 680, .inl fR))] sz) [(h0, .inr (7, [.ref sY, .ref sF, .ref sP, .int pn, .int lt, .int sh, .int wd, .int pu, .int mo])), (sY, .inl (cI, 6, .inl fY)), (sF, .inl (cI, 5, .inl fF)), (aW, .inl (cI, 680, .inl u))]) (va_A [(h0, .inr (7, [.ref sY, .ref sF, .ref sP, .int pn, .int lt, .int sh, .int wd, .int pu, .int mo])), (sY, .inl (cI, 6, .inl fY)), (sF, .inl (cI, 5, .inl fF)), (aW, .inl (cI, 680, .inl fR))] sz)) 0 0 (va_A [(h0, .inr (7, [.ref sY, .ref sF, .ref sP, .int pn, .int lt, .int sh, .int wd, .int pu, .int mo])), (sY, .inl (cI, 6, .inl fY)), (sF, .inl (cI, 5, .inl fF)), (aW, .inl (cI, 680, .inl fR))] sz) := by
  refine Met.ofW (cc := cX7_writeRow) (maxL := 4) (ret := none) (by decide) rfl ?_
  intro p e s m args below meth c s₁ B hml hv
  obtain ⟨hargs, hsz, hP, hK, hT⟩ := hv
  have hx := B.exec
  have hb := B.bytes
  have hr := B.returns
  have hts : ∀ w ∈ wA, w.before args s = true := fun w h => atoms_spec (ws := .code yX7_writeRow cX7_writeRow 4 none :: wA) B.pre w (List.mem_cons_of_mem _ h)
  have hown : s.vm.findClass RX7 = some m.cls := findClass_of_methodNamed B.named
  have hlocks := B.notSynchronized
  subst hsz
  have hD := hT.self (sz := s.heap.size)
  generalize hAe : va_A [(h0, .inr (7, [.ref sY, .ref sF, .ref sP, .int pn, .int lt, .int sh, .int wd, .int pu, .int mo])), (sY, .inl (cI, 6, .inl fY)), (sF, .inl (cI, 5, .inl fF)), (aW, .inl (cI, 680, .inl fR))] s.heap.size = A at hD ⊢
  have hA : ∀ q : Nat, s.heap.size ≤ q → A q := fun q h => by rw [← hAe]; exact Or.inr h
  have hl := lv_entry ([.ref h0, .ref aW, .int p1]) (n := 4) (Nat.le_of_ble_eq_true rfl)
  rw [show entryFrame m args 4 = entryFrame m ([.ref h0, .ref aW, .int p1] : List Value).toArray 4 by rw [hargs], lg_entry_eq]
  generalize (lg_sl ([.ref h0, .ref aW, .int p1]) ++ List.replicate (4 - (lg_sl ([.ref h0, .ref aW, .int p1])).length) Slot.unset).toArray = ls at hl ⊢
  have hl : lv_has ls 4 [(0, .ref h0), (1, .ref aW), (2, .int p1)] := hl
  refine zstart (fun H hH => ?_)
  rw [← hH] at hP
  have hS : va_S A s.heap H [] := by rw [hH]; exact va_S.rf
  generalize ([] : List Loc) = locs at hS ⊢
  refine zgen (fun R Q hR hQ => ?_)
  refine lv_aload_n hx hb dX7_writeRow_0 rfl (lv_at hl 0 rfl) ?_
  refine va_get (D := (dC, dI)) (ci := 7) (v := .ref sY) (C := RX7) (T := TX7) (N := 9) hx hb hts iX7 hown hK hP 0 rfl rfl 0 (by decide) (hts _ qw220) (fun _ h9 => h9) rfl dX7_writeRow_1 ?_
  refine lv_iconst (v := 0) hx hb dX7_writeRow_4 (by decide) ?_
  refine lv_aload_n hx hb dX7_writeRow_5 rfl (lv_at hl 1 rfl) ?_
  refine lv_iload_n hx hb dX7_writeRow_6 rfl (lv_at hl 2 rfl) ?_
  refine lv_bipush (v := 6) hx hb dX7_writeRow_7 (by decide) ?_
  refine va_copyi hx hb (by rw [hml]; exact hl.1.symm) hown (hts _ qw696) (hts _ qw432) (hts _ qw431) (hts _ qw109) hK hP hD hS 1 3 0 0 rfl rfl rfl rfl rfl (by decide) (znn (by omega)) (by decide) (zcpb (a := 0) (b := 6) (by decide) (by decide) (by omega)) (zcpb (a := p1.toInt) (b := 6) rfl (by decide) (by omega)) (fun i hi => rfl) (by rw [hR]; exact Nat.le_of_ble_eq_true rfl) (by rw [hR]; decide) dX7_writeRow_9 (fun H locs hP9 hD9 hS9 => ?_)
  clear hP hD hS
  obtain ⟨v9_f, e9⟩ : ∃ g : Nat → Int32, g = va_cpy fY fR (0 : Int32).toNatClampNeg (p1 : Int32).toNatClampNeg (6 : Int32).toNatClampNeg := ⟨_, rfl⟩
  rw [← e9] at hP9 hD9
  obtain ⟨hP, hD⟩ := zst (wX := [(h0, .inr (7, [.ref sY, .ref sF, .ref sP, .int pn, .int lt, .int sh, .int wd, .int pu, .int mo])), (sY, .inl (cI, 6, .inl fY)), (sF, .inl (cI, 5, .inl fF)), (aW, .inl (cI, 680, .inl v9_f))]) hP9 hD9 rfl
  have hS := hS9
  clear hP9 hD9 hS9
  have cq9_zRw : zRw v9_f := zRw_cpy (k := p1.toInt / 17) 0 6 ci_fR_zRw e9 (by omega) (by decide) (by omega)
  refine lv_aload_n hx hb dX7_writeRow_12 rfl (lv_at hl 0 rfl) ?_
  refine va_get (D := (dC, dI)) (ci := 7) (v := .ref sF) (C := RX7) (T := TX7) (N := 9) hx hb hts iX7 hown hK hP 0 rfl rfl 1 (by decide) (hts _ qw223) (fun _ h9 => h9) rfl dX7_writeRow_13 ?_
  refine lv_iconst (v := 0) hx hb dX7_writeRow_16 (by decide) ?_
  refine lv_aload_n hx hb dX7_writeRow_17 rfl (lv_at hl 1 rfl) ?_
  refine lv_iload_n hx hb dX7_writeRow_18 rfl (lv_at hl 2 rfl) ?_
  refine lv_bipush (v := 6) hx hb dX7_writeRow_19 (by decide) ?_
  refine lv_iadd hx hb dX7_writeRow_21 ?_
  refine lv_topi (fun v21 e21 => ?_)
  have i21 : v21.toInt = p1.toInt + 6 := zadd e21 rfl (by decide) (by omega) (by omega)
  refine lv_iconst (v := 5) hx hb dX7_writeRow_22 (by decide) ?_
  refine va_copyi hx hb (by rw [hml]; exact hl.1.symm) hown (hts _ qw696) (hts _ qw432) (hts _ qw431) (hts _ qw109) hK hP hD hS 2 3 0 0 rfl rfl rfl rfl rfl (by decide) (znn (by omega)) (by decide) (zcpb (a := 0) (b := 5) (by decide) (by decide) (by omega)) (zcpb (a := v21.toInt) (b := 5) rfl (by decide) (by omega)) (fun i hi => rfl) (by rw [hR]; exact Nat.le_of_ble_eq_true rfl) (by rw [hR]; decide) dX7_writeRow_23 (fun H locs hP9 hD9 hS9 => ?_)
  clear hP hD hS
  obtain ⟨v23_f, e23⟩ : ∃ g : Nat → Int32, g = va_cpy fF v9_f (0 : Int32).toNatClampNeg (v21 : Int32).toNatClampNeg (5 : Int32).toNatClampNeg := ⟨_, rfl⟩
  rw [← e23] at hP9 hD9
  obtain ⟨hP, hD⟩ := zst (wX := [(h0, .inr (7, [.ref sY, .ref sF, .ref sP, .int pn, .int lt, .int sh, .int wd, .int pu, .int mo])), (sY, .inl (cI, 6, .inl fY)), (sF, .inl (cI, 5, .inl fF)), (aW, .inl (cI, 680, .inl v23_f))]) hP9 hD9 rfl
  have hS := hS9
  clear hP9 hD9 hS9
  have cq23_zRw : zRw v23_f := zRw_cpy (k := p1.toInt / 17) 6 5 cq9_zRw e23 (by omega) (by decide) (by omega)
  refine lv_iload_n hx hb dX7_writeRow_26 rfl (lv_at hl 2 rfl) ?_
  refine lv_bipush (v := 6) hx hb dX7_writeRow_27 (by decide) ?_
  refine lv_iadd hx hb dX7_writeRow_29 ?_
  refine lv_topi (fun v29 e29 => ?_)
  have i29 : v29.toInt = p1.toInt + 6 := zadd e29 rfl (by decide) (by omega) (by omega)
  refine lv_iconst (v := 5) hx hb dX7_writeRow_30 (by decide) ?_
  refine lv_iadd hx hb dX7_writeRow_31 ?_
  refine lv_topi (fun v31 e31 => ?_)
  have i31 : v31.toInt = v29.toInt + 5 := zadd e31 rfl (by decide) (by omega) (by omega)
  refine lv_istore_n (lv' := [(3, .int v31), (0, .ref h0), (1, .ref aW), (2, .int p1)]) hx hb dX7_writeRow_32 rfl hl (by decide) rfl (fun ls hl => ?_)
  refine lv_aload_n hx hb dX7_writeRow_33 rfl (lv_at hl 2 rfl) ?_
  refine lv_iload_n hx hb dX7_writeRow_34 rfl (lv_at hl 0 rfl) ?_
  refine lv_aload_n hx hb dX7_writeRow_35 rfl (lv_at hl 1 rfl) ?_
  refine va_get (D := (dC, dI)) (ci := 7) (v := .int pn) (C := RX7) (T := TX7) (N := 9) hx hb hts iX7 hown hK hP 0 rfl rfl 3 (by decide) (hts _ qw227) (fun _ h9 => h9) rfl dX7_writeRow_36 ?_
  refine va_iast hx hb hK hP hD hS 3 0 rfl rfl (vp_in_iff.mpr ⟨by omega, by omega⟩) dX7_writeRow_39 (fun H locs hP9 hD9 hS9 => ?_)
  clear hP hD hS
  obtain ⟨v39_f, e39⟩ : ∃ g : Nat → Int32, g = upd v23_f (v31).toNatClampNeg pn := ⟨_, rfl⟩
  rw [← e39] at hP9 hD9
  obtain ⟨hP, hD⟩ := zst (wX := [(h0, .inr (7, [.ref sY, .ref sF, .ref sP, .int pn, .int lt, .int sh, .int wd, .int pu, .int mo])), (sY, .inl (cI, 6, .inl fY)), (sF, .inl (cI, 5, .inl fF)), (aW, .inl (cI, 680, .inl v39_f))]) hP9 hD9 rfl
  have hS := hS9
  clear hP9 hD9 hS9
  have cq39_zRw : zRw v39_f := zRw_upd (k := p1.toInt / 17) 11 cq23_zRw e39 (by omega) (by omega) (by omega)
  refine lv_aload_n hx hb dX7_writeRow_40 rfl (lv_at hl 2 rfl) ?_
  refine lv_iload_n hx hb dX7_writeRow_41 rfl (lv_at hl 0 rfl) ?_
  refine lv_iconst (v := 1) hx hb dX7_writeRow_42 (by decide) ?_
  refine lv_iadd hx hb dX7_writeRow_43 ?_
  refine lv_topi (fun v43 e43 => ?_)
  have i43 : v43.toInt = v31.toInt + 1 := zadd e43 rfl (by decide) (by omega) (by omega)
  refine lv_aload_n hx hb dX7_writeRow_44 rfl (lv_at hl 1 rfl) ?_
  refine va_get (D := (dC, dI)) (ci := 7) (v := .int lt) (C := RX7) (T := TX7) (N := 9) hx hb hts iX7 hown hK hP 0 rfl rfl 4 (by decide) (hts _ qw230) (fun _ h9 => h9) rfl dX7_writeRow_45 ?_
  refine va_iast hx hb hK hP hD hS 3 0 rfl rfl (vp_in_iff.mpr ⟨by omega, by omega⟩) dX7_writeRow_48 (fun H locs hP9 hD9 hS9 => ?_)
  clear hP hD hS
  obtain ⟨v48_f, e48⟩ : ∃ g : Nat → Int32, g = upd v39_f (v43).toNatClampNeg lt := ⟨_, rfl⟩
  rw [← e48] at hP9 hD9
  obtain ⟨hP, hD⟩ := zst (wX := [(h0, .inr (7, [.ref sY, .ref sF, .ref sP, .int pn, .int lt, .int sh, .int wd, .int pu, .int mo])), (sY, .inl (cI, 6, .inl fY)), (sF, .inl (cI, 5, .inl fF)), (aW, .inl (cI, 680, .inl v48_f))]) hP9 hD9 rfl
  have hS := hS9
  clear hP9 hD9 hS9
  have cq48_zRw : zRw v48_f := zRw_upd (k := p1.toInt / 17) 12 cq39_zRw e48 (by omega) (by omega) (by omega)
  refine lv_aload_n hx hb dX7_writeRow_49 rfl (lv_at hl 2 rfl) ?_
  refine lv_iload_n hx hb dX7_writeRow_50 rfl (lv_at hl 0 rfl) ?_
  refine lv_iconst (v := 2) hx hb dX7_writeRow_51 (by decide) ?_
  refine lv_iadd hx hb dX7_writeRow_52 ?_
  refine lv_topi (fun v52 e52 => ?_)
  have i52 : v52.toInt = v31.toInt + 2 := zadd e52 rfl (by decide) (by omega) (by omega)
  refine lv_aload_n hx hb dX7_writeRow_53 rfl (lv_at hl 1 rfl) ?_
  refine va_get (D := (dC, dI)) (ci := 7) (v := .int sh) (C := RX7) (T := TX7) (N := 9) hx hb hts iX7 hown hK hP 0 rfl rfl 5 (by decide) (hts _ qw233) (fun _ h9 => h9) rfl dX7_writeRow_54 ?_
  refine va_iast hx hb hK hP hD hS 3 0 rfl rfl (vp_in_iff.mpr ⟨by omega, by omega⟩) dX7_writeRow_57 (fun H locs hP9 hD9 hS9 => ?_)
  clear hP hD hS
  obtain ⟨v57_f, e57⟩ : ∃ g : Nat → Int32, g = upd v48_f (v52).toNatClampNeg sh := ⟨_, rfl⟩
  rw [← e57] at hP9 hD9
  obtain ⟨hP, hD⟩ := zst (wX := [(h0, .inr (7, [.ref sY, .ref sF, .ref sP, .int pn, .int lt, .int sh, .int wd, .int pu, .int mo])), (sY, .inl (cI, 6, .inl fY)), (sF, .inl (cI, 5, .inl fF)), (aW, .inl (cI, 680, .inl v57_f))]) hP9 hD9 rfl
  have hS := hS9
  clear hP9 hD9 hS9
  have cq57_zRw : zRw v57_f := zRw_upd (k := p1.toInt / 17) 13 cq48_zRw e57 (by omega) (by omega) (by omega)
  refine lv_aload_n hx hb dX7_writeRow_58 rfl (lv_at hl 2 rfl) ?_
  refine lv_iload_n hx hb dX7_writeRow_59 rfl (lv_at hl 0 rfl) ?_
  refine lv_iconst (v := 3) hx hb dX7_writeRow_60 (by decide) ?_
  refine lv_iadd hx hb dX7_writeRow_61 ?_
  refine lv_topi (fun v61 e61 => ?_)
  have i61 : v61.toInt = v31.toInt + 3 := zadd e61 rfl (by decide) (by omega) (by omega)
  refine lv_aload_n hx hb dX7_writeRow_62 rfl (lv_at hl 1 rfl) ?_
  refine va_get (D := (dC, dI)) (ci := 7) (v := .int wd) (C := RX7) (T := TX7) (N := 9) hx hb hts iX7 hown hK hP 0 rfl rfl 6 (by decide) (hts _ qw236) (fun _ h9 => h9) rfl dX7_writeRow_63 ?_
  refine va_iast hx hb hK hP hD hS 3 0 rfl rfl (vp_in_iff.mpr ⟨by omega, by omega⟩) dX7_writeRow_66 (fun H locs hP9 hD9 hS9 => ?_)
  clear hP hD hS
  obtain ⟨v66_f, e66⟩ : ∃ g : Nat → Int32, g = upd v57_f (v61).toNatClampNeg wd := ⟨_, rfl⟩
  rw [← e66] at hP9 hD9
  obtain ⟨hP, hD⟩ := zst (wX := [(h0, .inr (7, [.ref sY, .ref sF, .ref sP, .int pn, .int lt, .int sh, .int wd, .int pu, .int mo])), (sY, .inl (cI, 6, .inl fY)), (sF, .inl (cI, 5, .inl fF)), (aW, .inl (cI, 680, .inl v66_f))]) hP9 hD9 rfl
  have hS := hS9
  clear hP9 hD9 hS9
  have cq66_zRw : zRw v66_f := zRw_upd (k := p1.toInt / 17) 14 cq57_zRw e66 (by omega) (by omega) (by omega)
  refine lv_aload_n hx hb dX7_writeRow_67 rfl (lv_at hl 2 rfl) ?_
  refine lv_iload_n hx hb dX7_writeRow_68 rfl (lv_at hl 0 rfl) ?_
  refine lv_iconst (v := 4) hx hb dX7_writeRow_69 (by decide) ?_
  refine lv_iadd hx hb dX7_writeRow_70 ?_
  refine lv_topi (fun v70 e70 => ?_)
  have i70 : v70.toInt = v31.toInt + 4 := zadd e70 rfl (by decide) (by omega) (by omega)
  refine lv_aload_n hx hb dX7_writeRow_71 rfl (lv_at hl 1 rfl) ?_
  refine va_get (D := (dC, dI)) (ci := 7) (v := .int pu) (C := RX7) (T := TX7) (N := 9) hx hb hts iX7 hown hK hP 0 rfl rfl 7 (by decide) (hts _ qw238) (fun _ h9 => h9) rfl dX7_writeRow_72 ?_
  refine va_iast hx hb hK hP hD hS 3 0 rfl rfl (vp_in_iff.mpr ⟨by omega, by omega⟩) dX7_writeRow_75 (fun H locs hP9 hD9 hS9 => ?_)
  clear hP hD hS
  obtain ⟨v75_f, e75⟩ : ∃ g : Nat → Int32, g = upd v66_f (v70).toNatClampNeg pu := ⟨_, rfl⟩
  rw [← e75] at hP9 hD9
  obtain ⟨hP, hD⟩ := zst (wX := [(h0, .inr (7, [.ref sY, .ref sF, .ref sP, .int pn, .int lt, .int sh, .int wd, .int pu, .int mo])), (sY, .inl (cI, 6, .inl fY)), (sF, .inl (cI, 5, .inl fF)), (aW, .inl (cI, 680, .inl v75_f))]) hP9 hD9 rfl
  have hS := hS9
  clear hP9 hD9 hS9
  have cq75_zRw : zRw v75_f := zRw_upd (k := p1.toInt / 17) 15 cq66_zRw e75 (by omega) (by omega) (by omega)
  refine lv_aload_n hx hb dX7_writeRow_76 rfl (lv_at hl 2 rfl) ?_
  refine lv_iload_n hx hb dX7_writeRow_77 rfl (lv_at hl 0 rfl) ?_
  refine lv_iconst (v := 5) hx hb dX7_writeRow_78 (by decide) ?_
  refine lv_iadd hx hb dX7_writeRow_79 ?_
  refine lv_topi (fun v79 e79 => ?_)
  have i79 : v79.toInt = v31.toInt + 5 := zadd e79 rfl (by decide) (by omega) (by omega)
  refine lv_aload_n hx hb dX7_writeRow_80 rfl (lv_at hl 1 rfl) ?_
  refine va_get (D := (dC, dI)) (ci := 7) (v := .int mo) (C := RX7) (T := TX7) (N := 9) hx hb hts iX7 hown hK hP 0 rfl rfl 8 (by decide) (hts _ qw240) (fun _ h9 => h9) rfl dX7_writeRow_81 ?_
  refine va_iast hx hb hK hP hD hS 3 0 rfl rfl (vp_in_iff.mpr ⟨by omega, by omega⟩) dX7_writeRow_84 (fun H locs hP9 hD9 hS9 => ?_)
  clear hP hD hS
  obtain ⟨v84_f, e84⟩ : ∃ g : Nat → Int32, g = upd v75_f (v79).toNatClampNeg mo := ⟨_, rfl⟩
  rw [← e84] at hP9 hD9
  obtain ⟨hP, hD⟩ := zst (wX := [(h0, .inr (7, [.ref sY, .ref sF, .ref sP, .int pn, .int lt, .int sh, .int wd, .int pu, .int mo])), (sY, .inl (cI, 6, .inl fY)), (sF, .inl (cI, 5, .inl fF)), (aW, .inl (cI, 680, .inl v84_f))]) hP9 hD9 rfl
  have hS := hS9
  clear hP9 hD9 hS9
  have cq84_zRw : zRw v84_f := zRw_upd (k := p1.toInt / 17) 16 cq75_zRw e84 (by omega) (by omega) (by omega)
  rw [hQ]
  exact W.vret hx hb hr (fun t ht hW => ⟨⟨v84_f, rfl, ⟨zWr_mk e9 e23 e39 e48 e57 e66 e75 e84 (by omega) (by omega) (by omega) (by omega) (by omega) (by omega) (by omega) (by omega), cq84_zRw⟩, ⟨by rw [ht]; exact hP, hD⟩⟩, hS.F ht⟩) hS.2.2 dX7_writeRow_85
set_option maxHeartbeats 4000000 in
set_option maxRecDepth 100000 in
theorem g_X7_readRow (l : Launch) (dC : Nat → ClassId) (dI : Nat → Nat → Nat) (cI cJ : ClassId) (h0 : Nat) (aW : Nat) (p1 : Int32) (sY : Nat) (sF : Nat) (sP : Nat) (pn : Int32) (lt : Int32) (sh : Int32) (wd : Int32) (pu : Int32) (mo : Int32) (fY : Nat → Int32) (fF : Nat → Int32) (fR : Nat → Int32) (sz : Nat) (n_p1 : 0 ≤ p1.toInt ∧ p1.toInt ≤ 663) (x17 : p1.toInt % 17 = 0) (ci_fR_zRw : zRw fR)  : Met l yX7_readRow (.code yX7_readRow cX7_readRow 4 none :: wA) ({ frames := 1, cells := 0, slots := 0, locals := 60 }) (zP (dC, dI) [(cI, .int), (cJ, .long)] [.ref h0, .ref aW, .int p1] sz [(h0, .inr (7, [.ref sY, .ref sF, .ref sP, .int pn, .int lt, .int sh, .int wd, .int pu, .int mo])), (sY, .inl (cI, 6, .inl fY)), (sF, .inl (cI, 5, .inl fF)), (aW, .inl (cI, 680, .inl fR))]) (va_Qv (fun (u : Int32 × Int32 × Int32 × Int32 × Int32 × Int32 × (Nat → Int32) × (Nat → Int32)) => (0 ≤ u.1.toInt) ∧ (u.1.toInt ≤ 20) ∧ ((-1) ≤ u.2.2.2.1.toInt) ∧ (u.2.2.2.1.toInt ≤ 5) ∧ (zRdr fR u.2.2.2.2.2.2.1 u.2.2.2.2.2.2.2 u.1 u.2.1 u.2.2.1 u.2.2.2.1 u.2.2.2.2.1 u.2.2.2.2.2.1 p1.toInt.toNat)) (fun (u : Int32 × Int32 × Int32 × Int32 × Int32 × Int32 × (Nat → Int32) × (Nat → Int32)) (t : State) => va_P (dC, dI) vwCl [(h0, .inr (7, [.ref sY, .ref sF, .ref sP, .int u.1, .int u.2.1, .int u.2.2.1, .int u.2.2.2.1, .int u.2.2.2.2.1, .int u.2.2.2.2.2.1])), (sY, .inl (cI, 6, .inl u.2.2.2.2.2.2.1)), (sF, .inl (cI, 5, .inl u.2.2.2.2.2.2.2)), (aW, .inl (cI, 680, .inl fR))] t.heap ∧ va_D (va_A [(h0, .inr (7, [.ref sY, .ref sF, .ref sP, .int pn, .int lt, .int sh, .int wd, .int pu, .int mo])), (sY, .inl (cI, 6, .inl fY)), (sF, .inl (cI, 5, .inl fF)), (aW, .inl (cI, 680, .inl fR))] sz) [(h0, .inr (7, [.ref sY, .ref sF, .ref sP, .int u.1, .int u.2.1, .int u.2.2.1, .int u.2.2.2.1, .int u.2.2.2.2.1, .int u.2.2.2.2.2.1])), (sY, .inl (cI, 6, .inl u.2.2.2.2.2.2.1)), (sF, .inl (cI, 5, .inl u.2.2.2.2.2.2.2)), (aW, .inl (cI, 680, .inl fR))]) (va_A [(h0, .inr (7, [.ref sY, .ref sF, .ref sP, .int pn, .int lt, .int sh, .int wd, .int pu, .int mo])), (sY, .inl (cI, 6, .inl fY)), (sF, .inl (cI, 5, .inl fF)), (aW, .inl (cI, 680, .inl fR))] sz)) 0 0 (va_A [(h0, .inr (7, [.ref sY, .ref sF, .ref sP, .int pn, .int lt, .int sh, .int wd, .int pu, .int mo])), (sY, .inl (cI, 6, .inl fY)), (sF, .inl (cI, 5, .inl fF)), (aW, .inl (cI, 680, .inl fR))] sz) := by
  refine Met.ofW (cc := cX7_readRow) (maxL := 4) (ret := none) (by decide) rfl ?_
  intro p e s m args below meth c s₁ B hml hv
  obtain ⟨hargs, hsz, hP, hK, hT⟩ := hv
  have hx := B.exec
  have hb := B.bytes
  have hr := B.returns
  have hts : ∀ w ∈ wA, w.before args s = true := fun w h => atoms_spec (ws := .code yX7_readRow cX7_readRow 4 none :: wA) B.pre w (List.mem_cons_of_mem _ h)
  have hown : s.vm.findClass RX7 = some m.cls := findClass_of_methodNamed B.named
  have hlocks := B.notSynchronized
  subst hsz
  have hD := hT.self (sz := s.heap.size)
  generalize hAe : va_A [(h0, .inr (7, [.ref sY, .ref sF, .ref sP, .int pn, .int lt, .int sh, .int wd, .int pu, .int mo])), (sY, .inl (cI, 6, .inl fY)), (sF, .inl (cI, 5, .inl fF)), (aW, .inl (cI, 680, .inl fR))] s.heap.size = A at hD ⊢
  have hA : ∀ q : Nat, s.heap.size ≤ q → A q := fun q h => by rw [← hAe]; exact Or.inr h
  have hl := lv_entry ([.ref h0, .ref aW, .int p1]) (n := 4) (Nat.le_of_ble_eq_true rfl)
  rw [show entryFrame m args 4 = entryFrame m ([.ref h0, .ref aW, .int p1] : List Value).toArray 4 by rw [hargs], lg_entry_eq]
  generalize (lg_sl ([.ref h0, .ref aW, .int p1]) ++ List.replicate (4 - (lg_sl ([.ref h0, .ref aW, .int p1])).length) Slot.unset).toArray = ls at hl ⊢
  have hl : lv_has ls 4 [(0, .ref h0), (1, .ref aW), (2, .int p1)] := hl
  refine zstart (fun H hH => ?_)
  rw [← hH] at hP
  have hS : va_S A s.heap H [] := by rw [hH]; exact va_S.rf
  generalize ([] : List Loc) = locs at hS ⊢
  refine zgen (fun R Q hR hQ => ?_)
  refine lv_aload_n hx hb dX7_readRow_0 rfl (lv_at hl 1 rfl) ?_
  refine lv_iload_n hx hb dX7_readRow_1 rfl (lv_at hl 2 rfl) ?_
  refine lv_aload_n hx hb dX7_readRow_2 rfl (lv_at hl 0 rfl) ?_
  refine va_get (D := (dC, dI)) (ci := 7) (v := .ref sY) (C := RX7) (T := TX7) (N := 9) hx hb hts iX7 hown hK hP 0 rfl rfl 0 (by decide) (hts _ qw220) (fun _ h9 => h9) rfl dX7_readRow_3 ?_
  refine lv_iconst (v := 0) hx hb dX7_readRow_6 (by decide) ?_
  refine lv_bipush (v := 6) hx hb dX7_readRow_7 (by decide) ?_
  refine va_copyi hx hb (by rw [hml]; exact hl.1.symm) hown (hts _ qw696) (hts _ qw432) (hts _ qw431) (hts _ qw109) hK hP hD hS 3 1 0 0 rfl rfl rfl rfl rfl (znn (by omega)) (by decide) (by decide) (zcpb (a := p1.toInt) (b := 6) rfl (by decide) (by omega)) (zcpb (a := 0) (b := 6) (by decide) (by decide) (by omega)) (fun i hi => rfl) (by rw [hR]; exact Nat.le_of_ble_eq_true rfl) (by rw [hR]; decide) dX7_readRow_9 (fun H locs hP9 hD9 hS9 => ?_)
  clear hP hD hS
  obtain ⟨v9_f, e9⟩ : ∃ g : Nat → Int32, g = va_cpy fR fY (p1 : Int32).toNatClampNeg (0 : Int32).toNatClampNeg (6 : Int32).toNatClampNeg := ⟨_, rfl⟩
  rw [← e9] at hP9 hD9
  obtain ⟨hP, hD⟩ := zst (wX := [(h0, .inr (7, [.ref sY, .ref sF, .ref sP, .int pn, .int lt, .int sh, .int wd, .int pu, .int mo])), (sY, .inl (cI, 6, .inl v9_f)), (sF, .inl (cI, 5, .inl fF)), (aW, .inl (cI, 680, .inl fR))]) hP9 hD9 rfl
  have hS := hS9
  clear hP9 hD9 hS9
  refine lv_aload_n hx hb dX7_readRow_12 rfl (lv_at hl 1 rfl) ?_
  refine lv_iload_n hx hb dX7_readRow_13 rfl (lv_at hl 2 rfl) ?_
  refine lv_bipush (v := 6) hx hb dX7_readRow_14 (by decide) ?_
  refine lv_iadd hx hb dX7_readRow_16 ?_
  refine lv_topi (fun v16 e16 => ?_)
  have i16 : v16.toInt = p1.toInt + 6 := zadd e16 rfl (by decide) (by omega) (by omega)
  refine lv_aload_n hx hb dX7_readRow_17 rfl (lv_at hl 0 rfl) ?_
  refine va_get (D := (dC, dI)) (ci := 7) (v := .ref sF) (C := RX7) (T := TX7) (N := 9) hx hb hts iX7 hown hK hP 0 rfl rfl 1 (by decide) (hts _ qw223) (fun _ h9 => h9) rfl dX7_readRow_18 ?_
  refine lv_iconst (v := 0) hx hb dX7_readRow_21 (by decide) ?_
  refine lv_iconst (v := 5) hx hb dX7_readRow_22 (by decide) ?_
  refine va_copyi hx hb (by rw [hml]; exact hl.1.symm) hown (hts _ qw696) (hts _ qw432) (hts _ qw431) (hts _ qw109) hK hP hD hS 3 2 0 0 rfl rfl rfl rfl rfl (znn (by omega)) (by decide) (by decide) (zcpb (a := v16.toInt) (b := 5) rfl (by decide) (by omega)) (zcpb (a := 0) (b := 5) (by decide) (by decide) (by omega)) (fun i hi => rfl) (by rw [hR]; exact Nat.le_of_ble_eq_true rfl) (by rw [hR]; decide) dX7_readRow_23 (fun H locs hP9 hD9 hS9 => ?_)
  clear hP hD hS
  obtain ⟨v23_f, e23⟩ : ∃ g : Nat → Int32, g = va_cpy fR fF (v16 : Int32).toNatClampNeg (0 : Int32).toNatClampNeg (5 : Int32).toNatClampNeg := ⟨_, rfl⟩
  rw [← e23] at hP9 hD9
  obtain ⟨hP, hD⟩ := zst (wX := [(h0, .inr (7, [.ref sY, .ref sF, .ref sP, .int pn, .int lt, .int sh, .int wd, .int pu, .int mo])), (sY, .inl (cI, 6, .inl v9_f)), (sF, .inl (cI, 5, .inl v23_f)), (aW, .inl (cI, 680, .inl fR))]) hP9 hD9 rfl
  have hS := hS9
  clear hP9 hD9 hS9
  refine lv_iload_n hx hb dX7_readRow_26 rfl (lv_at hl 2 rfl) ?_
  refine lv_bipush (v := 6) hx hb dX7_readRow_27 (by decide) ?_
  refine lv_iadd hx hb dX7_readRow_29 ?_
  refine lv_topi (fun v29 e29 => ?_)
  have i29 : v29.toInt = p1.toInt + 6 := zadd e29 rfl (by decide) (by omega) (by omega)
  refine lv_iconst (v := 5) hx hb dX7_readRow_30 (by decide) ?_
  refine lv_iadd hx hb dX7_readRow_31 ?_
  refine lv_topi (fun v31 e31 => ?_)
  have i31 : v31.toInt = v29.toInt + 5 := zadd e31 rfl (by decide) (by omega) (by omega)
  refine lv_istore_n (lv' := [(3, .int v31), (0, .ref h0), (1, .ref aW), (2, .int p1)]) hx hb dX7_readRow_32 rfl hl (by decide) rfl (fun ls hl => ?_)
  refine lv_aload_n hx hb dX7_readRow_33 rfl (lv_at hl 1 rfl) ?_
  refine lv_aload_n hx hb dX7_readRow_34 rfl (lv_at hl 2 rfl) ?_
  refine lv_iload_n hx hb dX7_readRow_35 rfl (lv_at hl 0 rfl) ?_
  refine va_iald hx hb hK hP 3 0 rfl rfl (vp_in_iff.mpr ⟨by omega, by omega⟩) dX7_readRow_36 ?_
  refine lv_topi (fun v36 e36 => ?_)
  have i36 : 0 ≤ v36.toInt ∧ v36.toInt ≤ 20 := zRw_11 ci_fR_zRw e36 (k := p1.toInt / 17) (by omega) (by omega)
  refine va_put (D := (dC, dI)) (ci := 7) (v := .int v36) (ty := .int) (C := RX7) (T := TX7) (N := 9) hx hb hts iX7 tyX7 tyX7_ok nmX7 hown hK hP hD hS 0 rfl rfl 3 (by decide) (hts _ qw227) (fun _ h9 => h9) rfl (by decide +kernel) rfl rfl (Nat.le_of_ble_eq_true rfl) dX7_readRow_37 (fun H locs hP9 hD9 hS9 => ?_)
  clear hP hD hS
  obtain ⟨hP, hD⟩ := zst (wX := [(h0, .inr (7, [.ref sY, .ref sF, .ref sP, .int v36, .int lt, .int sh, .int wd, .int pu, .int mo])), (sY, .inl (cI, 6, .inl v9_f)), (sF, .inl (cI, 5, .inl v23_f)), (aW, .inl (cI, 680, .inl fR))]) hP9 hD9 rfl
  have hS := hS9
  clear hP9 hD9 hS9
  refine lv_aload_n hx hb dX7_readRow_40 rfl (lv_at hl 1 rfl) ?_
  refine lv_aload_n hx hb dX7_readRow_41 rfl (lv_at hl 2 rfl) ?_
  refine lv_iload_n hx hb dX7_readRow_42 rfl (lv_at hl 0 rfl) ?_
  refine lv_iconst (v := 1) hx hb dX7_readRow_43 (by decide) ?_
  refine lv_iadd hx hb dX7_readRow_44 ?_
  refine lv_topi (fun v44 e44 => ?_)
  have i44 : v44.toInt = v31.toInt + 1 := zadd e44 rfl (by decide) (by omega) (by omega)
  refine va_iald hx hb hK hP 3 0 rfl rfl (vp_in_iff.mpr ⟨by omega, by omega⟩) dX7_readRow_45 ?_
  refine lv_topi (fun v45 e45 => ?_)
  refine va_put (D := (dC, dI)) (ci := 7) (v := .int v45) (ty := .int) (C := RX7) (T := TX7) (N := 9) hx hb hts iX7 tyX7 tyX7_ok nmX7 hown hK hP hD hS 0 rfl rfl 4 (by decide) (hts _ qw230) (fun _ h9 => h9) rfl (by decide +kernel) rfl rfl (Nat.le_of_ble_eq_true rfl) dX7_readRow_46 (fun H locs hP9 hD9 hS9 => ?_)
  clear hP hD hS
  obtain ⟨hP, hD⟩ := zst (wX := [(h0, .inr (7, [.ref sY, .ref sF, .ref sP, .int v36, .int v45, .int sh, .int wd, .int pu, .int mo])), (sY, .inl (cI, 6, .inl v9_f)), (sF, .inl (cI, 5, .inl v23_f)), (aW, .inl (cI, 680, .inl fR))]) hP9 hD9 rfl
  have hS := hS9
  clear hP9 hD9 hS9
  refine lv_aload_n hx hb dX7_readRow_49 rfl (lv_at hl 1 rfl) ?_
  refine lv_aload_n hx hb dX7_readRow_50 rfl (lv_at hl 2 rfl) ?_
  refine lv_iload_n hx hb dX7_readRow_51 rfl (lv_at hl 0 rfl) ?_
  refine lv_iconst (v := 2) hx hb dX7_readRow_52 (by decide) ?_
  refine lv_iadd hx hb dX7_readRow_53 ?_
  refine lv_topi (fun v53 e53 => ?_)
  have i53 : v53.toInt = v31.toInt + 2 := zadd e53 rfl (by decide) (by omega) (by omega)
  refine va_iald hx hb hK hP 3 0 rfl rfl (vp_in_iff.mpr ⟨by omega, by omega⟩) dX7_readRow_54 ?_
  refine lv_topi (fun v54 e54 => ?_)
  refine va_put (D := (dC, dI)) (ci := 7) (v := .int v54) (ty := .int) (C := RX7) (T := TX7) (N := 9) hx hb hts iX7 tyX7 tyX7_ok nmX7 hown hK hP hD hS 0 rfl rfl 5 (by decide) (hts _ qw233) (fun _ h9 => h9) rfl (by decide +kernel) rfl rfl (Nat.le_of_ble_eq_true rfl) dX7_readRow_55 (fun H locs hP9 hD9 hS9 => ?_)
  clear hP hD hS
  obtain ⟨hP, hD⟩ := zst (wX := [(h0, .inr (7, [.ref sY, .ref sF, .ref sP, .int v36, .int v45, .int v54, .int wd, .int pu, .int mo])), (sY, .inl (cI, 6, .inl v9_f)), (sF, .inl (cI, 5, .inl v23_f)), (aW, .inl (cI, 680, .inl fR))]) hP9 hD9 rfl
  have hS := hS9
  clear hP9 hD9 hS9
  refine lv_aload_n hx hb dX7_readRow_58 rfl (lv_at hl 1 rfl) ?_
  refine lv_aload_n hx hb dX7_readRow_59 rfl (lv_at hl 2 rfl) ?_
  refine lv_iload_n hx hb dX7_readRow_60 rfl (lv_at hl 0 rfl) ?_
  refine lv_iconst (v := 3) hx hb dX7_readRow_61 (by decide) ?_
  refine lv_iadd hx hb dX7_readRow_62 ?_
  refine lv_topi (fun v62 e62 => ?_)
  have i62 : v62.toInt = v31.toInt + 3 := zadd e62 rfl (by decide) (by omega) (by omega)
  refine va_iald hx hb hK hP 3 0 rfl rfl (vp_in_iff.mpr ⟨by omega, by omega⟩) dX7_readRow_63 ?_
  refine lv_topi (fun v63 e63 => ?_)
  have i63 : (-1) ≤ v63.toInt ∧ v63.toInt ≤ 5 := zRw_14 ci_fR_zRw e63 (k := p1.toInt / 17) (by omega) (by omega)
  refine va_put (D := (dC, dI)) (ci := 7) (v := .int v63) (ty := .int) (C := RX7) (T := TX7) (N := 9) hx hb hts iX7 tyX7 tyX7_ok nmX7 hown hK hP hD hS 0 rfl rfl 6 (by decide) (hts _ qw236) (fun _ h9 => h9) rfl (by decide +kernel) rfl rfl (Nat.le_of_ble_eq_true rfl) dX7_readRow_64 (fun H locs hP9 hD9 hS9 => ?_)
  clear hP hD hS
  obtain ⟨hP, hD⟩ := zst (wX := [(h0, .inr (7, [.ref sY, .ref sF, .ref sP, .int v36, .int v45, .int v54, .int v63, .int pu, .int mo])), (sY, .inl (cI, 6, .inl v9_f)), (sF, .inl (cI, 5, .inl v23_f)), (aW, .inl (cI, 680, .inl fR))]) hP9 hD9 rfl
  have hS := hS9
  clear hP9 hD9 hS9
  refine lv_aload_n hx hb dX7_readRow_67 rfl (lv_at hl 1 rfl) ?_
  refine lv_aload_n hx hb dX7_readRow_68 rfl (lv_at hl 2 rfl) ?_
  refine lv_iload_n hx hb dX7_readRow_69 rfl (lv_at hl 0 rfl) ?_
  refine lv_iconst (v := 4) hx hb dX7_readRow_70 (by decide) ?_
  refine lv_iadd hx hb dX7_readRow_71 ?_
  refine lv_topi (fun v71 e71 => ?_)
  have i71 : v71.toInt = v31.toInt + 4 := zadd e71 rfl (by decide) (by omega) (by omega)
  refine va_iald hx hb hK hP 3 0 rfl rfl (vp_in_iff.mpr ⟨by omega, by omega⟩) dX7_readRow_72 ?_
  refine lv_topi (fun v72 e72 => ?_)
  refine va_put (D := (dC, dI)) (ci := 7) (v := .int v72) (ty := .int) (C := RX7) (T := TX7) (N := 9) hx hb hts iX7 tyX7 tyX7_ok nmX7 hown hK hP hD hS 0 rfl rfl 7 (by decide) (hts _ qw238) (fun _ h9 => h9) rfl (by decide +kernel) rfl rfl (Nat.le_of_ble_eq_true rfl) dX7_readRow_73 (fun H locs hP9 hD9 hS9 => ?_)
  clear hP hD hS
  obtain ⟨hP, hD⟩ := zst (wX := [(h0, .inr (7, [.ref sY, .ref sF, .ref sP, .int v36, .int v45, .int v54, .int v63, .int v72, .int mo])), (sY, .inl (cI, 6, .inl v9_f)), (sF, .inl (cI, 5, .inl v23_f)), (aW, .inl (cI, 680, .inl fR))]) hP9 hD9 rfl
  have hS := hS9
  clear hP9 hD9 hS9
  refine lv_aload_n hx hb dX7_readRow_76 rfl (lv_at hl 1 rfl) ?_
  refine lv_aload_n hx hb dX7_readRow_77 rfl (lv_at hl 2 rfl) ?_
  refine lv_iload_n hx hb dX7_readRow_78 rfl (lv_at hl 0 rfl) ?_
  refine lv_iconst (v := 5) hx hb dX7_readRow_79 (by decide) ?_
  refine lv_iadd hx hb dX7_readRow_80 ?_
  refine lv_topi (fun v80 e80 => ?_)
  have i80 : v80.toInt = v31.toInt + 5 := zadd e80 rfl (by decide) (by omega) (by omega)
  refine va_iald hx hb hK hP 3 0 rfl rfl (vp_in_iff.mpr ⟨by omega, by omega⟩) dX7_readRow_81 ?_
  refine lv_topi (fun v81 e81 => ?_)
  refine va_put (D := (dC, dI)) (ci := 7) (v := .int v81) (ty := .int) (C := RX7) (T := TX7) (N := 9) hx hb hts iX7 tyX7 tyX7_ok nmX7 hown hK hP hD hS 0 rfl rfl 8 (by decide) (hts _ qw240) (fun _ h9 => h9) rfl (by decide +kernel) rfl rfl (Nat.le_of_ble_eq_true rfl) dX7_readRow_82 (fun H locs hP9 hD9 hS9 => ?_)
  clear hP hD hS
  obtain ⟨hP, hD⟩ := zst (wX := [(h0, .inr (7, [.ref sY, .ref sF, .ref sP, .int v36, .int v45, .int v54, .int v63, .int v72, .int v81])), (sY, .inl (cI, 6, .inl v9_f)), (sF, .inl (cI, 5, .inl v23_f)), (aW, .inl (cI, 680, .inl fR))]) hP9 hD9 rfl
  have hS := hS9
  clear hP9 hD9 hS9
  rw [hQ]
  exact W.vret hx hb hr (fun t ht hW => ⟨⟨(v36, v45, v54, v63, v72, v81, v9_f, v23_f), rfl, ⟨by (try dsimp only); omega, by (try dsimp only); omega, by (try dsimp only); omega, by (try dsimp only); omega, by (try dsimp only); exact zRdr_mk e9 e23 e36 e45 e54 e63 e72 e81 (by omega) (by omega) (by omega) (by omega) (by omega) (by omega) (by omega) (by omega)⟩, ⟨by rw [ht]; exact hP, hD⟩⟩, hS.F ht⟩) hS.2.2 dX7_readRow_85
set_option maxHeartbeats 4000000 in
set_option maxRecDepth 100000 in
theorem g_X7_hang (l : Launch) (dC : Nat → ClassId) (dI : Nat → Nat → Nat) (cI cJ : ClassId) (h0 : Nat) (p0 : Int32) (p1 : Int32) (p2 : Int32) (sY : Nat) (sF : Nat) (sP : Nat) (pn : Int32) (lt : Int32) (sh : Int32) (wd : Int32) (pu : Int32) (mo : Int32) (fP : Nat → Int32) (sz : Nat) (n_p0 : 0 ≤ p0.toInt ∧ p0.toInt ≤ 5) (n_p1 : 0 ≤ p1.toInt ∧ p1.toInt ≤ 4) (n_p2 : 0 ≤ p2.toInt ∧ p2.toInt ≤ 9) (n_pn : 0 ≤ pn.toInt ∧ pn.toInt ≤ 19)  (ci_fP_zPo : zPo fP)  : Met l yX7_hang (.code yX7_hang cX7_hang 5 none :: wA) ({ frames := 0, cells := 0, slots := 0, locals := 0 }) (zP (dC, dI) [(cI, .int), (cJ, .long)] [.ref h0, .int p0, .int p1, .int p2] sz [(h0, .inr (7, [.ref sY, .ref sF, .ref sP, .int pn, .int lt, .int sh, .int wd, .int pu, .int mo])), (sP, .inl (cI, 80, .inl fP))]) (va_Qv (fun (u : Int32 × (Nat → Int32)) => (1 ≤ u.1.toInt) ∧ (u.1.toInt ≤ 20) ∧ (∀ (nbI npI : Int) (S : zS) (Y F : Nat → Int32), zSc nbI npI S Y F fP pn lt sh wd pu mo → zSc nbI npI (sHang S p0 p1 p2) Y F u.2 u.1 lt sh wd pu mo) ∧ (∀ i : Nat, (i : Int) < 4 * pn.toInt → u.2 i = fP i) ∧ (zPo u.2)) (fun (u : Int32 × (Nat → Int32)) (t : State) => va_P (dC, dI) vwCl [(h0, .inr (7, [.ref sY, .ref sF, .ref sP, .int u.1, .int lt, .int sh, .int wd, .int pu, .int mo])), (sP, .inl (cI, 80, .inl u.2))] t.heap ∧ va_D (va_A [(h0, .inr (7, [.ref sY, .ref sF, .ref sP, .int pn, .int lt, .int sh, .int wd, .int pu, .int mo])), (sP, .inl (cI, 80, .inl fP))] sz) [(h0, .inr (7, [.ref sY, .ref sF, .ref sP, .int u.1, .int lt, .int sh, .int wd, .int pu, .int mo])), (sP, .inl (cI, 80, .inl u.2))]) (va_A [(h0, .inr (7, [.ref sY, .ref sF, .ref sP, .int pn, .int lt, .int sh, .int wd, .int pu, .int mo])), (sP, .inl (cI, 80, .inl fP))] sz)) 0 0 (va_A [(h0, .inr (7, [.ref sY, .ref sF, .ref sP, .int pn, .int lt, .int sh, .int wd, .int pu, .int mo])), (sP, .inl (cI, 80, .inl fP))] sz) := by
  refine Met.ofW (cc := cX7_hang) (maxL := 5) (ret := none) (by decide) rfl ?_
  intro p e s m args below meth c s₁ B hml hv
  obtain ⟨hargs, hsz, hP, hK, hT⟩ := hv
  have hx := B.exec
  have hb := B.bytes
  have hr := B.returns
  have hts : ∀ w ∈ wA, w.before args s = true := fun w h => atoms_spec (ws := .code yX7_hang cX7_hang 5 none :: wA) B.pre w (List.mem_cons_of_mem _ h)
  have hown : s.vm.findClass RX7 = some m.cls := findClass_of_methodNamed B.named
  have hlocks := B.notSynchronized
  subst hsz
  have hD := hT.self (sz := s.heap.size)
  generalize hAe : va_A [(h0, .inr (7, [.ref sY, .ref sF, .ref sP, .int pn, .int lt, .int sh, .int wd, .int pu, .int mo])), (sP, .inl (cI, 80, .inl fP))] s.heap.size = A at hD ⊢
  have hA : ∀ q : Nat, s.heap.size ≤ q → A q := fun q h => by rw [← hAe]; exact Or.inr h
  have hl := lv_entry ([.ref h0, .int p0, .int p1, .int p2]) (n := 5) (Nat.le_of_ble_eq_true rfl)
  rw [show entryFrame m args 5 = entryFrame m ([.ref h0, .int p0, .int p1, .int p2] : List Value).toArray 5 by rw [hargs], lg_entry_eq]
  generalize (lg_sl ([.ref h0, .int p0, .int p1, .int p2]) ++ List.replicate (5 - (lg_sl ([.ref h0, .int p0, .int p1, .int p2])).length) Slot.unset).toArray = ls at hl ⊢
  have hl : lv_has ls 5 [(0, .ref h0), (1, .int p0), (2, .int p1), (3, .int p2)] := hl
  refine zstart (fun H hH => ?_)
  rw [← hH] at hP
  have hS : va_S A s.heap H [] := by rw [hH]; exact va_S.rf
  generalize ([] : List Loc) = locs at hS ⊢
  refine zgen (fun R Q hR hQ => ?_)
  refine lv_aload_n hx hb dX7_hang_0 rfl (lv_at hl 0 rfl) ?_
  refine va_get (D := (dC, dI)) (ci := 7) (v := .int pn) (C := RX7) (T := TX7) (N := 9) hx hb hts iX7 hown hK hP 0 rfl rfl 3 (by decide) (hts _ qw227) (fun _ h9 => h9) rfl dX7_hang_1 ?_
  refine lv_iconst (v := 4) hx hb dX7_hang_4 (by decide) ?_
  refine lv_imul hx hb dX7_hang_5 ?_
  refine lv_topi (fun v5 e5 => ?_)
  have i5 : v5.toInt = pn.toInt * 4 := zmul e5 rfl (by decide) (by omega) (by omega)
  refine lv_istore (lv' := [(4, .int v5), (0, .ref h0), (1, .int p0), (2, .int p1), (3, .int p2)]) hx hb dX7_hang_6 hl (by decide) rfl (fun ls hl => ?_)
  refine lv_aload_n hx hb dX7_hang_8 rfl (lv_at hl 1 rfl) ?_
  refine va_get (D := (dC, dI)) (ci := 7) (v := .ref sP) (C := RX7) (T := TX7) (N := 9) hx hb hts iX7 hown hK hP 0 rfl rfl 2 (by decide) (hts _ qw226) (fun _ h9 => h9) rfl dX7_hang_9 ?_
  refine lv_iload hx hb dX7_hang_12 (lv_at hl 0 rfl) ?_
  refine lv_iconst (v := 0) hx hb dX7_hang_14 (by decide) ?_
  refine lv_iadd hx hb dX7_hang_15 ?_
  refine lv_topi (fun v15 e15 => ?_)
  have i15 : v15.toInt = v5.toInt + 0 := zadd e15 rfl (by decide) (by omega) (by omega)
  refine lv_iload_n hx hb dX7_hang_16 rfl (lv_at hl 2 rfl) ?_
  refine va_iast hx hb hK hP hD hS 1 0 rfl rfl (vp_in_iff.mpr ⟨by omega, by omega⟩) dX7_hang_17 (fun H locs hP9 hD9 hS9 => ?_)
  clear hP hD hS
  obtain ⟨v17_f, e17⟩ : ∃ g : Nat → Int32, g = upd fP (v15).toNatClampNeg p0 := ⟨_, rfl⟩
  rw [← e17] at hP9 hD9
  obtain ⟨hP, hD⟩ := zst (wX := [(h0, .inr (7, [.ref sY, .ref sF, .ref sP, .int pn, .int lt, .int sh, .int wd, .int pu, .int mo])), (sP, .inl (cI, 80, .inl v17_f))]) hP9 hD9 rfl
  have hS := hS9
  clear hP9 hD9 hS9
  have cq17_zPo : zPo v17_f := zPo_upd (k := pn.toInt) 0 ci_fP_zPo e17 (by omega) (by omega) (by omega)
  refine lv_aload_n hx hb dX7_hang_18 rfl (lv_at hl 1 rfl) ?_
  refine va_get (D := (dC, dI)) (ci := 7) (v := .ref sP) (C := RX7) (T := TX7) (N := 9) hx hb hts iX7 hown hK hP 0 rfl rfl 2 (by decide) (hts _ qw226) (fun _ h9 => h9) rfl dX7_hang_19 ?_
  refine lv_iload hx hb dX7_hang_22 (lv_at hl 0 rfl) ?_
  refine lv_iconst (v := 1) hx hb dX7_hang_24 (by decide) ?_
  refine lv_iadd hx hb dX7_hang_25 ?_
  refine lv_topi (fun v25 e25 => ?_)
  have i25 : v25.toInt = v5.toInt + 1 := zadd e25 rfl (by decide) (by omega) (by omega)
  refine lv_iload_n hx hb dX7_hang_26 rfl (lv_at hl 3 rfl) ?_
  refine va_iast hx hb hK hP hD hS 1 0 rfl rfl (vp_in_iff.mpr ⟨by omega, by omega⟩) dX7_hang_27 (fun H locs hP9 hD9 hS9 => ?_)
  clear hP hD hS
  obtain ⟨v27_f, e27⟩ : ∃ g : Nat → Int32, g = upd v17_f (v25).toNatClampNeg p1 := ⟨_, rfl⟩
  rw [← e27] at hP9 hD9
  obtain ⟨hP, hD⟩ := zst (wX := [(h0, .inr (7, [.ref sY, .ref sF, .ref sP, .int pn, .int lt, .int sh, .int wd, .int pu, .int mo])), (sP, .inl (cI, 80, .inl v27_f))]) hP9 hD9 rfl
  have hS := hS9
  clear hP9 hD9 hS9
  have cq27_zPo : zPo v27_f := zPo_upd (k := pn.toInt) 1 cq17_zPo e27 (by omega) (by omega) (by omega)
  refine lv_aload_n hx hb dX7_hang_28 rfl (lv_at hl 1 rfl) ?_
  refine va_get (D := (dC, dI)) (ci := 7) (v := .ref sP) (C := RX7) (T := TX7) (N := 9) hx hb hts iX7 hown hK hP 0 rfl rfl 2 (by decide) (hts _ qw226) (fun _ h9 => h9) rfl dX7_hang_29 ?_
  refine lv_iload hx hb dX7_hang_32 (lv_at hl 0 rfl) ?_
  refine lv_iconst (v := 2) hx hb dX7_hang_34 (by decide) ?_
  refine lv_iadd hx hb dX7_hang_35 ?_
  refine lv_topi (fun v35 e35 => ?_)
  have i35 : v35.toInt = v5.toInt + 2 := zadd e35 rfl (by decide) (by omega) (by omega)
  refine lv_iload_n hx hb dX7_hang_36 rfl (lv_at hl 4 rfl) ?_
  refine va_iast hx hb hK hP hD hS 1 0 rfl rfl (vp_in_iff.mpr ⟨by omega, by omega⟩) dX7_hang_37 (fun H locs hP9 hD9 hS9 => ?_)
  clear hP hD hS
  obtain ⟨v37_f, e37⟩ : ∃ g : Nat → Int32, g = upd v27_f (v35).toNatClampNeg p2 := ⟨_, rfl⟩
  rw [← e37] at hP9 hD9
  obtain ⟨hP, hD⟩ := zst (wX := [(h0, .inr (7, [.ref sY, .ref sF, .ref sP, .int pn, .int lt, .int sh, .int wd, .int pu, .int mo])), (sP, .inl (cI, 80, .inl v37_f))]) hP9 hD9 rfl
  have hS := hS9
  clear hP9 hD9 hS9
  have cq37_zPo : zPo v37_f := zPo_upd (k := pn.toInt) 2 cq27_zPo e37 (by omega) (by omega) (by omega)
  refine lv_aload_n hx hb dX7_hang_38 rfl (lv_at hl 1 rfl) ?_
  refine va_get (D := (dC, dI)) (ci := 7) (v := .ref sP) (C := RX7) (T := TX7) (N := 9) hx hb hts iX7 hown hK hP 0 rfl rfl 2 (by decide) (hts _ qw226) (fun _ h9 => h9) rfl dX7_hang_39 ?_
  refine lv_iload hx hb dX7_hang_42 (lv_at hl 0 rfl) ?_
  refine lv_iconst (v := 3) hx hb dX7_hang_44 (by decide) ?_
  refine lv_iadd hx hb dX7_hang_45 ?_
  refine lv_topi (fun v45 e45 => ?_)
  have i45 : v45.toInt = v5.toInt + 3 := zadd e45 rfl (by decide) (by omega) (by omega)
  refine lv_aload_n hx hb dX7_hang_46 rfl (lv_at hl 1 rfl) ?_
  refine va_get (D := (dC, dI)) (ci := 7) (v := .int mo) (C := RX7) (T := TX7) (N := 9) hx hb hts iX7 hown hK hP 0 rfl rfl 8 (by decide) (hts _ qw240) (fun _ h9 => h9) rfl dX7_hang_47 ?_
  refine va_iast hx hb hK hP hD hS 1 0 rfl rfl (vp_in_iff.mpr ⟨by omega, by omega⟩) dX7_hang_50 (fun H locs hP9 hD9 hS9 => ?_)
  clear hP hD hS
  obtain ⟨v50_f, e50⟩ : ∃ g : Nat → Int32, g = upd v37_f (v45).toNatClampNeg mo := ⟨_, rfl⟩
  rw [← e50] at hP9 hD9
  obtain ⟨hP, hD⟩ := zst (wX := [(h0, .inr (7, [.ref sY, .ref sF, .ref sP, .int pn, .int lt, .int sh, .int wd, .int pu, .int mo])), (sP, .inl (cI, 80, .inl v50_f))]) hP9 hD9 rfl
  have hS := hS9
  clear hP9 hD9 hS9
  have cq50_zPo : zPo v50_f := zPo_upd (k := pn.toInt) 3 cq37_zPo e50 (by omega) (by omega) (by omega)
  refine lv_aload_n hx hb dX7_hang_51 rfl (lv_at hl 1 rfl) ?_
  refine lv_dup hx hb dX7_hang_52 rfl ?_
  refine va_get (D := (dC, dI)) (ci := 7) (v := .int pn) (C := RX7) (T := TX7) (N := 9) hx hb hts iX7 hown hK hP 0 rfl rfl 3 (by decide) (hts _ qw227) (fun _ h9 => h9) rfl dX7_hang_53 ?_
  refine lv_iconst (v := 1) hx hb dX7_hang_56 (by decide) ?_
  refine lv_iadd hx hb dX7_hang_57 ?_
  refine lv_topi (fun v57 e57 => ?_)
  have i57 : v57.toInt = pn.toInt + 1 := zadd e57 rfl (by decide) (by omega) (by omega)
  refine va_put (D := (dC, dI)) (ci := 7) (v := .int v57) (ty := .int) (C := RX7) (T := TX7) (N := 9) hx hb hts iX7 tyX7 tyX7_ok nmX7 hown hK hP hD hS 0 rfl rfl 3 (by decide) (hts _ qw227) (fun _ h9 => h9) rfl (by decide +kernel) rfl rfl (Nat.le_of_ble_eq_true rfl) dX7_hang_58 (fun H locs hP9 hD9 hS9 => ?_)
  clear hP hD hS
  obtain ⟨hP, hD⟩ := zst (wX := [(h0, .inr (7, [.ref sY, .ref sF, .ref sP, .int v57, .int lt, .int sh, .int wd, .int pu, .int mo])), (sP, .inl (cI, 80, .inl v50_f))]) hP9 hD9 rfl
  have hS := hS9
  clear hP9 hD9 hS9
  rw [hQ]
  exact W.vret hx hb hr (fun t ht hW => ⟨⟨(v57, v50_f), rfl, ⟨by (try dsimp only); omega, by (try dsimp only); omega, by (try dsimp only); exact fun nbI npI S Y F h => zSc_H h e17 e27 e37 e50 (by omega) (by omega) (by omega) (by omega) (by omega) e57 (by omega), by (try dsimp only); exact zhgK e17 e27 e37 e50 (by omega) (by omega) (by omega) (by omega), cq50_zPo⟩, ⟨by rw [ht]; exact hP, hD⟩⟩, hS.F ht⟩) hS.2.2 dX7_hang_61
set_option maxHeartbeats 4000000 in
set_option maxRecDepth 100000 in
theorem g_X7_become (l : Launch) (dC : Nat → ClassId) (dI : Nat → Nat → Nat) (cI cJ : ClassId) (h0 : Nat) (g0 : Nat) (sY : Nat) (sF : Nat) (sP : Nat) (pn : Int32) (lt : Int32) (sh : Int32) (wd : Int32) (pu : Int32) (mo : Int32) (fY : Nat → Int32) (fF : Nat → Int32) (fP : Nat → Int32) (gY : Nat) (gF : Nat) (gP : Nat) (gpn : Int32) (glt : Int32) (gsh : Int32) (gwd : Int32) (gpu : Int32) (gmo : Int32) (gfY : Nat → Int32) (gfF : Nat → Int32) (gfP : Nat → Int32) (sz : Nat)   (ci_fP_zPo : zPo fP) (ci_gfP_zPo : zPo gfP)  : Met l yX7_become (.code yX7_become cX7_become 2 none :: wA) ({ frames := 1, cells := 0, slots := 0, locals := 60 }) (zP (dC, dI) [(cI, .int), (cJ, .long)] [.ref h0, .ref g0] sz [(h0, .inr (7, [.ref sY, .ref sF, .ref sP, .int pn, .int lt, .int sh, .int wd, .int pu, .int mo])), (sY, .inl (cI, 6, .inl fY)), (sF, .inl (cI, 5, .inl fF)), (sP, .inl (cI, 80, .inl fP)), (g0, .inr (7, [.ref gY, .ref gF, .ref gP, .int gpn, .int glt, .int gsh, .int gwd, .int gpu, .int gmo])), (gY, .inl (cI, 6, .inl gfY)), (gF, .inl (cI, 5, .inl gfF)), (gP, .inl (cI, 80, .inl gfP))]) (va_Qv (fun (u : (Nat → Int32) × (Nat → Int32) × (Nat → Int32)) => ((∀ i : Nat, i < 6 → u.1 i = gfY i) ∧ (∀ i : Nat, i < 5 → u.2.1 i = gfF i) ∧ ∀ i : Nat, i < 80 → u.2.2 i = gfP i) ∧ (zPo u.2.2)) (fun (u : (Nat → Int32) × (Nat → Int32) × (Nat → Int32)) (t : State) => va_P (dC, dI) vwCl [(h0, .inr (7, [.ref sY, .ref sF, .ref sP, .int gpn, .int glt, .int gsh, .int gwd, .int gpu, .int gmo])), (sY, .inl (cI, 6, .inl u.1)), (sF, .inl (cI, 5, .inl u.2.1)), (sP, .inl (cI, 80, .inl u.2.2)), (g0, .inr (7, [.ref gY, .ref gF, .ref gP, .int gpn, .int glt, .int gsh, .int gwd, .int gpu, .int gmo])), (gY, .inl (cI, 6, .inl gfY)), (gF, .inl (cI, 5, .inl gfF)), (gP, .inl (cI, 80, .inl gfP))] t.heap ∧ va_D (va_A [(h0, .inr (7, [.ref sY, .ref sF, .ref sP, .int pn, .int lt, .int sh, .int wd, .int pu, .int mo])), (sY, .inl (cI, 6, .inl fY)), (sF, .inl (cI, 5, .inl fF)), (sP, .inl (cI, 80, .inl fP)), (g0, .inr (7, [.ref gY, .ref gF, .ref gP, .int gpn, .int glt, .int gsh, .int gwd, .int gpu, .int gmo])), (gY, .inl (cI, 6, .inl gfY)), (gF, .inl (cI, 5, .inl gfF)), (gP, .inl (cI, 80, .inl gfP))] sz) [(h0, .inr (7, [.ref sY, .ref sF, .ref sP, .int gpn, .int glt, .int gsh, .int gwd, .int gpu, .int gmo])), (sY, .inl (cI, 6, .inl u.1)), (sF, .inl (cI, 5, .inl u.2.1)), (sP, .inl (cI, 80, .inl u.2.2)), (g0, .inr (7, [.ref gY, .ref gF, .ref gP, .int gpn, .int glt, .int gsh, .int gwd, .int gpu, .int gmo])), (gY, .inl (cI, 6, .inl gfY)), (gF, .inl (cI, 5, .inl gfF)), (gP, .inl (cI, 80, .inl gfP))]) (va_A [(h0, .inr (7, [.ref sY, .ref sF, .ref sP, .int pn, .int lt, .int sh, .int wd, .int pu, .int mo])), (sY, .inl (cI, 6, .inl fY)), (sF, .inl (cI, 5, .inl fF)), (sP, .inl (cI, 80, .inl fP)), (g0, .inr (7, [.ref gY, .ref gF, .ref gP, .int gpn, .int glt, .int gsh, .int gwd, .int gpu, .int gmo])), (gY, .inl (cI, 6, .inl gfY)), (gF, .inl (cI, 5, .inl gfF)), (gP, .inl (cI, 80, .inl gfP))] sz)) 0 0 (va_A [(h0, .inr (7, [.ref sY, .ref sF, .ref sP, .int pn, .int lt, .int sh, .int wd, .int pu, .int mo])), (sY, .inl (cI, 6, .inl fY)), (sF, .inl (cI, 5, .inl fF)), (sP, .inl (cI, 80, .inl fP)), (g0, .inr (7, [.ref gY, .ref gF, .ref gP, .int gpn, .int glt, .int gsh, .int gwd, .int gpu, .int gmo])), (gY, .inl (cI, 6, .inl gfY)), (gF, .inl (cI, 5, .inl gfF)), (gP, .inl (cI, 80, .inl gfP))] sz) := by
  refine Met.ofW (cc := cX7_become) (maxL := 2) (ret := none) (by decide) rfl ?_
  intro p e s m args below meth c s₁ B hml hv
  obtain ⟨hargs, hsz, hP, hK, hT⟩ := hv
  have hx := B.exec
  have hb := B.bytes
  have hr := B.returns
  have hts : ∀ w ∈ wA, w.before args s = true := fun w h => atoms_spec (ws := .code yX7_become cX7_become 2 none :: wA) B.pre w (List.mem_cons_of_mem _ h)
  have hown : s.vm.findClass RX7 = some m.cls := findClass_of_methodNamed B.named
  have hlocks := B.notSynchronized
  subst hsz
  have hD := hT.self (sz := s.heap.size)
  generalize hAe : va_A [(h0, .inr (7, [.ref sY, .ref sF, .ref sP, .int pn, .int lt, .int sh, .int wd, .int pu, .int mo])), (sY, .inl (cI, 6, .inl fY)), (sF, .inl (cI, 5, .inl fF)), (sP, .inl (cI, 80, .inl fP)), (g0, .inr (7, [.ref gY, .ref gF, .ref gP, .int gpn, .int glt, .int gsh, .int gwd, .int gpu, .int gmo])), (gY, .inl (cI, 6, .inl gfY)), (gF, .inl (cI, 5, .inl gfF)), (gP, .inl (cI, 80, .inl gfP))] s.heap.size = A at hD ⊢
  have hA : ∀ q : Nat, s.heap.size ≤ q → A q := fun q h => by rw [← hAe]; exact Or.inr h
  have hl := lv_entry ([.ref h0, .ref g0]) (n := 2) (Nat.le_of_ble_eq_true rfl)
  rw [show entryFrame m args 2 = entryFrame m ([.ref h0, .ref g0] : List Value).toArray 2 by rw [hargs], lg_entry_eq]
  generalize (lg_sl ([.ref h0, .ref g0]) ++ List.replicate (2 - (lg_sl ([.ref h0, .ref g0])).length) Slot.unset).toArray = ls at hl ⊢
  have hl : lv_has ls 2 [(0, .ref h0), (1, .ref g0)] := hl
  refine zstart (fun H hH => ?_)
  rw [← hH] at hP
  have hS : va_S A s.heap H [] := by rw [hH]; exact va_S.rf
  generalize ([] : List Loc) = locs at hS ⊢
  refine zgen (fun R Q hR hQ => ?_)
  refine lv_aload_n hx hb dX7_become_0 rfl (lv_at hl 1 rfl) ?_
  refine va_get (D := (dC, dI)) (ci := 7) (v := .ref gY) (C := RX7) (T := TX7) (N := 9) hx hb hts iX7 hown hK hP 4 rfl rfl 0 (by decide) (hts _ qw220) (fun _ h9 => h9) rfl dX7_become_1 ?_
  refine lv_iconst (v := 0) hx hb dX7_become_4 (by decide) ?_
  refine lv_aload_n hx hb dX7_become_5 rfl (lv_at hl 0 rfl) ?_
  refine va_get (D := (dC, dI)) (ci := 7) (v := .ref sY) (C := RX7) (T := TX7) (N := 9) hx hb hts iX7 hown hK hP 0 rfl rfl 0 (by decide) (hts _ qw220) (fun _ h9 => h9) rfl dX7_become_6 ?_
  refine lv_iconst (v := 0) hx hb dX7_become_9 (by decide) ?_
  refine lv_aload_n hx hb dX7_become_10 rfl (lv_at hl 0 rfl) ?_
  refine va_get (D := (dC, dI)) (ci := 7) (v := .ref sY) (C := RX7) (T := TX7) (N := 9) hx hb hts iX7 hown hK hP 0 rfl rfl 0 (by decide) (hts _ qw220) (fun _ h9 => h9) rfl dX7_become_11 ?_
  refine va_alen (v := 6) hx hb hK hP 1 0 rfl rfl rfl dX7_become_14 ?_
  refine va_copyi hx hb (by rw [hml]; exact hl.1.symm) hown (hts _ qw696) (hts _ qw432) (hts _ qw431) (hts _ qw109) hK hP hD hS 5 1 0 0 rfl rfl rfl rfl rfl (by decide) (by decide) (by decide) (zcpb (a := 0) (b := 6) (by decide) (by decide) (by omega)) (zcpb (a := 0) (b := 6) (by decide) (by decide) (by omega)) (fun i hi => rfl) (by rw [hR]; exact Nat.le_of_ble_eq_true rfl) (by rw [hR]; decide) dX7_become_15 (fun H locs hP9 hD9 hS9 => ?_)
  clear hP hD hS
  obtain ⟨v15_f, e15⟩ : ∃ g : Nat → Int32, g = va_cpy gfY fY (0 : Int32).toNatClampNeg (0 : Int32).toNatClampNeg (6 : Int32).toNatClampNeg := ⟨_, rfl⟩
  rw [← e15] at hP9 hD9
  obtain ⟨hP, hD⟩ := zst (wX := [(h0, .inr (7, [.ref sY, .ref sF, .ref sP, .int pn, .int lt, .int sh, .int wd, .int pu, .int mo])), (sY, .inl (cI, 6, .inl v15_f)), (sF, .inl (cI, 5, .inl fF)), (sP, .inl (cI, 80, .inl fP)), (g0, .inr (7, [.ref gY, .ref gF, .ref gP, .int gpn, .int glt, .int gsh, .int gwd, .int gpu, .int gmo])), (gY, .inl (cI, 6, .inl gfY)), (gF, .inl (cI, 5, .inl gfF)), (gP, .inl (cI, 80, .inl gfP))]) hP9 hD9 rfl
  have hS := hS9
  clear hP9 hD9 hS9
  refine lv_aload_n hx hb dX7_become_18 rfl (lv_at hl 1 rfl) ?_
  refine va_get (D := (dC, dI)) (ci := 7) (v := .ref gF) (C := RX7) (T := TX7) (N := 9) hx hb hts iX7 hown hK hP 4 rfl rfl 1 (by decide) (hts _ qw223) (fun _ h9 => h9) rfl dX7_become_19 ?_
  refine lv_iconst (v := 0) hx hb dX7_become_22 (by decide) ?_
  refine lv_aload_n hx hb dX7_become_23 rfl (lv_at hl 0 rfl) ?_
  refine va_get (D := (dC, dI)) (ci := 7) (v := .ref sF) (C := RX7) (T := TX7) (N := 9) hx hb hts iX7 hown hK hP 0 rfl rfl 1 (by decide) (hts _ qw223) (fun _ h9 => h9) rfl dX7_become_24 ?_
  refine lv_iconst (v := 0) hx hb dX7_become_27 (by decide) ?_
  refine lv_aload_n hx hb dX7_become_28 rfl (lv_at hl 0 rfl) ?_
  refine va_get (D := (dC, dI)) (ci := 7) (v := .ref sF) (C := RX7) (T := TX7) (N := 9) hx hb hts iX7 hown hK hP 0 rfl rfl 1 (by decide) (hts _ qw223) (fun _ h9 => h9) rfl dX7_become_29 ?_
  refine va_alen (v := 5) hx hb hK hP 2 0 rfl rfl rfl dX7_become_32 ?_
  refine va_copyi hx hb (by rw [hml]; exact hl.1.symm) hown (hts _ qw696) (hts _ qw432) (hts _ qw431) (hts _ qw109) hK hP hD hS 6 2 0 0 rfl rfl rfl rfl rfl (by decide) (by decide) (by decide) (zcpb (a := 0) (b := 5) (by decide) (by decide) (by omega)) (zcpb (a := 0) (b := 5) (by decide) (by decide) (by omega)) (fun i hi => rfl) (by rw [hR]; exact Nat.le_of_ble_eq_true rfl) (by rw [hR]; decide) dX7_become_33 (fun H locs hP9 hD9 hS9 => ?_)
  clear hP hD hS
  obtain ⟨v33_f, e33⟩ : ∃ g : Nat → Int32, g = va_cpy gfF fF (0 : Int32).toNatClampNeg (0 : Int32).toNatClampNeg (5 : Int32).toNatClampNeg := ⟨_, rfl⟩
  rw [← e33] at hP9 hD9
  obtain ⟨hP, hD⟩ := zst (wX := [(h0, .inr (7, [.ref sY, .ref sF, .ref sP, .int pn, .int lt, .int sh, .int wd, .int pu, .int mo])), (sY, .inl (cI, 6, .inl v15_f)), (sF, .inl (cI, 5, .inl v33_f)), (sP, .inl (cI, 80, .inl fP)), (g0, .inr (7, [.ref gY, .ref gF, .ref gP, .int gpn, .int glt, .int gsh, .int gwd, .int gpu, .int gmo])), (gY, .inl (cI, 6, .inl gfY)), (gF, .inl (cI, 5, .inl gfF)), (gP, .inl (cI, 80, .inl gfP))]) hP9 hD9 rfl
  have hS := hS9
  clear hP9 hD9 hS9
  refine lv_aload_n hx hb dX7_become_36 rfl (lv_at hl 1 rfl) ?_
  refine va_get (D := (dC, dI)) (ci := 7) (v := .ref gP) (C := RX7) (T := TX7) (N := 9) hx hb hts iX7 hown hK hP 4 rfl rfl 2 (by decide) (hts _ qw226) (fun _ h9 => h9) rfl dX7_become_37 ?_
  refine lv_iconst (v := 0) hx hb dX7_become_40 (by decide) ?_
  refine lv_aload_n hx hb dX7_become_41 rfl (lv_at hl 0 rfl) ?_
  refine va_get (D := (dC, dI)) (ci := 7) (v := .ref sP) (C := RX7) (T := TX7) (N := 9) hx hb hts iX7 hown hK hP 0 rfl rfl 2 (by decide) (hts _ qw226) (fun _ h9 => h9) rfl dX7_become_42 ?_
  refine lv_iconst (v := 0) hx hb dX7_become_45 (by decide) ?_
  refine lv_aload_n hx hb dX7_become_46 rfl (lv_at hl 0 rfl) ?_
  refine va_get (D := (dC, dI)) (ci := 7) (v := .ref sP) (C := RX7) (T := TX7) (N := 9) hx hb hts iX7 hown hK hP 0 rfl rfl 2 (by decide) (hts _ qw226) (fun _ h9 => h9) rfl dX7_become_47 ?_
  refine va_alen (v := 80) hx hb hK hP 3 0 rfl rfl rfl dX7_become_50 ?_
  refine va_copyi hx hb (by rw [hml]; exact hl.1.symm) hown (hts _ qw696) (hts _ qw432) (hts _ qw431) (hts _ qw109) hK hP hD hS 7 3 0 0 rfl rfl rfl rfl rfl (by decide) (by decide) (by decide) (zcpb (a := 0) (b := 80) (by decide) (by decide) (by omega)) (zcpb (a := 0) (b := 80) (by decide) (by decide) (by omega)) (fun i hi => rfl) (by rw [hR]; exact Nat.le_of_ble_eq_true rfl) (by rw [hR]; decide) dX7_become_51 (fun H locs hP9 hD9 hS9 => ?_)
  clear hP hD hS
  obtain ⟨v51_f, e51⟩ : ∃ g : Nat → Int32, g = va_cpy gfP fP (0 : Int32).toNatClampNeg (0 : Int32).toNatClampNeg (80 : Int32).toNatClampNeg := ⟨_, rfl⟩
  rw [← e51] at hP9 hD9
  obtain ⟨hP, hD⟩ := zst (wX := [(h0, .inr (7, [.ref sY, .ref sF, .ref sP, .int pn, .int lt, .int sh, .int wd, .int pu, .int mo])), (sY, .inl (cI, 6, .inl v15_f)), (sF, .inl (cI, 5, .inl v33_f)), (sP, .inl (cI, 80, .inl v51_f)), (g0, .inr (7, [.ref gY, .ref gF, .ref gP, .int gpn, .int glt, .int gsh, .int gwd, .int gpu, .int gmo])), (gY, .inl (cI, 6, .inl gfY)), (gF, .inl (cI, 5, .inl gfF)), (gP, .inl (cI, 80, .inl gfP))]) hP9 hD9 rfl
  have hS := hS9
  clear hP9 hD9 hS9
  have cq51_zPo : zPo v51_f := zPo_cpy ci_gfP_zPo ci_fP_zPo e51
  refine lv_aload_n hx hb dX7_become_54 rfl (lv_at hl 0 rfl) ?_
  refine lv_aload_n hx hb dX7_become_55 rfl (lv_at hl 1 rfl) ?_
  refine va_get (D := (dC, dI)) (ci := 7) (v := .int gpn) (C := RX7) (T := TX7) (N := 9) hx hb hts iX7 hown hK hP 4 rfl rfl 3 (by decide) (hts _ qw227) (fun _ h9 => h9) rfl dX7_become_56 ?_
  refine va_put (D := (dC, dI)) (ci := 7) (v := .int gpn) (ty := .int) (C := RX7) (T := TX7) (N := 9) hx hb hts iX7 tyX7 tyX7_ok nmX7 hown hK hP hD hS 0 rfl rfl 3 (by decide) (hts _ qw227) (fun _ h9 => h9) rfl (by decide +kernel) rfl rfl (Nat.le_of_ble_eq_true rfl) dX7_become_59 (fun H locs hP9 hD9 hS9 => ?_)
  clear hP hD hS
  obtain ⟨hP, hD⟩ := zst (wX := [(h0, .inr (7, [.ref sY, .ref sF, .ref sP, .int gpn, .int lt, .int sh, .int wd, .int pu, .int mo])), (sY, .inl (cI, 6, .inl v15_f)), (sF, .inl (cI, 5, .inl v33_f)), (sP, .inl (cI, 80, .inl v51_f)), (g0, .inr (7, [.ref gY, .ref gF, .ref gP, .int gpn, .int glt, .int gsh, .int gwd, .int gpu, .int gmo])), (gY, .inl (cI, 6, .inl gfY)), (gF, .inl (cI, 5, .inl gfF)), (gP, .inl (cI, 80, .inl gfP))]) hP9 hD9 rfl
  have hS := hS9
  clear hP9 hD9 hS9
  refine lv_aload_n hx hb dX7_become_62 rfl (lv_at hl 0 rfl) ?_
  refine lv_aload_n hx hb dX7_become_63 rfl (lv_at hl 1 rfl) ?_
  refine va_get (D := (dC, dI)) (ci := 7) (v := .int glt) (C := RX7) (T := TX7) (N := 9) hx hb hts iX7 hown hK hP 4 rfl rfl 4 (by decide) (hts _ qw230) (fun _ h9 => h9) rfl dX7_become_64 ?_
  refine va_put (D := (dC, dI)) (ci := 7) (v := .int glt) (ty := .int) (C := RX7) (T := TX7) (N := 9) hx hb hts iX7 tyX7 tyX7_ok nmX7 hown hK hP hD hS 0 rfl rfl 4 (by decide) (hts _ qw230) (fun _ h9 => h9) rfl (by decide +kernel) rfl rfl (Nat.le_of_ble_eq_true rfl) dX7_become_67 (fun H locs hP9 hD9 hS9 => ?_)
  clear hP hD hS
  obtain ⟨hP, hD⟩ := zst (wX := [(h0, .inr (7, [.ref sY, .ref sF, .ref sP, .int gpn, .int glt, .int sh, .int wd, .int pu, .int mo])), (sY, .inl (cI, 6, .inl v15_f)), (sF, .inl (cI, 5, .inl v33_f)), (sP, .inl (cI, 80, .inl v51_f)), (g0, .inr (7, [.ref gY, .ref gF, .ref gP, .int gpn, .int glt, .int gsh, .int gwd, .int gpu, .int gmo])), (gY, .inl (cI, 6, .inl gfY)), (gF, .inl (cI, 5, .inl gfF)), (gP, .inl (cI, 80, .inl gfP))]) hP9 hD9 rfl
  have hS := hS9
  clear hP9 hD9 hS9
  refine lv_aload_n hx hb dX7_become_70 rfl (lv_at hl 0 rfl) ?_
  refine lv_aload_n hx hb dX7_become_71 rfl (lv_at hl 1 rfl) ?_
  refine va_get (D := (dC, dI)) (ci := 7) (v := .int gsh) (C := RX7) (T := TX7) (N := 9) hx hb hts iX7 hown hK hP 4 rfl rfl 5 (by decide) (hts _ qw233) (fun _ h9 => h9) rfl dX7_become_72 ?_
  refine va_put (D := (dC, dI)) (ci := 7) (v := .int gsh) (ty := .int) (C := RX7) (T := TX7) (N := 9) hx hb hts iX7 tyX7 tyX7_ok nmX7 hown hK hP hD hS 0 rfl rfl 5 (by decide) (hts _ qw233) (fun _ h9 => h9) rfl (by decide +kernel) rfl rfl (Nat.le_of_ble_eq_true rfl) dX7_become_75 (fun H locs hP9 hD9 hS9 => ?_)
  clear hP hD hS
  obtain ⟨hP, hD⟩ := zst (wX := [(h0, .inr (7, [.ref sY, .ref sF, .ref sP, .int gpn, .int glt, .int gsh, .int wd, .int pu, .int mo])), (sY, .inl (cI, 6, .inl v15_f)), (sF, .inl (cI, 5, .inl v33_f)), (sP, .inl (cI, 80, .inl v51_f)), (g0, .inr (7, [.ref gY, .ref gF, .ref gP, .int gpn, .int glt, .int gsh, .int gwd, .int gpu, .int gmo])), (gY, .inl (cI, 6, .inl gfY)), (gF, .inl (cI, 5, .inl gfF)), (gP, .inl (cI, 80, .inl gfP))]) hP9 hD9 rfl
  have hS := hS9
  clear hP9 hD9 hS9
  refine lv_aload_n hx hb dX7_become_78 rfl (lv_at hl 0 rfl) ?_
  refine lv_aload_n hx hb dX7_become_79 rfl (lv_at hl 1 rfl) ?_
  refine va_get (D := (dC, dI)) (ci := 7) (v := .int gwd) (C := RX7) (T := TX7) (N := 9) hx hb hts iX7 hown hK hP 4 rfl rfl 6 (by decide) (hts _ qw236) (fun _ h9 => h9) rfl dX7_become_80 ?_
  refine va_put (D := (dC, dI)) (ci := 7) (v := .int gwd) (ty := .int) (C := RX7) (T := TX7) (N := 9) hx hb hts iX7 tyX7 tyX7_ok nmX7 hown hK hP hD hS 0 rfl rfl 6 (by decide) (hts _ qw236) (fun _ h9 => h9) rfl (by decide +kernel) rfl rfl (Nat.le_of_ble_eq_true rfl) dX7_become_83 (fun H locs hP9 hD9 hS9 => ?_)
  clear hP hD hS
  obtain ⟨hP, hD⟩ := zst (wX := [(h0, .inr (7, [.ref sY, .ref sF, .ref sP, .int gpn, .int glt, .int gsh, .int gwd, .int pu, .int mo])), (sY, .inl (cI, 6, .inl v15_f)), (sF, .inl (cI, 5, .inl v33_f)), (sP, .inl (cI, 80, .inl v51_f)), (g0, .inr (7, [.ref gY, .ref gF, .ref gP, .int gpn, .int glt, .int gsh, .int gwd, .int gpu, .int gmo])), (gY, .inl (cI, 6, .inl gfY)), (gF, .inl (cI, 5, .inl gfF)), (gP, .inl (cI, 80, .inl gfP))]) hP9 hD9 rfl
  have hS := hS9
  clear hP9 hD9 hS9
  refine lv_aload_n hx hb dX7_become_86 rfl (lv_at hl 0 rfl) ?_
  refine lv_aload_n hx hb dX7_become_87 rfl (lv_at hl 1 rfl) ?_
  refine va_get (D := (dC, dI)) (ci := 7) (v := .int gpu) (C := RX7) (T := TX7) (N := 9) hx hb hts iX7 hown hK hP 4 rfl rfl 7 (by decide) (hts _ qw238) (fun _ h9 => h9) rfl dX7_become_88 ?_
  refine va_put (D := (dC, dI)) (ci := 7) (v := .int gpu) (ty := .int) (C := RX7) (T := TX7) (N := 9) hx hb hts iX7 tyX7 tyX7_ok nmX7 hown hK hP hD hS 0 rfl rfl 7 (by decide) (hts _ qw238) (fun _ h9 => h9) rfl (by decide +kernel) rfl rfl (Nat.le_of_ble_eq_true rfl) dX7_become_91 (fun H locs hP9 hD9 hS9 => ?_)
  clear hP hD hS
  obtain ⟨hP, hD⟩ := zst (wX := [(h0, .inr (7, [.ref sY, .ref sF, .ref sP, .int gpn, .int glt, .int gsh, .int gwd, .int gpu, .int mo])), (sY, .inl (cI, 6, .inl v15_f)), (sF, .inl (cI, 5, .inl v33_f)), (sP, .inl (cI, 80, .inl v51_f)), (g0, .inr (7, [.ref gY, .ref gF, .ref gP, .int gpn, .int glt, .int gsh, .int gwd, .int gpu, .int gmo])), (gY, .inl (cI, 6, .inl gfY)), (gF, .inl (cI, 5, .inl gfF)), (gP, .inl (cI, 80, .inl gfP))]) hP9 hD9 rfl
  have hS := hS9
  clear hP9 hD9 hS9
  refine lv_aload_n hx hb dX7_become_94 rfl (lv_at hl 0 rfl) ?_
  refine lv_aload_n hx hb dX7_become_95 rfl (lv_at hl 1 rfl) ?_
  refine va_get (D := (dC, dI)) (ci := 7) (v := .int gmo) (C := RX7) (T := TX7) (N := 9) hx hb hts iX7 hown hK hP 4 rfl rfl 8 (by decide) (hts _ qw240) (fun _ h9 => h9) rfl dX7_become_96 ?_
  refine va_put (D := (dC, dI)) (ci := 7) (v := .int gmo) (ty := .int) (C := RX7) (T := TX7) (N := 9) hx hb hts iX7 tyX7 tyX7_ok nmX7 hown hK hP hD hS 0 rfl rfl 8 (by decide) (hts _ qw240) (fun _ h9 => h9) rfl (by decide +kernel) rfl rfl (Nat.le_of_ble_eq_true rfl) dX7_become_99 (fun H locs hP9 hD9 hS9 => ?_)
  clear hP hD hS
  obtain ⟨hP, hD⟩ := zst (wX := [(h0, .inr (7, [.ref sY, .ref sF, .ref sP, .int gpn, .int glt, .int gsh, .int gwd, .int gpu, .int gmo])), (sY, .inl (cI, 6, .inl v15_f)), (sF, .inl (cI, 5, .inl v33_f)), (sP, .inl (cI, 80, .inl v51_f)), (g0, .inr (7, [.ref gY, .ref gF, .ref gP, .int gpn, .int glt, .int gsh, .int gwd, .int gpu, .int gmo])), (gY, .inl (cI, 6, .inl gfY)), (gF, .inl (cI, 5, .inl gfF)), (gP, .inl (cI, 80, .inl gfP))]) hP9 hD9 rfl
  have hS := hS9
  clear hP9 hD9 hS9
  rw [hQ]
  exact W.vret hx hb hr (fun t ht hW => ⟨⟨(v15_f, v33_f, v51_f), rfl, ⟨by (try dsimp only); exact ⟨zcpE (N := 6) e15, zcpE (N := 5) e33, zcpE (N := 80) e51⟩, cq51_zPo⟩, ⟨by rw [ht]; exact hP, hD⟩⟩, hS.F ht⟩) hS.2.2 dX7_become_102
set_option maxHeartbeats 4000000 in
set_option maxRecDepth 100000 in
theorem g_X0_keep (l : Launch) (dC : Nat → ClassId) (dI : Nat → Nat → Nat) (cI cJ : ClassId) (h0 : Nat) (g0 : Nat) (aW : Nat) (pl : Int32) (cn : Int32) (fR : Nat → Int32) (gY : Nat) (gF : Nat) (gP : Nat) (gpn : Int32) (glt : Int32) (gsh : Int32) (gwd : Int32) (gpu : Int32) (gmo : Int32) (gfY : Nat → Int32) (gfF : Nat → Int32) (sz : Nat) (n_cn : 0 ≤ cn.toInt ∧ cn.toInt ≤ 40) (n_gpn : 0 ≤ gpn.toInt ∧ gpn.toInt ≤ 20) (n_gwd : (-1) ≤ gwd.toInt ∧ gwd.toInt ≤ 5) (n_pl : 0 ≤ pl.toInt ∧ pl.toInt ≤ 39)  (ci_fR_zRw : zRw fR)  : Met l yX0_keep (.code yX0_keep cX0_keep 2 none :: wA) ({ frames := 2, cells := 0, slots := 0, locals := 83 }) (zP (dC, dI) [(cI, .int), (cJ, .long)] [.ref h0, .ref g0] sz [(h0, .inr (0, [.ref aW, .int pl, .int cn])), (aW, .inl (cI, 680, .inl fR)), (g0, .inr (7, [.ref gY, .ref gF, .ref gP, .int gpn, .int glt, .int gsh, .int gwd, .int gpu, .int gmo])), (gY, .inl (cI, 6, .inl gfY)), (gF, .inl (cI, 5, .inl gfF))]) (va_Qv (fun (u : Int32 × Int32 × (Nat → Int32)) => (0 ≤ u.1.toInt) ∧ (u.1.toInt ≤ 39) ∧ (1 ≤ u.2.1.toInt) ∧ (u.2.1.toInt ≤ 40) ∧ (∀ (nbI npI : Int) (S : zS) (Ks : List zS) (P : Nat → Int32), nbI ≤ 6 → npI ≤ 5 → zSc nbI npI S gfY gfF P gpn glt gsh gwd gpu gmo → zKc nbI npI Ks P fR pl cn → zKc nbI npI (sKeep S Ks) P u.2.2 u.1 u.2.1) ∧ (zRw u.2.2)) (fun (u : Int32 × Int32 × (Nat → Int32)) (t : State) => va_P (dC, dI) vwCl [(h0, .inr (0, [.ref aW, .int u.1, .int u.2.1])), (aW, .inl (cI, 680, .inl u.2.2)), (g0, .inr (7, [.ref gY, .ref gF, .ref gP, .int gpn, .int glt, .int gsh, .int gwd, .int gpu, .int gmo])), (gY, .inl (cI, 6, .inl gfY)), (gF, .inl (cI, 5, .inl gfF))] t.heap ∧ va_D (va_A [(h0, .inr (0, [.ref aW, .int pl, .int cn])), (aW, .inl (cI, 680, .inl fR)), (g0, .inr (7, [.ref gY, .ref gF, .ref gP, .int gpn, .int glt, .int gsh, .int gwd, .int gpu, .int gmo])), (gY, .inl (cI, 6, .inl gfY)), (gF, .inl (cI, 5, .inl gfF))] sz) [(h0, .inr (0, [.ref aW, .int u.1, .int u.2.1])), (aW, .inl (cI, 680, .inl u.2.2)), (g0, .inr (7, [.ref gY, .ref gF, .ref gP, .int gpn, .int glt, .int gsh, .int gwd, .int gpu, .int gmo])), (gY, .inl (cI, 6, .inl gfY)), (gF, .inl (cI, 5, .inl gfF))]) (va_A [(h0, .inr (0, [.ref aW, .int pl, .int cn])), (aW, .inl (cI, 680, .inl fR)), (g0, .inr (7, [.ref gY, .ref gF, .ref gP, .int gpn, .int glt, .int gsh, .int gwd, .int gpu, .int gmo])), (gY, .inl (cI, 6, .inl gfY)), (gF, .inl (cI, 5, .inl gfF))] sz)) 0 0 (va_A [(h0, .inr (0, [.ref aW, .int pl, .int cn])), (aW, .inl (cI, 680, .inl fR)), (g0, .inr (7, [.ref gY, .ref gF, .ref gP, .int gpn, .int glt, .int gsh, .int gwd, .int gpu, .int gmo])), (gY, .inl (cI, 6, .inl gfY)), (gF, .inl (cI, 5, .inl gfF))] sz) := by
  refine Met.ofW (cc := cX0_keep) (maxL := 2) (ret := none) (by decide) rfl ?_
  intro p e s m args below meth c s₁ B hml hv
  have y_gpn : zHid (0 ≤ gpn.toInt ∧ gpn.toInt ≤ 20) := n_gpn
  have y_gwd : zHid ((-1) ≤ gwd.toInt ∧ gwd.toInt ≤ 5) := n_gwd
  clear n_gpn n_gwd
  obtain ⟨hargs, hsz, hP, hK, hT⟩ := hv
  have hx := B.exec
  have hb := B.bytes
  have hr := B.returns
  have hts : ∀ w ∈ wA, w.before args s = true := fun w h => atoms_spec (ws := .code yX0_keep cX0_keep 2 none :: wA) B.pre w (List.mem_cons_of_mem _ h)
  have hown : s.vm.findClass RX0 = some m.cls := findClass_of_methodNamed B.named
  have hlocks := B.notSynchronized
  subst hsz
  have hD := hT.self (sz := s.heap.size)
  generalize hAe : va_A [(h0, .inr (0, [.ref aW, .int pl, .int cn])), (aW, .inl (cI, 680, .inl fR)), (g0, .inr (7, [.ref gY, .ref gF, .ref gP, .int gpn, .int glt, .int gsh, .int gwd, .int gpu, .int gmo])), (gY, .inl (cI, 6, .inl gfY)), (gF, .inl (cI, 5, .inl gfF))] s.heap.size = A at hD ⊢
  have hA : ∀ q : Nat, s.heap.size ≤ q → A q := fun q h => by rw [← hAe]; exact Or.inr h
  have hl := lv_entry ([.ref h0, .ref g0]) (n := 2) (Nat.le_of_ble_eq_true rfl)
  rw [show entryFrame m args 2 = entryFrame m ([.ref h0, .ref g0] : List Value).toArray 2 by rw [hargs], lg_entry_eq]
  generalize (lg_sl ([.ref h0, .ref g0]) ++ List.replicate (2 - (lg_sl ([.ref h0, .ref g0])).length) Slot.unset).toArray = ls at hl ⊢
  have hl : lv_has ls 2 [(0, .ref h0), (1, .ref g0)] := hl
  refine zstart (fun H hH => ?_)
  rw [← hH] at hP
  have hS : va_S A s.heap H [] := by rw [hH]; exact va_S.rf
  generalize ([] : List Loc) = locs at hS ⊢
  refine zgen (fun R Q hR hQ => ?_)
  refine lv_aload_n hx hb dX0_keep_0 rfl (lv_at hl 1 rfl) ?_
  refine lv_aload_n hx hb dX0_keep_1 rfl (lv_at hl 0 rfl) ?_
  refine va_get (D := (dC, dI)) (ci := 0) (v := .ref aW) (C := RX0) (T := TX0) (N := 3) hx hb hts iX0 hown hK hP 0 rfl rfl 0 (by decide) (hts _ qw268) (fun _ h9 => h9) rfl dX0_keep_2 ?_
  refine lv_aload_n hx hb dX0_keep_5 rfl (lv_at hl 0 rfl) ?_
  refine va_get (D := (dC, dI)) (ci := 0) (v := .int pl) (C := RX0) (T := TX0) (N := 3) hx hb hts iX0 hown hK hP 0 rfl rfl 1 (by decide) (hts _ qw269) (fun _ h9 => h9) rfl dX0_keep_6 ?_
  refine lv_bipush (v := 17) hx hb dX0_keep_9 (by decide) ?_
  refine lv_imul hx hb dX0_keep_11 ?_
  refine lv_topi (fun v11 e11 => ?_)
  have i11 : v11.toInt = pl.toInt * 17 := zmul e11 rfl (by decide) (by omega) (by omega)
  obtain ⟨hPc, hDc, hFc⟩ := zc3 (wc := [(g0, .inr (7, [.ref gY, .ref gF, .ref gP, .int gpn, .int glt, .int gsh, .int gwd, .int gpu, .int gmo])), (gY, .inl (cI, 6, .inl gfY)), (gF, .inl (cI, 5, .inl gfF)), (aW, .inl (cI, 680, .inl fR))]) hP hD hS hA [2, 3, 4, 1] (by decide +kernel) rfl
  refine va_callv (va_runV (As := [.ref aW, .int v11]) (rest := []) ⟨hx, hb, hml, hown, hts⟩ (g_X7_writeRow l dC dI cI cJ g0 aW v11 gY gF gP gpn glt gsh gwd gpu gmo gfY gfF fR H.size (by omega) y_gpn y_gwd (by omega) ci_fR_zRw) (cwV 2 hts (zgV qw692 qw693 qw694 qw103 qw695) rfl rfl rfl hd_X7_writeRow ⟨by rw [hR]; exact Nat.le_of_ble_eq_true rfl, by rw [hR]; exact Nat.le_of_ble_eq_true rfl⟩) (zPV hPc hK hDc (va_recv (q := (RX7, TX7, 9)) hK hP (ci := 7) (q0 := 2) rfl rfl)) rfl rfl hl.1 rfl (lv_room (Nat.le_of_ble_eq_true rfl)) dX0_keep_12 ⟨Nat.zero_le _, Nat.zero_le _⟩) hS (fun q _ h => hFc q h) hFc (fun u12 t H locs ht hvm hw hB hz1 hk1 hS9 => ?_)
  obtain ⟨u12_0, rfl⟩ : ∃ z, z = u12 := ⟨_, rfl⟩
  obtain ⟨hP9, hD9⟩ := zj2 (wX := [(h0, .inr (0, [.ref aW, .int pl, .int cn])), (aW, .inl (cI, 680, .inl u12_0)), (g0, .inr (7, [.ref gY, .ref gF, .ref gP, .int gpn, .int glt, .int gsh, .int gwd, .int gpu, .int gmo])), (gY, .inl (cI, 6, .inl gfY)), (gF, .inl (cI, 5, .inl gfF))]) hP hD hk1 hFc ht hB [2, 3, 4, 1] [(false, 0), (true, 3), (true, 0), (true, 1), (true, 2)] rfl (by decide +kernel) (by decide +kernel) rfl
  clear hP hD hS hPc hDc hFc hB hk1 hz1 hvm
  have hP := hP9
  have hD := hD9
  have hS := hS9
  clear hP9 hD9 hS9
  obtain ⟨f12_0, f12_1⟩ : (zWr fR u12_0 gfY gfF gpn glt gsh gwd gpu gmo v11.toInt.toNat) ∧ (zRw u12_0) := hw
  have F12 := f12_0
  refine lv_aload_n hx hb dX0_keep_15 rfl (lv_at hl 0 rfl) ?_
  refine lv_aload_n hx hb dX0_keep_16 rfl (lv_at hl 0 rfl) ?_
  refine va_get (D := (dC, dI)) (ci := 0) (v := .int pl) (C := RX0) (T := TX0) (N := 3) hx hb hts iX0 hown hK hP 0 rfl rfl 1 (by decide) (hts _ qw269) (fun _ h9 => h9) rfl dX0_keep_17 ?_
  refine lv_iconst (v := 1) hx hb dX0_keep_20 (by decide) ?_
  refine lv_iadd hx hb dX0_keep_21 ?_
  refine lv_topi (fun v21 e21 => ?_)
  have i21 : v21.toInt = pl.toInt + 1 := zadd e21 rfl (by decide) (by omega) (by omega)
  refine lv_bipush (v := 40) hx hb dX0_keep_22 (by decide) ?_
  refine lv_irem hx hb dX0_keep_24 (by decide) ?_
  refine lv_topi (fun v24 e24 => ?_)
  have i24 : v24.toInt = v21.toInt % 40 := zrem e24 rfl (by decide) (by omega) (by omega)
  refine va_put (D := (dC, dI)) (ci := 0) (v := .int v24) (ty := .int) (C := RX0) (T := TX0) (N := 3) hx hb hts iX0 tyX0 tyX0_ok nmX0 hown hK hP hD hS 0 rfl rfl 1 (by decide) (hts _ qw269) (fun _ h9 => h9) rfl (by decide +kernel) rfl rfl (Nat.le_of_ble_eq_true rfl) dX0_keep_25 (fun H locs hP9 hD9 hS9 => ?_)
  clear hP hD hS
  obtain ⟨hP, hD⟩ := zst (wX := [(h0, .inr (0, [.ref aW, .int v24, .int cn])), (aW, .inl (cI, 680, .inl u12_0)), (g0, .inr (7, [.ref gY, .ref gF, .ref gP, .int gpn, .int glt, .int gsh, .int gwd, .int gpu, .int gmo])), (gY, .inl (cI, 6, .inl gfY)), (gF, .inl (cI, 5, .inl gfF))]) hP9 hD9 rfl
  have hS := hS9
  clear hP9 hD9 hS9
  refine lv_aload_n hx hb dX0_keep_28 rfl (lv_at hl 0 rfl) ?_
  refine lv_bipush (v := 40) hx hb dX0_keep_29 (by decide) ?_
  refine lv_aload_n hx hb dX0_keep_31 rfl (lv_at hl 0 rfl) ?_
  refine va_get (D := (dC, dI)) (ci := 0) (v := .int cn) (C := RX0) (T := TX0) (N := 3) hx hb hts iX0 hown hK hP 0 rfl rfl 2 (by decide) (hts _ qw270) (fun _ h9 => h9) rfl dX0_keep_32 ?_
  refine lv_iconst (v := 1) hx hb dX0_keep_35 (by decide) ?_
  refine lv_iadd hx hb dX0_keep_36 ?_
  refine lv_topi (fun v36 e36 => ?_)
  have i36 : v36.toInt = cn.toInt + 1 := zadd e36 rfl (by decide) (by omega) (by omega)
  refine va_mmin hx hb (by rw [hml]; exact hl.1.symm) hown (hts _ qw697) (hts _ qw569) (hts _ qw112) (hts _ qw570) (by rw [hR]; exact Nat.le_of_ble_eq_true rfl) (by rw [hR]; exact Nat.le_of_ble_eq_true rfl) (Nat.zero_le _) (Nat.zero_le _) dX0_keep_37 ?_
  refine lv_topi (fun v37 e37 => ?_)
  have zc37_0 : (40 : Int32).toInt = 40 := by decide
  have i37 := zmmin e37
  refine va_put (D := (dC, dI)) (ci := 0) (v := .int v37) (ty := .int) (C := RX0) (T := TX0) (N := 3) hx hb hts iX0 tyX0 tyX0_ok nmX0 hown hK hP hD hS 0 rfl rfl 2 (by decide) (hts _ qw270) (fun _ h9 => h9) rfl (by decide +kernel) rfl rfl (Nat.le_of_ble_eq_true rfl) dX0_keep_40 (fun H locs hP9 hD9 hS9 => ?_)
  clear hP hD hS
  obtain ⟨hP, hD⟩ := zst (wX := [(h0, .inr (0, [.ref aW, .int v24, .int v37])), (aW, .inl (cI, 680, .inl u12_0)), (g0, .inr (7, [.ref gY, .ref gF, .ref gP, .int gpn, .int glt, .int gsh, .int gwd, .int gpu, .int gmo])), (gY, .inl (cI, 6, .inl gfY)), (gF, .inl (cI, 5, .inl gfF))]) hP9 hD9 rfl
  have hS := hS9
  clear hP9 hD9 hS9
  rw [hQ]
  exact W.vret hx hb hr (fun t ht hW => ⟨⟨(v24, v37, u12_0), rfl, ⟨by (try dsimp only); omega, by (try dsimp only); omega, by (try dsimp only); omega, by (try dsimp only); omega, by (try dsimp only); exact fun nbI npI S Ks P hb hp h k => zKc_keep h k F12 hb hp (by omega) (by omega) (by omega) (by omega) (by omega), f12_1⟩, ⟨by rw [ht]; exact hP, hD⟩⟩, hS.F ht⟩) hS.2.2 dX0_keep_43
set_option maxHeartbeats 4000000 in
set_option maxRecDepth 100000 in
theorem g_X0_takeBack (l : Launch) (dC : Nat → ClassId) (dI : Nat → Nat → Nat) (cI cJ : ClassId) (h0 : Nat) (g0 : Nat) (aW : Nat) (pl : Int32) (cn : Int32) (fR : Nat → Int32) (gY : Nat) (gF : Nat) (gP : Nat) (gpn : Int32) (glt : Int32) (gsh : Int32) (gwd : Int32) (gpu : Int32) (gmo : Int32) (gfY : Nat → Int32) (gfF : Nat → Int32) (sz : Nat) (n_cn : 0 ≤ cn.toInt ∧ cn.toInt ≤ 40) (n_gpn : 0 ≤ gpn.toInt ∧ gpn.toInt ≤ 20) (n_gwd : (-1) ≤ gwd.toInt ∧ gwd.toInt ≤ 5) (n_pl : 0 ≤ pl.toInt ∧ pl.toInt ≤ 39)  (ci_fR_zRw : zRw fR)  : Met l yX0_takeBack (.code yX0_takeBack cX0_takeBack 2 (some .boolean) :: wA) ({ frames := 2, cells := 0, slots := 0, locals := 83 }) (zP (dC, dI) [(cI, .int), (cJ, .long)] [.ref h0, .ref g0] sz [(h0, .inr (0, [.ref aW, .int pl, .int cn])), (aW, .inl (cI, 680, .inl fR)), (g0, .inr (7, [.ref gY, .ref gF, .ref gP, .int gpn, .int glt, .int gsh, .int gwd, .int gpu, .int gmo])), (gY, .inl (cI, 6, .inl gfY)), (gF, .inl (cI, 5, .inl gfF))]) (va_Qi (fun (r : Int32) (u : Int32 × Int32 × Int32 × Int32 × Int32 × Int32 × Int32 × Int32 × (Nat → Int32) × (Nat → Int32)) => (0 ≤ r.toInt) ∧ (r.toInt ≤ 1) ∧ (0 ≤ u.1.toInt) ∧ (u.1.toInt ≤ 39) ∧ (0 ≤ u.2.1.toInt) ∧ (u.2.1.toInt ≤ 39) ∧ (0 ≤ u.2.2.1.toInt) ∧ (u.2.2.1.toInt ≤ 20) ∧ ((-1) ≤ u.2.2.2.2.2.1.toInt) ∧ (u.2.2.2.2.2.1.toInt ≤ 5) ∧ (r.toInt = 0 → cn.toInt = 0) ∧ (¬ r.toInt = 0 → 1 ≤ cn.toInt) ∧ (∀ (nbI npI : Int) (S : zS) (Ks : List zS) (P : Nat → Int32), nbI ≤ 6 → npI ≤ 5 → zSc nbI npI S gfY gfF P gpn glt gsh gwd gpu gmo → zKc nbI npI Ks P fR pl cn → zSc nbI npI (Ks.headD S) u.2.2.2.2.2.2.2.2.1 u.2.2.2.2.2.2.2.2.2 P u.2.2.1 u.2.2.2.1 u.2.2.2.2.1 u.2.2.2.2.2.1 u.2.2.2.2.2.2.1 u.2.2.2.2.2.2.2.1 ∧ zKc nbI npI Ks.tail P fR u.1 u.2.1)) (fun (u : Int32 × Int32 × Int32 × Int32 × Int32 × Int32 × Int32 × Int32 × (Nat → Int32) × (Nat → Int32)) (t : State) => va_P (dC, dI) vwCl [(h0, .inr (0, [.ref aW, .int u.1, .int u.2.1])), (aW, .inl (cI, 680, .inl fR)), (g0, .inr (7, [.ref gY, .ref gF, .ref gP, .int u.2.2.1, .int u.2.2.2.1, .int u.2.2.2.2.1, .int u.2.2.2.2.2.1, .int u.2.2.2.2.2.2.1, .int u.2.2.2.2.2.2.2.1])), (gY, .inl (cI, 6, .inl u.2.2.2.2.2.2.2.2.1)), (gF, .inl (cI, 5, .inl u.2.2.2.2.2.2.2.2.2))] t.heap ∧ va_D (va_A [(h0, .inr (0, [.ref aW, .int pl, .int cn])), (aW, .inl (cI, 680, .inl fR)), (g0, .inr (7, [.ref gY, .ref gF, .ref gP, .int gpn, .int glt, .int gsh, .int gwd, .int gpu, .int gmo])), (gY, .inl (cI, 6, .inl gfY)), (gF, .inl (cI, 5, .inl gfF))] sz) [(h0, .inr (0, [.ref aW, .int u.1, .int u.2.1])), (aW, .inl (cI, 680, .inl fR)), (g0, .inr (7, [.ref gY, .ref gF, .ref gP, .int u.2.2.1, .int u.2.2.2.1, .int u.2.2.2.2.1, .int u.2.2.2.2.2.1, .int u.2.2.2.2.2.2.1, .int u.2.2.2.2.2.2.2.1])), (gY, .inl (cI, 6, .inl u.2.2.2.2.2.2.2.2.1)), (gF, .inl (cI, 5, .inl u.2.2.2.2.2.2.2.2.2))]) (va_A [(h0, .inr (0, [.ref aW, .int pl, .int cn])), (aW, .inl (cI, 680, .inl fR)), (g0, .inr (7, [.ref gY, .ref gF, .ref gP, .int gpn, .int glt, .int gsh, .int gwd, .int gpu, .int gmo])), (gY, .inl (cI, 6, .inl gfY)), (gF, .inl (cI, 5, .inl gfF))] sz)) 0 0 (va_A [(h0, .inr (0, [.ref aW, .int pl, .int cn])), (aW, .inl (cI, 680, .inl fR)), (g0, .inr (7, [.ref gY, .ref gF, .ref gP, .int gpn, .int glt, .int gsh, .int gwd, .int gpu, .int gmo])), (gY, .inl (cI, 6, .inl gfY)), (gF, .inl (cI, 5, .inl gfF))] sz) := by
  refine Met.ofW (cc := cX0_takeBack) (maxL := 2) (ret := (some .boolean)) (by decide) rfl ?_
  intro p e s m args below meth c s₁ B hml hv
  obtain ⟨hargs, hsz, hP, hK, hT⟩ := hv
  have hx := B.exec
  have hb := B.bytes
  have hr := B.returns
  have hts : ∀ w ∈ wA, w.before args s = true := fun w h => atoms_spec (ws := .code yX0_takeBack cX0_takeBack 2 (some .boolean) :: wA) B.pre w (List.mem_cons_of_mem _ h)
  have hown : s.vm.findClass RX0 = some m.cls := findClass_of_methodNamed B.named
  have hlocks := B.notSynchronized
  subst hsz
  have hD := hT.self (sz := s.heap.size)
  generalize hAe : va_A [(h0, .inr (0, [.ref aW, .int pl, .int cn])), (aW, .inl (cI, 680, .inl fR)), (g0, .inr (7, [.ref gY, .ref gF, .ref gP, .int gpn, .int glt, .int gsh, .int gwd, .int gpu, .int gmo])), (gY, .inl (cI, 6, .inl gfY)), (gF, .inl (cI, 5, .inl gfF))] s.heap.size = A at hD ⊢
  have hA : ∀ q : Nat, s.heap.size ≤ q → A q := fun q h => by rw [← hAe]; exact Or.inr h
  have hl := lv_entry ([.ref h0, .ref g0]) (n := 2) (Nat.le_of_ble_eq_true rfl)
  rw [show entryFrame m args 2 = entryFrame m ([.ref h0, .ref g0] : List Value).toArray 2 by rw [hargs], lg_entry_eq]
  generalize (lg_sl ([.ref h0, .ref g0]) ++ List.replicate (2 - (lg_sl ([.ref h0, .ref g0])).length) Slot.unset).toArray = ls at hl ⊢
  have hl : lv_has ls 2 [(0, .ref h0), (1, .ref g0)] := hl
  refine zstart (fun H hH => ?_)
  rw [← hH] at hP
  have hS : va_S A s.heap H [] := by rw [hH]; exact va_S.rf
  generalize ([] : List Loc) = locs at hS ⊢
  refine zgen (fun R Q hR hQ => ?_)
  refine lv_aload_n hx hb dX0_takeBack_0 rfl (lv_at hl 0 rfl) ?_
  refine va_get (D := (dC, dI)) (ci := 0) (v := .int cn) (C := RX0) (T := TX0) (N := 3) hx hb hts iX0 hown hK hP 0 rfl rfl 2 (by decide) (hts _ qw270) (fun _ h9 => h9) rfl dX0_takeBack_1 ?_
  refine lv_if_ne (tgt := 9) hx hb dX0_takeBack_4 (by decide) (fun c4 => ?_) (fun c4 => ?_)
  · have c4 : ¬ cn.toInt = 0 := z6 rfl (by decide) c4
    refine lv_aload_n hx hb dX0_takeBack_9 rfl (lv_at hl 0 rfl) ?_
    refine lv_aload_n hx hb dX0_takeBack_10 rfl (lv_at hl 0 rfl) ?_
    refine va_get (D := (dC, dI)) (ci := 0) (v := .int pl) (C := RX0) (T := TX0) (N := 3) hx hb hts iX0 hown hK hP 0 rfl rfl 1 (by decide) (hts _ qw269) (fun _ h9 => h9) rfl dX0_takeBack_11 ?_
    refine lv_bipush (v := 40) hx hb dX0_takeBack_14 (by decide) ?_
    refine lv_iadd hx hb dX0_takeBack_16 ?_
    refine lv_topi (fun v16 e16 => ?_)
    have i16 : v16.toInt = pl.toInt + 40 := zadd e16 rfl (by decide) (by omega) (by omega)
    refine lv_iconst (v := 1) hx hb dX0_takeBack_17 (by decide) ?_
    refine lv_isub hx hb dX0_takeBack_18 ?_
    refine lv_topi (fun v18 e18 => ?_)
    have i18 : v18.toInt = v16.toInt - 1 := zsub e18 rfl (by decide) (by omega) (by omega)
    refine lv_bipush (v := 40) hx hb dX0_takeBack_19 (by decide) ?_
    refine lv_irem hx hb dX0_takeBack_21 (by decide) ?_
    refine lv_topi (fun v21 e21 => ?_)
    have i21 : v21.toInt = v18.toInt % 40 := zrem e21 rfl (by decide) (by omega) (by omega)
    refine va_put (D := (dC, dI)) (ci := 0) (v := .int v21) (ty := .int) (C := RX0) (T := TX0) (N := 3) hx hb hts iX0 tyX0 tyX0_ok nmX0 hown hK hP hD hS 0 rfl rfl 1 (by decide) (hts _ qw269) (fun _ h9 => h9) rfl (by decide +kernel) rfl rfl (Nat.le_of_ble_eq_true rfl) dX0_takeBack_22 (fun H locs hP9 hD9 hS9 => ?_)
    clear hP hD hS
    obtain ⟨hP, hD⟩ := zst (wX := [(h0, .inr (0, [.ref aW, .int v21, .int cn])), (aW, .inl (cI, 680, .inl fR)), (g0, .inr (7, [.ref gY, .ref gF, .ref gP, .int gpn, .int glt, .int gsh, .int gwd, .int gpu, .int gmo])), (gY, .inl (cI, 6, .inl gfY)), (gF, .inl (cI, 5, .inl gfF))]) hP9 hD9 rfl
    have hS := hS9
    clear hP9 hD9 hS9
    refine lv_aload_n hx hb dX0_takeBack_25 rfl (lv_at hl 0 rfl) ?_
    refine lv_dup hx hb dX0_takeBack_26 rfl ?_
    refine va_get (D := (dC, dI)) (ci := 0) (v := .int cn) (C := RX0) (T := TX0) (N := 3) hx hb hts iX0 hown hK hP 0 rfl rfl 2 (by decide) (hts _ qw270) (fun _ h9 => h9) rfl dX0_takeBack_27 ?_
    refine lv_iconst (v := 1) hx hb dX0_takeBack_30 (by decide) ?_
    refine lv_isub hx hb dX0_takeBack_31 ?_
    refine lv_topi (fun v31 e31 => ?_)
    have i31 : v31.toInt = cn.toInt - 1 := zsub e31 rfl (by decide) (by omega) (by omega)
    refine va_put (D := (dC, dI)) (ci := 0) (v := .int v31) (ty := .int) (C := RX0) (T := TX0) (N := 3) hx hb hts iX0 tyX0 tyX0_ok nmX0 hown hK hP hD hS 0 rfl rfl 2 (by decide) (hts _ qw270) (fun _ h9 => h9) rfl (by decide +kernel) rfl rfl (Nat.le_of_ble_eq_true rfl) dX0_takeBack_32 (fun H locs hP9 hD9 hS9 => ?_)
    clear hP hD hS
    obtain ⟨hP, hD⟩ := zst (wX := [(h0, .inr (0, [.ref aW, .int v21, .int v31])), (aW, .inl (cI, 680, .inl fR)), (g0, .inr (7, [.ref gY, .ref gF, .ref gP, .int gpn, .int glt, .int gsh, .int gwd, .int gpu, .int gmo])), (gY, .inl (cI, 6, .inl gfY)), (gF, .inl (cI, 5, .inl gfF))]) hP9 hD9 rfl
    have hS := hS9
    clear hP9 hD9 hS9
    refine lv_aload_n hx hb dX0_takeBack_35 rfl (lv_at hl 1 rfl) ?_
    refine lv_aload_n hx hb dX0_takeBack_36 rfl (lv_at hl 0 rfl) ?_
    refine va_get (D := (dC, dI)) (ci := 0) (v := .ref aW) (C := RX0) (T := TX0) (N := 3) hx hb hts iX0 hown hK hP 0 rfl rfl 0 (by decide) (hts _ qw268) (fun _ h9 => h9) rfl dX0_takeBack_37 ?_
    refine lv_aload_n hx hb dX0_takeBack_40 rfl (lv_at hl 0 rfl) ?_
    refine va_get (D := (dC, dI)) (ci := 0) (v := .int v21) (C := RX0) (T := TX0) (N := 3) hx hb hts iX0 hown hK hP 0 rfl rfl 1 (by decide) (hts _ qw269) (fun _ h9 => h9) rfl dX0_takeBack_41 ?_
    refine lv_bipush (v := 17) hx hb dX0_takeBack_44 (by decide) ?_
    refine lv_imul hx hb dX0_takeBack_46 ?_
    refine lv_topi (fun v46 e46 => ?_)
    have i46 : v46.toInt = v21.toInt * 17 := zmul e46 rfl (by decide) (by omega) (by omega)
    obtain ⟨hPc, hDc, hFc⟩ := zc3 (wc := [(g0, .inr (7, [.ref gY, .ref gF, .ref gP, .int gpn, .int glt, .int gsh, .int gwd, .int gpu, .int gmo])), (gY, .inl (cI, 6, .inl gfY)), (gF, .inl (cI, 5, .inl gfF)), (aW, .inl (cI, 680, .inl fR))]) hP hD hS hA [2, 3, 4, 1] (by decide +kernel) rfl
    refine va_callv (va_runV (As := [.ref aW, .int v46]) (rest := []) ⟨hx, hb, hml, hown, hts⟩ (g_X7_readRow l dC dI cI cJ g0 aW v46 gY gF gP gpn glt gsh gwd gpu gmo gfY gfF fR H.size (by omega) (by omega) ci_fR_zRw) (cwV 2 hts (zgV qw806 qw807 qw808 qw103 qw809) rfl rfl rfl hd_X7_readRow ⟨by rw [hR]; exact Nat.le_of_ble_eq_true rfl, by rw [hR]; exact Nat.le_of_ble_eq_true rfl⟩) (zPV hPc hK hDc (va_recv (q := (RX7, TX7, 9)) hK hP (ci := 7) (q0 := 2) rfl rfl)) rfl rfl hl.1 rfl (lv_room (Nat.le_of_ble_eq_true rfl)) dX0_takeBack_47 ⟨Nat.zero_le _, Nat.zero_le _⟩) hS (fun q _ h => hFc q h) hFc (fun u47 t H locs ht hvm hw hB hz1 hk1 hS9 => ?_)
    obtain ⟨u47_0, u47_1, u47_2, u47_3, u47_4, u47_5, u47_6, u47_7⟩ := u47
    obtain ⟨hP9, hD9⟩ := zj2 (wX := [(h0, .inr (0, [.ref aW, .int v21, .int v31])), (aW, .inl (cI, 680, .inl fR)), (g0, .inr (7, [.ref gY, .ref gF, .ref gP, .int u47_0, .int u47_1, .int u47_2, .int u47_3, .int u47_4, .int u47_5])), (gY, .inl (cI, 6, .inl u47_6)), (gF, .inl (cI, 5, .inl u47_7))]) hP hD hk1 hFc ht hB [2, 3, 4, 1] [(false, 0), (true, 3), (true, 0), (true, 1), (true, 2)] rfl (by decide +kernel) (by decide +kernel) rfl
    clear hP hD hS hPc hDc hFc hB hk1 hz1 hvm
    have hP := hP9
    have hD := hD9
    have hS := hS9
    clear hP9 hD9 hS9
    obtain ⟨f47_0, f47_1, f47_2, f47_3, f47_4⟩ : (0 ≤ u47_0.toInt) ∧ (u47_0.toInt ≤ 20) ∧ ((-1) ≤ u47_3.toInt) ∧ (u47_3.toInt ≤ 5) ∧ (zRdr fR u47_6 u47_7 u47_0 u47_1 u47_2 u47_3 u47_4 u47_5 v46.toInt.toNat) := hw
    have F47 := f47_4
    refine lv_iconst (v := 1) hx hb dX0_takeBack_50 (by decide) ?_
    have zr0 : (1 : Int32).toInt = 1 := by decide
    rw [hQ]
    exact W.zret (v := 1) (ty := .boolean) hx hb hr rfl (fun t ht hW => ⟨⟨1, (v21, v31, u47_0, u47_1, u47_2, u47_3, u47_4, u47_5, u47_6, u47_7), rfl, ⟨by (try dsimp only); omega, by (try dsimp only); omega, by (try dsimp only); omega, by (try dsimp only); omega, by (try dsimp only); omega, by (try dsimp only); omega, by (try dsimp only); omega, by (try dsimp only); omega, by (try dsimp only); omega, by (try dsimp only); omega, by (try dsimp only); omega, by (try dsimp only); omega, by (try dsimp only); exact fun nbI npI S Ks P hb hp h k => zKc_tb1 k F47 hb hp (by omega) (by omega) (by omega) (by omega) (by omega) (by omega) (by omega)⟩, ⟨by rw [ht]; exact hP, hD⟩⟩, hS.F ht⟩) hS.2.2 dX0_takeBack_51
  · have c4 : cn.toInt = 0 := z5 rfl (by decide) c4
    refine lv_iconst (v := 0) hx hb dX0_takeBack_7 (by decide) ?_
    have zr0 : (0 : Int32).toInt = 0 := by decide
    rw [hQ]
    exact W.zret (v := 0) (ty := .boolean) hx hb hr rfl (fun t ht hW => ⟨⟨0, (pl, cn, gpn, glt, gsh, gwd, gpu, gmo, gfY, gfF), rfl, ⟨by (try dsimp only); omega, by (try dsimp only); omega, by (try dsimp only); omega, by (try dsimp only); omega, by (try dsimp only); omega, by (try dsimp only); omega, by (try dsimp only); omega, by (try dsimp only); omega, by (try dsimp only); omega, by (try dsimp only); omega, by (try dsimp only); omega, by (try dsimp only); omega, by (try dsimp only); exact fun nbI npI S Ks P hb hp h k => zKc_tb0 h k (by omega)⟩, ⟨by rw [ht]; exact hP, hD⟩⟩, hS.F ht⟩) hS.2.2 dX0_takeBack_8
set_option maxHeartbeats 4000000 in
set_option maxRecDepth 100000 in
theorem g_X3_below_5 (l : Launch) (dC : Nat → ClassId) (dI : Nat → Nat → Nat) (cI cJ : ClassId) (h0 : Nat) (p0 : Int32) (x0 : Int64) (sz : Nat) (n_p0 : 0 ≤ p0.toInt ∧ p0.toInt ≤ 5)    : Met l yX3_below (.code yX3_below cX3_below 2 (some .int) :: wA) ({ frames := 0, cells := 0, slots := 0, locals := 0 }) (zP (dC, dI) [(cI, .int), (cJ, .long)] [.ref h0, .int p0] sz [(h0, .inr (3, [.long x0]))]) (va_Qi (fun (r : Int32) (u : Int64) => (0 ≤ r.toInt) ∧ (r.toInt ≤ 4) ∧ (r.toInt < p0.toInt ∨ p0.toInt < 1) ∧ (1 ≤ p0.toInt → r = sDr (sNx x0) p0) ∧ (u = sNx x0)) (fun (u : Int64) (t : State) => va_P (dC, dI) vwCl [(h0, .inr (3, [.long u]))] t.heap ∧ va_D (va_A [(h0, .inr (3, [.long x0]))] sz) [(h0, .inr (3, [.long u]))]) (va_A [(h0, .inr (3, [.long x0]))] sz)) 0 0 (va_A [(h0, .inr (3, [.long x0]))] sz) := by
  refine Met.ofW (cc := cX3_below) (maxL := 2) (ret := (some .int)) (by decide) rfl ?_
  intro p e s m args below meth c s₁ B hml hv
  obtain ⟨hargs, hsz, hP, hK, hT⟩ := hv
  have hx := B.exec
  have hb := B.bytes
  have hr := B.returns
  have hts : ∀ w ∈ wA, w.before args s = true := fun w h => atoms_spec (ws := .code yX3_below cX3_below 2 (some .int) :: wA) B.pre w (List.mem_cons_of_mem _ h)
  have hown : s.vm.findClass RX3 = some m.cls := findClass_of_methodNamed B.named
  have hlocks := B.notSynchronized
  subst hsz
  have hD := hT.self (sz := s.heap.size)
  generalize hAe : va_A [(h0, .inr (3, [.long x0]))] s.heap.size = A at hD ⊢
  have hA : ∀ q : Nat, s.heap.size ≤ q → A q := fun q h => by rw [← hAe]; exact Or.inr h
  have hl := lv_entry ([.ref h0, .int p0]) (n := 2) (Nat.le_of_ble_eq_true rfl)
  rw [show entryFrame m args 2 = entryFrame m ([.ref h0, .int p0] : List Value).toArray 2 by rw [hargs], lg_entry_eq]
  generalize (lg_sl ([.ref h0, .int p0]) ++ List.replicate (2 - (lg_sl ([.ref h0, .int p0])).length) Slot.unset).toArray = ls at hl ⊢
  have hl : lv_has ls 2 [(0, .ref h0), (1, .int p0)] := hl
  refine zstart (fun H hH => ?_)
  rw [← hH] at hP
  have hS : va_S A s.heap H [] := by rw [hH]; exact va_S.rf
  generalize ([] : List Loc) = locs at hS ⊢
  refine zgen (fun R Q hR hQ => ?_)
  refine lv_aload_n hx hb dX3_below_0 rfl (lv_at hl 0 rfl) ?_
  refine lv_aload_n hx hb dX3_below_1 rfl (lv_at hl 0 rfl) ?_
  refine va_get (D := (dC, dI)) (ci := 3) (v := .long x0) (C := RX3) (T := TX3) (N := 1) hx hb hts iX3 hown hK hP 0 rfl rfl 0 (by decide) (hts _ qw352) (fun _ h9 => h9) rfl dX3_below_2 ?_
  refine lv_ldc2 (v := 6364136223846793005) hx hb hown (hts _ qw788) dX3_below_5 ?_
  refine lv_lmul hx hb dX3_below_8 ?_
  refine lv_topl (fun v8 e8 => ?_)
  refine lv_ldc2 (v := 1442695040888963407) hx hb hown (hts _ qw789) dX3_below_9 ?_
  refine lv_ladd hx hb dX3_below_12 ?_
  refine lv_topl (fun v12 e12 => ?_)
  refine va_put (D := (dC, dI)) (ci := 3) (v := .long v12) (ty := .long) (C := RX3) (T := TX3) (N := 1) hx hb hts iX3 tyX3 tyX3_ok nmX3 hown hK hP hD hS 0 rfl rfl 0 (by decide) (hts _ qw352) (fun _ h9 => h9) rfl (by decide +kernel) rfl rfl (Nat.le_of_ble_eq_true rfl) dX3_below_13 (fun H locs hP9 hD9 hS9 => ?_)
  clear hP hD hS
  obtain ⟨hP, hD⟩ := zst (wX := [(h0, .inr (3, [.long v12]))]) hP9 hD9 rfl
  have hS := hS9
  clear hP9 hD9 hS9
  refine lv_iload_n hx hb dX3_below_16 rfl (lv_at hl 1 rfl) ?_
  refine lv_iconst (v := 1) hx hb dX3_below_17 (by decide) ?_
  refine lv_icmp_ge (tgt := 25) hx hb dX3_below_18 (by decide) (fun c18 => ?_) (fun c18 => ?_)
  · have c18 : 1 ≤ p0.toInt := z3 (by decide) rfl c18
    refine lv_aload_n hx hb dX3_below_25 rfl (lv_at hl 0 rfl) ?_
    refine va_get (D := (dC, dI)) (ci := 3) (v := .long v12) (C := RX3) (T := TX3) (N := 1) hx hb hts iX3 hown hK hP 0 rfl rfl 0 (by decide) (hts _ qw352) (fun _ h9 => h9) rfl dX3_below_26 ?_
    refine lv_bipush (v := 33) hx hb dX3_below_29 (by decide) ?_
    refine lv_lushr hx hb dX3_below_31 rfl ?_
    refine lv_topl (fun v31 e31 => ?_)
    refine lv_iload_n hx hb dX3_below_32 rfl (lv_at hl 1 rfl) ?_
    refine lv_i2l hx hb dX3_below_33 rfl ?_
    refine lv_topl (fun v33 e33 => ?_)
    refine lv_lrem hx hb dX3_below_34 (zlne e33 (by omega)) ?_
    refine lv_topl (fun v34 e34 => ?_)
    refine lv_l2i hx hb dX3_below_35 rfl ?_
    refine lv_topi (fun v35 e35 => ?_)
    have i35 : 0 ≤ v35.toInt ∧ v35.toInt < p0.toInt := zbel e31 e33 e34 e35 (by omega)
    rw [hQ]
    exact W.iret (v := v35) hx hb hr (fun t ht hW => ⟨⟨v35, v12, rfl, ⟨by (try dsimp only); omega, by (try dsimp only); omega, by (try dsimp only); omega, fun _ => by unfold sDr; rw [show sNx x0 = v12 by unfold sNx; rw [e12, e8], e35, e34, e33, e31], show v12 = sNx x0 by unfold sNx; rw [e12, e8]⟩, ⟨by rw [ht]; exact hP, hD⟩⟩, hS.F ht⟩) hS.2.2 dX3_below_36
  · have c18 : p0.toInt < 1 := z4 (by decide) rfl c18
    refine lv_iconst (v := 0) hx hb dX3_below_21 (by decide) ?_
    refine lv_goto (tgt := 36) hx hb dX3_below_22 (by decide) ?_
    have zr0 : (0 : Int32).toInt = 0 := by decide
    rw [hQ]
    exact W.iret (v := 0) hx hb hr (fun t ht hW => ⟨⟨0, v12, rfl, ⟨by (try dsimp only); omega, by (try dsimp only); omega, by (try dsimp only); omega, fun z => by exfalso; omega, show v12 = sNx x0 by unfold sNx; rw [e12, e8]⟩, ⟨by rw [ht]; exact hP, hD⟩⟩, hS.F ht⟩) hS.2.2 dX3_below_36
set_option maxHeartbeats 4000000 in
set_option maxRecDepth 100000 in
theorem g_X3_below_6 (l : Launch) (dC : Nat → ClassId) (dI : Nat → Nat → Nat) (cI cJ : ClassId) (h0 : Nat) (p0 : Int32) (x0 : Int64) (sz : Nat) (n_p0 : 0 ≤ p0.toInt ∧ p0.toInt ≤ 6)    : Met l yX3_below (.code yX3_below cX3_below 2 (some .int) :: wA) ({ frames := 0, cells := 0, slots := 0, locals := 0 }) (zP (dC, dI) [(cI, .int), (cJ, .long)] [.ref h0, .int p0] sz [(h0, .inr (3, [.long x0]))]) (va_Qi (fun (r : Int32) (u : Int64) => (0 ≤ r.toInt) ∧ (r.toInt ≤ 5) ∧ (r.toInt < p0.toInt ∨ p0.toInt < 1) ∧ (1 ≤ p0.toInt → r = sDr (sNx x0) p0) ∧ (u = sNx x0)) (fun (u : Int64) (t : State) => va_P (dC, dI) vwCl [(h0, .inr (3, [.long u]))] t.heap ∧ va_D (va_A [(h0, .inr (3, [.long x0]))] sz) [(h0, .inr (3, [.long u]))]) (va_A [(h0, .inr (3, [.long x0]))] sz)) 0 0 (va_A [(h0, .inr (3, [.long x0]))] sz) := by
  refine Met.ofW (cc := cX3_below) (maxL := 2) (ret := (some .int)) (by decide) rfl ?_
  intro p e s m args below meth c s₁ B hml hv
  obtain ⟨hargs, hsz, hP, hK, hT⟩ := hv
  have hx := B.exec
  have hb := B.bytes
  have hr := B.returns
  have hts : ∀ w ∈ wA, w.before args s = true := fun w h => atoms_spec (ws := .code yX3_below cX3_below 2 (some .int) :: wA) B.pre w (List.mem_cons_of_mem _ h)
  have hown : s.vm.findClass RX3 = some m.cls := findClass_of_methodNamed B.named
  have hlocks := B.notSynchronized
  subst hsz
  have hD := hT.self (sz := s.heap.size)
  generalize hAe : va_A [(h0, .inr (3, [.long x0]))] s.heap.size = A at hD ⊢
  have hA : ∀ q : Nat, s.heap.size ≤ q → A q := fun q h => by rw [← hAe]; exact Or.inr h
  have hl := lv_entry ([.ref h0, .int p0]) (n := 2) (Nat.le_of_ble_eq_true rfl)
  rw [show entryFrame m args 2 = entryFrame m ([.ref h0, .int p0] : List Value).toArray 2 by rw [hargs], lg_entry_eq]
  generalize (lg_sl ([.ref h0, .int p0]) ++ List.replicate (2 - (lg_sl ([.ref h0, .int p0])).length) Slot.unset).toArray = ls at hl ⊢
  have hl : lv_has ls 2 [(0, .ref h0), (1, .int p0)] := hl
  refine zstart (fun H hH => ?_)
  rw [← hH] at hP
  have hS : va_S A s.heap H [] := by rw [hH]; exact va_S.rf
  generalize ([] : List Loc) = locs at hS ⊢
  refine zgen (fun R Q hR hQ => ?_)
  refine lv_aload_n hx hb dX3_below_0 rfl (lv_at hl 0 rfl) ?_
  refine lv_aload_n hx hb dX3_below_1 rfl (lv_at hl 0 rfl) ?_
  refine va_get (D := (dC, dI)) (ci := 3) (v := .long x0) (C := RX3) (T := TX3) (N := 1) hx hb hts iX3 hown hK hP 0 rfl rfl 0 (by decide) (hts _ qw352) (fun _ h9 => h9) rfl dX3_below_2 ?_
  refine lv_ldc2 (v := 6364136223846793005) hx hb hown (hts _ qw788) dX3_below_5 ?_
  refine lv_lmul hx hb dX3_below_8 ?_
  refine lv_topl (fun v8 e8 => ?_)
  refine lv_ldc2 (v := 1442695040888963407) hx hb hown (hts _ qw789) dX3_below_9 ?_
  refine lv_ladd hx hb dX3_below_12 ?_
  refine lv_topl (fun v12 e12 => ?_)
  refine va_put (D := (dC, dI)) (ci := 3) (v := .long v12) (ty := .long) (C := RX3) (T := TX3) (N := 1) hx hb hts iX3 tyX3 tyX3_ok nmX3 hown hK hP hD hS 0 rfl rfl 0 (by decide) (hts _ qw352) (fun _ h9 => h9) rfl (by decide +kernel) rfl rfl (Nat.le_of_ble_eq_true rfl) dX3_below_13 (fun H locs hP9 hD9 hS9 => ?_)
  clear hP hD hS
  obtain ⟨hP, hD⟩ := zst (wX := [(h0, .inr (3, [.long v12]))]) hP9 hD9 rfl
  have hS := hS9
  clear hP9 hD9 hS9
  refine lv_iload_n hx hb dX3_below_16 rfl (lv_at hl 1 rfl) ?_
  refine lv_iconst (v := 1) hx hb dX3_below_17 (by decide) ?_
  refine lv_icmp_ge (tgt := 25) hx hb dX3_below_18 (by decide) (fun c18 => ?_) (fun c18 => ?_)
  · have c18 : 1 ≤ p0.toInt := z3 (by decide) rfl c18
    refine lv_aload_n hx hb dX3_below_25 rfl (lv_at hl 0 rfl) ?_
    refine va_get (D := (dC, dI)) (ci := 3) (v := .long v12) (C := RX3) (T := TX3) (N := 1) hx hb hts iX3 hown hK hP 0 rfl rfl 0 (by decide) (hts _ qw352) (fun _ h9 => h9) rfl dX3_below_26 ?_
    refine lv_bipush (v := 33) hx hb dX3_below_29 (by decide) ?_
    refine lv_lushr hx hb dX3_below_31 rfl ?_
    refine lv_topl (fun v31 e31 => ?_)
    refine lv_iload_n hx hb dX3_below_32 rfl (lv_at hl 1 rfl) ?_
    refine lv_i2l hx hb dX3_below_33 rfl ?_
    refine lv_topl (fun v33 e33 => ?_)
    refine lv_lrem hx hb dX3_below_34 (zlne e33 (by omega)) ?_
    refine lv_topl (fun v34 e34 => ?_)
    refine lv_l2i hx hb dX3_below_35 rfl ?_
    refine lv_topi (fun v35 e35 => ?_)
    have i35 : 0 ≤ v35.toInt ∧ v35.toInt < p0.toInt := zbel e31 e33 e34 e35 (by omega)
    rw [hQ]
    exact W.iret (v := v35) hx hb hr (fun t ht hW => ⟨⟨v35, v12, rfl, ⟨by (try dsimp only); omega, by (try dsimp only); omega, by (try dsimp only); omega, fun _ => by unfold sDr; rw [show sNx x0 = v12 by unfold sNx; rw [e12, e8], e35, e34, e33, e31], show v12 = sNx x0 by unfold sNx; rw [e12, e8]⟩, ⟨by rw [ht]; exact hP, hD⟩⟩, hS.F ht⟩) hS.2.2 dX3_below_36
  · have c18 : p0.toInt < 1 := z4 (by decide) rfl c18
    refine lv_iconst (v := 0) hx hb dX3_below_21 (by decide) ?_
    refine lv_goto (tgt := 36) hx hb dX3_below_22 (by decide) ?_
    have zr0 : (0 : Int32).toInt = 0 := by decide
    rw [hQ]
    exact W.iret (v := 0) hx hb hr (fun t ht hW => ⟨⟨0, v12, rfl, ⟨by (try dsimp only); omega, by (try dsimp only); omega, by (try dsimp only); omega, fun z => by exfalso; omega, show v12 = sNx x0 by unfold sNx; rw [e12, e8]⟩, ⟨by rw [ht]; exact hP, hD⟩⟩, hS.F ht⟩) hS.2.2 dX3_below_36
set_option maxHeartbeats 4000000 in
set_option maxRecDepth 100000 in
theorem g_X3_below_10 (l : Launch) (dC : Nat → ClassId) (dI : Nat → Nat → Nat) (cI cJ : ClassId) (h0 : Nat) (p0 : Int32) (x0 : Int64) (sz : Nat) (n_p0 : 0 ≤ p0.toInt ∧ p0.toInt ≤ 10)    : Met l yX3_below (.code yX3_below cX3_below 2 (some .int) :: wA) ({ frames := 0, cells := 0, slots := 0, locals := 0 }) (zP (dC, dI) [(cI, .int), (cJ, .long)] [.ref h0, .int p0] sz [(h0, .inr (3, [.long x0]))]) (va_Qi (fun (r : Int32) (u : Int64) => (0 ≤ r.toInt) ∧ (r.toInt ≤ 9) ∧ (r.toInt < p0.toInt ∨ p0.toInt < 1) ∧ (1 ≤ p0.toInt → r = sDr (sNx x0) p0) ∧ (u = sNx x0)) (fun (u : Int64) (t : State) => va_P (dC, dI) vwCl [(h0, .inr (3, [.long u]))] t.heap ∧ va_D (va_A [(h0, .inr (3, [.long x0]))] sz) [(h0, .inr (3, [.long u]))]) (va_A [(h0, .inr (3, [.long x0]))] sz)) 0 0 (va_A [(h0, .inr (3, [.long x0]))] sz) := by
  refine Met.ofW (cc := cX3_below) (maxL := 2) (ret := (some .int)) (by decide) rfl ?_
  intro p e s m args below meth c s₁ B hml hv
  obtain ⟨hargs, hsz, hP, hK, hT⟩ := hv
  have hx := B.exec
  have hb := B.bytes
  have hr := B.returns
  have hts : ∀ w ∈ wA, w.before args s = true := fun w h => atoms_spec (ws := .code yX3_below cX3_below 2 (some .int) :: wA) B.pre w (List.mem_cons_of_mem _ h)
  have hown : s.vm.findClass RX3 = some m.cls := findClass_of_methodNamed B.named
  have hlocks := B.notSynchronized
  subst hsz
  have hD := hT.self (sz := s.heap.size)
  generalize hAe : va_A [(h0, .inr (3, [.long x0]))] s.heap.size = A at hD ⊢
  have hA : ∀ q : Nat, s.heap.size ≤ q → A q := fun q h => by rw [← hAe]; exact Or.inr h
  have hl := lv_entry ([.ref h0, .int p0]) (n := 2) (Nat.le_of_ble_eq_true rfl)
  rw [show entryFrame m args 2 = entryFrame m ([.ref h0, .int p0] : List Value).toArray 2 by rw [hargs], lg_entry_eq]
  generalize (lg_sl ([.ref h0, .int p0]) ++ List.replicate (2 - (lg_sl ([.ref h0, .int p0])).length) Slot.unset).toArray = ls at hl ⊢
  have hl : lv_has ls 2 [(0, .ref h0), (1, .int p0)] := hl
  refine zstart (fun H hH => ?_)
  rw [← hH] at hP
  have hS : va_S A s.heap H [] := by rw [hH]; exact va_S.rf
  generalize ([] : List Loc) = locs at hS ⊢
  refine zgen (fun R Q hR hQ => ?_)
  refine lv_aload_n hx hb dX3_below_0 rfl (lv_at hl 0 rfl) ?_
  refine lv_aload_n hx hb dX3_below_1 rfl (lv_at hl 0 rfl) ?_
  refine va_get (D := (dC, dI)) (ci := 3) (v := .long x0) (C := RX3) (T := TX3) (N := 1) hx hb hts iX3 hown hK hP 0 rfl rfl 0 (by decide) (hts _ qw352) (fun _ h9 => h9) rfl dX3_below_2 ?_
  refine lv_ldc2 (v := 6364136223846793005) hx hb hown (hts _ qw788) dX3_below_5 ?_
  refine lv_lmul hx hb dX3_below_8 ?_
  refine lv_topl (fun v8 e8 => ?_)
  refine lv_ldc2 (v := 1442695040888963407) hx hb hown (hts _ qw789) dX3_below_9 ?_
  refine lv_ladd hx hb dX3_below_12 ?_
  refine lv_topl (fun v12 e12 => ?_)
  refine va_put (D := (dC, dI)) (ci := 3) (v := .long v12) (ty := .long) (C := RX3) (T := TX3) (N := 1) hx hb hts iX3 tyX3 tyX3_ok nmX3 hown hK hP hD hS 0 rfl rfl 0 (by decide) (hts _ qw352) (fun _ h9 => h9) rfl (by decide +kernel) rfl rfl (Nat.le_of_ble_eq_true rfl) dX3_below_13 (fun H locs hP9 hD9 hS9 => ?_)
  clear hP hD hS
  obtain ⟨hP, hD⟩ := zst (wX := [(h0, .inr (3, [.long v12]))]) hP9 hD9 rfl
  have hS := hS9
  clear hP9 hD9 hS9
  refine lv_iload_n hx hb dX3_below_16 rfl (lv_at hl 1 rfl) ?_
  refine lv_iconst (v := 1) hx hb dX3_below_17 (by decide) ?_
  refine lv_icmp_ge (tgt := 25) hx hb dX3_below_18 (by decide) (fun c18 => ?_) (fun c18 => ?_)
  · have c18 : 1 ≤ p0.toInt := z3 (by decide) rfl c18
    refine lv_aload_n hx hb dX3_below_25 rfl (lv_at hl 0 rfl) ?_
    refine va_get (D := (dC, dI)) (ci := 3) (v := .long v12) (C := RX3) (T := TX3) (N := 1) hx hb hts iX3 hown hK hP 0 rfl rfl 0 (by decide) (hts _ qw352) (fun _ h9 => h9) rfl dX3_below_26 ?_
    refine lv_bipush (v := 33) hx hb dX3_below_29 (by decide) ?_
    refine lv_lushr hx hb dX3_below_31 rfl ?_
    refine lv_topl (fun v31 e31 => ?_)
    refine lv_iload_n hx hb dX3_below_32 rfl (lv_at hl 1 rfl) ?_
    refine lv_i2l hx hb dX3_below_33 rfl ?_
    refine lv_topl (fun v33 e33 => ?_)
    refine lv_lrem hx hb dX3_below_34 (zlne e33 (by omega)) ?_
    refine lv_topl (fun v34 e34 => ?_)
    refine lv_l2i hx hb dX3_below_35 rfl ?_
    refine lv_topi (fun v35 e35 => ?_)
    have i35 : 0 ≤ v35.toInt ∧ v35.toInt < p0.toInt := zbel e31 e33 e34 e35 (by omega)
    rw [hQ]
    exact W.iret (v := v35) hx hb hr (fun t ht hW => ⟨⟨v35, v12, rfl, ⟨by (try dsimp only); omega, by (try dsimp only); omega, by (try dsimp only); omega, fun _ => by unfold sDr; rw [show sNx x0 = v12 by unfold sNx; rw [e12, e8], e35, e34, e33, e31], show v12 = sNx x0 by unfold sNx; rw [e12, e8]⟩, ⟨by rw [ht]; exact hP, hD⟩⟩, hS.F ht⟩) hS.2.2 dX3_below_36
  · have c18 : p0.toInt < 1 := z4 (by decide) rfl c18
    refine lv_iconst (v := 0) hx hb dX3_below_21 (by decide) ?_
    refine lv_goto (tgt := 36) hx hb dX3_below_22 (by decide) ?_
    have zr0 : (0 : Int32).toInt = 0 := by decide
    rw [hQ]
    exact W.iret (v := 0) hx hb hr (fun t ht hW => ⟨⟨0, v12, rfl, ⟨by (try dsimp only); omega, by (try dsimp only); omega, by (try dsimp only); omega, fun z => by exfalso; omega, show v12 = sNx x0 by unfold sNx; rw [e12, e8]⟩, ⟨by rw [ht]; exact hP, hD⟩⟩, hS.F ht⟩) hS.2.2 dX3_below_36
set_option maxHeartbeats 4000000 in
set_option maxRecDepth 100000 in
theorem g_X7_begin (l : Launch) (dC : Nat → ClassId) (dI : Nat → Nat → Nat) (cI cJ : ClassId) (h0 : Nat) (aC : Nat) (sY : Nat) (sF : Nat) (sP : Nat) (pn : Int32) (lt : Int32) (sh : Int32) (wd : Int32) (pu : Int32) (mo : Int32) (fY : Nat → Int32) (fF : Nat → Int32) (fP : Nat → Int32) (aR : Nat) (aB : Nat) (aP : Nat) (nb : Int32) (np : Int32) (fr : Nat → Int32) (fb : Nat → Int32) (fp : Nat → Int32) (sz : Nat) (n_nb : 0 ≤ nb.toInt ∧ nb.toInt ≤ 6) (n_np : 0 ≤ np.toInt ∧ np.toInt ≤ 5)    : Met l yX7_begin (.code yX7_begin cX7_begin 3 none :: wA) ({ frames := 1, cells := 0, slots := 0, locals := 22 }) (zP (dC, dI) [(cI, .int), (cJ, .long)] [.ref h0, .ref aC] sz [(h0, .inr (7, [.ref sY, .ref sF, .ref sP, .int pn, .int lt, .int sh, .int wd, .int pu, .int mo])), (sY, .inl (cI, 6, .inl fY)), (sF, .inl (cI, 5, .inl fF)), (sP, .inl (cI, 80, .inl fP)), (aC, .inr (1, [.ref aR, .ref aB, .ref aP, .int nb, .int np])), (aR, .inl (cI, 3, .inl fr)), (aB, .inl (cI, 24, .inl fb)), (aP, .inl (cI, 20, .inl fp))]) (va_Qv (fun (u : Int32 × (Nat → Int32) × (Nat → Int32)) => ((∀ i : Nat, (i : Int) < nb.toInt → u.2.1 i = fb (4 * i + 3)) ∧ (∀ i : Nat, (i : Int) < np.toInt → u.2.2 i = fp (4 * i + 2)) ∧ u.1 = fr 0)) (fun (u : Int32 × (Nat → Int32) × (Nat → Int32)) (t : State) => va_P (dC, dI) vwCl [(h0, .inr (7, [.ref sY, .ref sF, .ref sP, .int 0, .int 0, .int 0, .int (-1), .int u.1, .int 0])), (sY, .inl (cI, 6, .inl u.2.1)), (sF, .inl (cI, 5, .inl u.2.2)), (sP, .inl (cI, 80, .inl fP)), (aC, .inr (1, [.ref aR, .ref aB, .ref aP, .int nb, .int np])), (aR, .inl (cI, 3, .inl fr)), (aB, .inl (cI, 24, .inl fb)), (aP, .inl (cI, 20, .inl fp))] t.heap ∧ va_D (va_A [(h0, .inr (7, [.ref sY, .ref sF, .ref sP, .int pn, .int lt, .int sh, .int wd, .int pu, .int mo])), (sY, .inl (cI, 6, .inl fY)), (sF, .inl (cI, 5, .inl fF)), (sP, .inl (cI, 80, .inl fP)), (aC, .inr (1, [.ref aR, .ref aB, .ref aP, .int nb, .int np])), (aR, .inl (cI, 3, .inl fr)), (aB, .inl (cI, 24, .inl fb)), (aP, .inl (cI, 20, .inl fp))] sz) [(h0, .inr (7, [.ref sY, .ref sF, .ref sP, .int 0, .int 0, .int 0, .int (-1), .int u.1, .int 0])), (sY, .inl (cI, 6, .inl u.2.1)), (sF, .inl (cI, 5, .inl u.2.2)), (sP, .inl (cI, 80, .inl fP)), (aC, .inr (1, [.ref aR, .ref aB, .ref aP, .int nb, .int np])), (aR, .inl (cI, 3, .inl fr)), (aB, .inl (cI, 24, .inl fb)), (aP, .inl (cI, 20, .inl fp))]) (va_A [(h0, .inr (7, [.ref sY, .ref sF, .ref sP, .int pn, .int lt, .int sh, .int wd, .int pu, .int mo])), (sY, .inl (cI, 6, .inl fY)), (sF, .inl (cI, 5, .inl fF)), (sP, .inl (cI, 80, .inl fP)), (aC, .inr (1, [.ref aR, .ref aB, .ref aP, .int nb, .int np])), (aR, .inl (cI, 3, .inl fr)), (aB, .inl (cI, 24, .inl fb)), (aP, .inl (cI, 20, .inl fp))] sz)) 0 0 (va_A [(h0, .inr (7, [.ref sY, .ref sF, .ref sP, .int pn, .int lt, .int sh, .int wd, .int pu, .int mo])), (sY, .inl (cI, 6, .inl fY)), (sF, .inl (cI, 5, .inl fF)), (sP, .inl (cI, 80, .inl fP)), (aC, .inr (1, [.ref aR, .ref aB, .ref aP, .int nb, .int np])), (aR, .inl (cI, 3, .inl fr)), (aB, .inl (cI, 24, .inl fb)), (aP, .inl (cI, 20, .inl fp))] sz) := by
  refine Met.ofW (cc := cX7_begin) (maxL := 3) (ret := none) (by decide) rfl ?_
  intro p e s m args below meth c s₁ B hml hv
  obtain ⟨hargs, hsz, hP, hK, hT⟩ := hv
  have hx := B.exec
  have hb := B.bytes
  have hr := B.returns
  have hts : ∀ w ∈ wA, w.before args s = true := fun w h => atoms_spec (ws := .code yX7_begin cX7_begin 3 none :: wA) B.pre w (List.mem_cons_of_mem _ h)
  have hown : s.vm.findClass RX7 = some m.cls := findClass_of_methodNamed B.named
  have hlocks := B.notSynchronized
  subst hsz
  have hD := hT.self (sz := s.heap.size)
  generalize hAe : va_A [(h0, .inr (7, [.ref sY, .ref sF, .ref sP, .int pn, .int lt, .int sh, .int wd, .int pu, .int mo])), (sY, .inl (cI, 6, .inl fY)), (sF, .inl (cI, 5, .inl fF)), (sP, .inl (cI, 80, .inl fP)), (aC, .inr (1, [.ref aR, .ref aB, .ref aP, .int nb, .int np])), (aR, .inl (cI, 3, .inl fr)), (aB, .inl (cI, 24, .inl fb)), (aP, .inl (cI, 20, .inl fp))] s.heap.size = A at hD ⊢
  have hA : ∀ q : Nat, s.heap.size ≤ q → A q := fun q h => by rw [← hAe]; exact Or.inr h
  have hl := lv_entry ([.ref h0, .ref aC]) (n := 3) (Nat.le_of_ble_eq_true rfl)
  rw [show entryFrame m args 3 = entryFrame m ([.ref h0, .ref aC] : List Value).toArray 3 by rw [hargs], lg_entry_eq]
  generalize (lg_sl ([.ref h0, .ref aC]) ++ List.replicate (3 - (lg_sl ([.ref h0, .ref aC])).length) Slot.unset).toArray = ls at hl ⊢
  have hl : lv_has ls 3 [(0, .ref h0), (1, .ref aC)] := hl
  refine zstart (fun H hH => ?_)
  rw [← hH] at hP
  have hS : va_S A s.heap H [] := by rw [hH]; exact va_S.rf
  generalize ([] : List Loc) = locs at hS ⊢
  refine zgen (fun R Q hR hQ => ?_)
  refine lv_aload_n hx hb dX7_begin_0 rfl (lv_at hl 0 rfl) ?_
  refine lv_iconst (v := 0) hx hb dX7_begin_1 (by decide) ?_
  refine va_put (D := (dC, dI)) (ci := 7) (v := .int 0) (ty := .int) (C := RX7) (T := TX7) (N := 9) hx hb hts iX7 tyX7 tyX7_ok nmX7 hown hK hP hD hS 0 rfl rfl 3 (by decide) (hts _ qw227) (fun _ h9 => h9) rfl (by decide +kernel) rfl rfl (Nat.le_of_ble_eq_true rfl) dX7_begin_2 (fun H locs hP9 hD9 hS9 => ?_)
  clear hP hD hS
  obtain ⟨hP, hD⟩ := zst (wX := [(h0, .inr (7, [.ref sY, .ref sF, .ref sP, .int 0, .int lt, .int sh, .int wd, .int pu, .int mo])), (sY, .inl (cI, 6, .inl fY)), (sF, .inl (cI, 5, .inl fF)), (sP, .inl (cI, 80, .inl fP)), (aC, .inr (1, [.ref aR, .ref aB, .ref aP, .int nb, .int np])), (aR, .inl (cI, 3, .inl fr)), (aB, .inl (cI, 24, .inl fb)), (aP, .inl (cI, 20, .inl fp))]) hP9 hD9 rfl
  have hS := hS9
  clear hP9 hD9 hS9
  refine lv_aload_n hx hb dX7_begin_5 rfl (lv_at hl 0 rfl) ?_
  refine lv_iconst (v := 0) hx hb dX7_begin_6 (by decide) ?_
  refine va_put (D := (dC, dI)) (ci := 7) (v := .int 0) (ty := .int) (C := RX7) (T := TX7) (N := 9) hx hb hts iX7 tyX7 tyX7_ok nmX7 hown hK hP hD hS 0 rfl rfl 4 (by decide) (hts _ qw230) (fun _ h9 => h9) rfl (by decide +kernel) rfl rfl (Nat.le_of_ble_eq_true rfl) dX7_begin_7 (fun H locs hP9 hD9 hS9 => ?_)
  clear hP hD hS
  obtain ⟨hP, hD⟩ := zst (wX := [(h0, .inr (7, [.ref sY, .ref sF, .ref sP, .int 0, .int 0, .int sh, .int wd, .int pu, .int mo])), (sY, .inl (cI, 6, .inl fY)), (sF, .inl (cI, 5, .inl fF)), (sP, .inl (cI, 80, .inl fP)), (aC, .inr (1, [.ref aR, .ref aB, .ref aP, .int nb, .int np])), (aR, .inl (cI, 3, .inl fr)), (aB, .inl (cI, 24, .inl fb)), (aP, .inl (cI, 20, .inl fp))]) hP9 hD9 rfl
  have hS := hS9
  clear hP9 hD9 hS9
  refine lv_aload_n hx hb dX7_begin_10 rfl (lv_at hl 0 rfl) ?_
  refine lv_iconst (v := 0) hx hb dX7_begin_11 (by decide) ?_
  refine va_put (D := (dC, dI)) (ci := 7) (v := .int 0) (ty := .int) (C := RX7) (T := TX7) (N := 9) hx hb hts iX7 tyX7 tyX7_ok nmX7 hown hK hP hD hS 0 rfl rfl 5 (by decide) (hts _ qw233) (fun _ h9 => h9) rfl (by decide +kernel) rfl rfl (Nat.le_of_ble_eq_true rfl) dX7_begin_12 (fun H locs hP9 hD9 hS9 => ?_)
  clear hP hD hS
  obtain ⟨hP, hD⟩ := zst (wX := [(h0, .inr (7, [.ref sY, .ref sF, .ref sP, .int 0, .int 0, .int 0, .int wd, .int pu, .int mo])), (sY, .inl (cI, 6, .inl fY)), (sF, .inl (cI, 5, .inl fF)), (sP, .inl (cI, 80, .inl fP)), (aC, .inr (1, [.ref aR, .ref aB, .ref aP, .int nb, .int np])), (aR, .inl (cI, 3, .inl fr)), (aB, .inl (cI, 24, .inl fb)), (aP, .inl (cI, 20, .inl fp))]) hP9 hD9 rfl
  have hS := hS9
  clear hP9 hD9 hS9
  refine lv_aload_n hx hb dX7_begin_15 rfl (lv_at hl 0 rfl) ?_
  refine lv_iconst (v := (-1)) hx hb dX7_begin_16 (by decide) ?_
  refine va_put (D := (dC, dI)) (ci := 7) (v := .int (-1)) (ty := .int) (C := RX7) (T := TX7) (N := 9) hx hb hts iX7 tyX7 tyX7_ok nmX7 hown hK hP hD hS 0 rfl rfl 6 (by decide) (hts _ qw236) (fun _ h9 => h9) rfl (by decide +kernel) rfl rfl (Nat.le_of_ble_eq_true rfl) dX7_begin_17 (fun H locs hP9 hD9 hS9 => ?_)
  clear hP hD hS
  obtain ⟨hP, hD⟩ := zst (wX := [(h0, .inr (7, [.ref sY, .ref sF, .ref sP, .int 0, .int 0, .int 0, .int (-1), .int pu, .int mo])), (sY, .inl (cI, 6, .inl fY)), (sF, .inl (cI, 5, .inl fF)), (sP, .inl (cI, 80, .inl fP)), (aC, .inr (1, [.ref aR, .ref aB, .ref aP, .int nb, .int np])), (aR, .inl (cI, 3, .inl fr)), (aB, .inl (cI, 24, .inl fb)), (aP, .inl (cI, 20, .inl fp))]) hP9 hD9 rfl
  have hS := hS9
  clear hP9 hD9 hS9
  refine lv_aload_n hx hb dX7_begin_20 rfl (lv_at hl 0 rfl) ?_
  refine lv_aload_n hx hb dX7_begin_21 rfl (lv_at hl 1 rfl) ?_
  obtain ⟨hPc, hDc⟩ := zc2 (wc := [(aC, .inr (1, [.ref aR, .ref aB, .ref aP, .int nb, .int np])), (aR, .inl (cI, 3, .inl fr))]) hP hD [4, 5] (by decide +kernel) rfl
  have hFc := zfr hS hA
  refine va_calli (va_runV (As := []) (rest := [.ref h0]) ⟨hx, hb, hml, hown, hts⟩ (g_X1_firstPurse l dC dI cI cJ aC aR aB aP nb np fr H.size) (cwV 0 hts (zgV qw532 qw533 qw534 qw102 qw535) rfl rfl rfl hd_X1_firstPurse ⟨by rw [hR]; exact Nat.le_of_ble_eq_true rfl, by rw [hR]; exact Nat.le_of_ble_eq_true rfl⟩) (zPV hPc hK hDc (va_recv (q := (RX1, TX1, 5)) hK hP (ci := 1) (q0 := 4) rfl rfl)) rfl rfl hl.1 rfl (lv_room (Nat.le_of_ble_eq_true rfl)) dX7_begin_22 ⟨Nat.zero_le _, Nat.zero_le _⟩) hS (fun q _ h => hFc q h) hFc (fun v22 u22 t H locs ht hvm hw hB hz1 hk1 hS9 => ?_)
  replace hP := zkeep hP hk1
  replace hS := hS9
  clear hPc hDc hFc hk1 hz1 hvm hS9
  have f22_0 : (v22 = fr 0) := hw
  have F22 := f22_0
  refine va_put (D := (dC, dI)) (ci := 7) (v := .int v22) (ty := .int) (C := RX7) (T := TX7) (N := 9) hx hb hts iX7 tyX7 tyX7_ok nmX7 hown hK hP hD hS 0 rfl rfl 7 (by decide) (hts _ qw238) (fun _ h9 => h9) rfl (by decide +kernel) rfl rfl (Nat.le_of_ble_eq_true rfl) dX7_begin_25 (fun H locs hP9 hD9 hS9 => ?_)
  clear hP hD hS
  obtain ⟨hP, hD⟩ := zst (wX := [(h0, .inr (7, [.ref sY, .ref sF, .ref sP, .int 0, .int 0, .int 0, .int (-1), .int v22, .int mo])), (sY, .inl (cI, 6, .inl fY)), (sF, .inl (cI, 5, .inl fF)), (sP, .inl (cI, 80, .inl fP)), (aC, .inr (1, [.ref aR, .ref aB, .ref aP, .int nb, .int np])), (aR, .inl (cI, 3, .inl fr)), (aB, .inl (cI, 24, .inl fb)), (aP, .inl (cI, 20, .inl fp))]) hP9 hD9 rfl
  have hS := hS9
  clear hP9 hD9 hS9
  refine lv_aload_n hx hb dX7_begin_28 rfl (lv_at hl 0 rfl) ?_
  refine lv_iconst (v := 0) hx hb dX7_begin_29 (by decide) ?_
  refine va_put (D := (dC, dI)) (ci := 7) (v := .int 0) (ty := .int) (C := RX7) (T := TX7) (N := 9) hx hb hts iX7 tyX7 tyX7_ok nmX7 hown hK hP hD hS 0 rfl rfl 8 (by decide) (hts _ qw240) (fun _ h9 => h9) rfl (by decide +kernel) rfl rfl (Nat.le_of_ble_eq_true rfl) dX7_begin_30 (fun H locs hP9 hD9 hS9 => ?_)
  clear hP hD hS
  obtain ⟨hP, hD⟩ := zst (wX := [(h0, .inr (7, [.ref sY, .ref sF, .ref sP, .int 0, .int 0, .int 0, .int (-1), .int v22, .int 0])), (sY, .inl (cI, 6, .inl fY)), (sF, .inl (cI, 5, .inl fF)), (sP, .inl (cI, 80, .inl fP)), (aC, .inr (1, [.ref aR, .ref aB, .ref aP, .int nb, .int np])), (aR, .inl (cI, 3, .inl fr)), (aB, .inl (cI, 24, .inl fb)), (aP, .inl (cI, 20, .inl fp))]) hP9 hD9 rfl
  have hS := hS9
  clear hP9 hD9 hS9
  refine lv_iconst (v := 0) hx hb dX7_begin_33 (by decide) ?_
  have J35 : ∀ (n : Nat) (m35_A_sY : Nat → Int32) (m35_L_2 : Int32), (0 ≤ m35_L_2.toInt ∧ m35_L_2.toInt ≤ 6) → (∀ i : Nat, (i : Int) < m35_L_2.toInt → m35_A_sY i = fb (4 * i + 3)) → (m35_L_2.toInt ≤ nb.toInt ∨ m35_L_2.toInt = 0) → (7 - m35_L_2.toInt).toNat = n → ∀ (H : Heap) (locs : List Loc) (ls : Array Slot), va_P (dC, dI) vwCl [(h0, .inr (7, [.ref sY, .ref sF, .ref sP, .int 0, .int 0, .int 0, .int (-1), .int v22, .int 0])), (sY, .inl (cI, 6, .inl m35_A_sY)), (sF, .inl (cI, 5, .inl fF)), (sP, .inl (cI, 80, .inl fP)), (aC, .inr (1, [.ref aR, .ref aB, .ref aP, .int nb, .int np])), (aR, .inl (cI, 3, .inl fr)), (aB, .inl (cI, 24, .inl fb)), (aP, .inl (cI, 20, .inl fp))] H → va_D A [(h0, .inr (7, [.ref sY, .ref sF, .ref sP, .int 0, .int 0, .int 0, .int (-1), .int v22, .int 0])), (sY, .inl (cI, 6, .inl m35_A_sY)), (sF, .inl (cI, 5, .inl fF)), (sP, .inl (cI, 80, .inl fP)), (aC, .inr (1, [.ref aR, .ref aB, .ref aP, .int nb, .int np])), (aR, .inl (cI, 3, .inl fr)), (aB, .inl (cI, 24, .inl fb)), (aP, .inl (cI, 20, .inl fp))] → va_S A s.heap H locs → lv_has ls 3 [(2, .int m35_L_2), (0, .ref h0), (1, .ref aC)] → W p l e R s m args below meth c H locs 0 0 Q (F0 m 35 ls []) := by
    intro n35
    induction n35 using Nat.strongRecOn with
    | _ n35 ih35 =>
      intro m35_A_sY m35_L_2 jf35_0 jv35_0 jf35_2 hmu35 H locs ls hP hD hS hl
      refine lv_iload_n hx hb dX7_begin_35 rfl (lv_at hl 0 rfl) ?_
      refine lv_aload_n hx hb dX7_begin_36 rfl (lv_at hl 2 rfl) ?_
      refine va_get (D := (dC, dI)) (ci := 1) (v := .int nb) (C := RX1) (T := TX1) (N := 5) hx hb hts iX1 hown hK hP 4 rfl rfl 3 (by decide) (hts _ qw194) (fun _ h9 => h9) rfl dX7_begin_37 ?_
      refine lv_icmp_ge (tgt := 61) hx hb dX7_begin_40 (by decide) (fun c40 => ?_) (fun c40 => ?_)
      · have c40 : nb.toInt ≤ m35_L_2.toInt := z3 rfl rfl c40
        refine lv_iconst (v := 0) hx hb dX7_begin_61 (by decide) ?_
        have J63 : ∀ (n : Nat) (m63_A_sF : Nat → Int32) (m63_L_2 : Int32), (0 ≤ m63_L_2.toInt ∧ m63_L_2.toInt ≤ 5) → (∀ i : Nat, (i : Int) < m63_L_2.toInt → m63_A_sF i = fp (4 * i + 2)) → (m63_L_2.toInt ≤ np.toInt ∨ m63_L_2.toInt = 0) → (6 - m63_L_2.toInt).toNat = n → ∀ (H : Heap) (locs : List Loc) (ls : Array Slot), va_P (dC, dI) vwCl [(h0, .inr (7, [.ref sY, .ref sF, .ref sP, .int 0, .int 0, .int 0, .int (-1), .int v22, .int 0])), (sY, .inl (cI, 6, .inl m35_A_sY)), (sF, .inl (cI, 5, .inl m63_A_sF)), (sP, .inl (cI, 80, .inl fP)), (aC, .inr (1, [.ref aR, .ref aB, .ref aP, .int nb, .int np])), (aR, .inl (cI, 3, .inl fr)), (aB, .inl (cI, 24, .inl fb)), (aP, .inl (cI, 20, .inl fp))] H → va_D A [(h0, .inr (7, [.ref sY, .ref sF, .ref sP, .int 0, .int 0, .int 0, .int (-1), .int v22, .int 0])), (sY, .inl (cI, 6, .inl m35_A_sY)), (sF, .inl (cI, 5, .inl m63_A_sF)), (sP, .inl (cI, 80, .inl fP)), (aC, .inr (1, [.ref aR, .ref aB, .ref aP, .int nb, .int np])), (aR, .inl (cI, 3, .inl fr)), (aB, .inl (cI, 24, .inl fb)), (aP, .inl (cI, 20, .inl fp))] → va_S A s.heap H locs → lv_has ls 3 [(2, .int m63_L_2), (0, .ref h0), (1, .ref aC)] → W p l e R s m args below meth c H locs 0 0 Q (F0 m 63 ls []) := by
          intro n63
          induction n63 using Nat.strongRecOn with
          | _ n63 ih63 =>
            intro m63_A_sF m63_L_2 jf63_0 jv63_0 jf63_2 hmu63 H locs ls hP hD hS hl
            refine lv_iload_n hx hb dX7_begin_63 rfl (lv_at hl 0 rfl) ?_
            refine lv_aload_n hx hb dX7_begin_64 rfl (lv_at hl 2 rfl) ?_
            refine va_get (D := (dC, dI)) (ci := 1) (v := .int np) (C := RX1) (T := TX1) (N := 5) hx hb hts iX1 hown hK hP 4 rfl rfl 4 (by decide) (hts _ qw198) (fun _ h9 => h9) rfl dX7_begin_65 ?_
            refine lv_icmp_ge (tgt := 89) hx hb dX7_begin_68 (by decide) (fun c68 => ?_) (fun c68 => ?_)
            · have c68 : np.toInt ≤ m63_L_2.toInt := z3 rfl rfl c68
              rw [hQ]
              exact W.vret hx hb hr (fun t ht hW => ⟨⟨(v22, m35_A_sY, m63_A_sF), rfl, (by (try dsimp only); exact ⟨fun i hi => jv35_0 i (by omega), fun i hi => jv63_0 i (by omega), F22⟩), ⟨by rw [ht]; exact hP, hD⟩⟩, hS.F ht⟩) hS.2.2 dX7_begin_89
            · have c68 : m63_L_2.toInt < np.toInt := z4 rfl rfl c68
              refine lv_aload_n hx hb dX7_begin_71 rfl (lv_at hl 1 rfl) ?_
              refine va_get (D := (dC, dI)) (ci := 7) (v := .ref sF) (C := RX7) (T := TX7) (N := 9) hx hb hts iX7 hown hK hP 0 rfl rfl 1 (by decide) (hts _ qw223) (fun _ h9 => h9) rfl dX7_begin_72 ?_
              refine lv_iload_n hx hb dX7_begin_75 rfl (lv_at hl 0 rfl) ?_
              refine lv_aload_n hx hb dX7_begin_76 rfl (lv_at hl 2 rfl) ?_
              refine lv_iload_n hx hb dX7_begin_77 rfl (lv_at hl 0 rfl) ?_
              refine lv_iconst (v := 2) hx hb dX7_begin_78 (by decide) ?_
              obtain ⟨hPc, hDc⟩ := zc2 (wc := [(aC, .inr (1, [.ref aR, .ref aB, .ref aP, .int nb, .int np])), (aP, .inl (cI, 20, .inl fp))]) hP hD [4, 7] (by decide +kernel) rfl
              have hFc := zfr hS hA
              refine va_calli (va_runV (As := [.int m63_L_2, .int 2]) (rest := [.int m63_L_2, .ref sF]) ⟨hx, hb, hml, hown, hts⟩ (g_X1_ofPainter l dC dI cI cJ aC m63_L_2 2 aR aB aP nb np fp H.size (by omega) (by decide)) (cwV 2 hts (zgV qw540 qw541 qw542 qw102 qw543) rfl rfl rfl hd_X1_ofPainter ⟨by rw [hR]; exact Nat.le_of_ble_eq_true rfl, by rw [hR]; exact Nat.le_of_ble_eq_true rfl⟩) (zPV hPc hK hDc (va_recv (q := (RX1, TX1, 5)) hK hP (ci := 1) (q0 := 4) rfl rfl)) rfl rfl hl.1 rfl (lv_room (Nat.le_of_ble_eq_true rfl)) dX7_begin_79 ⟨Nat.zero_le _, Nat.zero_le _⟩) hS (fun q _ h => hFc q h) hFc (fun v79 u79 t H locs ht hvm hw hB hz1 hk1 hS9 => ?_)
              replace hP := zkeep hP hk1
              replace hS := hS9
              clear hPc hDc hFc hk1 hz1 hvm hS9
              have zn79_2 : (2 : Int32).toInt = 2 := by decide
              have f79_0 : (v79 = fp (4 * m63_L_2.toInt.toNat + (2 : Int32).toInt.toNat)) := hw
              have F79 := f79_0
              refine va_iast hx hb hK hP hD hS 2 0 rfl rfl (vp_in_iff.mpr ⟨by omega, by omega⟩) dX7_begin_82 (fun H locs hP9 hD9 hS9 => ?_)
              clear hP hD hS
              obtain ⟨v82_f, e82⟩ : ∃ g : Nat → Int32, g = upd m63_A_sF (m63_L_2).toNatClampNeg v79 := ⟨_, rfl⟩
              rw [← e82] at hP9 hD9
              obtain ⟨hP, hD⟩ := zst (wX := [(h0, .inr (7, [.ref sY, .ref sF, .ref sP, .int 0, .int 0, .int 0, .int (-1), .int v22, .int 0])), (sY, .inl (cI, 6, .inl m35_A_sY)), (sF, .inl (cI, 5, .inl v82_f)), (sP, .inl (cI, 80, .inl fP)), (aC, .inr (1, [.ref aR, .ref aB, .ref aP, .int nb, .int np])), (aR, .inl (cI, 3, .inl fr)), (aB, .inl (cI, 24, .inl fb)), (aP, .inl (cI, 20, .inl fp))]) hP9 hD9 rfl
              have hS := hS9
              clear hP9 hD9 hS9
              obtain ⟨v83, e83⟩ : ∃ y : Int32, y = m63_L_2 + Int32.ofInt (1) := ⟨_, rfl⟩
              refine lv_iinc (v := v83) (lv' := [(2, .int v83), (0, .ref h0), (1, .ref aC)]) hx hb dX7_begin_83 hl (k := 0) rfl e83.symm (by decide) rfl (fun ls hl => ?_)
              have i83 : v83.toInt = m63_L_2.toInt + 1 := zaddI e83 (by decide) (by omega) (by omega)
              refine lv_goto (tgt := 63) hx hb dX7_begin_86 (by decide) ?_
              exact ih63 _ (by omega) v82_f v83 (by omega) (zbgS jv63_0 (by omega) e82 (F79.trans (by rw [show (2 : Int32).toInt.toNat = 2 by decide])) i83) (by omega) rfl H locs ls hP hD hS (lv_sub hl [0, 1, 2] rfl)
        refine lv_istore_n (lv' := [(2, .int 0), (0, .ref h0), (1, .ref aC)]) hx hb dX7_begin_62 rfl hl (by decide) rfl (fun ls hl => ?_)
        have zj63_m63_L_2 : (0 : Int32).toInt = 0 := by decide
        exact J63 _ fF 0 (by decide) (zbg0) (by omega) rfl H locs ls hP hD hS (lv_sub hl [0, 1, 2] rfl)
      · have c40 : m35_L_2.toInt < nb.toInt := z4 rfl rfl c40
        refine lv_aload_n hx hb dX7_begin_43 rfl (lv_at hl 1 rfl) ?_
        refine va_get (D := (dC, dI)) (ci := 7) (v := .ref sY) (C := RX7) (T := TX7) (N := 9) hx hb hts iX7 hown hK hP 0 rfl rfl 0 (by decide) (hts _ qw220) (fun _ h9 => h9) rfl dX7_begin_44 ?_
        refine lv_iload_n hx hb dX7_begin_47 rfl (lv_at hl 0 rfl) ?_
        refine lv_aload_n hx hb dX7_begin_48 rfl (lv_at hl 2 rfl) ?_
        refine lv_iload_n hx hb dX7_begin_49 rfl (lv_at hl 0 rfl) ?_
        refine lv_iconst (v := 3) hx hb dX7_begin_50 (by decide) ?_
        obtain ⟨hPc, hDc⟩ := zc2 (wc := [(aC, .inr (1, [.ref aR, .ref aB, .ref aP, .int nb, .int np])), (aB, .inl (cI, 24, .inl fb))]) hP hD [4, 6] (by decide +kernel) rfl
        have hFc := zfr hS hA
        refine va_calli (va_runV (As := [.int m35_L_2, .int 3]) (rest := [.int m35_L_2, .ref sY]) ⟨hx, hb, hml, hown, hts⟩ (g_X1_ofBride l dC dI cI cJ aC m35_L_2 3 aR aB aP nb np fb H.size (by omega) (by decide)) (cwV 2 hts (zgV qw536 qw537 qw538 qw102 qw539) rfl rfl rfl hd_X1_ofBride ⟨by rw [hR]; exact Nat.le_of_ble_eq_true rfl, by rw [hR]; exact Nat.le_of_ble_eq_true rfl⟩) (zPV hPc hK hDc (va_recv (q := (RX1, TX1, 5)) hK hP (ci := 1) (q0 := 4) rfl rfl)) rfl rfl hl.1 rfl (lv_room (Nat.le_of_ble_eq_true rfl)) dX7_begin_51 ⟨Nat.zero_le _, Nat.zero_le _⟩) hS (fun q _ h => hFc q h) hFc (fun v51 u51 t H locs ht hvm hw hB hz1 hk1 hS9 => ?_)
        replace hP := zkeep hP hk1
        replace hS := hS9
        clear hPc hDc hFc hk1 hz1 hvm hS9
        have zn51_3 : (3 : Int32).toInt = 3 := by decide
        have f51_0 : (v51 = fb (4 * m35_L_2.toInt.toNat + (3 : Int32).toInt.toNat)) := hw
        have F51 := f51_0
        refine va_iast hx hb hK hP hD hS 1 0 rfl rfl (vp_in_iff.mpr ⟨by omega, by omega⟩) dX7_begin_54 (fun H locs hP9 hD9 hS9 => ?_)
        clear hP hD hS
        obtain ⟨v54_f, e54⟩ : ∃ g : Nat → Int32, g = upd m35_A_sY (m35_L_2).toNatClampNeg v51 := ⟨_, rfl⟩
        rw [← e54] at hP9 hD9
        obtain ⟨hP, hD⟩ := zst (wX := [(h0, .inr (7, [.ref sY, .ref sF, .ref sP, .int 0, .int 0, .int 0, .int (-1), .int v22, .int 0])), (sY, .inl (cI, 6, .inl v54_f)), (sF, .inl (cI, 5, .inl fF)), (sP, .inl (cI, 80, .inl fP)), (aC, .inr (1, [.ref aR, .ref aB, .ref aP, .int nb, .int np])), (aR, .inl (cI, 3, .inl fr)), (aB, .inl (cI, 24, .inl fb)), (aP, .inl (cI, 20, .inl fp))]) hP9 hD9 rfl
        have hS := hS9
        clear hP9 hD9 hS9
        obtain ⟨v55, e55⟩ : ∃ y : Int32, y = m35_L_2 + Int32.ofInt (1) := ⟨_, rfl⟩
        refine lv_iinc (v := v55) (lv' := [(2, .int v55), (0, .ref h0), (1, .ref aC)]) hx hb dX7_begin_55 hl (k := 0) rfl e55.symm (by decide) rfl (fun ls hl => ?_)
        have i55 : v55.toInt = m35_L_2.toInt + 1 := zaddI e55 (by decide) (by omega) (by omega)
        refine lv_goto (tgt := 35) hx hb dX7_begin_58 (by decide) ?_
        exact ih35 _ (by omega) v54_f v55 (by omega) (zbgS jv35_0 (by omega) e54 (F51.trans (by rw [show (3 : Int32).toInt.toNat = 3 by decide])) i55) (by omega) rfl H locs ls hP hD hS (lv_sub hl [0, 1, 2] rfl)
  refine lv_istore_n (lv' := [(2, .int 0), (0, .ref h0), (1, .ref aC)]) hx hb dX7_begin_34 rfl hl (by decide) rfl (fun ls hl => ?_)
  have zj35_m35_L_2 : (0 : Int32).toInt = 0 := by decide
  exact J35 _ fY 0 (by decide) (zbg0) (by omega) rfl H locs ls hP hD hS (lv_sub hl [0, 1, 2] rfl)
