set_option maxHeartbeats 4000000 in
set_option maxRecDepth 100000 in
theorem g_J7_copyOf (l : Launch) (dC : Nat → ClassId) (dI : Nat → Nat → Nat) (cI cJ : ClassId) (a0 : Nat) (p0 : Int32) (f : Nat → Int32) (sz : Nat) (n_p0 : 0 ≤ p0.toInt ∧ p0.toInt ≤ 241) (hf : zSt f) : Met l yJ7_copyOf_59c91 (.code yJ7_copyOf_59c91 cJ7_copyOf_59c91 3 (some (.array .int)) :: wA) ({ frames := 1, cells := 1, slots := 241, locals := 60 }) (zPY (dC, dI) [(cI, .int), (cJ, .long)] [.ref a0, .int p0] sz [(a0, .inl (cI, 241, .inl f))]) (va_Qr (fun (u : Nat → Int32) => zSt u ∧ ∀ i : Nat, (i : Int) < p0.toInt → u i = f i) (fun (u : Nat → Int32) (a : Nat) (t : State) => va_P (dC, dI) vwCl [(a0, .inl (cI, 241, .inl f)), (a, .inl (cI, p0.toNatClampNeg, .inl u))] t.heap ∧ va_D (va_A [(a0, .inl (cI, 241, .inl f))] sz) [(a0, .inl (cI, 241, .inl f)), (a, .inl (cI, p0.toNatClampNeg, .inl u))]) (va_A [(a0, .inl (cI, 241, .inl f))] sz)) 1 241 (va_A [(a0, .inl (cI, 241, .inl f))] sz) := by
  refine Met.ofW (cc := cJ7_copyOf_59c91) (maxL := 3) (ret := (some (.array .int))) (by decide) rfl ?_
  intro p e s m args below meth c s₁ B hml hv
  obtain ⟨⟨hargs, hsz, hP, hK, hT⟩, hCa⟩ := hv
  have hx := B.exec
  have hb := B.bytes
  have hr := B.returns
  have hts : ∀ w ∈ wA, w.before args s = true := fun w h => atoms_spec (ws := .code yJ7_copyOf_59c91 cJ7_copyOf_59c91 3 (some (.array .int)) :: wA) B.pre w (List.mem_cons_of_mem _ h)
  have hown : s.vm.findClass RJ7 = some m.cls := findClass_of_methodNamed B.named
  have hlocks := B.notSynchronized
  subst hsz
  have hD := hT.self (sz := s.heap.size)
  generalize hAe : va_A [(a0, .inl (cI, 241, .inl f))] s.heap.size = A at hD ⊢
  have hA : ∀ q : Nat, s.heap.size ≤ q → A q := fun q h => by rw [← hAe]; exact Or.inr h
  have hl := lv_entry ([.ref a0, .int p0]) (n := 3) (Nat.le_of_ble_eq_true rfl)
  rw [show entryFrame m args 3 = entryFrame m ([.ref a0, .int p0] : List Value).toArray 3 by rw [hargs], lg_entry_eq]
  generalize (lg_sl ([.ref a0, .int p0]) ++ List.replicate (3 - (lg_sl ([.ref a0, .int p0])).length) Slot.unset).toArray = ls at hl ⊢
  have hl : lv_has ls 3 [(0, .ref a0), (1, .int p0)] := hl
  refine zstart (fun H hH => ?_)
  rw [← hH] at hP
  have hS : va_S A s.heap H [] := by rw [hH]; exact va_S.rf
  generalize ([] : List Loc) = locs at hS ⊢
  refine zgen (fun R Q hR hQ => ?_)
  refine lv_iload_n hx hb dJ7_copyOf_59c91_0 rfl (lv_at hl 1 rfl) ?_
  refine lv_aload_n hx hb dJ7_copyOf_59c91_1 rfl (lv_at hl 0 rfl) ?_
  refine va_alen (v := 241) hx hb hK hP 0 0 rfl rfl rfl dJ7_copyOf_59c91_2 ?_
  refine lv_icmp_ne (tgt := 14) hx hb dJ7_copyOf_59c91_3 (by decide) (fun c3 => ?_) (fun c3 => ?_)
  · have c3 : ¬ p0.toInt = 241 := z6 rfl (by decide) c3
    refine lv_iload_n hx hb dJ7_copyOf_59c91_14 rfl (lv_at hl 1 rfl) ?_
    refine va_newa (atype := .int) (ty := .int) (N' := p0.toNatClampNeg) (a0 := (p0.toNatClampNeg, .inl (fun _ => 0))) hx hb (hts _ qw147) rfl hK hP hD hS hA (fun _ => rfl) (znn (by omega)) rfl (by show p0.toInt.toNat * 4 ≤ 536870912; omega) (by rw [hR]; exact Nat.le_of_ble_eq_true rfl) (by rw [hR]; show 0 + p0.toInt.toNat ≤ 241; omega) dJ7_copyOf_59c91_15 (fun q1 cA H hK2 hP hD hS => ?_)
    obtain rfl : cI = cA := (zcA hK2 0 2 rfl rfl).symm
    have hP : va_P (dC, dI) vwCl [(a0, .inl (cI, 241, .inl f)), (q1, .inl (cI, p0.toNatClampNeg, .inl (fun _ => 0)))] H := hP
    have hD : va_D A [(a0, .inl (cI, 241, .inl f)), (q1, .inl (cI, p0.toNatClampNeg, .inl (fun _ => 0)))] := hD
    refine W.widen (k := 1) (n := 241) (Nat.le_of_ble_eq_true rfl) (by show 0 + p0.toInt.toNat ≤ 241; omega) ?_
    refine lv_astore_n (lv' := [(2, .ref q1), (0, .ref a0), (1, .int p0)]) hx hb dJ7_copyOf_59c91_17 rfl hl (by decide) rfl (fun ls hl => ?_)
    refine lv_aload_n hx hb dJ7_copyOf_59c91_18 rfl (lv_at hl 1 rfl) ?_
    refine lv_iconst (v := 0) hx hb dJ7_copyOf_59c91_19 (by decide) ?_
    refine lv_aload_n hx hb dJ7_copyOf_59c91_20 rfl (lv_at hl 0 rfl) ?_
    refine lv_iconst (v := 0) hx hb dJ7_copyOf_59c91_21 (by decide) ?_
    refine lv_aload_n hx hb dJ7_copyOf_59c91_22 rfl (lv_at hl 1 rfl) ?_
    refine va_alen (v := 241) hx hb hK hP 0 0 rfl rfl rfl dJ7_copyOf_59c91_23 ?_
    refine lv_iload_n hx hb dJ7_copyOf_59c91_24 rfl (lv_at hl 2 rfl) ?_
    refine va_mmin hx hb (by rw [hml]; exact hl.1.symm) hown (hts _ qw568) (hts _ qw569) (hts _ qw112) (hts _ qw570) (by rw [hR]; exact Nat.le_of_ble_eq_true rfl) (by rw [hR]; exact Nat.le_of_ble_eq_true rfl) (by rw [hR]; exact Nat.le_of_ble_eq_true rfl) (by rw [hR]; exact Nat.le_of_ble_eq_true rfl) dJ7_copyOf_59c91_25 ?_
    refine lv_topi (fun v25 e25 => ?_)
    have i25 := zmmin e25
    have z25 : (241 : Int32).toInt = 241 := by decide
    refine va_copyi hx hb (by rw [hml]; exact hl.1.symm) hown (hts _ qw571) (hts _ qw432) (hts _ qw431) (hts _ qw109) hK hP hD hS 0 1 0 0 rfl rfl rfl rfl rfl (by decide) (by decide) (znn (by omega)) (zcpb (a := 0) (b := p0.toInt) (by decide) (by omega) (by omega)) (zcpb (a := 0) (b := p0.toInt) (by decide) (by omega) ⟨by show (0 : Int) + p0.toInt ≤ ((p0.toInt.toNat : Nat) : Int); omega, by omega, by omega⟩) (fun i hi => rfl) (by rw [hR]; exact Nat.le_of_ble_eq_true rfl) (by rw [hR]; decide) dJ7_copyOf_59c91_28 (fun H locs hP hD hS => ?_)
    obtain ⟨g, eg⟩ : ∃ g : Nat → Int32, g = va_cpy f (fun _ => 0) (0 : Int32).toNatClampNeg (0 : Int32).toNatClampNeg v25.toNatClampNeg := ⟨_, rfl⟩
    rw [← eg] at hP hD
    have hP : va_P (dC, dI) vwCl [(a0, .inl (cI, 241, .inl f)), (q1, .inl (cI, p0.toNatClampNeg, .inl g))] H := hP
    have hD : va_D A [(a0, .inl (cI, 241, .inl f)), (q1, .inl (cI, p0.toNatClampNeg, .inl g))] := hD
    refine lv_aload_n hx hb dJ7_copyOf_59c91_31 rfl (lv_at hl 0 rfl) ?_
    rw [hQ]
    exact W.aret (v := .ref q1) hx hb hr (Or.inr ⟨_, rfl⟩) (Or.inr ⟨_, rfl⟩) (fun t ht hW => ⟨⟨g, q1, rfl, ⟨zSt_cpy hf eg, zcpyI eg (by omega)⟩, by rw [ht]; exact hP, hD⟩, hS.F ht⟩) hS.2.2 dJ7_copyOf_59c91_32
  · have c3 : p0 = 241 := c3
    subst c3
    have hz : (241 : Int32).toNatClampNeg = 241 := by decide
    refine lv_aload_n hx hb dJ7_copyOf_59c91_6 rfl (lv_at hl 0 rfl) ?_
    have hfit : ∀ (i : Nat) (v : Value), (vp_cell cI (241, .inl f)).slots[i]? = some v → fits .int v = true := by
      intro i v h
      rw [show vp_cell cI (241, .inl f) = arrV cI 241 (fun j => Value.int (f j)) from rfl] at h
      exact va_fit (cA := cI) (n := 241) (F := fun j => Value.int (f j)) (ty := .int) (fun i hi => rfl) i v h
    refine va_clone hx hb (by rw [hml]; exact hl.1.symm) hown (hts _ qz1) (hts _ qz2) (hts _ qz3) (hts _ qz4) (hts _ qz5) hCa hK hP hD hS hA 0 0 rfl rfl (va_nm_int (hK.2 0 _ rfl).2) hfit (by rw [hR]; exact Nat.le_of_ble_eq_true rfl) (by rw [hR]; exact Nat.le_of_ble_eq_true rfl) (by rw [hR]; exact Nat.le_of_ble_eq_true rfl) (by rw [hR]; exact Nat.le_of_ble_eq_true rfl) dJ7_copyOf_59c91_7 (fun q1 H hK2 hP hD hS => ?_)
    have hP : va_P (dC, dI) vwCl [(a0, .inl (cI, 241, .inl f)), (q1, .inl (cI, 241, .inl f))] H := hP
    have hD : va_D A [(a0, .inl (cI, 241, .inl f)), (q1, .inl (cI, 241, .inl f))] := hD
    refine W.widen (k := 1) (n := 241) (Nat.le_of_ble_eq_true rfl) (Nat.le_of_ble_eq_true rfl) ?_
    refine va_castA hx hb hown (hts _ qz6) hP 1 rfl (va_nm_int (hK.2 0 _ rfl).2) dJ7_copyOf_59c91_10 ?_
    rw [hQ]
    exact W.aret (v := .ref q1) hx hb hr (Or.inr ⟨_, rfl⟩) (Or.inr ⟨_, rfl⟩) (fun t ht hW => ⟨⟨f, q1, rfl, ⟨hf, fun _ _ => rfl⟩, by rw [ht, hz]; exact hP, by rw [hz]; exact hD⟩, hS.F ht⟩) hS.2.2 dJ7_copyOf_59c91_13
set_option maxHeartbeats 4000000 in
set_option maxRecDepth 100000 in
theorem g_X4_init (l : Launch) (dC : Nat → ClassId) (dI : Nat → Nat → Nat) (cI cJ : ClassId) (h0 a1 : Nat) (sz : Nat) : Met l yX4_init (.code yX4_init cX4_init 2 none :: wA) ({ frames := 1, cells := 0, slots := 0, locals := 20 }) (zP (dC, dI) [(cI, .int), (cJ, .long)] [.ref h0, .ref a1] sz [(h0, .inr (4, [.null]))]) (va_Qv (fun (_ : Unit) => True) (fun (_ : Unit) (t : State) => va_P (dC, dI) vwCl [(h0, .inr (4, [.ref a1]))] t.heap ∧ va_D (va_A [(h0, .inr (4, [.null]))] sz) [(h0, .inr (4, [.ref a1]))]) (va_A [(h0, .inr (4, [.null]))] sz)) 0 0 (va_A [(h0, .inr (4, [.null]))] sz) := by
  refine Met.ofW (cc := cX4_init) (maxL := 2) (ret := none) (by decide) rfl ?_
  intro p e s m args below meth c s₁ B hml hv
  obtain ⟨hargs, hsz, hP, hK, hT⟩ := hv
  have hx := B.exec
  have hb := B.bytes
  have hr := B.returns
  have hts : ∀ w ∈ wA, w.before args s = true := fun w h => atoms_spec (ws := .code yX4_init cX4_init 2 none :: wA) B.pre w (List.mem_cons_of_mem _ h)
  have hown : s.vm.findClass RX4 = some m.cls := findClass_of_methodNamed B.named
  have hlocks := B.notSynchronized
  subst hsz
  have hD := hT.self (sz := s.heap.size)
  generalize hAe : va_A [(h0, .inr (4, [.null]))] s.heap.size = A at hD ⊢
  have hA : ∀ q : Nat, s.heap.size ≤ q → A q := fun q h => by rw [← hAe]; exact Or.inr h
  have hl := lv_entry ([.ref h0, .ref a1]) (n := 2) (Nat.le_of_ble_eq_true rfl)
  rw [show entryFrame m args 2 = entryFrame m ([.ref h0, .ref a1] : List Value).toArray 2 by rw [hargs], lg_entry_eq]
  generalize (lg_sl ([.ref h0, .ref a1]) ++ List.replicate (2 - (lg_sl ([.ref h0, .ref a1])).length) Slot.unset).toArray = ls at hl ⊢
  have hl : lv_has ls 2 [(0, .ref h0), (1, .ref a1)] := hl
  refine zstart (fun H hH => ?_)
  rw [← hH] at hP
  have hS : va_S A s.heap H [] := by rw [hH]; exact va_S.rf
  generalize ([] : List Loc) = locs at hS ⊢
  refine zgen (fun R Q hR hQ => ?_)
  have hin : meth.name = "<init>" := (name_of_methodNamed B.named B.method).1
  refine lv_aload_n hx hb dX4_init_0 rfl (lv_at hl 0 rfl) ?_
  refine W.objInit hx hb hown (hts _ qw575) (hts _ qw124) (hts _ qw125) rfl (by rw [hml]; exact hl.1) rfl dX4_init_1 (by rw [hR]; exact Nat.le_of_ble_eq_true rfl) (by rw [hR]; exact Nat.le_of_ble_eq_true rfl) ?_
  refine W.eq (g2 := F0 m 4 ls []) rfl ?_
  refine lv_aload_n hx hb dX4_init_4 rfl (lv_at hl 0 rfl) ?_
  refine lv_aload_n hx hb dX4_init_5 rfl (lv_at hl 1 rfl) ?_
  refine va_putF (D := (dC, dI)) (ci := 4) (v := .ref a1) (ty := .array .int) (C := RX4) (T := TX4) (N := 1) hx hb hts iX4 tyX4 tyX4_ok nmX4 hown hK hP hD hS 0 rfl rfl 0 (by decide) (hts _ qw576) (fun _ h9 => h9) rfl hin rfl (by decide +kernel) rfl rfl (Nat.le_of_ble_eq_true rfl) dX4_init_6 (fun H locs hP hD hS => ?_)
  have hP : va_P (dC, dI) vwCl [(h0, .inr (4, [.ref a1]))] H := hP
  have hD : va_D A [(h0, .inr (4, [.ref a1]))] := hD
  rw [hQ]
  exact W.vret hx hb hr (fun t ht hW => ⟨⟨(), rfl, trivial, by rw [ht]; exact hP, hD⟩, hS.F ht⟩) hS.2.2 dX4_init_9
set_option maxHeartbeats 4000000 in
set_option maxRecDepth 100000 in
theorem g_X5_made (l : Launch) (dC : Nat → ClassId) (dI : Nat → Nat → Nat) (cI cJ : ClassId) (h0 lS : Nat) (sz5 : Int32) (lt : Value) (fS : Nat → Int32) (sz : Nat) (n_sz5 : 0 ≤ sz5.toInt ∧ sz5.toInt ≤ 241) (hf : zSt fS) : Met l yX5_made (.code yX5_made cX5_made 1 (some (.object "NinePortraits$Law")) :: wA) ({ frames := 2, cells := 2, slots := 242, locals := 120 }) (zPY (dC, dI) [(cI, .int), (cJ, .long)] [.ref h0] sz [(h0, .inr (5, [.ref lS, .int sz5, lt])), (lS, .inl (cI, 241, .inl fS))]) (va_Qr (fun (u : Nat → Int32) => zSt u ∧ ∀ i : Nat, (i : Int) < sz5.toInt → u i = fS i) (fun (u : Nat → Int32) (a : Nat) (t : State) => ∃ b : Nat, va_P (dC, dI) vwCl [(h0, .inr (5, [.ref lS, .int sz5, lt])), (lS, .inl (cI, 241, .inl fS)), (a, .inr (4, [.ref b])), (b, .inl (cI, sz5.toNatClampNeg, .inl u))] t.heap ∧ va_D (va_A [(h0, .inr (5, [.ref lS, .int sz5, lt])), (lS, .inl (cI, 241, .inl fS))] sz) [(h0, .inr (5, [.ref lS, .int sz5, lt])), (lS, .inl (cI, 241, .inl fS)), (a, .inr (4, [.ref b])), (b, .inl (cI, sz5.toNatClampNeg, .inl u))]) (va_A [(h0, .inr (5, [.ref lS, .int sz5, lt])), (lS, .inl (cI, 241, .inl fS))] sz)) 2 242 (va_A [(h0, .inr (5, [.ref lS, .int sz5, lt])), (lS, .inl (cI, 241, .inl fS))] sz) := by
  refine Met.ofW (cc := cX5_made) (maxL := 1) (ret := (some (.object "NinePortraits$Law"))) (by decide) rfl ?_
  intro p e s m args below meth c s₁ B hml hv
  obtain ⟨⟨hargs, hsz, hP, hK, hT⟩, hCa⟩ := hv
  have hx := B.exec
  have hb := B.bytes
  have hr := B.returns
  have hts : ∀ w ∈ wA, w.before args s = true := fun w h => atoms_spec (ws := .code yX5_made cX5_made 1 (some (.object "NinePortraits$Law")) :: wA) B.pre w (List.mem_cons_of_mem _ h)
  have hown : s.vm.findClass RX5 = some m.cls := findClass_of_methodNamed B.named
  have hlocks := B.notSynchronized
  subst hsz
  have hD := hT.self (sz := s.heap.size)
  generalize hAe : va_A [(h0, .inr (5, [.ref lS, .int sz5, lt])), (lS, .inl (cI, 241, .inl fS))] s.heap.size = A at hD ⊢
  have hA : ∀ q : Nat, s.heap.size ≤ q → A q := fun q h => by rw [← hAe]; exact Or.inr h
  have hl := lv_entry ([.ref h0]) (n := 1) (Nat.le_of_ble_eq_true rfl)
  rw [show entryFrame m args 1 = entryFrame m ([.ref h0] : List Value).toArray 1 by rw [hargs], lg_entry_eq]
  generalize (lg_sl ([.ref h0]) ++ List.replicate (1 - (lg_sl ([.ref h0])).length) Slot.unset).toArray = ls at hl ⊢
  have hl : lv_has ls 1 [(0, .ref h0)] := hl
  refine zstart (fun H hH => ?_)
  rw [← hH] at hP
  have hS : va_S A s.heap H [] := by rw [hH]; exact va_S.rf
  generalize ([] : List Loc) = locs at hS ⊢
  refine zgen (fun R Q hR hQ => ?_)
  refine va_new (ci := 4) (fs := [.null]) (C := RX4) (T := TX4) (N := 1) hx hb hts iX4 tyX4 tyX4_ok hown (hts _ qw556) (hts _ qw557) (hts _ qw110) hK hP hD hS hA rfl fsX4 (by rw [hR]; exact Nat.le_of_ble_eq_true rfl) (by rw [hR]; exact Nat.le_of_ble_eq_true rfl) dX5_made_0 (fun q1 H hP hD hS => ?_)
  have hP : va_P (dC, dI) vwCl [(h0, .inr (5, [.ref lS, .int sz5, lt])), (lS, .inl (cI, 241, .inl fS)), (q1, .inr (4, [.null]))] H := hP
  have hD : va_D A [(h0, .inr (5, [.ref lS, .int sz5, lt])), (lS, .inl (cI, 241, .inl fS)), (q1, .inr (4, [.null]))] := hD
  refine lv_dup hx hb dX5_made_3 rfl ?_
  refine lv_aload_n hx hb dX5_made_4 rfl (lv_at hl 0 rfl) ?_
  refine va_get (D := (dC, dI)) (ci := 5) (v := .ref lS) (C := RX5) (T := TX5) (N := 3) hx hb hts iX5 hown hK hP 0 rfl rfl 0 (by decide) (hts _ qw170) (fun _ h9 => h9) rfl dX5_made_5 ?_
  refine lv_aload_n hx hb dX5_made_8 rfl (lv_at hl 0 rfl) ?_
  refine va_get (D := (dC, dI)) (ci := 5) (v := .int sz5) (C := RX5) (T := TX5) (N := 3) hx hb hts iX5 hown hK hP 0 rfl rfl 1 (by decide) (hts _ qw171) (fun _ h9 => h9) rfl dX5_made_9 ?_
  have hPc := hP.sub (ws' := [(lS, .inl (cI, 241, .inl fS))]) [1] rfl
  have hDc := hD.sub (ws' := [(lS, .inl (cI, 241, .inl fS))]) [1] (by decide) rfl
  have hFc := va_free (wc := [(lS, .inl (cI, 241, .inl fS))]) hD hS hA [1] rfl
  refine va_callr (va_runS (As := [.ref lS, .int sz5]) (rest := [.ref q1, .ref q1]) ⟨hx, hb, hml, hown, hts⟩ (g_J7_copyOf l dC dI cI cJ lS sz5 fS H.size n_sz5 hf) (va_cwS 2 hts (zgSW qw558 qw559 qw111 qw560) rfl rfl rfl (hd_J7_copyOf_59c91).2 ⟨by rw [hR]; exact Nat.le_of_ble_eq_true rfl, by rw [hR]; exact Nat.le_of_ble_eq_true rfl⟩) (zPYS hPc hK hDc (zCa_call hCa)) rfl rfl hl.1 rfl (lv_room (Nat.le_of_ble_eq_true rfl)) dX5_made_12 ⟨by rw [hR]; exact Nat.le_of_ble_eq_true rfl, by rw [hR]; exact Nat.le_of_ble_eq_true rfl⟩) hS (fun q _ h => hFc q h) hFc (fun u q2 t H locs ht hvm hw hB hz1 hk1 hS => ?_)
  obtain ⟨hP1, hD1⟩ := hB
  rw [ht] at hP1
  obtain ⟨hP, hD⟩ := va_join (wr := [(h0, .inr (5, [.ref lS, .int sz5, lt])), (q1, .inr (4, [.null]))]) (w1 := [(lS, .inl (cI, 241, .inl fS)), (q2, .inl (cI, sz5.toNatClampNeg, .inl u))]) hP hD [1] [0, 2] rfl rfl (by decide) (by decide) hk1 hFc hP1 hD1
  have hP : va_P (dC, dI) vwCl [(h0, .inr (5, [.ref lS, .int sz5, lt])), (q1, .inr (4, [.null])), (lS, .inl (cI, 241, .inl fS)), (q2, .inl (cI, sz5.toNatClampNeg, .inl u))] H := hP
  have hD : va_D A [(h0, .inr (5, [.ref lS, .int sz5, lt])), (q1, .inr (4, [.null])), (lS, .inl (cI, 241, .inl fS)), (q2, .inl (cI, sz5.toNatClampNeg, .inl u))] := hD
  have hPc := hP.sub (ws' := [(q1, .inr (4, [.null]))]) [1] rfl
  have hDc := hD.sub (ws' := [(q1, .inr (4, [.null]))]) [1] (by decide) rfl
  have hFc := va_free (wc := [(q1, .inr (4, [.null]))]) hD hS hA [1] rfl
  refine va_callv (va_runI (As := [.ref q2]) (rest := [.ref q1]) ⟨hx, hb, hml, hown, hts⟩ (g_X4_init l dC dI cI cJ q1 q2 H.size) (cwI 1 hts (zgI qw574) rfl rfl rfl (hts _ qw110) (hts _ qw572) (hts _ qw573) rfl (hd_X4_init).2 ⟨by rw [hR]; exact Nat.le_of_ble_eq_true rfl, by rw [hR]; exact Nat.le_of_ble_eq_true rfl⟩) (zPS hPc hK hDc) rfl rfl hl.1 rfl (lv_room (Nat.le_of_ble_eq_true rfl)) dX5_made_15 ⟨by rw [hR]; exact Nat.le_of_ble_eq_true rfl, by rw [hR]; exact Nat.le_of_ble_eq_true rfl⟩) hS (fun q _ h => hFc q h) hFc (fun u1 t H locs ht hvm hw1 hB hz1 hk1 hS => ?_)
  obtain ⟨hP1, hD1⟩ := hB
  rw [ht] at hP1
  obtain ⟨hP, hD⟩ := va_join (wr := [(h0, .inr (5, [.ref lS, .int sz5, lt])), (lS, .inl (cI, 241, .inl fS)), (q2, .inl (cI, sz5.toNatClampNeg, .inl u))]) (w1 := [(q1, .inr (4, [.ref q2]))]) hP hD [1] [0, 2, 3] rfl rfl (by decide) (by decide) hk1 hFc hP1 hD1
  have hP : va_P (dC, dI) vwCl [(h0, .inr (5, [.ref lS, .int sz5, lt])), (lS, .inl (cI, 241, .inl fS)), (q1, .inr (4, [.ref q2])), (q2, .inl (cI, sz5.toNatClampNeg, .inl u))] H := hP.sub [0, 1, 3, 2] rfl
  have hD : va_D A [(h0, .inr (5, [.ref lS, .int sz5, lt])), (lS, .inl (cI, 241, .inl fS)), (q1, .inr (4, [.ref q2])), (q2, .inl (cI, sz5.toNatClampNeg, .inl u))] := hD.sub [0, 1, 3, 2] (by decide) rfl
  refine W.widen (k := 2) (n := 242) (Nat.le_of_ble_eq_true rfl) (Nat.le_of_ble_eq_true rfl) ?_
  rw [hQ]
  exact W.aret (v := .ref q1) hx hb hr (Or.inl ⟨_, rfl⟩) (Or.inr ⟨_, rfl⟩) (fun t ht hW => ⟨⟨u, q1, rfl, hw, q2, by rw [ht]; exact hP, hD⟩, hS.F ht⟩) hS.2.2 dX5_made_18
set_option maxHeartbeats 4000000 in
set_option maxRecDepth 100000 in
theorem g_X10_takeLaw (l : Launch) (dC : Nat → ClassId) (dI : Nat → Nat → Nat) (cI cJ cQ : ClassId) (h0 : Nat) (tp : Nat) (h0_courtReader : Value) (lr : Nat) (h0_draft : Value) (h0_court : Value) (lq : Nat) (h0_state : Value) (h0_kept : Value) (h0_acts : Value) (h0_studio : Value) (h0_mind : Value) (h0_draws : Value) (h0_refused : Value) (lc : Int32) (h0_lawThatHolds : Value) (h0_bribery : Value) (h0_hasImage : Value) (tp_bytes : Value) (tl : Int32) (tp_at : Value) (fq : Nat → Option Nat) (lS : Nat) (sz5 : Int32) (lr_tape : Value) (fS : Nat → Int32) (sz : Nat) (n_lc : 0 ≤ lc.toInt ∧ lc.toInt ≤ 3) (n_sz5 : 0 ≤ sz5.toInt ∧ sz5.toInt ≤ 241) (hf : zSt fS) : Met l yX10_takeLaw (.code yX10_takeLaw cX10_takeLaw 1 (some .int) :: wA) ({ frames := 3, cells := 2, slots := 242, locals := 180 }) (zPY (dC, dI) [(cI, .int), (cJ, .long), (cQ, .object "NinePortraits$Law")] [.ref h0] sz [(h0, .inr (10, [.ref tp, h0_courtReader, .ref lr, h0_draft, h0_court, .ref lq, h0_state, h0_kept, h0_acts, h0_studio, h0_mind, h0_draws, h0_refused, .int lc, h0_lawThatHolds, h0_bribery, h0_hasImage])), (tp, .inr (9, [tp_bytes, .int tl, tp_at])), (lq, .inl (cQ, 4, .inr (.inr (.inr (.inr fq))))), (lr, .inr (5, [.ref lS, .int sz5, lr_tape])), (lS, .inl (cI, 241, .inl fS))]) (va_Qi (fun (r : Int32) (u : ((Nat → Int32) × (Nat → Option Nat) × Int32)) => zSt u.1 ∧ r.toInt = lc.toInt ∧ ∀ i : Nat, (i : Int) < sz5.toInt → u.1 i = fS i) (fun (u : ((Nat → Int32) × (Nat → Option Nat) × Int32)) (t : State) => ∃ a b : Nat, u.2.1 = va_up fq lc.toNatClampNeg (some a) ∧ u.2.2 = lc + 1 ∧ va_P (dC, dI) vwCl [(h0, .inr (10, [.ref tp, h0_courtReader, .ref lr, h0_draft, h0_court, .ref lq, h0_state, h0_kept, h0_acts, h0_studio, h0_mind, h0_draws, h0_refused, .int (u.2.2), h0_lawThatHolds, h0_bribery, h0_hasImage])), (tp, .inr (9, [tp_bytes, .int 0, tp_at])), (lq, .inl (cQ, 4, .inr (.inr (.inr (.inr (u.2.1)))))), (lr, .inr (5, [.ref lS, .int sz5, lr_tape])), (lS, .inl (cI, 241, .inl fS)), (a, .inr (4, [.ref b])), (b, .inl (cI, sz5.toNatClampNeg, .inl (u.1)))] t.heap ∧ va_D (va_A [(h0, .inr (10, [.ref tp, h0_courtReader, .ref lr, h0_draft, h0_court, .ref lq, h0_state, h0_kept, h0_acts, h0_studio, h0_mind, h0_draws, h0_refused, .int lc, h0_lawThatHolds, h0_bribery, h0_hasImage])), (tp, .inr (9, [tp_bytes, .int tl, tp_at])), (lq, .inl (cQ, 4, .inr (.inr (.inr (.inr fq))))), (lr, .inr (5, [.ref lS, .int sz5, lr_tape])), (lS, .inl (cI, 241, .inl fS))] sz) [(h0, .inr (10, [.ref tp, h0_courtReader, .ref lr, h0_draft, h0_court, .ref lq, h0_state, h0_kept, h0_acts, h0_studio, h0_mind, h0_draws, h0_refused, .int (u.2.2), h0_lawThatHolds, h0_bribery, h0_hasImage])), (tp, .inr (9, [tp_bytes, .int 0, tp_at])), (lq, .inl (cQ, 4, .inr (.inr (.inr (.inr (u.2.1)))))), (lr, .inr (5, [.ref lS, .int sz5, lr_tape])), (lS, .inl (cI, 241, .inl fS)), (a, .inr (4, [.ref b])), (b, .inl (cI, sz5.toNatClampNeg, .inl (u.1)))]) (va_A [(h0, .inr (10, [.ref tp, h0_courtReader, .ref lr, h0_draft, h0_court, .ref lq, h0_state, h0_kept, h0_acts, h0_studio, h0_mind, h0_draws, h0_refused, .int lc, h0_lawThatHolds, h0_bribery, h0_hasImage])), (tp, .inr (9, [tp_bytes, .int tl, tp_at])), (lq, .inl (cQ, 4, .inr (.inr (.inr (.inr fq))))), (lr, .inr (5, [.ref lS, .int sz5, lr_tape])), (lS, .inl (cI, 241, .inl fS))] sz)) 2 242 (va_A [(h0, .inr (10, [.ref tp, h0_courtReader, .ref lr, h0_draft, h0_court, .ref lq, h0_state, h0_kept, h0_acts, h0_studio, h0_mind, h0_draws, h0_refused, .int lc, h0_lawThatHolds, h0_bribery, h0_hasImage])), (tp, .inr (9, [tp_bytes, .int tl, tp_at])), (lq, .inl (cQ, 4, .inr (.inr (.inr (.inr fq))))), (lr, .inr (5, [.ref lS, .int sz5, lr_tape])), (lS, .inl (cI, 241, .inl fS))] sz) := by
  refine Met.ofW (cc := cX10_takeLaw) (maxL := 1) (ret := (some .int)) (by decide) rfl ?_
  intro p e s m args below meth c s₁ B hml hv
  obtain ⟨⟨hargs, hsz, hP, hK, hT⟩, hCa⟩ := hv
  have hx := B.exec
  have hb := B.bytes
  have hr := B.returns
  have hts : ∀ w ∈ wA, w.before args s = true := fun w h => atoms_spec (ws := .code yX10_takeLaw cX10_takeLaw 1 (some .int) :: wA) B.pre w (List.mem_cons_of_mem _ h)
  have hown : s.vm.findClass RX10 = some m.cls := findClass_of_methodNamed B.named
  have hlocks := B.notSynchronized
  subst hsz
  have hD := hT.self (sz := s.heap.size)
  generalize hAe : va_A [(h0, .inr (10, [.ref tp, h0_courtReader, .ref lr, h0_draft, h0_court, .ref lq, h0_state, h0_kept, h0_acts, h0_studio, h0_mind, h0_draws, h0_refused, .int lc, h0_lawThatHolds, h0_bribery, h0_hasImage])), (tp, .inr (9, [tp_bytes, .int tl, tp_at])), (lq, .inl (cQ, 4, .inr (.inr (.inr (.inr fq))))), (lr, .inr (5, [.ref lS, .int sz5, lr_tape])), (lS, .inl (cI, 241, .inl fS))] s.heap.size = A at hD ⊢
  have hA : ∀ q : Nat, s.heap.size ≤ q → A q := fun q h => by rw [← hAe]; exact Or.inr h
  have hl := lv_entry ([.ref h0]) (n := 1) (Nat.le_of_ble_eq_true rfl)
  rw [show entryFrame m args 1 = entryFrame m ([.ref h0] : List Value).toArray 1 by rw [hargs], lg_entry_eq]
  generalize (lg_sl ([.ref h0]) ++ List.replicate (1 - (lg_sl ([.ref h0])).length) Slot.unset).toArray = ls at hl ⊢
  have hl : lv_has ls 1 [(0, .ref h0)] := hl
  refine zstart (fun H hH => ?_)
  rw [← hH] at hP
  have hS : va_S A s.heap H [] := by rw [hH]; exact va_S.rf
  generalize ([] : List Loc) = locs at hS ⊢
  refine zgen (fun R Q hR hQ => ?_)
  refine lv_aload_n hx hb dX10_takeLaw_0 rfl (lv_at hl 0 rfl) ?_
  refine va_get (D := (dC, dI)) (ci := 10) (v := .ref tp) (C := RX10) (T := TX10) (N := 17) hx hb hts iX10 hown hK hP 0 rfl rfl 0 (by decide) (hts _ qw356) (fun _ h9 => h9) rfl dX10_takeLaw_1 ?_
  refine lv_iconst (v := 0) hx hb dX10_takeLaw_4 (by decide) ?_
  refine va_put (D := (dC, dI)) (ci := 9) (v := .int 0) (ty := .int) (C := RX9) (T := TX9) (N := 3) hx hb hts iX9 tyX9 tyX9_ok nmX9 hown hK hP hD hS 1 rfl rfl 1 (by decide) (hts _ qw133) (fun _ h9 => h9) rfl (by decide +kernel) rfl rfl (Nat.le_of_ble_eq_true rfl) dX10_takeLaw_5 (fun H locs hP hD hS => ?_)
  have hP : va_P (dC, dI) vwCl [(h0, .inr (10, [.ref tp, h0_courtReader, .ref lr, h0_draft, h0_court, .ref lq, h0_state, h0_kept, h0_acts, h0_studio, h0_mind, h0_draws, h0_refused, .int lc, h0_lawThatHolds, h0_bribery, h0_hasImage])), (tp, .inr (9, [tp_bytes, .int 0, tp_at])), (lq, .inl (cQ, 4, .inr (.inr (.inr (.inr fq))))), (lr, .inr (5, [.ref lS, .int sz5, lr_tape])), (lS, .inl (cI, 241, .inl fS))] H := hP
  have hD : va_D A [(h0, .inr (10, [.ref tp, h0_courtReader, .ref lr, h0_draft, h0_court, .ref lq, h0_state, h0_kept, h0_acts, h0_studio, h0_mind, h0_draws, h0_refused, .int lc, h0_lawThatHolds, h0_bribery, h0_hasImage])), (tp, .inr (9, [tp_bytes, .int 0, tp_at])), (lq, .inl (cQ, 4, .inr (.inr (.inr (.inr fq))))), (lr, .inr (5, [.ref lS, .int sz5, lr_tape])), (lS, .inl (cI, 241, .inl fS))] := hD
  refine lv_aload_n hx hb dX10_takeLaw_8 rfl (lv_at hl 0 rfl) ?_
  refine va_get (D := (dC, dI)) (ci := 10) (v := .ref lq) (C := RX10) (T := TX10) (N := 17) hx hb hts iX10 hown hK hP 0 rfl rfl 5 (by decide) (hts _ qw361) (fun _ h9 => h9) rfl dX10_takeLaw_9 ?_
  refine lv_aload_n hx hb dX10_takeLaw_12 rfl (lv_at hl 0 rfl) ?_
  refine va_get (D := (dC, dI)) (ci := 10) (v := .int lc) (C := RX10) (T := TX10) (N := 17) hx hb hts iX10 hown hK hP 0 rfl rfl 13 (by decide) (hts _ qw369) (fun _ h9 => h9) rfl dX10_takeLaw_13 ?_
  refine lv_aload_n hx hb dX10_takeLaw_16 rfl (lv_at hl 0 rfl) ?_
  refine va_get (D := (dC, dI)) (ci := 10) (v := .ref lr) (C := RX10) (T := TX10) (N := 17) hx hb hts iX10 hown hK hP 0 rfl rfl 2 (by decide) (hts _ qw358) (fun _ h9 => h9) rfl dX10_takeLaw_17 ?_
  have hPc := hP.sub (ws' := [(lr, .inr (5, [.ref lS, .int sz5, lr_tape])), (lS, .inl (cI, 241, .inl fS))]) [3, 4] rfl
  have hDc := hD.sub (ws' := [(lr, .inr (5, [.ref lS, .int sz5, lr_tape])), (lS, .inl (cI, 241, .inl fS))]) [3, 4] (by decide) rfl
  have hFc := va_free (wc := [(lr, .inr (5, [.ref lS, .int sz5, lr_tape])), (lS, .inl (cI, 241, .inl fS))]) hD hS hA [3, 4] rfl
  refine va_callr (va_runV (As := []) (rest := [.int lc, .ref lq]) ⟨hx, hb, hml, hown, hts⟩ (g_X5_made l dC dI cI cJ lr lS sz5 lr_tape fS H.size n_sz5 hf) (cwV 0 hts (zgV qw552 qw553 qw554 qw101 qw555) rfl rfl rfl hd_X5_made ⟨by rw [hR]; exact Nat.le_of_ble_eq_true rfl, by rw [hR]; exact Nat.le_of_ble_eq_true rfl⟩) (zPYV hPc (hK.sub [0, 1] rfl) hDc (va_recv (q := (RX5, TX5, 3)) hK hP (ci := 5) (q0 := 3) rfl rfl) (zCa_call hCa)) rfl rfl hl.1 rfl (lv_room (Nat.le_of_ble_eq_true rfl)) dX10_takeLaw_20 ⟨by rw [hR]; exact Nat.le_of_ble_eq_true rfl, by rw [hR]; exact Nat.le_of_ble_eq_true rfl⟩) hS (fun q _ h => hFc q h) hFc (fun u20 a20 t H locs ht hvm hw hB hz1 hk1 hS => ?_)
  obtain ⟨b20, hP1, hD1⟩ := hB
  rw [ht] at hP1
  have hw20 : zSt u20 := hw.1
  have hc20 := hw.2
  obtain ⟨hP, hD⟩ := va_join (wr := [(h0, .inr (10, [.ref tp, h0_courtReader, .ref lr, h0_draft, h0_court, .ref lq, h0_state, h0_kept, h0_acts, h0_studio, h0_mind, h0_draws, h0_refused, .int lc, h0_lawThatHolds, h0_bribery, h0_hasImage])), (tp, .inr (9, [tp_bytes, .int 0, tp_at])), (lq, .inl (cQ, 4, .inr (.inr (.inr (.inr fq)))))]) (w1 := [(lr, .inr (5, [.ref lS, .int sz5, lr_tape])), (lS, .inl (cI, 241, .inl fS)), (a20, .inr (4, [.ref b20])), (b20, .inl (cI, sz5.toNatClampNeg, .inl u20))]) hP hD [3, 4] [0, 1, 2] rfl rfl (by decide) (by decide) hk1 hFc hP1 hD1
  have hP : va_P (dC, dI) vwCl [(h0, .inr (10, [.ref tp, h0_courtReader, .ref lr, h0_draft, h0_court, .ref lq, h0_state, h0_kept, h0_acts, h0_studio, h0_mind, h0_draws, h0_refused, .int lc, h0_lawThatHolds, h0_bribery, h0_hasImage])), (tp, .inr (9, [tp_bytes, .int 0, tp_at])), (lq, .inl (cQ, 4, .inr (.inr (.inr (.inr fq))))), (lr, .inr (5, [.ref lS, .int sz5, lr_tape])), (lS, .inl (cI, 241, .inl fS)), (a20, .inr (4, [.ref b20])), (b20, .inl (cI, sz5.toNatClampNeg, .inl u20))] H := hP.sub [0, 1, 2, 3, 4, 5, 6] rfl
  have hD : va_D A [(h0, .inr (10, [.ref tp, h0_courtReader, .ref lr, h0_draft, h0_court, .ref lq, h0_state, h0_kept, h0_acts, h0_studio, h0_mind, h0_draws, h0_refused, .int lc, h0_lawThatHolds, h0_bribery, h0_hasImage])), (tp, .inr (9, [tp_bytes, .int 0, tp_at])), (lq, .inl (cQ, 4, .inr (.inr (.inr (.inr fq))))), (lr, .inr (5, [.ref lS, .int sz5, lr_tape])), (lS, .inl (cI, 241, .inl fS)), (a20, .inr (4, [.ref b20])), (b20, .inl (cI, sz5.toNatClampNeg, .inl u20))] := hD.sub [0, 1, 2, 3, 4, 5, 6] (by decide) rfl
  refine va_astq hx hb hK hP hD hS 2 2 5 4 rfl rfl rfl rfl (vp_in_iff.mpr ⟨by omega, by omega⟩) dX10_takeLaw_23 (fun H locs hP hD hS => ?_)
  obtain ⟨v23_f, e23⟩ : ∃ g : Nat → Option Nat, g = va_up fq (lc).toNatClampNeg (some a20) := ⟨_, rfl⟩
  rw [← e23] at hP hD
  have hP : va_P (dC, dI) vwCl [(h0, .inr (10, [.ref tp, h0_courtReader, .ref lr, h0_draft, h0_court, .ref lq, h0_state, h0_kept, h0_acts, h0_studio, h0_mind, h0_draws, h0_refused, .int lc, h0_lawThatHolds, h0_bribery, h0_hasImage])), (tp, .inr (9, [tp_bytes, .int 0, tp_at])), (lq, .inl (cQ, 4, .inr (.inr (.inr (.inr v23_f))))), (lr, .inr (5, [.ref lS, .int sz5, lr_tape])), (lS, .inl (cI, 241, .inl fS)), (a20, .inr (4, [.ref b20])), (b20, .inl (cI, sz5.toNatClampNeg, .inl u20))] H := hP
  have hD : va_D A [(h0, .inr (10, [.ref tp, h0_courtReader, .ref lr, h0_draft, h0_court, .ref lq, h0_state, h0_kept, h0_acts, h0_studio, h0_mind, h0_draws, h0_refused, .int lc, h0_lawThatHolds, h0_bribery, h0_hasImage])), (tp, .inr (9, [tp_bytes, .int 0, tp_at])), (lq, .inl (cQ, 4, .inr (.inr (.inr (.inr v23_f))))), (lr, .inr (5, [.ref lS, .int sz5, lr_tape])), (lS, .inl (cI, 241, .inl fS)), (a20, .inr (4, [.ref b20])), (b20, .inl (cI, sz5.toNatClampNeg, .inl u20))] := hD
  refine lv_aload_n hx hb dX10_takeLaw_24 rfl (lv_at hl 0 rfl) ?_
  refine lv_dup hx hb dX10_takeLaw_25 rfl ?_
  refine va_get (D := (dC, dI)) (ci := 10) (v := .int lc) (C := RX10) (T := TX10) (N := 17) hx hb hts iX10 hown hK hP 0 rfl rfl 13 (by decide) (hts _ qw369) (fun _ h9 => h9) rfl dX10_takeLaw_26 ?_
  refine lv_iconst (v := 1) hx hb dX10_takeLaw_29 (by decide) ?_
  refine lv_iadd hx hb dX10_takeLaw_30 ?_
  refine lv_topi (fun v30 e30 => ?_)
  have i30 : v30.toInt = lc.toInt + 1 := zadd e30 rfl (by decide) (by omega) (by omega)
  refine va_put (D := (dC, dI)) (ci := 10) (v := .int v30) (ty := .int) (C := RX10) (T := TX10) (N := 17) hx hb hts iX10 tyX10 tyX10_ok nmX10 hown hK hP hD hS 0 rfl rfl 13 (by decide) (hts _ qw369) (fun _ h9 => h9) rfl (by decide +kernel) rfl rfl (Nat.le_of_ble_eq_true rfl) dX10_takeLaw_31 (fun H locs hP hD hS => ?_)
  have hP : va_P (dC, dI) vwCl [(h0, .inr (10, [.ref tp, h0_courtReader, .ref lr, h0_draft, h0_court, .ref lq, h0_state, h0_kept, h0_acts, h0_studio, h0_mind, h0_draws, h0_refused, .int v30, h0_lawThatHolds, h0_bribery, h0_hasImage])), (tp, .inr (9, [tp_bytes, .int 0, tp_at])), (lq, .inl (cQ, 4, .inr (.inr (.inr (.inr v23_f))))), (lr, .inr (5, [.ref lS, .int sz5, lr_tape])), (lS, .inl (cI, 241, .inl fS)), (a20, .inr (4, [.ref b20])), (b20, .inl (cI, sz5.toNatClampNeg, .inl u20))] H := hP
  have hD : va_D A [(h0, .inr (10, [.ref tp, h0_courtReader, .ref lr, h0_draft, h0_court, .ref lq, h0_state, h0_kept, h0_acts, h0_studio, h0_mind, h0_draws, h0_refused, .int v30, h0_lawThatHolds, h0_bribery, h0_hasImage])), (tp, .inr (9, [tp_bytes, .int 0, tp_at])), (lq, .inl (cQ, 4, .inr (.inr (.inr (.inr v23_f))))), (lr, .inr (5, [.ref lS, .int sz5, lr_tape])), (lS, .inl (cI, 241, .inl fS)), (a20, .inr (4, [.ref b20])), (b20, .inl (cI, sz5.toNatClampNeg, .inl u20))] := hD
  refine lv_aload_n hx hb dX10_takeLaw_34 rfl (lv_at hl 0 rfl) ?_
  refine va_get (D := (dC, dI)) (ci := 10) (v := .int v30) (C := RX10) (T := TX10) (N := 17) hx hb hts iX10 hown hK hP 0 rfl rfl 13 (by decide) (hts _ qw369) (fun _ h9 => h9) rfl dX10_takeLaw_35 ?_
  refine lv_iconst (v := 1) hx hb dX10_takeLaw_38 (by decide) ?_
  refine lv_isub hx hb dX10_takeLaw_39 ?_
  refine lv_topi (fun v39 e39 => ?_)
  have i39 : v39.toInt = v30.toInt - 1 := zsub e39 rfl (by decide) (by omega) (by omega)
  refine W.widen (k := 2) (n := 242) (Nat.le_of_ble_eq_true rfl) (Nat.le_of_ble_eq_true rfl) ?_
  rw [hQ]
  exact W.iret (v := v39) hx hb hr (fun t ht hW => ⟨⟨v39, (u20, v23_f, v30), rfl, ⟨hw20, by omega, hc20⟩, a20, b20, e23, e30, by rw [ht]; exact hP, hD⟩, hS.F ht⟩) hS.2.2 dX10_takeLaw_40
set_option maxHeartbeats 4000000 in
set_option maxRecDepth 100000 in
theorem g_X10_text_1 (l : Launch) (dC : Nat → ClassId) (dI : Nat → Nat → Nat) (cI cJ cQ : ClassId) (h0 : Nat) (tp : Nat) (h0_courtReader : Value) (lr : Nat) (h0_draft : Value) (h0_court : Value) (lq : Nat) (h0_state : Value) (h0_kept : Value) (h0_acts : Value) (h0_studio : Value) (h0_mind : Value) (h0_draws : Value) (h0_refused : Value) (lc : Int32) (h0_lawThatHolds : Value) (h0_bribery : Value) (h0_hasImage : Value) (tB : Nat) (tl : Int32) (ta : Int32) (fB : Nat → Int32) (fq : Nat → Option Nat) (lS : Nat) (sz5 : Int32) (lr_tape : Value) (fS : Nat → Int32) (sz : Nat) (n_lc : 0 ≤ lc.toInt ∧ lc.toInt ≤ 4) (n_sz5 : 0 ≤ sz5.toInt ∧ sz5.toInt ≤ 241) (n_ta : 0 ≤ ta.toInt ∧ ta.toInt ≤ 240) (n_tl : 0 ≤ tl.toInt ∧ tl.toInt ≤ 240) (hty : zTy tl fB) (ci_fS_zSt : zSt fS) : Met l yX10_text (.code yX10_text cX10_text 2 (some .int) :: wA) ({ frames := 40, cells := 2, slots := 242, locals := 791 }) (zPZ (dC, dI) [(cI, .int), (cJ, .long), (cQ, .object "NinePortraits$Law")] [.ref h0, .int 1] sz [(h0, .inr (10, [.ref tp, h0_courtReader, .ref lr, h0_draft, h0_court, .ref lq, h0_state, h0_kept, h0_acts, h0_studio, h0_mind, h0_draws, h0_refused, .int lc, h0_lawThatHolds, h0_bribery, h0_hasImage])), (tp, .inr (9, [.ref tB, .int tl, .int ta])), (tB, .inl (cI, 260, .inl fB)), (lq, .inl (cQ, 4, .inr (.inr (.inr (.inr fq))))), (lr, .inr (5, [.ref lS, .int sz5, lr_tape])), (lS, .inl (cI, 241, .inl fS))] (va_A [(h0, .inr (10, [.ref tp, h0_courtReader, .ref lr, h0_draft, h0_court, .ref lq, h0_state, h0_kept, h0_acts, h0_studio, h0_mind, h0_draws, h0_refused, .int lc, h0_lawThatHolds, h0_bribery, h0_hasImage])), (tp, .inr (9, [.ref tB, .int tl, .int ta])), (tB, .inl (cI, 260, .inl fB)), (lq, .inl (cQ, 4, .inr (.inr (.inr (.inr fq))))), (lr, .inr (5, [.ref lS, .int sz5, lr_tape])), (lS, .inl (cI, 241, .inl fS))] sz)) (va_Qi (fun (r : Int32) (u : (Int32 × Int32 × Int32 × Int32 × Value × (Nat → Int32) × (Nat → Option Nat) × va_W)) => (0 ≤ u.1.toInt ∧ u.1.toInt ≤ 4) ∧ (0 ≤ u.2.1.toInt ∧ u.2.1.toInt ≤ 240) ∧ (0 ≤ u.2.2.1.toInt ∧ u.2.2.1.toInt ≤ 240) ∧ (0 ≤ u.2.2.2.1.toInt ∧ u.2.2.2.1.toInt ≤ 241) ∧ zSt u.2.2.2.2.2.1 ∧ zT1 cI lc u.1 fq u.2.2.2.2.2.2.1 u.2.2.2.2.2.2.2 (sB fB tl.toInt, tl.toInt) ∧ zTx fB tl 1 lc r u.2.1 u.1) (fun (u : (Int32 × Int32 × Int32 × Int32 × Value × (Nat → Int32) × (Nat → Option Nat) × va_W)) (t : State) => va_P (dC, dI) vwCl (([(h0, .inr (10, [.ref tp, h0_courtReader, .ref lr, h0_draft, h0_court, .ref lq, h0_state, h0_kept, h0_acts, h0_studio, h0_mind, h0_draws, h0_refused, .int (u.1), h0_lawThatHolds, h0_bribery, h0_hasImage])), (tp, .inr (9, [.ref tB, .int (u.2.1), .int (u.2.2.1)])), (tB, .inl (cI, 260, .inl fB)), (lq, .inl (cQ, 4, .inr (.inr (.inr (.inr (u.2.2.2.2.2.2.1)))))), (lr, .inr (5, [.ref lS, .int (u.2.2.2.1), u.2.2.2.2.1])), (lS, .inl (cI, 241, .inl (u.2.2.2.2.2.1)))] : va_W) ++ u.2.2.2.2.2.2.2) t.heap ∧ va_D (va_A [(h0, .inr (10, [.ref tp, h0_courtReader, .ref lr, h0_draft, h0_court, .ref lq, h0_state, h0_kept, h0_acts, h0_studio, h0_mind, h0_draws, h0_refused, .int lc, h0_lawThatHolds, h0_bribery, h0_hasImage])), (tp, .inr (9, [.ref tB, .int tl, .int ta])), (tB, .inl (cI, 260, .inl fB)), (lq, .inl (cQ, 4, .inr (.inr (.inr (.inr fq))))), (lr, .inr (5, [.ref lS, .int sz5, lr_tape])), (lS, .inl (cI, 241, .inl fS))] sz) (([(h0, .inr (10, [.ref tp, h0_courtReader, .ref lr, h0_draft, h0_court, .ref lq, h0_state, h0_kept, h0_acts, h0_studio, h0_mind, h0_draws, h0_refused, .int (u.1), h0_lawThatHolds, h0_bribery, h0_hasImage])), (tp, .inr (9, [.ref tB, .int (u.2.1), .int (u.2.2.1)])), (tB, .inl (cI, 260, .inl fB)), (lq, .inl (cQ, 4, .inr (.inr (.inr (.inr (u.2.2.2.2.2.2.1)))))), (lr, .inr (5, [.ref lS, .int (u.2.2.2.1), u.2.2.2.2.1])), (lS, .inl (cI, 241, .inl (u.2.2.2.2.2.1)))] : va_W) ++ u.2.2.2.2.2.2.2)) (va_A [(h0, .inr (10, [.ref tp, h0_courtReader, .ref lr, h0_draft, h0_court, .ref lq, h0_state, h0_kept, h0_acts, h0_studio, h0_mind, h0_draws, h0_refused, .int lc, h0_lawThatHolds, h0_bribery, h0_hasImage])), (tp, .inr (9, [.ref tB, .int tl, .int ta])), (tB, .inl (cI, 260, .inl fB)), (lq, .inl (cQ, 4, .inr (.inr (.inr (.inr fq))))), (lr, .inr (5, [.ref lS, .int sz5, lr_tape])), (lS, .inl (cI, 241, .inl fS))] sz)) 2 242 (va_A [(h0, .inr (10, [.ref tp, h0_courtReader, .ref lr, h0_draft, h0_court, .ref lq, h0_state, h0_kept, h0_acts, h0_studio, h0_mind, h0_draws, h0_refused, .int lc, h0_lawThatHolds, h0_bribery, h0_hasImage])), (tp, .inr (9, [.ref tB, .int tl, .int ta])), (tB, .inl (cI, 260, .inl fB)), (lq, .inl (cQ, 4, .inr (.inr (.inr (.inr fq))))), (lr, .inr (5, [.ref lS, .int sz5, lr_tape])), (lS, .inl (cI, 241, .inl fS))] sz) := by
  refine Met.ofW (cc := cX10_text) (maxL := 2) (ret := (some .int)) (by decide) rfl ?_
  intro p e s m args below meth c s₁ B hml hv
  obtain ⟨⟨⟨hargs, hsz, hP, hK3, hT⟩, hV⟩, hCa⟩ := hv
  have hx := B.exec
  have hb := B.bytes
  have hr := B.returns
  have hts : ∀ w ∈ wA, w.before args s = true := fun w h => atoms_spec (ws := .code yX10_text cX10_text 2 (some .int) :: wA) B.pre w (List.mem_cons_of_mem _ h)
  have hown : s.vm.findClass RX10 = some m.cls := findClass_of_methodNamed B.named
  have hlocks := B.notSynchronized
  subst hsz
  have hD := hT.self (sz := s.heap.size)
  generalize hAe : va_A [(h0, .inr (10, [.ref tp, h0_courtReader, .ref lr, h0_draft, h0_court, .ref lq, h0_state, h0_kept, h0_acts, h0_studio, h0_mind, h0_draws, h0_refused, .int lc, h0_lawThatHolds, h0_bribery, h0_hasImage])), (tp, .inr (9, [.ref tB, .int tl, .int ta])), (tB, .inl (cI, 260, .inl fB)), (lq, .inl (cQ, 4, .inr (.inr (.inr (.inr fq))))), (lr, .inr (5, [.ref lS, .int sz5, lr_tape])), (lS, .inl (cI, 241, .inl fS))] s.heap.size = A at hD hV ⊢
  have hA : ∀ q : Nat, s.heap.size ≤ q → A q := fun q h => by rw [← hAe]; exact Or.inr h
  have hl := lv_entry ([.ref h0, .int 1]) (n := 2) (Nat.le_of_ble_eq_true rfl)
  rw [show entryFrame m args 2 = entryFrame m ([.ref h0, .int 1] : List Value).toArray 2 by rw [hargs], lg_entry_eq]
  generalize (lg_sl ([.ref h0, .int 1]) ++ List.replicate (2 - (lg_sl ([.ref h0, .int 1])).length) Slot.unset).toArray = ls at hl ⊢
  have hl : lv_has ls 2 [(0, .ref h0), (1, .int 1)] := hl
  refine zstart (fun H hH => ?_)
  rw [← hH] at hP
  have hS : va_S A s.heap H [] := by rw [hH]; exact va_S.rf
  generalize ([] : List Loc) = locs at hS ⊢
  refine zgen (fun R Q hR hQ => ?_)
  have hK : va_K (dC, dI) vwCl [(cI, .int), (cJ, .long)] s := hK3.sub [0, 1] rfl
  refine lv_iload_n hx hb dX10_text_0 rfl (lv_at hl 1 rfl) ?_
  refine lv_if_ne (tgt := 28) hx hb dX10_text_1 (by decide) (fun _ => ?_) (fun c => absurd c (by decide))
  refine lv_iload_n hx hb dX10_text_28 rfl (lv_at hl 1 rfl) ?_
  refine lv_iconst (v := 1) hx hb dX10_text_29 (by decide) ?_
  refine lv_icmp_ne (tgt := 61) hx hb dX10_text_30 (by decide) (fun c => absurd (by decide) c) (fun _ => ?_)
  refine lv_aload_n hx hb dX10_text_33 rfl (lv_at hl 0 rfl) ?_
  refine va_get (D := (dC, dI)) (ci := 10) (v := .int lc) (C := RX10) (T := TX10) (N := 17) hx hb hts iX10 hown hK hP 0 rfl rfl 13 (by decide) (hts _ qw369) (fun _ h9 => h9) rfl dX10_text_34 ?_
  refine lv_iconst (v := 4) hx hb dX10_text_37 (by decide) ?_
  refine lv_icmp_ge (tgt := 61) hx hb dX10_text_38 (by decide) (fun c38 => ?_) (fun c38 => ?_)
  · have c38 : 4 ≤ lc.toInt := z3 (by decide) rfl c38
    refine lv_iconst (v := (-1)) hx hb dX10_text_61 (by decide) ?_
    have zr0 : ((-1) : Int32).toInt = (-1) := by decide
    refine W.widen (k := 2) (n := 242) (Nat.le_of_ble_eq_true rfl) (Nat.le_of_ble_eq_true rfl) ?_
    rw [hQ]
    exact W.iret (v := ((-1))) hx hb hr (fun t ht hW => ⟨⟨(-1), (lc, tl, ta, sz5, (lr_tape), fS, fq, ([] : va_W)), rfl, ⟨by (try dsimp only); omega, by (try dsimp only); omega, by (try dsimp only); omega, by (try dsimp only); omega, ci_fS_zSt, Or.inl ⟨rfl, rfl, rfl⟩, ztx_o (by decide) (by omega) (by decide) rfl⟩, by rw [ht]; exact hP, hD⟩, hS.F ht⟩) hS.2.2 dX10_text_62
  · have c38 : lc.toInt < 4 := z4 (by decide) rfl c38
    refine lv_aload_n hx hb dX10_text_41 rfl (lv_at hl 0 rfl) ?_
    refine va_get (D := (dC, dI)) (ci := 10) (v := .ref lr) (C := RX10) (T := TX10) (N := 17) hx hb hts iX10 hown hK hP 0 rfl rfl 2 (by decide) (hts _ qw358) (fun _ h9 => h9) rfl dX10_text_42 ?_
    refine lv_aload_n hx hb dX10_text_45 rfl (lv_at hl 0 rfl) ?_
    refine va_get (D := (dC, dI)) (ci := 10) (v := .ref tp) (C := RX10) (T := TX10) (N := 17) hx hb hts iX10 hown hK hP 0 rfl rfl 0 (by decide) (hts _ qw356) (fun _ h9 => h9) rfl dX10_text_46 ?_
    have hPc := hP.sub (ws' := [(lr, .inr (5, [.ref lS, .int sz5, lr_tape])), (lS, .inl (cI, 241, .inl fS)), (tp, .inr (9, [.ref tB, .int tl, .int ta])), (tB, .inl (cI, 260, .inl fB))]) [4, 5, 1, 2] rfl
    have hDc := hD.sub (ws' := [(lr, .inr (5, [.ref lS, .int sz5, lr_tape])), (lS, .inl (cI, 241, .inl fS)), (tp, .inr (9, [.ref tB, .int tl, .int ta])), (tB, .inl (cI, 260, .inl fB))]) [4, 5, 1, 2] (by decide) rfl
    have hFc := va_free (wc := [(lr, .inr (5, [.ref lS, .int sz5, lr_tape])), (lS, .inl (cI, 241, .inl fS)), (tp, .inr (9, [.ref tB, .int tl, .int ta])), (tB, .inl (cI, 260, .inl fB))]) hD hS hA [4, 5, 1, 2] rfl
    refine va_calli (va_runV (As := [.ref tp]) (rest := []) ⟨hx, hb, hml, hown, hts⟩ (g_X5_read l dC dI cI cJ lr tp lS sz5 lr_tape fS tB tl ta fB H.size (by omega) (by omega) (by omega) (hty) ci_fS_zSt) (cwV 1 hts (zgV qw476 qw477 qw478 qw101 qw479) rfl rfl rfl hd_X5_read ⟨by rw [hR]; exact Nat.le_of_ble_eq_true rfl, by rw [hR]; exact Nat.le_of_ble_eq_true rfl⟩) (zPWV hPc hK hDc (va_recv (q := (RX5, TX5, 3)) hK hP (ci := 5) (q0 := 4) rfl rfl) (zV_call hV hS hFc)) rfl rfl hl.1 rfl (lv_room (Nat.le_of_ble_eq_true rfl)) dX10_text_49 ⟨Nat.zero_le _, Nat.zero_le _⟩) hS (fun q _ h => hFc q h) hFc (fun v49 u49 t H locs ht hvm hw hB hz1 hk1 hS => ?_)
    obtain ⟨u49_0, u49_1, u49_2⟩ := u49
    obtain ⟨hP1, hD1⟩ := hB
    rw [ht] at hP1
    obtain ⟨hP, hD⟩ := va_join (wr := [(h0, .inr (10, [.ref tp, h0_courtReader, .ref lr, h0_draft, h0_court, .ref lq, h0_state, h0_kept, h0_acts, h0_studio, h0_mind, h0_draws, h0_refused, .int lc, h0_lawThatHolds, h0_bribery, h0_hasImage])), (lq, .inl (cQ, 4, .inr (.inr (.inr (.inr fq)))))]) (w1 := [(lr, .inr (5, [.ref lS, .int u49_0, .ref tp])), (lS, .inl (cI, 241, .inl u49_1)), (tp, .inr (9, [.ref tB, .int tl, .int u49_2])), (tB, .inl (cI, 260, .inl fB))]) hP hD [4, 5, 1, 2] [0, 3] rfl rfl (by decide) (by decide) hk1 hFc hP1 hD1
    have hP : va_P (dC, dI) vwCl [(h0, .inr (10, [.ref tp, h0_courtReader, .ref lr, h0_draft, h0_court, .ref lq, h0_state, h0_kept, h0_acts, h0_studio, h0_mind, h0_draws, h0_refused, .int lc, h0_lawThatHolds, h0_bribery, h0_hasImage])), (tp, .inr (9, [.ref tB, .int tl, .int u49_2])), (tB, .inl (cI, 260, .inl fB)), (lq, .inl (cQ, 4, .inr (.inr (.inr (.inr fq))))), (lr, .inr (5, [.ref lS, .int u49_0, .ref tp])), (lS, .inl (cI, 241, .inl u49_1))] H := hP.sub [0, 4, 5, 1, 2, 3] rfl
    have hD : va_D A [(h0, .inr (10, [.ref tp, h0_courtReader, .ref lr, h0_draft, h0_court, .ref lq, h0_state, h0_kept, h0_acts, h0_studio, h0_mind, h0_draws, h0_refused, .int lc, h0_lawThatHolds, h0_bribery, h0_hasImage])), (tp, .inr (9, [.ref tB, .int tl, .int u49_2])), (tB, .inl (cI, 260, .inl fB)), (lq, .inl (cQ, 4, .inr (.inr (.inr (.inr fq))))), (lr, .inr (5, [.ref lS, .int u49_0, .ref tp])), (lS, .inl (cI, 241, .inl u49_1))] := hD.sub [0, 4, 5, 1, 2, 3] (by decide) rfl
    obtain ⟨f49_0, f49_1, f49_2, f49_3, f49_4, f49_5, f49_6, f49_7, f49_8⟩ : ((-1) ≤ v49.toInt) ∧ (v49.toInt ≤ 240) ∧ (0 ≤ u49_0.toInt) ∧ (u49_0.toInt ≤ 241) ∧ (0 ≤ u49_2.toInt) ∧ (u49_2.toInt ≤ 240) ∧ (sLaw (sB fB tl.toInt) tl.toInt = v49.toInt) ∧ (v49.toInt = -1 → (∃ fS0 : Nat → Int32, zEm fS0 0 (eLaw (sB fB tl.toInt) tl.toInt) u49_1 u49_0) ∧ (sCl (sB fB tl.toInt) tl.toInt 0).1 = 1) ∧ (zSt u49_1) := hw
    have F49 := f49_6
    have F49_1 := f49_7
    refine lv_iconst (v := (-1)) hx hb dX10_text_52 (by decide) ?_
    refine lv_icmp_ne (tgt := 61) hx hb dX10_text_53 (by decide) (fun c53 => ?_) (fun c53 => ?_)
    · have c53 : ¬ v49.toInt = (-1) := z6 rfl (by decide) c53
      refine lv_iconst (v := (-1)) hx hb dX10_text_61 (by decide) ?_
      have zr0 : ((-1) : Int32).toInt = (-1) := by decide
      refine W.widen (k := 2) (n := 242) (Nat.le_of_ble_eq_true rfl) (Nat.le_of_ble_eq_true rfl) ?_
      rw [hQ]
      exact W.iret (v := ((-1))) hx hb hr (fun t ht hW => ⟨⟨(-1), (lc, tl, u49_2, u49_0, (.ref tp), u49_1, fq, ([] : va_W)), rfl, ⟨by (try dsimp only); omega, by (try dsimp only); omega, by (try dsimp only); omega, by (try dsimp only); omega, f49_8, Or.inl ⟨rfl, rfl, rfl⟩, ztx_m F49 (by decide) (by omega) (by decide) rfl⟩, by rw [ht]; exact hP, hD⟩, hS.F ht⟩) hS.2.2 dX10_text_62
    · have c53 : v49.toInt = (-1) := z5 rfl (by decide) c53
      refine lv_aload_n hx hb dX10_text_56 rfl (lv_at hl 0 rfl) ?_
      have hPc := hP.sub (ws' := [(h0, .inr (10, [.ref tp, h0_courtReader, .ref lr, h0_draft, h0_court, .ref lq, h0_state, h0_kept, h0_acts, h0_studio, h0_mind, h0_draws, h0_refused, .int lc, h0_lawThatHolds, h0_bribery, h0_hasImage])), (tp, .inr (9, [.ref tB, .int tl, .int u49_2])), (lq, .inl (cQ, 4, .inr (.inr (.inr (.inr fq))))), (lr, .inr (5, [.ref lS, .int u49_0, .ref tp])), (lS, .inl (cI, 241, .inl u49_1))]) [0, 1, 3, 4, 5] rfl
      have hDc := hD.sub (ws' := [(h0, .inr (10, [.ref tp, h0_courtReader, .ref lr, h0_draft, h0_court, .ref lq, h0_state, h0_kept, h0_acts, h0_studio, h0_mind, h0_draws, h0_refused, .int lc, h0_lawThatHolds, h0_bribery, h0_hasImage])), (tp, .inr (9, [.ref tB, .int tl, .int u49_2])), (lq, .inl (cQ, 4, .inr (.inr (.inr (.inr fq))))), (lr, .inr (5, [.ref lS, .int u49_0, .ref tp])), (lS, .inl (cI, 241, .inl u49_1))]) [0, 1, 3, 4, 5] (by decide) rfl
      have hFc := va_free (wc := [(h0, .inr (10, [.ref tp, h0_courtReader, .ref lr, h0_draft, h0_court, .ref lq, h0_state, h0_kept, h0_acts, h0_studio, h0_mind, h0_draws, h0_refused, .int lc, h0_lawThatHolds, h0_bribery, h0_hasImage])), (tp, .inr (9, [.ref tB, .int tl, .int u49_2])), (lq, .inl (cQ, 4, .inr (.inr (.inr (.inr fq))))), (lr, .inr (5, [.ref lS, .int u49_0, .ref tp])), (lS, .inl (cI, 241, .inl u49_1))]) hD hS hA [0, 1, 3, 4, 5] rfl
      refine va_calli (va_runV (As := []) (rest := []) ⟨hx, hb, hml, hown, hts⟩ (g_X10_takeLaw l dC dI cI cJ cQ h0 tp (h0_courtReader) lr (h0_draft) (h0_court) lq (h0_state) (h0_kept) (h0_acts) (h0_studio) (h0_mind) (h0_draws) (h0_refused) lc (h0_lawThatHolds) (h0_bribery) (h0_hasImage) (.ref tB) tl (.int u49_2) fq lS u49_0 (.ref tp) u49_1 H.size (by omega) (by omega) f49_8) (cwV 0 hts (zgV qw548 qw550 qw9 qw98 qw551) rfl rfl rfl hd_X10_takeLaw ⟨by rw [hR]; exact Nat.le_of_ble_eq_true rfl, by rw [hR]; exact Nat.le_of_ble_eq_true rfl⟩) (zPYV hPc hK3 hDc (va_recv (q := (RX10, TX10, 17)) hK hP (ci := 10) (q0 := 0) rfl rfl) (zCa_call hCa)) rfl rfl hl.1 rfl (lv_room (Nat.le_of_ble_eq_true rfl)) dX10_text_57 ⟨by rw [hR]; exact Nat.le_of_ble_eq_true rfl, by rw [hR]; exact Nat.le_of_ble_eq_true rfl⟩) hS (fun q _ h => hFc q h) hFc (fun v57 u57 t H locs ht hvm hw hB hz1 hk1 hS => ?_)
      obtain ⟨u57_0, u57_1, u57_2⟩ := u57
      obtain ⟨a57, b57, eg57, el57, hP1, hD1⟩ := hB
      rw [ht] at hP1
      have hw57 : zSt u57_0 := hw.1
      have hr57 : v57.toInt = lc.toInt := hw.2.1
      have hc57 := hw.2.2
      have il57 : u57_2.toInt = lc.toInt + 1 := zadd el57 rfl (by decide) (by omega) (by omega)
      obtain ⟨hP, hD⟩ := va_join (wr := [(tB, .inl (cI, 260, .inl fB))]) (w1 := [(h0, .inr (10, [.ref tp, h0_courtReader, .ref lr, h0_draft, h0_court, .ref lq, h0_state, h0_kept, h0_acts, h0_studio, h0_mind, h0_draws, h0_refused, .int u57_2, h0_lawThatHolds, h0_bribery, h0_hasImage])), (tp, .inr (9, [.ref tB, .int 0, .int u49_2])), (lq, .inl (cQ, 4, .inr (.inr (.inr (.inr u57_1))))), (lr, .inr (5, [.ref lS, .int u49_0, .ref tp])), (lS, .inl (cI, 241, .inl u49_1)), (a57, .inr (4, [.ref b57])), (b57, .inl (cI, u49_0.toNatClampNeg, .inl u57_0))]) hP hD [0, 1, 3, 4, 5] [2] rfl rfl (by decide) (by decide) hk1 hFc hP1 hD1
      have hP : va_P (dC, dI) vwCl [(h0, .inr (10, [.ref tp, h0_courtReader, .ref lr, h0_draft, h0_court, .ref lq, h0_state, h0_kept, h0_acts, h0_studio, h0_mind, h0_draws, h0_refused, .int u57_2, h0_lawThatHolds, h0_bribery, h0_hasImage])), (tp, .inr (9, [.ref tB, .int 0, .int u49_2])), (tB, .inl (cI, 260, .inl fB)), (lq, .inl (cQ, 4, .inr (.inr (.inr (.inr u57_1))))), (lr, .inr (5, [.ref lS, .int u49_0, .ref tp])), (lS, .inl (cI, 241, .inl u49_1)), (a57, .inr (4, [.ref b57])), (b57, .inl (cI, u49_0.toNatClampNeg, .inl u57_0))] H := hP.sub [1, 2, 0, 3, 4, 5, 6, 7] rfl
      have hD : va_D A [(h0, .inr (10, [.ref tp, h0_courtReader, .ref lr, h0_draft, h0_court, .ref lq, h0_state, h0_kept, h0_acts, h0_studio, h0_mind, h0_draws, h0_refused, .int u57_2, h0_lawThatHolds, h0_bribery, h0_hasImage])), (tp, .inr (9, [.ref tB, .int 0, .int u49_2])), (tB, .inl (cI, 260, .inl fB)), (lq, .inl (cQ, 4, .inr (.inr (.inr (.inr u57_1))))), (lr, .inr (5, [.ref lS, .int u49_0, .ref tp])), (lS, .inl (cI, 241, .inl u49_1)), (a57, .inr (4, [.ref b57])), (b57, .inl (cI, u49_0.toNatClampNeg, .inl u57_0))] := hD.sub [1, 2, 0, 3, 4, 5, 6, 7] (by decide) rfl
      have zr1 : (0 : Int32).toInt = 0 := by decide
      refine W.widen (k := 2) (n := 242) (Nat.le_of_ble_eq_true rfl) (Nat.le_of_ble_eq_true rfl) ?_
      rw [hQ]
      exact W.iret (v := v57) hx hb hr (fun t ht hW => ⟨⟨v57, (u57_2, 0, u49_2, u49_0, (.ref tp), u49_1, u57_1, [(a57, .inr (4, [.ref b57])), (b57, .inl (cI, u49_0.toNatClampNeg, .inl u57_0))]), rfl, ⟨by (try dsimp only); omega, by (try dsimp only); omega, by (try dsimp only); omega, by (try dsimp only); omega, f49_8, Or.inr ⟨by omega, il57, a57, b57, _, _, rfl, eg57, (by show (u49_0.toInt.toNat : Nat) ≤ 241; omega), hw57, zTok_cp (zTok_mk (F49_1 (by omega)).1.choose_spec (F49_1 (by omega)).2 (by show ((u49_0.toInt.toNat : Nat) : Int) = u49_0.toInt; omega)) hc57 (by show ((u49_0.toInt.toNat : Nat) : Int) ≤ u49_0.toInt; omega), (F49_1 (by omega)).2⟩, ztx_l F49 (by decide) (by omega) (by omega) (show (0 : Int32).toInt = 0 by decide) hr57 il57⟩, by rw [ht]; exact hP, hD⟩, hS.F ht⟩) hS.2.2 dX10_text_60
set_option maxHeartbeats 4000000 in
set_option maxRecDepth 100000 in
theorem g_X10_law (l : Launch) (dC : Nat → ClassId) (dI : Nat → Nat → Nat) (cI cJ cQ : ClassId) (h0 : Nat) (p0 : Int32) (h0_tape : Value) (h0_courtReader : Value) (h0_lawReader : Value) (h0_draft : Value) (h0_court : Value) (lq : Nat) (h0_state : Value) (h0_kept : Value) (h0_acts : Value) (sd : Nat) (h0_mind : Value) (h0_draws : Value) (h0_refused : Value) (lc : Int32) (lh : Int32) (h0_bribery : Value) (h0_hasImage : Value) (fq : Nat → Option Nat) (sd_oneLooks : Value) (sd_otherLooks : Value) (sd_court : Value) (sd_state : Value) (sd_letters : Value) (sd_stack : Value) (sw : Value) (sz : Nat) (n_lc : 0 ≤ lc.toInt ∧ lc.toInt ≤ 4)    : Met l yX10_law (.code yX10_law cX10_law 2 (some .boolean) :: wA) ({ frames := 0, cells := 0, slots := 0, locals := 0 }) (zP (dC, dI) [(cI, .int), (cJ, .long), (cQ, .object "NinePortraits$Law")] [.ref h0, .int p0] sz [(h0, .inr (10, [h0_tape, h0_courtReader, h0_lawReader, h0_draft, h0_court, .ref lq, h0_state, h0_kept, h0_acts, .ref sd, h0_mind, h0_draws, h0_refused, .int lc, .int lh, h0_bribery, h0_hasImage])), (lq, .inl (cQ, 4, .inr (.inr (.inr (.inr fq))))), (sd, .inr (8, [sd_oneLooks, sd_otherLooks, sd_court, sd_state, sd_letters, sd_stack, sw]))]) (va_Qi (fun (r : Int32) (u : Int32 × Value) => (0 ≤ r.toInt) ∧ (r.toInt ≤ 1) ∧ ((r.toInt = 1 ∧ -1 ≤ p0.toInt ∧ p0.toInt < lc.toInt) ∨ (r.toInt = 0 ∧ ¬ (-1 ≤ p0.toInt ∧ p0.toInt < lc.toInt))) ∧ ((r.toInt = 1 ∧ -1 ≤ p0.toInt ∧ p0.toInt < lc.toInt ∧ u.1 = p0 ∧ (p0.toInt = -1 → u.2 = .null) ∧ (0 ≤ p0.toInt → u.2 = va_rf (fq p0.toNatClampNeg))) ∨ (r.toInt = 0 ∧ ¬ (-1 ≤ p0.toInt ∧ p0.toInt < lc.toInt) ∧ u.1 = lh ∧ u.2 = sw))) (fun (u : Int32 × Value) (t : State) => va_P (dC, dI) vwCl [(h0, .inr (10, [h0_tape, h0_courtReader, h0_lawReader, h0_draft, h0_court, .ref lq, h0_state, h0_kept, h0_acts, .ref sd, h0_mind, h0_draws, h0_refused, .int lc, .int u.1, h0_bribery, h0_hasImage])), (lq, .inl (cQ, 4, .inr (.inr (.inr (.inr fq))))), (sd, .inr (8, [sd_oneLooks, sd_otherLooks, sd_court, sd_state, sd_letters, sd_stack, u.2]))] t.heap ∧ va_D (va_A [(h0, .inr (10, [h0_tape, h0_courtReader, h0_lawReader, h0_draft, h0_court, .ref lq, h0_state, h0_kept, h0_acts, .ref sd, h0_mind, h0_draws, h0_refused, .int lc, .int lh, h0_bribery, h0_hasImage])), (lq, .inl (cQ, 4, .inr (.inr (.inr (.inr fq))))), (sd, .inr (8, [sd_oneLooks, sd_otherLooks, sd_court, sd_state, sd_letters, sd_stack, sw]))] sz) [(h0, .inr (10, [h0_tape, h0_courtReader, h0_lawReader, h0_draft, h0_court, .ref lq, h0_state, h0_kept, h0_acts, .ref sd, h0_mind, h0_draws, h0_refused, .int lc, .int u.1, h0_bribery, h0_hasImage])), (lq, .inl (cQ, 4, .inr (.inr (.inr (.inr fq))))), (sd, .inr (8, [sd_oneLooks, sd_otherLooks, sd_court, sd_state, sd_letters, sd_stack, u.2]))]) (va_A [(h0, .inr (10, [h0_tape, h0_courtReader, h0_lawReader, h0_draft, h0_court, .ref lq, h0_state, h0_kept, h0_acts, .ref sd, h0_mind, h0_draws, h0_refused, .int lc, .int lh, h0_bribery, h0_hasImage])), (lq, .inl (cQ, 4, .inr (.inr (.inr (.inr fq))))), (sd, .inr (8, [sd_oneLooks, sd_otherLooks, sd_court, sd_state, sd_letters, sd_stack, sw]))] sz)) 0 0 (va_A [(h0, .inr (10, [h0_tape, h0_courtReader, h0_lawReader, h0_draft, h0_court, .ref lq, h0_state, h0_kept, h0_acts, .ref sd, h0_mind, h0_draws, h0_refused, .int lc, .int lh, h0_bribery, h0_hasImage])), (lq, .inl (cQ, 4, .inr (.inr (.inr (.inr fq))))), (sd, .inr (8, [sd_oneLooks, sd_otherLooks, sd_court, sd_state, sd_letters, sd_stack, sw]))] sz) := by
  refine Met.ofW (cc := cX10_law) (maxL := 2) (ret := (some .boolean)) (by decide) rfl ?_
  intro p e s m args below meth c s₁ B hml hv
  obtain ⟨hargs, hsz, hP, hK, hT⟩ := hv
  have hx := B.exec
  have hb := B.bytes
  have hr := B.returns
  have hts : ∀ w ∈ wA, w.before args s = true := fun w h => atoms_spec (ws := .code yX10_law cX10_law 2 (some .boolean) :: wA) B.pre w (List.mem_cons_of_mem _ h)
  have hown : s.vm.findClass RX10 = some m.cls := findClass_of_methodNamed B.named
  have hlocks := B.notSynchronized
  subst hsz
  have hD := hT.self (sz := s.heap.size)
  generalize hAe : va_A [(h0, .inr (10, [h0_tape, h0_courtReader, h0_lawReader, h0_draft, h0_court, .ref lq, h0_state, h0_kept, h0_acts, .ref sd, h0_mind, h0_draws, h0_refused, .int lc, .int lh, h0_bribery, h0_hasImage])), (lq, .inl (cQ, 4, .inr (.inr (.inr (.inr fq))))), (sd, .inr (8, [sd_oneLooks, sd_otherLooks, sd_court, sd_state, sd_letters, sd_stack, sw]))] s.heap.size = A at hD ⊢
  have hA : ∀ q : Nat, s.heap.size ≤ q → A q := fun q h => by rw [← hAe]; exact Or.inr h
  have hl := lv_entry ([.ref h0, .int p0]) (n := 2) (Nat.le_of_ble_eq_true rfl)
  rw [show entryFrame m args 2 = entryFrame m ([.ref h0, .int p0] : List Value).toArray 2 by rw [hargs], lg_entry_eq]
  generalize (lg_sl ([.ref h0, .int p0]) ++ List.replicate (2 - (lg_sl ([.ref h0, .int p0])).length) Slot.unset).toArray = ls at hl ⊢
  have hl : lv_has ls 2 [(0, .ref h0), (1, .int p0)] := hl
  refine zstart (fun H hH => ?_)
  rw [← hH] at hP
  have hS : va_S A s.heap H [] := by rw [hH]; exact va_S.rf
  generalize ([] : List Loc) = locs at hS ⊢
  refine zgen (fun R Q hR hQ => ?_)
  refine lv_iload_n hx hb dX10_law_0 rfl (lv_at hl 1 rfl) ?_
  refine lv_iconst (v := (-1)) hx hb dX10_law_1 (by decide) ?_
  refine lv_icmp_lt (tgt := 13) hx hb dX10_law_2 (by decide) (fun c2 => ?_) (fun c2 => ?_)
  · have c2 : p0.toInt < (-1) := z1 rfl (by decide) c2
    refine lv_iconst (v := 0) hx hb dX10_law_13 (by decide) ?_
    have zr0 : (0 : Int32).toInt = 0 := by decide
    rw [hQ]
    exact W.zret (v := 0) (ty := .boolean) hx hb hr rfl (fun t ht hW => ⟨⟨0, (lh, (sw)), rfl, ⟨by (try dsimp only); omega, by (try dsimp only); omega, by (try dsimp only); omega, by (try dsimp only); exact Or.inr ⟨by decide, by omega, rfl, rfl⟩⟩, ⟨by rw [ht]; exact hP, hD⟩⟩, hS.F ht⟩) hS.2.2 dX10_law_14
  · have c2 : (-1) ≤ p0.toInt := z2 rfl (by decide) c2
    refine lv_iload_n hx hb dX10_law_5 rfl (lv_at hl 1 rfl) ?_
    refine lv_aload_n hx hb dX10_law_6 rfl (lv_at hl 0 rfl) ?_
    refine va_get (D := (dC, dI)) (ci := 10) (v := .int lc) (C := RX10) (T := TX10) (N := 17) hx hb hts iX10 hown hK hP 0 rfl rfl 13 (by decide) (hts _ qw369) (fun _ h9 => h9) rfl dX10_law_7 ?_
    refine lv_icmp_lt (tgt := 15) hx hb dX10_law_10 (by decide) (fun c10 => ?_) (fun c10 => ?_)
    · have c10 : p0.toInt < lc.toInt := z1 rfl rfl c10
      refine lv_aload_n hx hb dX10_law_15 rfl (lv_at hl 0 rfl) ?_
      refine lv_iload_n hx hb dX10_law_16 rfl (lv_at hl 1 rfl) ?_
      refine va_put (D := (dC, dI)) (ci := 10) (v := .int p0) (ty := .int) (C := RX10) (T := TX10) (N := 17) hx hb hts iX10 tyX10 tyX10_ok nmX10 hown hK hP hD hS 0 rfl rfl 14 (by decide) (hts _ qw370) (fun _ h9 => h9) rfl (by decide +kernel) rfl rfl (Nat.le_of_ble_eq_true rfl) dX10_law_17 (fun H locs hP hD hS => ?_)
      have hP : va_P (dC, dI) vwCl [(h0, .inr (10, [h0_tape, h0_courtReader, h0_lawReader, h0_draft, h0_court, .ref lq, h0_state, h0_kept, h0_acts, .ref sd, h0_mind, h0_draws, h0_refused, .int lc, .int p0, h0_bribery, h0_hasImage])), (lq, .inl (cQ, 4, .inr (.inr (.inr (.inr fq))))), (sd, .inr (8, [sd_oneLooks, sd_otherLooks, sd_court, sd_state, sd_letters, sd_stack, sw]))] H := hP
      have hD : va_D A [(h0, .inr (10, [h0_tape, h0_courtReader, h0_lawReader, h0_draft, h0_court, .ref lq, h0_state, h0_kept, h0_acts, .ref sd, h0_mind, h0_draws, h0_refused, .int lc, .int p0, h0_bribery, h0_hasImage])), (lq, .inl (cQ, 4, .inr (.inr (.inr (.inr fq))))), (sd, .inr (8, [sd_oneLooks, sd_otherLooks, sd_court, sd_state, sd_letters, sd_stack, sw]))] := hD
      refine lv_aload_n hx hb dX10_law_20 rfl (lv_at hl 0 rfl) ?_
      refine va_get (D := (dC, dI)) (ci := 10) (v := .ref sd) (C := RX10) (T := TX10) (N := 17) hx hb hts iX10 hown hK hP 0 rfl rfl 9 (by decide) (hts _ qw365) (fun _ h9 => h9) rfl dX10_law_21 ?_
      refine lv_iload_n hx hb dX10_law_24 rfl (lv_at hl 1 rfl) ?_
      refine lv_iconst (v := (-1)) hx hb dX10_law_25 (by decide) ?_
      refine lv_icmp_ne (tgt := 33) hx hb dX10_law_26 (by decide) (fun c26 => ?_) (fun c26 => ?_)
      · have c26 : ¬ p0.toInt = (-1) := z6 rfl (by decide) c26
        refine lv_aload_n hx hb dX10_law_33 rfl (lv_at hl 0 rfl) ?_
        refine va_get (D := (dC, dI)) (ci := 10) (v := .ref lq) (C := RX10) (T := TX10) (N := 17) hx hb hts iX10 hown hK hP 0 rfl rfl 5 (by decide) (hts _ qw361) (fun _ h9 => h9) rfl dX10_law_34 ?_
        refine lv_iload_n hx hb dX10_law_37 rfl (lv_at hl 1 rfl) ?_
        refine va_aldq hx hb hK hP 1 2 rfl rfl (vp_in_iff.mpr ⟨by omega, by omega⟩) dX10_law_38 ?_
        rcases va_rf_or (fq (p0).toNatClampNeg) with hq38 | ⟨a38, hq38⟩
        · rw [hq38]
          refine va_put (D := (dC, dI)) (ci := 8) (v := .null) (ty := .object "NinePortraits$Law") (C := RX8) (T := TX8) (N := 7) hx hb hts iX8 tyX8 tyX8_ok nmX8 hown hK hP hD hS 2 rfl rfl 6 (by decide) (hts _ qw294) (fun _ h9 => h9) rfl (by decide +kernel) rfl rfl (Nat.le_of_ble_eq_true rfl) dX10_law_39 (fun H locs hP hD hS => ?_)
          have hP : va_P (dC, dI) vwCl [(h0, .inr (10, [h0_tape, h0_courtReader, h0_lawReader, h0_draft, h0_court, .ref lq, h0_state, h0_kept, h0_acts, .ref sd, h0_mind, h0_draws, h0_refused, .int lc, .int p0, h0_bribery, h0_hasImage])), (lq, .inl (cQ, 4, .inr (.inr (.inr (.inr fq))))), (sd, .inr (8, [sd_oneLooks, sd_otherLooks, sd_court, sd_state, sd_letters, sd_stack, .null]))] H := hP
          have hD : va_D A [(h0, .inr (10, [h0_tape, h0_courtReader, h0_lawReader, h0_draft, h0_court, .ref lq, h0_state, h0_kept, h0_acts, .ref sd, h0_mind, h0_draws, h0_refused, .int lc, .int p0, h0_bribery, h0_hasImage])), (lq, .inl (cQ, 4, .inr (.inr (.inr (.inr fq))))), (sd, .inr (8, [sd_oneLooks, sd_otherLooks, sd_court, sd_state, sd_letters, sd_stack, .null]))] := hD
          refine lv_iconst (v := 1) hx hb dX10_law_42 (by decide) ?_
          have zr0 : (1 : Int32).toInt = 1 := by decide
          rw [hQ]
          exact W.zret (v := 1) (ty := .boolean) hx hb hr rfl (fun t ht hW => ⟨⟨1, (p0, (.null)), rfl, ⟨by (try dsimp only); omega, by (try dsimp only); omega, by (try dsimp only); omega, by (try dsimp only); first | exact Or.inl ⟨by decide, by omega, by omega, rfl, fun _ => rfl, fun z => by exfalso; omega⟩ | exact Or.inl ⟨by decide, by omega, by omega, rfl, fun z => by exfalso; omega, fun _ => hq38.symm⟩⟩, ⟨by rw [ht]; exact hP, hD⟩⟩, hS.F ht⟩) hS.2.2 dX10_law_43
        · rw [hq38]
          refine va_put (D := (dC, dI)) (ci := 8) (v := .ref a38) (ty := .object "NinePortraits$Law") (C := RX8) (T := TX8) (N := 7) hx hb hts iX8 tyX8 tyX8_ok nmX8 hown hK hP hD hS 2 rfl rfl 6 (by decide) (hts _ qw294) (fun _ h9 => h9) rfl (by decide +kernel) rfl rfl (Nat.le_of_ble_eq_true rfl) dX10_law_39 (fun H locs hP hD hS => ?_)
          have hP : va_P (dC, dI) vwCl [(h0, .inr (10, [h0_tape, h0_courtReader, h0_lawReader, h0_draft, h0_court, .ref lq, h0_state, h0_kept, h0_acts, .ref sd, h0_mind, h0_draws, h0_refused, .int lc, .int p0, h0_bribery, h0_hasImage])), (lq, .inl (cQ, 4, .inr (.inr (.inr (.inr fq))))), (sd, .inr (8, [sd_oneLooks, sd_otherLooks, sd_court, sd_state, sd_letters, sd_stack, .ref a38]))] H := hP
          have hD : va_D A [(h0, .inr (10, [h0_tape, h0_courtReader, h0_lawReader, h0_draft, h0_court, .ref lq, h0_state, h0_kept, h0_acts, .ref sd, h0_mind, h0_draws, h0_refused, .int lc, .int p0, h0_bribery, h0_hasImage])), (lq, .inl (cQ, 4, .inr (.inr (.inr (.inr fq))))), (sd, .inr (8, [sd_oneLooks, sd_otherLooks, sd_court, sd_state, sd_letters, sd_stack, .ref a38]))] := hD
          refine lv_iconst (v := 1) hx hb dX10_law_42 (by decide) ?_
          have zr0 : (1 : Int32).toInt = 1 := by decide
          rw [hQ]
          exact W.zret (v := 1) (ty := .boolean) hx hb hr rfl (fun t ht hW => ⟨⟨1, (p0, (.ref a38)), rfl, ⟨by (try dsimp only); omega, by (try dsimp only); omega, by (try dsimp only); omega, by (try dsimp only); first | exact Or.inl ⟨by decide, by omega, by omega, rfl, fun _ => rfl, fun z => by exfalso; omega⟩ | exact Or.inl ⟨by decide, by omega, by omega, rfl, fun z => by exfalso; omega, fun _ => hq38.symm⟩⟩, ⟨by rw [ht]; exact hP, hD⟩⟩, hS.F ht⟩) hS.2.2 dX10_law_43
      · have c26 : p0.toInt = (-1) := z5 rfl (by decide) c26
        refine lv_null hx hb dX10_law_29 ?_
        refine lv_goto (tgt := 39) hx hb dX10_law_30 (by decide) ?_
        refine va_put (D := (dC, dI)) (ci := 8) (v := .null) (ty := .object "NinePortraits$Law") (C := RX8) (T := TX8) (N := 7) hx hb hts iX8 tyX8 tyX8_ok nmX8 hown hK hP hD hS 2 rfl rfl 6 (by decide) (hts _ qw294) (fun _ h9 => h9) rfl (by decide +kernel) rfl rfl (Nat.le_of_ble_eq_true rfl) dX10_law_39 (fun H locs hP hD hS => ?_)
        have hP : va_P (dC, dI) vwCl [(h0, .inr (10, [h0_tape, h0_courtReader, h0_lawReader, h0_draft, h0_court, .ref lq, h0_state, h0_kept, h0_acts, .ref sd, h0_mind, h0_draws, h0_refused, .int lc, .int p0, h0_bribery, h0_hasImage])), (lq, .inl (cQ, 4, .inr (.inr (.inr (.inr fq))))), (sd, .inr (8, [sd_oneLooks, sd_otherLooks, sd_court, sd_state, sd_letters, sd_stack, .null]))] H := hP
        have hD : va_D A [(h0, .inr (10, [h0_tape, h0_courtReader, h0_lawReader, h0_draft, h0_court, .ref lq, h0_state, h0_kept, h0_acts, .ref sd, h0_mind, h0_draws, h0_refused, .int lc, .int p0, h0_bribery, h0_hasImage])), (lq, .inl (cQ, 4, .inr (.inr (.inr (.inr fq))))), (sd, .inr (8, [sd_oneLooks, sd_otherLooks, sd_court, sd_state, sd_letters, sd_stack, .null]))] := hD
        refine lv_iconst (v := 1) hx hb dX10_law_42 (by decide) ?_
        have zr0 : (1 : Int32).toInt = 1 := by decide
        rw [hQ]
        exact W.zret (v := 1) (ty := .boolean) hx hb hr rfl (fun t ht hW => ⟨⟨1, (p0, (.null)), rfl, ⟨by (try dsimp only); omega, by (try dsimp only); omega, by (try dsimp only); omega, by (try dsimp only); first | exact Or.inl ⟨by decide, by omega, by omega, rfl, fun _ => rfl, fun z => by exfalso; omega⟩ | exact Or.inl ⟨by decide, by omega, by omega, rfl, fun z => by exfalso; omega, fun _ => hq38.symm⟩⟩, ⟨by rw [ht]; exact hP, hD⟩⟩, hS.F ht⟩) hS.2.2 dX10_law_43
    · have c10 : lc.toInt ≤ p0.toInt := z2 rfl rfl c10
      refine lv_iconst (v := 0) hx hb dX10_law_13 (by decide) ?_
      have zr0 : (0 : Int32).toInt = 0 := by decide
      rw [hQ]
      exact W.zret (v := 0) (ty := .boolean) hx hb hr rfl (fun t ht hW => ⟨⟨0, (lh, (sw)), rfl, ⟨by (try dsimp only); omega, by (try dsimp only); omega, by (try dsimp only); omega, by (try dsimp only); exact Or.inr ⟨by decide, by omega, rfl, rfl⟩⟩, ⟨by rw [ht]; exact hP, hD⟩⟩, hS.F ht⟩) hS.2.2 dX10_law_14
set_option maxHeartbeats 4000000 in
set_option maxRecDepth 100000 in
theorem g_X10_text_0 (l : Launch) (dC : Nat → ClassId) (dI : Nat → Nat → Nat) (cI cJ : ClassId) (h0 : Nat) (tp : Nat) (cr : Nat) (lr : Nat) (xC : Nat) (aC : Nat) (h0_laws : Value) (g0 : Nat) (k0 : Nat) (ac : Nat) (sd : Nat) (mi : Nat) (dw : Nat) (rf : Nat) (lc : Int32) (lh : Int32) (br : Int32) (hi : Int32) (cr_tape : Value) (cr_court : Value) (hsr : Int32) (xR : Nat) (xB : Nat) (xP : Nat) (dnb : Int32) (dnp : Int32) (dfr : Nat → Int32) (dfb : Nat → Int32) (dfp : Nat → Int32) (aR : Nat) (aB : Nat) (aP : Nat) (nb : Int32) (np : Int32) (fr : Nat → Int32) (fb : Nat → Int32) (fp : Nat → Int32) (gY : Nat) (gF : Nat) (gP : Nat) (gpn : Int32) (glt : Int32) (gsh : Int32) (gwd : Int32) (gpu : Int32) (gmo : Int32) (gfY : Nat → Int32) (gfF : Nat → Int32) (gfP : Nat → Int32) (aW : Nat) (pl : Int32) (cn : Int32) (tB : Nat) (tl : Int32) (ta : Int32) (fB : Nat → Int32) (sz : Nat) (n_cn : 0 ≤ cn.toInt ∧ cn.toInt ≤ 40) (n_dnb : 0 ≤ dnb.toInt ∧ dnb.toInt ≤ 6) (n_dnp : 0 ≤ dnp.toInt ∧ dnp.toInt ≤ 5) (n_gpn : 0 ≤ gpn.toInt ∧ gpn.toInt ≤ 20) (n_gwd : (-1) ≤ gwd.toInt ∧ gwd.toInt ≤ 5) (n_hi : 0 ≤ hi.toInt ∧ hi.toInt ≤ 1) (n_hsr : 0 ≤ hsr.toInt ∧ hsr.toInt ≤ 1) (n_lc : 0 ≤ lc.toInt ∧ lc.toInt ≤ 4) (n_nb : 0 ≤ nb.toInt ∧ nb.toInt ≤ 6) (n_np : 0 ≤ np.toInt ∧ np.toInt ≤ 5) (n_pl : 0 ≤ pl.toInt ∧ pl.toInt ≤ 39) (n_ta : 0 ≤ ta.toInt ∧ ta.toInt ≤ 240) (n_tl : 0 ≤ tl.toInt ∧ tl.toInt ≤ 240) (hty : zTy tl fB) (ci_gfP_zPo : zPo gfP)  : Met l yX10_text (.code yX10_text cX10_text 2 (some .int) :: wA) ({ frames := 4, cells := 0, slots := 0, locals := 106 }) (zPW (dC, dI) [(cI, .int), (cJ, .long)] [.ref h0, .int 0] sz [(h0, .inr (10, [.ref tp, .ref cr, .ref lr, .ref xC, .ref aC, h0_laws, .ref g0, .ref k0, .ref ac, .ref sd, .ref mi, .ref dw, .ref rf, .int lc, .int lh, .int br, .int hi])), (cr, .inr (2, [cr_tape, cr_court, .int hsr])), (xC, .inr (1, [.ref xR, .ref xB, .ref xP, .int dnb, .int dnp])), (xR, .inl (cI, 3, .inl dfr)), (xB, .inl (cI, 24, .inl dfb)), (xP, .inl (cI, 20, .inl dfp)), (aC, .inr (1, [.ref aR, .ref aB, .ref aP, .int nb, .int np])), (aR, .inl (cI, 3, .inl fr)), (aB, .inl (cI, 24, .inl fb)), (aP, .inl (cI, 20, .inl fp)), (g0, .inr (7, [.ref gY, .ref gF, .ref gP, .int gpn, .int glt, .int gsh, .int gwd, .int gpu, .int gmo])), (gY, .inl (cI, 6, .inl gfY)), (gF, .inl (cI, 5, .inl gfF)), (gP, .inl (cI, 80, .inl gfP)), (ac, .inr (0, [.ref aW, .int pl, .int cn])), (tp, .inr (9, [.ref tB, .int tl, .int ta])), (tB, .inl (cI, 260, .inl fB))] (va_A [(h0, .inr (10, [.ref tp, .ref cr, .ref lr, .ref xC, .ref aC, h0_laws, .ref g0, .ref k0, .ref ac, .ref sd, .ref mi, .ref dw, .ref rf, .int lc, .int lh, .int br, .int hi])), (cr, .inr (2, [cr_tape, cr_court, .int hsr])), (xC, .inr (1, [.ref xR, .ref xB, .ref xP, .int dnb, .int dnp])), (xR, .inl (cI, 3, .inl dfr)), (xB, .inl (cI, 24, .inl dfb)), (xP, .inl (cI, 20, .inl dfp)), (aC, .inr (1, [.ref aR, .ref aB, .ref aP, .int nb, .int np])), (aR, .inl (cI, 3, .inl fr)), (aB, .inl (cI, 24, .inl fb)), (aP, .inl (cI, 20, .inl fp)), (g0, .inr (7, [.ref gY, .ref gF, .ref gP, .int gpn, .int glt, .int gsh, .int gwd, .int gpu, .int gmo])), (gY, .inl (cI, 6, .inl gfY)), (gF, .inl (cI, 5, .inl gfF)), (gP, .inl (cI, 80, .inl gfP)), (ac, .inr (0, [.ref aW, .int pl, .int cn])), (tp, .inr (9, [.ref tB, .int tl, .int ta])), (tB, .inl (cI, 260, .inl fB))] sz)) (va_Qi (fun (r : Int32) (u : Int32 × Int32 × Int32 × Int32 × (Nat → Int32) × (Nat → Int32) × (Nat → Int32) × Int32 × Int32 × (Nat → Int32) × (Nat → Int32) × (Nat → Int32) × Int32 × Int32 × Int32 × Int32 × Int32 × Int32 × (Nat → Int32) × (Nat → Int32) × Int32 × Int32 × Int32) => ((-1) ≤ r.toInt) ∧ (r.toInt ≤ 6) ∧ (0 ≤ u.1.toInt) ∧ (u.1.toInt ≤ 1) ∧ (0 ≤ u.2.1.toInt) ∧ (u.2.1.toInt ≤ 1) ∧ (0 ≤ u.2.2.1.toInt) ∧ (u.2.2.1.toInt ≤ 6) ∧ (0 ≤ u.2.2.2.1.toInt) ∧ (u.2.2.2.1.toInt ≤ 5) ∧ (0 ≤ u.2.2.2.2.2.2.2.1.toInt) ∧ (u.2.2.2.2.2.2.2.1.toInt ≤ 6) ∧ (0 ≤ u.2.2.2.2.2.2.2.2.1.toInt) ∧ (u.2.2.2.2.2.2.2.2.1.toInt ≤ 5) ∧ (0 ≤ u.2.2.2.2.2.2.2.2.2.2.2.2.1.toInt) ∧ (u.2.2.2.2.2.2.2.2.2.2.2.2.1.toInt ≤ 20) ∧ ((-1) ≤ u.2.2.2.2.2.2.2.2.2.2.2.2.2.2.2.1.toInt) ∧ (u.2.2.2.2.2.2.2.2.2.2.2.2.2.2.2.1.toInt ≤ 5) ∧ (0 ≤ u.2.2.2.2.2.2.2.2.2.2.2.2.2.2.2.2.2.2.2.2.1.toInt) ∧ (u.2.2.2.2.2.2.2.2.2.2.2.2.2.2.2.2.2.2.2.2.1.toInt ≤ 40) ∧ (0 ≤ u.2.2.2.2.2.2.2.2.2.2.2.2.2.2.2.2.2.2.2.2.2.1.toInt) ∧ (u.2.2.2.2.2.2.2.2.2.2.2.2.2.2.2.2.2.2.2.2.2.1.toInt ≤ 240) ∧ (0 ≤ u.2.2.2.2.2.2.2.2.2.2.2.2.2.2.2.2.2.2.2.2.2.2.toInt) ∧ (u.2.2.2.2.2.2.2.2.2.2.2.2.2.2.2.2.2.2.2.2.2.2.toInt ≤ 240) ∧ (zTx fB tl 0 lc r u.2.2.2.2.2.2.2.2.2.2.2.2.2.2.2.2.2.2.2.2.2.1 lc) ∧ (zTxC fB tl 0 fr fb fp nb np u.2.2.2.2.2.2.2.2.2.1 u.2.2.2.2.2.2.2.2.2.2.1 u.2.2.2.2.2.2.2.2.2.2.2.1 u.2.2.2.2.2.2.2.1 u.2.2.2.2.2.2.2.2.1) ∧ (((sCrt (sB fB tl.toInt) tl.toInt).1 = -1 ∧ (∀ P : Nat → Int32, zSc u.2.2.2.2.2.2.2.1.toInt u.2.2.2.2.2.2.2.2.1.toInt (sBeg (sCrtV (sB fB tl.toInt) tl.toInt)) u.2.2.2.2.2.2.2.2.2.2.2.2.2.2.2.2.2.2.1 u.2.2.2.2.2.2.2.2.2.2.2.2.2.2.2.2.2.2.2.1 P u.2.2.2.2.2.2.2.2.2.2.2.2.1 u.2.2.2.2.2.2.2.2.2.2.2.2.2.1 u.2.2.2.2.2.2.2.2.2.2.2.2.2.2.1 u.2.2.2.2.2.2.2.2.2.2.2.2.2.2.2.1 u.2.2.2.2.2.2.2.2.2.2.2.2.2.2.2.2.1 u.2.2.2.2.2.2.2.2.2.2.2.2.2.2.2.2.2.1) ∧ u.2.2.2.2.2.2.2.2.2.2.2.2.2.2.2.2.2.2.2.2.1 = 0 ∧ u.1 = 0) ∨ (¬ (sCrt (sB fB tl.toInt) tl.toInt).1 = -1 ∧ (u.2.2.2.2.2.2.2.2.2.2.2.2.2.2.2.2.2.2.1, u.2.2.2.2.2.2.2.2.2.2.2.2.2.2.2.2.2.2.2.1, u.2.2.2.2.2.2.2.2.2.2.2.2.1, u.2.2.2.2.2.2.2.2.2.2.2.2.2.1, u.2.2.2.2.2.2.2.2.2.2.2.2.2.2.1, u.2.2.2.2.2.2.2.2.2.2.2.2.2.2.2.1, u.2.2.2.2.2.2.2.2.2.2.2.2.2.2.2.2.1, u.2.2.2.2.2.2.2.2.2.2.2.2.2.2.2.2.2.1, u.2.2.2.2.2.2.2.2.2.2.2.2.2.2.2.2.2.2.2.2.1, u.1) = (gfY, gfF, gpn, glt, gsh, gwd, gpu, gmo, cn, hi)))) (fun (u : Int32 × Int32 × Int32 × Int32 × (Nat → Int32) × (Nat → Int32) × (Nat → Int32) × Int32 × Int32 × (Nat → Int32) × (Nat → Int32) × (Nat → Int32) × Int32 × Int32 × Int32 × Int32 × Int32 × Int32 × (Nat → Int32) × (Nat → Int32) × Int32 × Int32 × Int32) (t : State) => va_P (dC, dI) vwCl [(h0, .inr (10, [.ref tp, .ref cr, .ref lr, .ref xC, .ref aC, h0_laws, .ref g0, .ref k0, .ref ac, .ref sd, .ref mi, .ref dw, .ref rf, .int lc, .int lh, .int br, .int u.1])), (cr, .inr (2, [.ref tp, .ref xC, .int u.2.1])), (xC, .inr (1, [.ref xR, .ref xB, .ref xP, .int u.2.2.1, .int u.2.2.2.1])), (xR, .inl (cI, 3, .inl u.2.2.2.2.1)), (xB, .inl (cI, 24, .inl u.2.2.2.2.2.1)), (xP, .inl (cI, 20, .inl u.2.2.2.2.2.2.1)), (aC, .inr (1, [.ref aR, .ref aB, .ref aP, .int u.2.2.2.2.2.2.2.1, .int u.2.2.2.2.2.2.2.2.1])), (aR, .inl (cI, 3, .inl u.2.2.2.2.2.2.2.2.2.1)), (aB, .inl (cI, 24, .inl u.2.2.2.2.2.2.2.2.2.2.1)), (aP, .inl (cI, 20, .inl u.2.2.2.2.2.2.2.2.2.2.2.1)), (g0, .inr (7, [.ref gY, .ref gF, .ref gP, .int u.2.2.2.2.2.2.2.2.2.2.2.2.1, .int u.2.2.2.2.2.2.2.2.2.2.2.2.2.1, .int u.2.2.2.2.2.2.2.2.2.2.2.2.2.2.1, .int u.2.2.2.2.2.2.2.2.2.2.2.2.2.2.2.1, .int u.2.2.2.2.2.2.2.2.2.2.2.2.2.2.2.2.1, .int u.2.2.2.2.2.2.2.2.2.2.2.2.2.2.2.2.2.1])), (gY, .inl (cI, 6, .inl u.2.2.2.2.2.2.2.2.2.2.2.2.2.2.2.2.2.2.1)), (gF, .inl (cI, 5, .inl u.2.2.2.2.2.2.2.2.2.2.2.2.2.2.2.2.2.2.2.1)), (gP, .inl (cI, 80, .inl gfP)), (ac, .inr (0, [.ref aW, .int pl, .int u.2.2.2.2.2.2.2.2.2.2.2.2.2.2.2.2.2.2.2.2.1])), (tp, .inr (9, [.ref tB, .int u.2.2.2.2.2.2.2.2.2.2.2.2.2.2.2.2.2.2.2.2.2.1, .int u.2.2.2.2.2.2.2.2.2.2.2.2.2.2.2.2.2.2.2.2.2.2])), (tB, .inl (cI, 260, .inl fB))] t.heap ∧ va_D (va_A [(h0, .inr (10, [.ref tp, .ref cr, .ref lr, .ref xC, .ref aC, h0_laws, .ref g0, .ref k0, .ref ac, .ref sd, .ref mi, .ref dw, .ref rf, .int lc, .int lh, .int br, .int hi])), (cr, .inr (2, [cr_tape, cr_court, .int hsr])), (xC, .inr (1, [.ref xR, .ref xB, .ref xP, .int dnb, .int dnp])), (xR, .inl (cI, 3, .inl dfr)), (xB, .inl (cI, 24, .inl dfb)), (xP, .inl (cI, 20, .inl dfp)), (aC, .inr (1, [.ref aR, .ref aB, .ref aP, .int nb, .int np])), (aR, .inl (cI, 3, .inl fr)), (aB, .inl (cI, 24, .inl fb)), (aP, .inl (cI, 20, .inl fp)), (g0, .inr (7, [.ref gY, .ref gF, .ref gP, .int gpn, .int glt, .int gsh, .int gwd, .int gpu, .int gmo])), (gY, .inl (cI, 6, .inl gfY)), (gF, .inl (cI, 5, .inl gfF)), (gP, .inl (cI, 80, .inl gfP)), (ac, .inr (0, [.ref aW, .int pl, .int cn])), (tp, .inr (9, [.ref tB, .int tl, .int ta])), (tB, .inl (cI, 260, .inl fB))] sz) [(h0, .inr (10, [.ref tp, .ref cr, .ref lr, .ref xC, .ref aC, h0_laws, .ref g0, .ref k0, .ref ac, .ref sd, .ref mi, .ref dw, .ref rf, .int lc, .int lh, .int br, .int u.1])), (cr, .inr (2, [.ref tp, .ref xC, .int u.2.1])), (xC, .inr (1, [.ref xR, .ref xB, .ref xP, .int u.2.2.1, .int u.2.2.2.1])), (xR, .inl (cI, 3, .inl u.2.2.2.2.1)), (xB, .inl (cI, 24, .inl u.2.2.2.2.2.1)), (xP, .inl (cI, 20, .inl u.2.2.2.2.2.2.1)), (aC, .inr (1, [.ref aR, .ref aB, .ref aP, .int u.2.2.2.2.2.2.2.1, .int u.2.2.2.2.2.2.2.2.1])), (aR, .inl (cI, 3, .inl u.2.2.2.2.2.2.2.2.2.1)), (aB, .inl (cI, 24, .inl u.2.2.2.2.2.2.2.2.2.2.1)), (aP, .inl (cI, 20, .inl u.2.2.2.2.2.2.2.2.2.2.2.1)), (g0, .inr (7, [.ref gY, .ref gF, .ref gP, .int u.2.2.2.2.2.2.2.2.2.2.2.2.1, .int u.2.2.2.2.2.2.2.2.2.2.2.2.2.1, .int u.2.2.2.2.2.2.2.2.2.2.2.2.2.2.1, .int u.2.2.2.2.2.2.2.2.2.2.2.2.2.2.2.1, .int u.2.2.2.2.2.2.2.2.2.2.2.2.2.2.2.2.1, .int u.2.2.2.2.2.2.2.2.2.2.2.2.2.2.2.2.2.1])), (gY, .inl (cI, 6, .inl u.2.2.2.2.2.2.2.2.2.2.2.2.2.2.2.2.2.2.1)), (gF, .inl (cI, 5, .inl u.2.2.2.2.2.2.2.2.2.2.2.2.2.2.2.2.2.2.2.1)), (gP, .inl (cI, 80, .inl gfP)), (ac, .inr (0, [.ref aW, .int pl, .int u.2.2.2.2.2.2.2.2.2.2.2.2.2.2.2.2.2.2.2.2.1])), (tp, .inr (9, [.ref tB, .int u.2.2.2.2.2.2.2.2.2.2.2.2.2.2.2.2.2.2.2.2.2.1, .int u.2.2.2.2.2.2.2.2.2.2.2.2.2.2.2.2.2.2.2.2.2.2])), (tB, .inl (cI, 260, .inl fB))]) (va_A [(h0, .inr (10, [.ref tp, .ref cr, .ref lr, .ref xC, .ref aC, h0_laws, .ref g0, .ref k0, .ref ac, .ref sd, .ref mi, .ref dw, .ref rf, .int lc, .int lh, .int br, .int hi])), (cr, .inr (2, [cr_tape, cr_court, .int hsr])), (xC, .inr (1, [.ref xR, .ref xB, .ref xP, .int dnb, .int dnp])), (xR, .inl (cI, 3, .inl dfr)), (xB, .inl (cI, 24, .inl dfb)), (xP, .inl (cI, 20, .inl dfp)), (aC, .inr (1, [.ref aR, .ref aB, .ref aP, .int nb, .int np])), (aR, .inl (cI, 3, .inl fr)), (aB, .inl (cI, 24, .inl fb)), (aP, .inl (cI, 20, .inl fp)), (g0, .inr (7, [.ref gY, .ref gF, .ref gP, .int gpn, .int glt, .int gsh, .int gwd, .int gpu, .int gmo])), (gY, .inl (cI, 6, .inl gfY)), (gF, .inl (cI, 5, .inl gfF)), (gP, .inl (cI, 80, .inl gfP)), (ac, .inr (0, [.ref aW, .int pl, .int cn])), (tp, .inr (9, [.ref tB, .int tl, .int ta])), (tB, .inl (cI, 260, .inl fB))] sz)) 0 0 (va_A [(h0, .inr (10, [.ref tp, .ref cr, .ref lr, .ref xC, .ref aC, h0_laws, .ref g0, .ref k0, .ref ac, .ref sd, .ref mi, .ref dw, .ref rf, .int lc, .int lh, .int br, .int hi])), (cr, .inr (2, [cr_tape, cr_court, .int hsr])), (xC, .inr (1, [.ref xR, .ref xB, .ref xP, .int dnb, .int dnp])), (xR, .inl (cI, 3, .inl dfr)), (xB, .inl (cI, 24, .inl dfb)), (xP, .inl (cI, 20, .inl dfp)), (aC, .inr (1, [.ref aR, .ref aB, .ref aP, .int nb, .int np])), (aR, .inl (cI, 3, .inl fr)), (aB, .inl (cI, 24, .inl fb)), (aP, .inl (cI, 20, .inl fp)), (g0, .inr (7, [.ref gY, .ref gF, .ref gP, .int gpn, .int glt, .int gsh, .int gwd, .int gpu, .int gmo])), (gY, .inl (cI, 6, .inl gfY)), (gF, .inl (cI, 5, .inl gfF)), (gP, .inl (cI, 80, .inl gfP)), (ac, .inr (0, [.ref aW, .int pl, .int cn])), (tp, .inr (9, [.ref tB, .int tl, .int ta])), (tB, .inl (cI, 260, .inl fB))] sz) := by
  refine Met.ofW (cc := cX10_text) (maxL := 2) (ret := (some .int)) (by decide) rfl ?_
  intro p e s m args below meth c s₁ B hml hv
  have y_dnb : zHid (0 ≤ dnb.toInt ∧ dnb.toInt ≤ 6) := n_dnb
  have y_dnp : zHid (0 ≤ dnp.toInt ∧ dnp.toInt ≤ 5) := n_dnp
  have y_hsr : zHid (0 ≤ hsr.toInt ∧ hsr.toInt ≤ 1) := n_hsr
  have y_lc : zHid (0 ≤ lc.toInt ∧ lc.toInt ≤ 4) := n_lc
  have y_pl : zHid (0 ≤ pl.toInt ∧ pl.toInt ≤ 39) := n_pl
  have y_ta : zHid (0 ≤ ta.toInt ∧ ta.toInt ≤ 240) := n_ta
  clear n_dnb n_dnp n_hsr n_lc n_pl n_ta
  obtain ⟨⟨hargs, hsz, hP, hK, hT⟩, hV⟩ := hv
  have hx := B.exec
  have hb := B.bytes
  have hr := B.returns
  have hts : ∀ w ∈ wA, w.before args s = true := fun w h => atoms_spec (ws := .code yX10_text cX10_text 2 (some .int) :: wA) B.pre w (List.mem_cons_of_mem _ h)
  have hown : s.vm.findClass RX10 = some m.cls := findClass_of_methodNamed B.named
  have hlocks := B.notSynchronized
  subst hsz
  have hD := hT.self (sz := s.heap.size)
  generalize hAe : va_A [(h0, .inr (10, [.ref tp, .ref cr, .ref lr, .ref xC, .ref aC, h0_laws, .ref g0, .ref k0, .ref ac, .ref sd, .ref mi, .ref dw, .ref rf, .int lc, .int lh, .int br, .int hi])), (cr, .inr (2, [cr_tape, cr_court, .int hsr])), (xC, .inr (1, [.ref xR, .ref xB, .ref xP, .int dnb, .int dnp])), (xR, .inl (cI, 3, .inl dfr)), (xB, .inl (cI, 24, .inl dfb)), (xP, .inl (cI, 20, .inl dfp)), (aC, .inr (1, [.ref aR, .ref aB, .ref aP, .int nb, .int np])), (aR, .inl (cI, 3, .inl fr)), (aB, .inl (cI, 24, .inl fb)), (aP, .inl (cI, 20, .inl fp)), (g0, .inr (7, [.ref gY, .ref gF, .ref gP, .int gpn, .int glt, .int gsh, .int gwd, .int gpu, .int gmo])), (gY, .inl (cI, 6, .inl gfY)), (gF, .inl (cI, 5, .inl gfF)), (gP, .inl (cI, 80, .inl gfP)), (ac, .inr (0, [.ref aW, .int pl, .int cn])), (tp, .inr (9, [.ref tB, .int tl, .int ta])), (tB, .inl (cI, 260, .inl fB))] s.heap.size = A at hD hV ⊢
  have hA : ∀ q : Nat, s.heap.size ≤ q → A q := fun q h => by rw [← hAe]; exact Or.inr h
  have hl := lv_entry ([.ref h0, .int 0]) (n := 2) (Nat.le_of_ble_eq_true rfl)
  rw [show entryFrame m args 2 = entryFrame m ([.ref h0, .int 0] : List Value).toArray 2 by rw [hargs], lg_entry_eq]
  generalize (lg_sl ([.ref h0, .int 0]) ++ List.replicate (2 - (lg_sl ([.ref h0, .int 0])).length) Slot.unset).toArray = ls at hl ⊢
  have hl : lv_has ls 2 [(0, .ref h0), (1, .int 0)] := hl
  refine zstart (fun H hH => ?_)
  rw [← hH] at hP
  have hS : va_S A s.heap H [] := by rw [hH]; exact va_S.rf
  generalize ([] : List Loc) = locs at hS ⊢
  refine zgen (fun R Q hR hQ => ?_)
  refine lv_iload_n hx hb dX10_text_0 rfl (lv_at hl 1 rfl) ?_
  refine lv_if_ne (tgt := 28) hx hb dX10_text_1 (by decide) (fun c => absurd (by decide) c) (fun _ => ?_)
  refine lv_aload_n hx hb dX10_text_4 rfl (lv_at hl 0 rfl) ?_
  refine va_get (D := (dC, dI)) (ci := 10) (v := .ref cr) (C := RX10) (T := TX10) (N := 17) hx hb hts iX10 hown hK hP 0 rfl rfl 1 (by decide) (hts _ qw357) (fun _ h9 => h9) rfl dX10_text_5 ?_
  refine lv_aload_n hx hb dX10_text_8 rfl (lv_at hl 0 rfl) ?_
  refine va_get (D := (dC, dI)) (ci := 10) (v := .ref tp) (C := RX10) (T := TX10) (N := 17) hx hb hts iX10 hown hK hP 0 rfl rfl 0 (by decide) (hts _ qw356) (fun _ h9 => h9) rfl dX10_text_9 ?_
  refine lv_aload_n hx hb dX10_text_12 rfl (lv_at hl 0 rfl) ?_
  refine va_get (D := (dC, dI)) (ci := 10) (v := .ref xC) (C := RX10) (T := TX10) (N := 17) hx hb hts iX10 hown hK hP 0 rfl rfl 3 (by decide) (hts _ qw359) (fun _ h9 => h9) rfl dX10_text_13 ?_
  have hPc := hP.sub (ws' := [(cr, .inr (2, [cr_tape, cr_court, .int hsr])), (tp, .inr (9, [.ref tB, .int tl, .int ta])), (tB, .inl (cI, 260, .inl fB)), (xC, .inr (1, [.ref xR, .ref xB, .ref xP, .int dnb, .int dnp])), (xR, .inl (cI, 3, .inl dfr)), (xB, .inl (cI, 24, .inl dfb)), (xP, .inl (cI, 20, .inl dfp))]) [1, 15, 16, 2, 3, 4, 5] rfl
  have hDc := hD.sub (ws' := [(cr, .inr (2, [cr_tape, cr_court, .int hsr])), (tp, .inr (9, [.ref tB, .int tl, .int ta])), (tB, .inl (cI, 260, .inl fB)), (xC, .inr (1, [.ref xR, .ref xB, .ref xP, .int dnb, .int dnp])), (xR, .inl (cI, 3, .inl dfr)), (xB, .inl (cI, 24, .inl dfb)), (xP, .inl (cI, 20, .inl dfp))]) [1, 15, 16, 2, 3, 4, 5] (by decide) rfl
  have hFc := va_free (wc := [(cr, .inr (2, [cr_tape, cr_court, .int hsr])), (tp, .inr (9, [.ref tB, .int tl, .int ta])), (tB, .inl (cI, 260, .inl fB)), (xC, .inr (1, [.ref xR, .ref xB, .ref xP, .int dnb, .int dnp])), (xR, .inl (cI, 3, .inl dfr)), (xB, .inl (cI, 24, .inl dfb)), (xP, .inl (cI, 20, .inl dfp))]) hD hS hA [1, 15, 16, 2, 3, 4, 5] rfl
  refine va_calli (va_runV (As := [.ref tp, .ref xC]) (rest := []) ⟨hx, hb, hml, hown, hts⟩ (g_X2_read l dC dI cI cJ cr tp xC cr_tape cr_court hsr tB tl ta fB xR xB xP dnb dnp dfr dfb dfp H.size y_hsr y_dnb y_dnp y_ta n_tl (hty)) (cwV 2 hts (zgV qw424 qw425 qw426 qw100 qw427) rfl rfl rfl hd_X2_read ⟨by rw [hR]; exact Nat.le_of_ble_eq_true rfl, by rw [hR]; exact Nat.le_of_ble_eq_true rfl⟩) (zPWV hPc hK hDc (va_recv (q := (RX2, TX2, 3)) hK hP (ci := 2) (q0 := 1) rfl rfl) (zV_call hV hS hFc)) rfl rfl hl.1 rfl (lv_room (Nat.le_of_ble_eq_true rfl)) dX10_text_16 ⟨Nat.zero_le _, Nat.zero_le _⟩) hS (fun q _ h => hFc q h) hFc (fun v16 u16 t H locs ht hvm hw hB hz1 hk1 hS => ?_)
  obtain ⟨u16_0, u16_1, u16_2, u16_3, u16_4, u16_5, u16_6⟩ := u16
  obtain ⟨hP1, hD1⟩ := hB
  rw [ht] at hP1
  obtain ⟨hP, hD⟩ := va_join (wr := [(h0, .inr (10, [.ref tp, .ref cr, .ref lr, .ref xC, .ref aC, h0_laws, .ref g0, .ref k0, .ref ac, .ref sd, .ref mi, .ref dw, .ref rf, .int lc, .int lh, .int br, .int hi])), (aC, .inr (1, [.ref aR, .ref aB, .ref aP, .int nb, .int np])), (aR, .inl (cI, 3, .inl fr)), (aB, .inl (cI, 24, .inl fb)), (aP, .inl (cI, 20, .inl fp)), (g0, .inr (7, [.ref gY, .ref gF, .ref gP, .int gpn, .int glt, .int gsh, .int gwd, .int gpu, .int gmo])), (gY, .inl (cI, 6, .inl gfY)), (gF, .inl (cI, 5, .inl gfF)), (gP, .inl (cI, 80, .inl gfP)), (ac, .inr (0, [.ref aW, .int pl, .int cn]))]) (w1 := [(cr, .inr (2, [.ref tp, .ref xC, .int u16_0])), (tp, .inr (9, [.ref tB, .int tl, .int u16_1])), (tB, .inl (cI, 260, .inl fB)), (xC, .inr (1, [.ref xR, .ref xB, .ref xP, .int u16_2, .int u16_3])), (xR, .inl (cI, 3, .inl u16_4)), (xB, .inl (cI, 24, .inl u16_5)), (xP, .inl (cI, 20, .inl u16_6))]) hP hD [1, 15, 16, 2, 3, 4, 5] [0, 6, 7, 8, 9, 10, 11, 12, 13, 14] rfl rfl (by decide) (by decide) hk1 hFc hP1 hD1
  have hP : va_P (dC, dI) vwCl [(h0, .inr (10, [.ref tp, .ref cr, .ref lr, .ref xC, .ref aC, h0_laws, .ref g0, .ref k0, .ref ac, .ref sd, .ref mi, .ref dw, .ref rf, .int lc, .int lh, .int br, .int hi])), (cr, .inr (2, [.ref tp, .ref xC, .int u16_0])), (xC, .inr (1, [.ref xR, .ref xB, .ref xP, .int u16_2, .int u16_3])), (xR, .inl (cI, 3, .inl u16_4)), (xB, .inl (cI, 24, .inl u16_5)), (xP, .inl (cI, 20, .inl u16_6)), (aC, .inr (1, [.ref aR, .ref aB, .ref aP, .int nb, .int np])), (aR, .inl (cI, 3, .inl fr)), (aB, .inl (cI, 24, .inl fb)), (aP, .inl (cI, 20, .inl fp)), (g0, .inr (7, [.ref gY, .ref gF, .ref gP, .int gpn, .int glt, .int gsh, .int gwd, .int gpu, .int gmo])), (gY, .inl (cI, 6, .inl gfY)), (gF, .inl (cI, 5, .inl gfF)), (gP, .inl (cI, 80, .inl gfP)), (ac, .inr (0, [.ref aW, .int pl, .int cn])), (tp, .inr (9, [.ref tB, .int tl, .int u16_1])), (tB, .inl (cI, 260, .inl fB))] H := hP.sub [0, 10, 13, 14, 15, 16, 1, 2, 3, 4, 5, 6, 7, 8, 9, 11, 12] rfl
  have hD : va_D A [(h0, .inr (10, [.ref tp, .ref cr, .ref lr, .ref xC, .ref aC, h0_laws, .ref g0, .ref k0, .ref ac, .ref sd, .ref mi, .ref dw, .ref rf, .int lc, .int lh, .int br, .int hi])), (cr, .inr (2, [.ref tp, .ref xC, .int u16_0])), (xC, .inr (1, [.ref xR, .ref xB, .ref xP, .int u16_2, .int u16_3])), (xR, .inl (cI, 3, .inl u16_4)), (xB, .inl (cI, 24, .inl u16_5)), (xP, .inl (cI, 20, .inl u16_6)), (aC, .inr (1, [.ref aR, .ref aB, .ref aP, .int nb, .int np])), (aR, .inl (cI, 3, .inl fr)), (aB, .inl (cI, 24, .inl fb)), (aP, .inl (cI, 20, .inl fp)), (g0, .inr (7, [.ref gY, .ref gF, .ref gP, .int gpn, .int glt, .int gsh, .int gwd, .int gpu, .int gmo])), (gY, .inl (cI, 6, .inl gfY)), (gF, .inl (cI, 5, .inl gfF)), (gP, .inl (cI, 80, .inl gfP)), (ac, .inr (0, [.ref aW, .int pl, .int cn])), (tp, .inr (9, [.ref tB, .int tl, .int u16_1])), (tB, .inl (cI, 260, .inl fB))] := hD.sub [0, 10, 13, 14, 15, 16, 1, 2, 3, 4, 5, 6, 7, 8, 9, 11, 12] (by decide) rfl
  obtain ⟨f16_0, f16_1, f16_2, f16_3, f16_4, f16_5, f16_6, f16_7, f16_8, f16_9, f16_10, f16_11⟩ : ((-1) ≤ v16.toInt) ∧ (v16.toInt ≤ 240) ∧ (0 ≤ u16_0.toInt) ∧ (u16_0.toInt ≤ 1) ∧ (0 ≤ u16_1.toInt) ∧ (u16_1.toInt ≤ 240) ∧ (0 ≤ u16_2.toInt) ∧ (u16_2.toInt ≤ 6) ∧ (0 ≤ u16_3.toInt) ∧ (u16_3.toInt ≤ 5) ∧ (sCrt (sB fB tl.toInt) tl.toInt = (v16.toInt, u16_0.toInt, u16_2.toInt, u16_3.toInt)) ∧ (v16.toInt = -1 → zCn u16_4 u16_5 u16_6 u16_2.toInt u16_3.toInt (sCrtV (sB fB tl.toInt) tl.toInt)) := hw
  have F16 := f16_10
  have F16_1 : zHid (v16.toInt = -1 → zCn u16_4 u16_5 u16_6 u16_2.toInt u16_3.toInt (sCrtV (sB fB tl.toInt) tl.toInt)) := f16_11
  clear f16_11
  refine lv_iconst (v := (-1)) hx hb dX10_text_19 (by decide) ?_
  refine lv_icmp_ne (tgt := 28) hx hb dX10_text_20 (by decide) (fun c20 => ?_) (fun c20 => ?_)
  · have c20 : ¬ v16.toInt = (-1) := z6 rfl (by decide) c20
    refine lv_iload_n hx hb dX10_text_28 rfl (lv_at hl 1 rfl) ?_
    refine lv_iconst (v := 1) hx hb dX10_text_29 (by decide) ?_
    refine lv_icmp_ne (tgt := 61) hx hb dX10_text_30 (by decide) (fun _ => ?_) (fun c => absurd c (by decide))
    refine lv_iconst (v := (-1)) hx hb dX10_text_61 (by decide) ?_
    have zr0 : ((-1) : Int32).toInt = (-1) := by decide
    rw [hQ]
    exact W.iret (v := ((-1))) hx hb hr (fun t ht hW => ⟨⟨(-1), (hi, u16_0, u16_2, u16_3, u16_4, u16_5, u16_6, nb, np, fr, fb, fp, gpn, glt, gsh, gwd, gpu, gmo, gfY, gfF, cn, tl, u16_1), rfl, ⟨by (try dsimp only); omega, by (try dsimp only); omega, by (try dsimp only); omega, by (try dsimp only); omega, by (try dsimp only); omega, by (try dsimp only); omega, by (try dsimp only); omega, by (try dsimp only); omega, by (try dsimp only); omega, by (try dsimp only); omega, by (try dsimp only); omega, by (try dsimp only); omega, by (try dsimp only); omega, by (try dsimp only); omega, by (try dsimp only); omega, by (try dsimp only); omega, by (try dsimp only); omega, by (try dsimp only); omega, by (try dsimp only); omega, by (try dsimp only); omega, by (try dsimp only); omega, by (try dsimp only); omega, by (try dsimp only); omega, by (try dsimp only); omega, by (try dsimp only); exact ztx_n (by rw [F16]) (by decide) (by omega) (by decide) rfl, by (try dsimp only); exact zTxC_n (v := v16) (by rw [F16]) (by omega), by (try dsimp only); exact Or.inr ⟨by rw [F16]; (try dsimp only); omega, rfl⟩⟩, ⟨by rw [ht]; exact hP, hD⟩⟩, hS.F ht⟩) hS.2.2 dX10_text_62
  · have c20 : v16.toInt = (-1) := z5 rfl (by decide) c20
    refine lv_aload_n hx hb dX10_text_23 rfl (lv_at hl 0 rfl) ?_
    have hPc := hP.sub (ws' := [(h0, .inr (10, [.ref tp, .ref cr, .ref lr, .ref xC, .ref aC, h0_laws, .ref g0, .ref k0, .ref ac, .ref sd, .ref mi, .ref dw, .ref rf, .int lc, .int lh, .int br, .int hi])), (xC, .inr (1, [.ref xR, .ref xB, .ref xP, .int u16_2, .int u16_3])), (xR, .inl (cI, 3, .inl u16_4)), (xB, .inl (cI, 24, .inl u16_5)), (xP, .inl (cI, 20, .inl u16_6)), (aC, .inr (1, [.ref aR, .ref aB, .ref aP, .int nb, .int np])), (aR, .inl (cI, 3, .inl fr)), (aB, .inl (cI, 24, .inl fb)), (aP, .inl (cI, 20, .inl fp)), (g0, .inr (7, [.ref gY, .ref gF, .ref gP, .int gpn, .int glt, .int gsh, .int gwd, .int gpu, .int gmo])), (gY, .inl (cI, 6, .inl gfY)), (gF, .inl (cI, 5, .inl gfF)), (gP, .inl (cI, 80, .inl gfP)), (ac, .inr (0, [.ref aW, .int pl, .int cn])), (tp, .inr (9, [.ref tB, .int tl, .int u16_1]))]) [0, 2, 3, 4, 5, 6, 7, 8, 9, 10, 11, 12, 13, 14, 15] rfl
    have hDc := hD.sub (ws' := [(h0, .inr (10, [.ref tp, .ref cr, .ref lr, .ref xC, .ref aC, h0_laws, .ref g0, .ref k0, .ref ac, .ref sd, .ref mi, .ref dw, .ref rf, .int lc, .int lh, .int br, .int hi])), (xC, .inr (1, [.ref xR, .ref xB, .ref xP, .int u16_2, .int u16_3])), (xR, .inl (cI, 3, .inl u16_4)), (xB, .inl (cI, 24, .inl u16_5)), (xP, .inl (cI, 20, .inl u16_6)), (aC, .inr (1, [.ref aR, .ref aB, .ref aP, .int nb, .int np])), (aR, .inl (cI, 3, .inl fr)), (aB, .inl (cI, 24, .inl fb)), (aP, .inl (cI, 20, .inl fp)), (g0, .inr (7, [.ref gY, .ref gF, .ref gP, .int gpn, .int glt, .int gsh, .int gwd, .int gpu, .int gmo])), (gY, .inl (cI, 6, .inl gfY)), (gF, .inl (cI, 5, .inl gfF)), (gP, .inl (cI, 80, .inl gfP)), (ac, .inr (0, [.ref aW, .int pl, .int cn])), (tp, .inr (9, [.ref tB, .int tl, .int u16_1]))]) [0, 2, 3, 4, 5, 6, 7, 8, 9, 10, 11, 12, 13, 14, 15] (by decide) rfl
    have hFc := va_free (wc := [(h0, .inr (10, [.ref tp, .ref cr, .ref lr, .ref xC, .ref aC, h0_laws, .ref g0, .ref k0, .ref ac, .ref sd, .ref mi, .ref dw, .ref rf, .int lc, .int lh, .int br, .int hi])), (xC, .inr (1, [.ref xR, .ref xB, .ref xP, .int u16_2, .int u16_3])), (xR, .inl (cI, 3, .inl u16_4)), (xB, .inl (cI, 24, .inl u16_5)), (xP, .inl (cI, 20, .inl u16_6)), (aC, .inr (1, [.ref aR, .ref aB, .ref aP, .int nb, .int np])), (aR, .inl (cI, 3, .inl fr)), (aB, .inl (cI, 24, .inl fb)), (aP, .inl (cI, 20, .inl fp)), (g0, .inr (7, [.ref gY, .ref gF, .ref gP, .int gpn, .int glt, .int gsh, .int gwd, .int gpu, .int gmo])), (gY, .inl (cI, 6, .inl gfY)), (gF, .inl (cI, 5, .inl gfF)), (gP, .inl (cI, 80, .inl gfP)), (ac, .inr (0, [.ref aW, .int pl, .int cn])), (tp, .inr (9, [.ref tB, .int tl, .int u16_1]))]) hD hS hA [0, 2, 3, 4, 5, 6, 7, 8, 9, 10, 11, 12, 13, 14, 15] rfl
    refine va_calli (va_runV (As := []) (rest := []) ⟨hx, hb, hml, hown, hts⟩ (g_X10_takeCourt l dC dI cI cJ h0 tp cr lr xC aC h0_laws g0 k0 ac sd mi dw rf lc lh br hi xR xB xP u16_2 u16_3 u16_4 u16_5 u16_6 aR aB aP nb np fr fb fp gY gF gP gpn glt gsh gwd gpu gmo gfY gfF gfP aW pl cn tB tl u16_1 H.size n_cn ⟨f16_6, f16_7⟩ ⟨f16_8, f16_9⟩ n_gpn n_gwd n_hi y_lc n_nb n_np y_pl ⟨f16_4, f16_5⟩ n_tl ci_gfP_zPo) (cwV 0 hts (zgV qw519 qw521 qw8 qw98 qw522) rfl rfl rfl hd_X10_takeCourt ⟨by rw [hR]; exact Nat.le_of_ble_eq_true rfl, by rw [hR]; exact Nat.le_of_ble_eq_true rfl⟩) (zPV hPc hK hDc (va_recv (q := (RX10, TX10, 17)) hK hP (ci := 10) (q0 := 0) rfl rfl)) rfl rfl hl.1 rfl (lv_room (Nat.le_of_ble_eq_true rfl)) dX10_text_24 ⟨Nat.zero_le _, Nat.zero_le _⟩) hS (fun q _ h => hFc q h) hFc (fun v24 u24 t H locs ht hvm hw hB hz1 hk1 hS => ?_)
    obtain ⟨u24_0, u24_1, u24_2, u24_3, u24_4, u24_5⟩ := u24
    obtain ⟨hP1, hD1⟩ := hB
    rw [ht] at hP1
    obtain ⟨hP, hD⟩ := va_join (wr := [(cr, .inr (2, [.ref tp, .ref xC, .int u16_0])), (tB, .inl (cI, 260, .inl fB))]) (w1 := [(h0, .inr (10, [.ref tp, .ref cr, .ref lr, .ref xC, .ref aC, h0_laws, .ref g0, .ref k0, .ref ac, .ref sd, .ref mi, .ref dw, .ref rf, .int lc, .int lh, .int br, .int 0])), (xC, .inr (1, [.ref xR, .ref xB, .ref xP, .int u16_2, .int u16_3])), (xR, .inl (cI, 3, .inl u16_4)), (xB, .inl (cI, 24, .inl u16_5)), (xP, .inl (cI, 20, .inl u16_6)), (aC, .inr (1, [.ref aR, .ref aB, .ref aP, .int u16_2, .int u16_3])), (aR, .inl (cI, 3, .inl u24_0)), (aB, .inl (cI, 24, .inl u24_1)), (aP, .inl (cI, 20, .inl u24_2)), (g0, .inr (7, [.ref gY, .ref gF, .ref gP, .int 0, .int 0, .int 0, .int (-1), .int u24_3, .int 0])), (gY, .inl (cI, 6, .inl u24_4)), (gF, .inl (cI, 5, .inl u24_5)), (gP, .inl (cI, 80, .inl gfP)), (ac, .inr (0, [.ref aW, .int pl, .int 0])), (tp, .inr (9, [.ref tB, .int 0, .int u16_1]))]) hP hD [0, 2, 3, 4, 5, 6, 7, 8, 9, 10, 11, 12, 13, 14, 15] [1, 16] rfl rfl (by decide) (by decide) hk1 hFc hP1 hD1
    have hP : va_P (dC, dI) vwCl [(h0, .inr (10, [.ref tp, .ref cr, .ref lr, .ref xC, .ref aC, h0_laws, .ref g0, .ref k0, .ref ac, .ref sd, .ref mi, .ref dw, .ref rf, .int lc, .int lh, .int br, .int 0])), (cr, .inr (2, [.ref tp, .ref xC, .int u16_0])), (xC, .inr (1, [.ref xR, .ref xB, .ref xP, .int u16_2, .int u16_3])), (xR, .inl (cI, 3, .inl u16_4)), (xB, .inl (cI, 24, .inl u16_5)), (xP, .inl (cI, 20, .inl u16_6)), (aC, .inr (1, [.ref aR, .ref aB, .ref aP, .int u16_2, .int u16_3])), (aR, .inl (cI, 3, .inl u24_0)), (aB, .inl (cI, 24, .inl u24_1)), (aP, .inl (cI, 20, .inl u24_2)), (g0, .inr (7, [.ref gY, .ref gF, .ref gP, .int 0, .int 0, .int 0, .int (-1), .int u24_3, .int 0])), (gY, .inl (cI, 6, .inl u24_4)), (gF, .inl (cI, 5, .inl u24_5)), (gP, .inl (cI, 80, .inl gfP)), (ac, .inr (0, [.ref aW, .int pl, .int 0])), (tp, .inr (9, [.ref tB, .int 0, .int u16_1])), (tB, .inl (cI, 260, .inl fB))] H := hP.sub [2, 0, 3, 4, 5, 6, 7, 8, 9, 10, 11, 12, 13, 14, 15, 16, 1] rfl
    have hD : va_D A [(h0, .inr (10, [.ref tp, .ref cr, .ref lr, .ref xC, .ref aC, h0_laws, .ref g0, .ref k0, .ref ac, .ref sd, .ref mi, .ref dw, .ref rf, .int lc, .int lh, .int br, .int 0])), (cr, .inr (2, [.ref tp, .ref xC, .int u16_0])), (xC, .inr (1, [.ref xR, .ref xB, .ref xP, .int u16_2, .int u16_3])), (xR, .inl (cI, 3, .inl u16_4)), (xB, .inl (cI, 24, .inl u16_5)), (xP, .inl (cI, 20, .inl u16_6)), (aC, .inr (1, [.ref aR, .ref aB, .ref aP, .int u16_2, .int u16_3])), (aR, .inl (cI, 3, .inl u24_0)), (aB, .inl (cI, 24, .inl u24_1)), (aP, .inl (cI, 20, .inl u24_2)), (g0, .inr (7, [.ref gY, .ref gF, .ref gP, .int 0, .int 0, .int 0, .int (-1), .int u24_3, .int 0])), (gY, .inl (cI, 6, .inl u24_4)), (gF, .inl (cI, 5, .inl u24_5)), (gP, .inl (cI, 80, .inl gfP)), (ac, .inr (0, [.ref aW, .int pl, .int 0])), (tp, .inr (9, [.ref tB, .int 0, .int u16_1])), (tB, .inl (cI, 260, .inl fB))] := hD.sub [2, 0, 3, 4, 5, 6, 7, 8, 9, 10, 11, 12, 13, 14, 15, 16, 1] (by decide) rfl
    obtain ⟨f24_0, f24_1, f24_2, f24_3, f24_4⟩ : (0 ≤ v24.toInt) ∧ (v24.toInt ≤ 6) ∧ (v24.toInt = u16_2.toInt) ∧ ((∀ j : Nat, j < 3 → u24_0 j = u16_4 j) ∧ (∀ j : Nat, j < 24 → u24_1 j = u16_5 j) ∧ ∀ j : Nat, j < 20 → u24_2 j = u16_6 j) ∧ ((∀ i : Nat, (i : Int) < u16_2.toInt → u24_4 i = u24_1 (4 * i + 3)) ∧ (∀ i : Nat, (i : Int) < u16_3.toInt → u24_5 i = u24_2 (4 * i + 2)) ∧ u24_3 = u24_0 0) := hw
    have F24 := f24_2
    have F24_1 := f24_3
    have F24_2 := f24_4
    have zr1 : (0 : Int32).toInt = 0 := by decide
    have zr7 : (0 : Int32).toInt = 0 := by decide
    have zr8 : (0 : Int32).toInt = 0 := by decide
    have zr9 : (0 : Int32).toInt = 0 := by decide
    have zr10 : ((-1) : Int32).toInt = (-1) := by decide
    have zr12 : (0 : Int32).toInt = 0 := by decide
    have zr13 : (0 : Int32).toInt = 0 := by decide
    have zr14 : (0 : Int32).toInt = 0 := by decide
    rw [hQ]
    exact W.iret (v := v24) hx hb hr (fun t ht hW => ⟨⟨v24, (0, u16_0, u16_2, u16_3, u16_4, u16_5, u16_6, u16_2, u16_3, u24_0, u24_1, u24_2, 0, 0, 0, (-1), u24_3, 0, u24_4, u24_5, 0, 0, u16_1), rfl, ⟨by (try dsimp only); omega, by (try dsimp only); omega, by (try dsimp only); omega, by (try dsimp only); omega, by (try dsimp only); omega, by (try dsimp only); omega, by (try dsimp only); omega, by (try dsimp only); omega, by (try dsimp only); omega, by (try dsimp only); omega, by (try dsimp only); omega, by (try dsimp only); omega, by (try dsimp only); omega, by (try dsimp only); omega, by (try dsimp only); omega, by (try dsimp only); omega, by (try dsimp only); omega, by (try dsimp only); omega, by (try dsimp only); omega, by (try dsimp only); omega, by (try dsimp only); omega, by (try dsimp only); omega, by (try dsimp only); omega, by (try dsimp only); omega, by (try dsimp only); exact ztx_c F16 (by decide) (by omega) (show (0 : Int32).toInt = 0 by decide) F24, by (try dsimp only); exact zTxC_c F16 (by decide) (by omega) (by omega) (by omega) F16_1 F24_1, by (try dsimp only); exact Or.inl ⟨by rw [F16]; (try dsimp only); omega, fun P => zSc_bg (zCn_eq (F16_1 (by omega)) F24_1.1 (fun j hj => F24_1.2.1 j (by omega)) (fun j hj => F24_1.2.2 j (by omega))) F24_2, rfl, rfl⟩⟩, ⟨by rw [ht]; exact hP, hD⟩⟩, hS.F ht⟩) hS.2.2 dX10_text_27
set_option maxHeartbeats 4000000 in
set_option maxRecDepth 100000 in
theorem g_X10_text_p (l : Launch) (dC : Nat → ClassId) (dI : Nat → Nat → Nat) (cI cJ : ClassId) (h0 : Nat) (p0 : Int32) (tp : Nat) (cr : Nat) (lr : Nat) (xC : Nat) (aC : Nat) (h0_laws : Value) (g0 : Nat) (k0 : Nat) (ac : Nat) (sd : Nat) (mi : Nat) (dw : Nat) (rf : Nat) (lc : Int32) (lh : Int32) (br : Int32) (hi : Int32) (sz : Nat) (n_hi : 0 ≤ hi.toInt ∧ hi.toInt ≤ 1) (n_lc : 0 ≤ lc.toInt ∧ lc.toInt ≤ 4) (n_p0 : 2 ≤ p0.toInt)    : Met l yX10_text (.code yX10_text cX10_text 2 (some .int) :: wA) ({ frames := 0, cells := 0, slots := 0, locals := 0 }) (zP (dC, dI) [(cI, .int), (cJ, .long)] [.ref h0, .int p0] sz [(h0, .inr (10, [.ref tp, .ref cr, .ref lr, .ref xC, .ref aC, h0_laws, .ref g0, .ref k0, .ref ac, .ref sd, .ref mi, .ref dw, .ref rf, .int lc, .int lh, .int br, .int hi]))]) (va_Qi (fun (r : Int32) (u : Unit) => r = (-1) ∧ True) (fun (_ : Unit) (_ : State) => True) (va_A [] sz)) 0 0 (va_A [] sz) := by
  refine Met.ofW (cc := cX10_text) (maxL := 2) (ret := (some .int)) (by decide) rfl ?_
  intro p e s m args below meth c s₁ B hml hv
  have y_hi : zHid (0 ≤ hi.toInt ∧ hi.toInt ≤ 1) := n_hi
  have y_lc : zHid (0 ≤ lc.toInt ∧ lc.toInt ≤ 4) := n_lc
  clear n_hi n_lc
  obtain ⟨hargs, hsz, hP, hK, hT⟩ := hv
  have hx := B.exec
  have hb := B.bytes
  have hr := B.returns
  have hts : ∀ w ∈ wA, w.before args s = true := fun w h => atoms_spec (ws := .code yX10_text cX10_text 2 (some .int) :: wA) B.pre w (List.mem_cons_of_mem _ h)
  have hown : s.vm.findClass RX10 = some m.cls := findClass_of_methodNamed B.named
  have hlocks := B.notSynchronized
  subst hsz
  have hD : va_D (va_A [] s.heap.size) [] := zD0
  generalize hAe : va_A [] s.heap.size = A at hD ⊢
  have hA : ∀ q : Nat, s.heap.size ≤ q → A q := fun q h => by rw [← hAe]; exact Or.inr h
  have hl := lv_entry ([.ref h0, .int p0]) (n := 2) (Nat.le_of_ble_eq_true rfl)
  rw [show entryFrame m args 2 = entryFrame m ([.ref h0, .int p0] : List Value).toArray 2 by rw [hargs], lg_entry_eq]
  generalize (lg_sl ([.ref h0, .int p0]) ++ List.replicate (2 - (lg_sl ([.ref h0, .int p0])).length) Slot.unset).toArray = ls at hl ⊢
  have hl : lv_has ls 2 [(0, .ref h0), (1, .int p0)] := hl
  refine zstart (fun H hH => ?_)
  rw [← hH] at hP
  have hS : va_S A s.heap H [] := by rw [hH]; exact va_S.rf
  generalize ([] : List Loc) = locs at hS ⊢
  refine zgen (fun R Q hR hQ => ?_)
  refine lv_iload_n hx hb dX10_text_0 rfl (lv_at hl 1 rfl) ?_
  refine lv_if_ne (tgt := 28) hx hb dX10_text_1 (by decide) (fun c1 => ?_) (fun c1 => by exfalso; have c1 : p0.toInt = 0 := z5 rfl (by decide) c1; omega)
  have c1 : ¬ p0.toInt = 0 := z6 rfl (by decide) c1
  refine lv_iload_n hx hb dX10_text_28 rfl (lv_at hl 1 rfl) ?_
  refine lv_iconst (v := 1) hx hb dX10_text_29 (by decide) ?_
  refine lv_icmp_ne (tgt := 61) hx hb dX10_text_30 (by decide) (fun c30 => ?_) (fun c30 => by exfalso; have c30 : p0.toInt = 1 := z5 rfl (by decide) c30; omega)
  have c30 : ¬ p0.toInt = 1 := z6 rfl (by decide) c30
  refine lv_iconst (v := (-1)) hx hb dX10_text_61 (by decide) ?_
  have zr0 : ((-1) : Int32).toInt = (-1) := by decide
  rw [hQ]
  exact W.iret (v := ((-1))) hx hb hr (fun t ht hW => ⟨⟨(-1), (), rfl, ⟨rfl, trivial⟩, trivial⟩, hS.F ht⟩) hS.2.2 dX10_text_62
set_option maxHeartbeats 4000000 in
set_option maxRecDepth 100000 in
theorem g_X10_text_m (l : Launch) (dC : Nat → ClassId) (dI : Nat → Nat → Nat) (cI cJ : ClassId) (h0 : Nat) (p0 : Int32) (tp : Nat) (cr : Nat) (lr : Nat) (xC : Nat) (aC : Nat) (h0_laws : Value) (g0 : Nat) (k0 : Nat) (ac : Nat) (sd : Nat) (mi : Nat) (dw : Nat) (rf : Nat) (lc : Int32) (lh : Int32) (br : Int32) (hi : Int32) (sz : Nat) (n_hi : 0 ≤ hi.toInt ∧ hi.toInt ≤ 1) (n_lc : 0 ≤ lc.toInt ∧ lc.toInt ≤ 4) (n_p0 : p0.toInt ≤ (-1))    : Met l yX10_text (.code yX10_text cX10_text 2 (some .int) :: wA) ({ frames := 0, cells := 0, slots := 0, locals := 0 }) (zP (dC, dI) [(cI, .int), (cJ, .long)] [.ref h0, .int p0] sz [(h0, .inr (10, [.ref tp, .ref cr, .ref lr, .ref xC, .ref aC, h0_laws, .ref g0, .ref k0, .ref ac, .ref sd, .ref mi, .ref dw, .ref rf, .int lc, .int lh, .int br, .int hi]))]) (va_Qi (fun (r : Int32) (u : Unit) => r = (-1) ∧ True) (fun (_ : Unit) (_ : State) => True) (va_A [] sz)) 0 0 (va_A [] sz) := by
  refine Met.ofW (cc := cX10_text) (maxL := 2) (ret := (some .int)) (by decide) rfl ?_
  intro p e s m args below meth c s₁ B hml hv
  have y_hi : zHid (0 ≤ hi.toInt ∧ hi.toInt ≤ 1) := n_hi
  have y_lc : zHid (0 ≤ lc.toInt ∧ lc.toInt ≤ 4) := n_lc
  clear n_hi n_lc
  obtain ⟨hargs, hsz, hP, hK, hT⟩ := hv
  have hx := B.exec
  have hb := B.bytes
  have hr := B.returns
  have hts : ∀ w ∈ wA, w.before args s = true := fun w h => atoms_spec (ws := .code yX10_text cX10_text 2 (some .int) :: wA) B.pre w (List.mem_cons_of_mem _ h)
  have hown : s.vm.findClass RX10 = some m.cls := findClass_of_methodNamed B.named
  have hlocks := B.notSynchronized
  subst hsz
  have hD : va_D (va_A [] s.heap.size) [] := zD0
  generalize hAe : va_A [] s.heap.size = A at hD ⊢
  have hA : ∀ q : Nat, s.heap.size ≤ q → A q := fun q h => by rw [← hAe]; exact Or.inr h
  have hl := lv_entry ([.ref h0, .int p0]) (n := 2) (Nat.le_of_ble_eq_true rfl)
  rw [show entryFrame m args 2 = entryFrame m ([.ref h0, .int p0] : List Value).toArray 2 by rw [hargs], lg_entry_eq]
  generalize (lg_sl ([.ref h0, .int p0]) ++ List.replicate (2 - (lg_sl ([.ref h0, .int p0])).length) Slot.unset).toArray = ls at hl ⊢
  have hl : lv_has ls 2 [(0, .ref h0), (1, .int p0)] := hl
  refine zstart (fun H hH => ?_)
  rw [← hH] at hP
  have hS : va_S A s.heap H [] := by rw [hH]; exact va_S.rf
  generalize ([] : List Loc) = locs at hS ⊢
  refine zgen (fun R Q hR hQ => ?_)
  refine lv_iload_n hx hb dX10_text_0 rfl (lv_at hl 1 rfl) ?_
  refine lv_if_ne (tgt := 28) hx hb dX10_text_1 (by decide) (fun c1 => ?_) (fun c1 => by exfalso; have c1 : p0.toInt = 0 := z5 rfl (by decide) c1; omega)
  have c1 : ¬ p0.toInt = 0 := z6 rfl (by decide) c1
  refine lv_iload_n hx hb dX10_text_28 rfl (lv_at hl 1 rfl) ?_
  refine lv_iconst (v := 1) hx hb dX10_text_29 (by decide) ?_
  refine lv_icmp_ne (tgt := 61) hx hb dX10_text_30 (by decide) (fun c30 => ?_) (fun c30 => by exfalso; have c30 : p0.toInt = 1 := z5 rfl (by decide) c30; omega)
  have c30 : ¬ p0.toInt = 1 := z6 rfl (by decide) c30
  refine lv_iconst (v := (-1)) hx hb dX10_text_61 (by decide) ?_
  have zr0 : ((-1) : Int32).toInt = (-1) := by decide
  rw [hQ]
  exact W.iret (v := ((-1))) hx hb hr (fun t ht hW => ⟨⟨(-1), (), rfl, ⟨rfl, trivial⟩, trivial⟩, hS.F ht⟩) hS.2.2 dX10_text_62
set_option maxHeartbeats 4000000 in
set_option maxRecDepth 100000 in
theorem g_X10_isDigit_f (l : Launch) (dC : Nat → ClassId) (dI : Nat → Nat → Nat) (cI cJ : ClassId) (p0 : Int32) (sz : Nat)     : Met l yX10_isDigit (.code yX10_isDigit cX10_isDigit 1 (some .boolean) :: wA) ({ frames := 0, cells := 0, slots := 0, locals := 0 }) (zP (dC, dI) [(cI, .int), (cJ, .long)] [.int p0] sz []) (va_Qi (fun (r : Int32) (u : Unit) => (0 ≤ r.toInt) ∧ (r.toInt ≤ 1) ∧ (¬ r.toInt = 0 → (0 ≤ p0.toInt ∧ p0.toInt ≤ 9)) ∧ (r.toInt = 0 → ¬ (0 ≤ p0.toInt ∧ p0.toInt ≤ 9))) (fun (_ : Unit) (_ : State) => True) (va_A [] sz)) 0 0 (va_A [] sz) := by
  refine Met.ofW (cc := cX10_isDigit) (maxL := 1) (ret := (some .boolean)) (by decide) rfl ?_
  intro p e s m args below meth c s₁ B hml hv
  obtain ⟨hargs, hsz, hP, hK, hT⟩ := hv
  have hx := B.exec
  have hb := B.bytes
  have hr := B.returns
  have hts : ∀ w ∈ wA, w.before args s = true := fun w h => atoms_spec (ws := .code yX10_isDigit cX10_isDigit 1 (some .boolean) :: wA) B.pre w (List.mem_cons_of_mem _ h)
  have hown : s.vm.findClass RX10 = some m.cls := findClass_of_methodNamed B.named
  have hlocks := B.notSynchronized
  subst hsz
  have hD : va_D (va_A [] s.heap.size) [] := zD0
  generalize hAe : va_A [] s.heap.size = A at hD ⊢
  have hA : ∀ q : Nat, s.heap.size ≤ q → A q := fun q h => by rw [← hAe]; exact Or.inr h
  have hl := lv_entry ([.int p0]) (n := 1) (Nat.le_of_ble_eq_true rfl)
  rw [show entryFrame m args 1 = entryFrame m ([.int p0] : List Value).toArray 1 by rw [hargs], lg_entry_eq]
  generalize (lg_sl ([.int p0]) ++ List.replicate (1 - (lg_sl ([.int p0])).length) Slot.unset).toArray = ls at hl ⊢
  have hl : lv_has ls 1 [(0, .int p0)] := hl
  refine zstart (fun H hH => ?_)
  rw [← hH] at hP
  have hS : va_S A s.heap H [] := by rw [hH]; exact va_S.rf
  generalize ([] : List Loc) = locs at hS ⊢
  refine zgen (fun R Q hR hQ => ?_)
  refine lv_iload_n hx hb dX10_isDigit_0 rfl (lv_at hl 0 rfl) ?_
  refine lv_if_lt (tgt := 14) hx hb dX10_isDigit_1 (by decide) (fun c1 => ?_) (fun c1 => ?_)
  · have c1 : p0.toInt < 0 := z1 rfl (by decide) c1
    refine lv_iconst (v := 0) hx hb dX10_isDigit_14 (by decide) ?_
    have zr0 : (0 : Int32).toInt = 0 := by decide
    rw [hQ]
    exact W.zret (v := 0) (ty := .boolean) hx hb hr rfl (fun t ht hW => ⟨⟨0, (), rfl, ⟨by (try dsimp only); omega, by (try dsimp only); omega, by (try dsimp only); omega, by (try dsimp only); omega⟩, trivial⟩, hS.F ht⟩) hS.2.2 dX10_isDigit_15
  · have c1 : 0 ≤ p0.toInt := z2 rfl (by decide) c1
    refine lv_iload_n hx hb dX10_isDigit_4 rfl (lv_at hl 0 rfl) ?_
    refine lv_bipush (v := 9) hx hb dX10_isDigit_5 (by decide) ?_
    refine lv_icmp_gt (tgt := 14) hx hb dX10_isDigit_7 (by decide) (fun c7 => ?_) (fun c7 => ?_)
    · have c7 : 9 < p0.toInt := z1 (by decide) rfl c7
      refine lv_iconst (v := 0) hx hb dX10_isDigit_14 (by decide) ?_
      have zr0 : (0 : Int32).toInt = 0 := by decide
      rw [hQ]
      exact W.zret (v := 0) (ty := .boolean) hx hb hr rfl (fun t ht hW => ⟨⟨0, (), rfl, ⟨by (try dsimp only); omega, by (try dsimp only); omega, by (try dsimp only); omega, by (try dsimp only); omega⟩, trivial⟩, hS.F ht⟩) hS.2.2 dX10_isDigit_15
    · have c7 : p0.toInt ≤ 9 := z2 (by decide) rfl c7
      refine lv_iconst (v := 1) hx hb dX10_isDigit_10 (by decide) ?_
      refine lv_goto (tgt := 15) hx hb dX10_isDigit_11 (by decide) ?_
      have zr0 : (1 : Int32).toInt = 1 := by decide
      rw [hQ]
      exact W.zret (v := 1) (ty := .boolean) hx hb hr rfl (fun t ht hW => ⟨⟨1, (), rfl, ⟨by (try dsimp only); omega, by (try dsimp only); omega, by (try dsimp only); omega, by (try dsimp only); omega⟩, trivial⟩, hS.F ht⟩) hS.2.2 dX10_isDigit_15
set_option maxHeartbeats 4000000 in
set_option maxRecDepth 100000 in
theorem g_X10_bribes_f (l : Launch) (dC : Nat → ClassId) (dI : Nat → Nat → Nat) (cI cJ : ClassId) (h0 : Nat) (p0 : Int32) (h0_tape : Value) (h0_courtReader : Value) (h0_lawReader : Value) (h0_draft : Value) (h0_court : Value) (h0_laws : Value) (h0_state : Value) (h0_kept : Value) (h0_acts : Value) (h0_studio : Value) (h0_mind : Value) (h0_draws : Value) (h0_refused : Value) (h0_lawCount : Value) (h0_lawThatHolds : Value) (br : Int32) (h0_hasImage : Value) (sz : Nat)     : Met l yX10_bribes (.code yX10_bribes cX10_bribes 2 (some .boolean) :: wA) ({ frames := 1, cells := 0, slots := 0, locals := 20 }) (zP (dC, dI) [(cI, .int), (cJ, .long)] [.ref h0, .int p0] sz [(h0, .inr (10, [h0_tape, h0_courtReader, h0_lawReader, h0_draft, h0_court, h0_laws, h0_state, h0_kept, h0_acts, h0_studio, h0_mind, h0_draws, h0_refused, h0_lawCount, h0_lawThatHolds, .int br, h0_hasImage]))]) (va_Qi (fun (r : Int32) (u : Int32) => (0 ≤ r.toInt) ∧ (r.toInt ≤ 1) ∧ ((0 ≤ p0.toInt ∧ p0.toInt ≤ 9 ∧ ¬ p0.toInt = br.toInt ∧ r.toInt = 1 ∧ u.toInt = p0.toInt) ∨ (¬ (0 ≤ p0.toInt ∧ p0.toInt ≤ 9 ∧ ¬ p0.toInt = br.toInt) ∧ r.toInt = 0 ∧ u.toInt = br.toInt))) (fun (u : Int32) (t : State) => va_P (dC, dI) vwCl [(h0, .inr (10, [h0_tape, h0_courtReader, h0_lawReader, h0_draft, h0_court, h0_laws, h0_state, h0_kept, h0_acts, h0_studio, h0_mind, h0_draws, h0_refused, h0_lawCount, h0_lawThatHolds, .int u, h0_hasImage]))] t.heap ∧ va_D (va_A [(h0, .inr (10, [h0_tape, h0_courtReader, h0_lawReader, h0_draft, h0_court, h0_laws, h0_state, h0_kept, h0_acts, h0_studio, h0_mind, h0_draws, h0_refused, h0_lawCount, h0_lawThatHolds, .int br, h0_hasImage]))] sz) [(h0, .inr (10, [h0_tape, h0_courtReader, h0_lawReader, h0_draft, h0_court, h0_laws, h0_state, h0_kept, h0_acts, h0_studio, h0_mind, h0_draws, h0_refused, h0_lawCount, h0_lawThatHolds, .int u, h0_hasImage]))]) (va_A [(h0, .inr (10, [h0_tape, h0_courtReader, h0_lawReader, h0_draft, h0_court, h0_laws, h0_state, h0_kept, h0_acts, h0_studio, h0_mind, h0_draws, h0_refused, h0_lawCount, h0_lawThatHolds, .int br, h0_hasImage]))] sz)) 0 0 (va_A [(h0, .inr (10, [h0_tape, h0_courtReader, h0_lawReader, h0_draft, h0_court, h0_laws, h0_state, h0_kept, h0_acts, h0_studio, h0_mind, h0_draws, h0_refused, h0_lawCount, h0_lawThatHolds, .int br, h0_hasImage]))] sz) := by
  refine Met.ofW (cc := cX10_bribes) (maxL := 2) (ret := (some .boolean)) (by decide) rfl ?_
  intro p e s m args below meth c s₁ B hml hv
  obtain ⟨hargs, hsz, hP, hK, hT⟩ := hv
  have hx := B.exec
  have hb := B.bytes
  have hr := B.returns
  have hts : ∀ w ∈ wA, w.before args s = true := fun w h => atoms_spec (ws := .code yX10_bribes cX10_bribes 2 (some .boolean) :: wA) B.pre w (List.mem_cons_of_mem _ h)
  have hown : s.vm.findClass RX10 = some m.cls := findClass_of_methodNamed B.named
  have hlocks := B.notSynchronized
  subst hsz
  have hD := hT.self (sz := s.heap.size)
  generalize hAe : va_A [(h0, .inr (10, [h0_tape, h0_courtReader, h0_lawReader, h0_draft, h0_court, h0_laws, h0_state, h0_kept, h0_acts, h0_studio, h0_mind, h0_draws, h0_refused, h0_lawCount, h0_lawThatHolds, .int br, h0_hasImage]))] s.heap.size = A at hD ⊢
  have hA : ∀ q : Nat, s.heap.size ≤ q → A q := fun q h => by rw [← hAe]; exact Or.inr h
  have hl := lv_entry ([.ref h0, .int p0]) (n := 2) (Nat.le_of_ble_eq_true rfl)
  rw [show entryFrame m args 2 = entryFrame m ([.ref h0, .int p0] : List Value).toArray 2 by rw [hargs], lg_entry_eq]
  generalize (lg_sl ([.ref h0, .int p0]) ++ List.replicate (2 - (lg_sl ([.ref h0, .int p0])).length) Slot.unset).toArray = ls at hl ⊢
  have hl : lv_has ls 2 [(0, .ref h0), (1, .int p0)] := hl
  refine zstart (fun H hH => ?_)
  rw [← hH] at hP
  have hS : va_S A s.heap H [] := by rw [hH]; exact va_S.rf
  generalize ([] : List Loc) = locs at hS ⊢
  refine zgen (fun R Q hR hQ => ?_)
  refine lv_iload_n hx hb dX10_bribes_0 rfl (lv_at hl 1 rfl) ?_
  have hPc : va_P (dC, dI) vwCl [] H := zP0
  have hDc : va_D (fun _ => True) [] := zD0
  have hFc := zfr hS hA
  refine va_calli (va_runS (As := [.int p0]) (rest := []) ⟨hx, hb, hml, hown, hts⟩ (g_X10_isDigit_f l dC dI cI cJ p0 H.size) (cwS 1 hts (zgS qw714 qw715 qw98 qw716) rfl rfl rfl hd_X10_isDigit ⟨by rw [hR]; exact Nat.le_of_ble_eq_true rfl, by rw [hR]; exact Nat.le_of_ble_eq_true rfl⟩) (zPS hPc hK hDc) rfl rfl hl.1 rfl (lv_room (Nat.le_of_ble_eq_true rfl)) dX10_bribes_1 ⟨Nat.zero_le _, Nat.zero_le _⟩) hS (fun q _ h => hFc q h) hFc (fun v1 u1 t H locs ht hvm hw hB hz1 hk1 hS => ?_)
  have hP := zkeep hP hk1
  obtain ⟨f1_0, f1_1, f1_2, f1_3⟩ : (0 ≤ v1.toInt) ∧ (v1.toInt ≤ 1) ∧ (¬ v1.toInt = 0 → (0 ≤ p0.toInt ∧ p0.toInt ≤ 9)) ∧ (v1.toInt = 0 → ¬ (0 ≤ p0.toInt ∧ p0.toInt ≤ 9)) := hw
  refine lv_if_eq (tgt := 15) hx hb dX10_bribes_4 (by decide) (fun c4 => ?_) (fun c4 => ?_)
  · have c4 : v1.toInt = 0 := z5 rfl (by decide) c4
    refine lv_iconst (v := 0) hx hb dX10_bribes_15 (by decide) ?_
    have zr0 : (0 : Int32).toInt = 0 := by decide
    rw [hQ]
    exact W.zret (v := 0) (ty := .boolean) hx hb hr rfl (fun t ht hW => ⟨⟨0, br, rfl, ⟨by (try dsimp only); omega, by (try dsimp only); omega, by (try dsimp only); omega⟩, ⟨by rw [ht]; exact hP, hD⟩⟩, hS.F ht⟩) hS.2.2 dX10_bribes_16
  · have c4 : ¬ v1.toInt = 0 := z6 rfl (by decide) c4
    refine lv_iload_n hx hb dX10_bribes_7 rfl (lv_at hl 1 rfl) ?_
    refine lv_aload_n hx hb dX10_bribes_8 rfl (lv_at hl 0 rfl) ?_
    refine va_get (D := (dC, dI)) (ci := 10) (v := .int br) (C := RX10) (T := TX10) (N := 17) hx hb hts iX10 hown hK hP 0 rfl rfl 15 (by decide) (hts _ qw371) (fun _ h9 => h9) rfl dX10_bribes_9 ?_
    refine lv_icmp_ne (tgt := 17) hx hb dX10_bribes_12 (by decide) (fun c12 => ?_) (fun c12 => ?_)
    · have c12 : ¬ p0.toInt = br.toInt := z6 rfl rfl c12
      refine lv_aload_n hx hb dX10_bribes_17 rfl (lv_at hl 0 rfl) ?_
      refine lv_iload_n hx hb dX10_bribes_18 rfl (lv_at hl 1 rfl) ?_
      refine va_put (D := (dC, dI)) (ci := 10) (v := .int p0) (ty := .int) (C := RX10) (T := TX10) (N := 17) hx hb hts iX10 tyX10 tyX10_ok nmX10 hown hK hP hD hS 0 rfl rfl 15 (by decide) (hts _ qw371) (fun _ h9 => h9) rfl (by decide +kernel) rfl rfl (Nat.le_of_ble_eq_true rfl) dX10_bribes_19 (fun H locs hP hD hS => ?_)
      have hP : va_P (dC, dI) vwCl [(h0, .inr (10, [h0_tape, h0_courtReader, h0_lawReader, h0_draft, h0_court, h0_laws, h0_state, h0_kept, h0_acts, h0_studio, h0_mind, h0_draws, h0_refused, h0_lawCount, h0_lawThatHolds, .int p0, h0_hasImage]))] H := hP
      have hD : va_D A [(h0, .inr (10, [h0_tape, h0_courtReader, h0_lawReader, h0_draft, h0_court, h0_laws, h0_state, h0_kept, h0_acts, h0_studio, h0_mind, h0_draws, h0_refused, h0_lawCount, h0_lawThatHolds, .int p0, h0_hasImage]))] := hD
      refine lv_iconst (v := 1) hx hb dX10_bribes_22 (by decide) ?_
      have zr0 : (1 : Int32).toInt = 1 := by decide
      rw [hQ]
      exact W.zret (v := 1) (ty := .boolean) hx hb hr rfl (fun t ht hW => ⟨⟨1, p0, rfl, ⟨by (try dsimp only); omega, by (try dsimp only); omega, by (try dsimp only); omega⟩, ⟨by rw [ht]; exact hP, hD⟩⟩, hS.F ht⟩) hS.2.2 dX10_bribes_23
    · have c12 : p0.toInt = br.toInt := z5 rfl rfl c12
      refine lv_iconst (v := 0) hx hb dX10_bribes_15 (by decide) ?_
      have zr0 : (0 : Int32).toInt = 0 := by decide
      rw [hQ]
      exact W.zret (v := 0) (ty := .boolean) hx hb hr rfl (fun t ht hW => ⟨⟨0, br, rfl, ⟨by (try dsimp only); omega, by (try dsimp only); omega, by (try dsimp only); omega⟩, ⟨by rw [ht]; exact hP, hD⟩⟩, hS.F ht⟩) hS.2.2 dX10_bribes_16
set_option maxHeartbeats 4000000 in
set_option maxRecDepth 100000 in
theorem g_X11_bribes_f (l : Launch) (dC : Nat → ClassId) (dI : Nat → Nat → Nat) (cI cJ : ClassId) (h0 : Nat) (p0 : Int32) (th : Int32) (tB : Nat) (tsz : Int32) (tat : Int32) (wr : Int32) (dp : Int32) (rC : Nat) (rV : Nat) (rD : Nat) (rK : Nat) (rT : Nat) (rS : Nat) (rU : Nat) (lw : Int32) (tx : Int32) (rL : Nat) (rX : Nat) (qR : Nat) (qB : Nat) (qP : Nat) (qnb : Int32) (qnp : Int32) (aR : Nat) (aB : Nat) (aP : Nat) (nb : Int32) (np : Int32) (aN : Nat) (rf : Nat) (ho : Int32) (br : Int32) (aK : Nat) (ac : Int32) (dw : Int64) (aE : Nat) (sr : Int32) (sf : Int32) (aA : Nat) (aH : Nat) (aI : Nat) (hi : Int32) (sz : Nat) (n_ac : 0 ≤ ac.toInt ∧ ac.toInt ≤ 40) (n_hi : 0 ≤ hi.toInt ∧ hi.toInt ≤ 1) (n_ho : (-1) ≤ ho.toInt ∧ ho.toInt ≤ 3) (n_lw : 0 ≤ lw.toInt ∧ lw.toInt ≤ 4) (n_nb : 0 ≤ nb.toInt ∧ nb.toInt ≤ 6) (n_np : 0 ≤ np.toInt ∧ np.toInt ≤ 5) (n_qnb : 0 ≤ qnb.toInt ∧ qnb.toInt ≤ 6) (n_qnp : 0 ≤ qnp.toInt ∧ qnp.toInt ≤ 5) (n_tat : 0 ≤ tat.toInt ∧ tat.toInt ≤ 260) (n_tsz : 0 ≤ tsz.toInt ∧ tsz.toInt ≤ 240) (n_wr : (-1) ≤ wr.toInt ∧ wr.toInt ≤ 260)    : Met l yX11_bribes (.code yX11_bribes cX11_bribes 2 (some .boolean) :: wA) ({ frames := 1, cells := 0, slots := 0, locals := 22 }) (zP (dC, dI) [(cI, .int), (cJ, .long)] [.ref h0, .int p0] sz [(h0, .inr (11, [.int th, .ref tB, .int tsz, .int tat, .int wr, .int dp, .ref rC, .ref rV, .ref rD, .ref rK, .ref rT, .ref rS, .ref rU, .int lw, .int tx, .ref rL, .ref rX, .ref qR, .ref qB, .ref qP, .int qnb, .int qnp, .ref aR, .ref aB, .ref aP, .int nb, .int np, .ref aN, .ref rf, .int ho, .int br, .ref aK, .int ac, .long dw, .ref aE, .int sr, .int sf, .ref aA, .ref aH, .ref aI, .int hi]))]) (va_Qi (fun (r : Int32) (u : Int32) => (0 ≤ r.toInt) ∧ (r.toInt ≤ 1) ∧ ((0 ≤ p0.toInt ∧ p0.toInt ≤ 9 ∧ ¬ p0.toInt = br.toInt ∧ r.toInt = 1 ∧ u.toInt = p0.toInt) ∨ (¬ (0 ≤ p0.toInt ∧ p0.toInt ≤ 9 ∧ ¬ p0.toInt = br.toInt) ∧ r.toInt = 0 ∧ u.toInt = br.toInt))) (fun (u : Int32) (t : State) => va_P (dC, dI) vwCl [(h0, .inr (11, [.int th, .ref tB, .int tsz, .int tat, .int wr, .int dp, .ref rC, .ref rV, .ref rD, .ref rK, .ref rT, .ref rS, .ref rU, .int lw, .int tx, .ref rL, .ref rX, .ref qR, .ref qB, .ref qP, .int qnb, .int qnp, .ref aR, .ref aB, .ref aP, .int nb, .int np, .ref aN, .ref rf, .int ho, .int u, .ref aK, .int ac, .long dw, .ref aE, .int sr, .int sf, .ref aA, .ref aH, .ref aI, .int hi]))] t.heap ∧ va_D (va_A [(h0, .inr (11, [.int th, .ref tB, .int tsz, .int tat, .int wr, .int dp, .ref rC, .ref rV, .ref rD, .ref rK, .ref rT, .ref rS, .ref rU, .int lw, .int tx, .ref rL, .ref rX, .ref qR, .ref qB, .ref qP, .int qnb, .int qnp, .ref aR, .ref aB, .ref aP, .int nb, .int np, .ref aN, .ref rf, .int ho, .int br, .ref aK, .int ac, .long dw, .ref aE, .int sr, .int sf, .ref aA, .ref aH, .ref aI, .int hi]))] sz) [(h0, .inr (11, [.int th, .ref tB, .int tsz, .int tat, .int wr, .int dp, .ref rC, .ref rV, .ref rD, .ref rK, .ref rT, .ref rS, .ref rU, .int lw, .int tx, .ref rL, .ref rX, .ref qR, .ref qB, .ref qP, .int qnb, .int qnp, .ref aR, .ref aB, .ref aP, .int nb, .int np, .ref aN, .ref rf, .int ho, .int u, .ref aK, .int ac, .long dw, .ref aE, .int sr, .int sf, .ref aA, .ref aH, .ref aI, .int hi]))]) (va_A [(h0, .inr (11, [.int th, .ref tB, .int tsz, .int tat, .int wr, .int dp, .ref rC, .ref rV, .ref rD, .ref rK, .ref rT, .ref rS, .ref rU, .int lw, .int tx, .ref rL, .ref rX, .ref qR, .ref qB, .ref qP, .int qnb, .int qnp, .ref aR, .ref aB, .ref aP, .int nb, .int np, .ref aN, .ref rf, .int ho, .int br, .ref aK, .int ac, .long dw, .ref aE, .int sr, .int sf, .ref aA, .ref aH, .ref aI, .int hi]))] sz)) 0 0 (va_A [(h0, .inr (11, [.int th, .ref tB, .int tsz, .int tat, .int wr, .int dp, .ref rC, .ref rV, .ref rD, .ref rK, .ref rT, .ref rS, .ref rU, .int lw, .int tx, .ref rL, .ref rX, .ref qR, .ref qB, .ref qP, .int qnb, .int qnp, .ref aR, .ref aB, .ref aP, .int nb, .int np, .ref aN, .ref rf, .int ho, .int br, .ref aK, .int ac, .long dw, .ref aE, .int sr, .int sf, .ref aA, .ref aH, .ref aI, .int hi]))] sz) := by
  refine Met.ofW (cc := cX11_bribes) (maxL := 2) (ret := (some .boolean)) (by decide) rfl ?_
  intro p e s m args below meth c s₁ B hml hv
  have y_ac : zHid (0 ≤ ac.toInt ∧ ac.toInt ≤ 40) := n_ac
  have y_hi : zHid (0 ≤ hi.toInt ∧ hi.toInt ≤ 1) := n_hi
  have y_ho : zHid ((-1) ≤ ho.toInt ∧ ho.toInt ≤ 3) := n_ho
  have y_lw : zHid (0 ≤ lw.toInt ∧ lw.toInt ≤ 4) := n_lw
  have y_nb : zHid (0 ≤ nb.toInt ∧ nb.toInt ≤ 6) := n_nb
  have y_np : zHid (0 ≤ np.toInt ∧ np.toInt ≤ 5) := n_np
  have y_qnb : zHid (0 ≤ qnb.toInt ∧ qnb.toInt ≤ 6) := n_qnb
  have y_qnp : zHid (0 ≤ qnp.toInt ∧ qnp.toInt ≤ 5) := n_qnp
  have y_tat : zHid (0 ≤ tat.toInt ∧ tat.toInt ≤ 260) := n_tat
  have y_tsz : zHid (0 ≤ tsz.toInt ∧ tsz.toInt ≤ 240) := n_tsz
  have y_wr : zHid ((-1) ≤ wr.toInt ∧ wr.toInt ≤ 260) := n_wr
  clear n_ac n_hi n_ho n_lw n_nb n_np n_qnb n_qnp n_tat n_tsz n_wr
  obtain ⟨hargs, hsz, hP, hK, hT⟩ := hv
  have hx := B.exec
  have hb := B.bytes
  have hr := B.returns
  have hts : ∀ w ∈ wA, w.before args s = true := fun w h => atoms_spec (ws := .code yX11_bribes cX11_bribes 2 (some .boolean) :: wA) B.pre w (List.mem_cons_of_mem _ h)
  have hown : s.vm.findClass RX11 = some m.cls := findClass_of_methodNamed B.named
  have hlocks := B.notSynchronized
  subst hsz
  have hD := hT.self (sz := s.heap.size)
  generalize hAe : va_A [(h0, .inr (11, [.int th, .ref tB, .int tsz, .int tat, .int wr, .int dp, .ref rC, .ref rV, .ref rD, .ref rK, .ref rT, .ref rS, .ref rU, .int lw, .int tx, .ref rL, .ref rX, .ref qR, .ref qB, .ref qP, .int qnb, .int qnp, .ref aR, .ref aB, .ref aP, .int nb, .int np, .ref aN, .ref rf, .int ho, .int br, .ref aK, .int ac, .long dw, .ref aE, .int sr, .int sf, .ref aA, .ref aH, .ref aI, .int hi]))] s.heap.size = A at hD ⊢
  have hA : ∀ q : Nat, s.heap.size ≤ q → A q := fun q h => by rw [← hAe]; exact Or.inr h
  have hl := lv_entry ([.ref h0, .int p0]) (n := 2) (Nat.le_of_ble_eq_true rfl)
  rw [show entryFrame m args 2 = entryFrame m ([.ref h0, .int p0] : List Value).toArray 2 by rw [hargs], lg_entry_eq]
  generalize (lg_sl ([.ref h0, .int p0]) ++ List.replicate (2 - (lg_sl ([.ref h0, .int p0])).length) Slot.unset).toArray = ls at hl ⊢
  have hl : lv_has ls 2 [(0, .ref h0), (1, .int p0)] := hl
  refine zstart (fun H hH => ?_)
  rw [← hH] at hP
  have hS : va_S A s.heap H [] := by rw [hH]; exact va_S.rf
  generalize ([] : List Loc) = locs at hS ⊢
  refine zgen (fun R Q hR hQ => ?_)
  refine lv_iload_n hx hb dX11_bribes_0 rfl (lv_at hl 1 rfl) ?_
  refine lv_iconst (v := 0) hx hb dX11_bribes_1 (by decide) ?_
  refine lv_bipush (v := 9) hx hb dX11_bribes_2 (by decide) ?_
  have hPc : va_P (dC, dI) vwCl [] H := zP0
  have hDc : va_D (fun _ => True) [] := zD0
  have hFc := zfr hS hA
  refine va_calli (va_runS (As := [.int p0, .int 0, .int 9]) (rest := []) ⟨hx, hb, hml, hown, hts⟩ (g_X11_in l dC dI cI cJ p0 0 9 H.size) (cwS 3 hts (zgS qw1305 qw1306 qw108 qw1307) rfl rfl rfl hd_X11_in ⟨by rw [hR]; exact Nat.le_of_ble_eq_true rfl, by rw [hR]; exact Nat.le_of_ble_eq_true rfl⟩) (zPS hPc hK hDc) rfl rfl hl.1 rfl (lv_room (Nat.le_of_ble_eq_true rfl)) dX11_bribes_4 ⟨Nat.zero_le _, Nat.zero_le _⟩) hS (fun q _ h => hFc q h) hFc (fun v4 u4 t H locs ht hvm hw hB hz1 hk1 hS => ?_)
  have hP := zkeep hP hk1
  have zn4_0 : (0 : Int32).toInt = 0 := by decide
  have zn4_9 : (9 : Int32).toInt = 9 := by decide
  obtain ⟨f4_0, f4_1, f4_2, f4_3⟩ : (0 ≤ v4.toInt) ∧ (v4.toInt ≤ 1) ∧ (¬ v4.toInt = 0 → ((0 : Int32).toInt ≤ p0.toInt ∧ p0.toInt ≤ (9 : Int32).toInt)) ∧ (v4.toInt = 0 → (p0.toInt < (0 : Int32).toInt ∨ (9 : Int32).toInt < p0.toInt)) := hw
  refine lv_if_eq (tgt := 18) hx hb dX11_bribes_7 (by decide) (fun c7 => ?_) (fun c7 => ?_)
  · have c7 : v4.toInt = 0 := z5 rfl (by decide) c7
    refine lv_iconst (v := 0) hx hb dX11_bribes_18 (by decide) ?_
    have zr0 : (0 : Int32).toInt = 0 := by decide
    rw [hQ]
    exact W.zret (v := 0) (ty := .boolean) hx hb hr rfl (fun t ht hW => ⟨⟨0, br, rfl, ⟨by (try dsimp only); omega, by (try dsimp only); omega, by (try dsimp only); omega⟩, ⟨by rw [ht]; exact hP, hD⟩⟩, hS.F ht⟩) hS.2.2 dX11_bribes_19
  · have c7 : ¬ v4.toInt = 0 := z6 rfl (by decide) c7
    refine lv_iload_n hx hb dX11_bribes_10 rfl (lv_at hl 1 rfl) ?_
    refine lv_aload_n hx hb dX11_bribes_11 rfl (lv_at hl 0 rfl) ?_
    refine va_get (D := (dC, dI)) (ci := 11) (v := .int br) (C := RX11) (T := TX11) (N := 41) hx hb hts iX11 hown hK hP 0 rfl rfl 30 (by decide) (hts _ qw1157) (fun _ h9 => h9) rfl dX11_bribes_12 ?_
    refine lv_icmp_ne (tgt := 20) hx hb dX11_bribes_15 (by decide) (fun c15 => ?_) (fun c15 => ?_)
    · have c15 : ¬ p0.toInt = br.toInt := z6 rfl rfl c15
      refine lv_aload_n hx hb dX11_bribes_20 rfl (lv_at hl 0 rfl) ?_
      refine lv_iload_n hx hb dX11_bribes_21 rfl (lv_at hl 1 rfl) ?_
      refine va_put (D := (dC, dI)) (ci := 11) (v := .int p0) (ty := .int) (C := RX11) (T := TX11) (N := 41) hx hb hts iX11 tyX11 tyX11_ok nmX11 hown hK hP hD hS 0 rfl rfl 30 (by decide) (hts _ qw1157) (fun _ h9 => h9) rfl (by decide +kernel) rfl rfl (Nat.le_of_ble_eq_true rfl) dX11_bribes_22 (fun H locs hP hD hS => ?_)
      have hP : va_P (dC, dI) vwCl [(h0, .inr (11, [.int th, .ref tB, .int tsz, .int tat, .int wr, .int dp, .ref rC, .ref rV, .ref rD, .ref rK, .ref rT, .ref rS, .ref rU, .int lw, .int tx, .ref rL, .ref rX, .ref qR, .ref qB, .ref qP, .int qnb, .int qnp, .ref aR, .ref aB, .ref aP, .int nb, .int np, .ref aN, .ref rf, .int ho, .int p0, .ref aK, .int ac, .long dw, .ref aE, .int sr, .int sf, .ref aA, .ref aH, .ref aI, .int hi]))] H := hP
      have hD : va_D A [(h0, .inr (11, [.int th, .ref tB, .int tsz, .int tat, .int wr, .int dp, .ref rC, .ref rV, .ref rD, .ref rK, .ref rT, .ref rS, .ref rU, .int lw, .int tx, .ref rL, .ref rX, .ref qR, .ref qB, .ref qP, .int qnb, .int qnp, .ref aR, .ref aB, .ref aP, .int nb, .int np, .ref aN, .ref rf, .int ho, .int p0, .ref aK, .int ac, .long dw, .ref aE, .int sr, .int sf, .ref aA, .ref aH, .ref aI, .int hi]))] := hD
      refine lv_iconst (v := 1) hx hb dX11_bribes_25 (by decide) ?_
      have zr0 : (1 : Int32).toInt = 1 := by decide
      rw [hQ]
      exact W.zret (v := 1) (ty := .boolean) hx hb hr rfl (fun t ht hW => ⟨⟨1, p0, rfl, ⟨by (try dsimp only); omega, by (try dsimp only); omega, by (try dsimp only); omega⟩, ⟨by rw [ht]; exact hP, hD⟩⟩, hS.F ht⟩) hS.2.2 dX11_bribes_26
    · have c15 : p0.toInt = br.toInt := z5 rfl rfl c15
      refine lv_iconst (v := 0) hx hb dX11_bribes_18 (by decide) ?_
      have zr0 : (0 : Int32).toInt = 0 := by decide
      rw [hQ]
      exact W.zret (v := 0) (ty := .boolean) hx hb hr rfl (fun t ht hW => ⟨⟨0, br, rfl, ⟨by (try dsimp only); omega, by (try dsimp only); omega, by (try dsimp only); omega⟩, ⟨by rw [ht]; exact hP, hD⟩⟩, hS.F ht⟩) hS.2.2 dX11_bribes_19
