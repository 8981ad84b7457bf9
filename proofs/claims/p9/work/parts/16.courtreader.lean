set_option maxHeartbeats 4000000 in
set_option maxRecDepth 100000 in
theorem g_X2_placeOf_s (l : Launch) (dC : Nat → ClassId) (dI : Nat → Nat → Nat) (cI cJ : ClassId) (p0 : Int32) (t1 : Nat) (sz : Nat)     : Met l yX2_placeOf (.code yX2_placeOf cX2_placeOf 3 (some .int) :: wA) ({ frames := 0, cells := 0, slots := 0, locals := 0 }) (zPX (dC, dI) [(cI, .int), (cJ, .long)] [.int p0, .ref t1] sz [] (va_A [] sz) [(1, .char, t1, 3)]) (va_Qi (fun (r : Int32) (u : Unit) => ((-1) ≤ r.toInt) ∧ (r.toInt ≤ 2) ∧ (0 ≤ r.toInt → 1 ≤ p0.toInt) ∧ (r = cIt 0 p0.toInt)) (fun (_ : Unit) (_ : State) => True) (va_A [] sz)) 0 0 (va_A [] sz) := by
  refine Met.ofW (cc := cX2_placeOf) (maxL := 3) (ret := (some .int)) (by decide) rfl ?_
  intro p e s m args below meth c s₁ B hml hv
  obtain ⟨⟨⟨hargs, hsz, hP, hK, hT⟩, hV⟩, hE⟩ := hv
  have hx := B.exec
  have hb := B.bytes
  have hr := B.returns
  have hts : ∀ w ∈ wA, w.before args s = true := fun w h => atoms_spec (ws := .code yX2_placeOf cX2_placeOf 3 (some .int) :: wA) B.pre w (List.mem_cons_of_mem _ h)
  have hown : s.vm.findClass RX2 = some m.cls := findClass_of_methodNamed B.named
  have hlocks := B.notSynchronized
  subst hsz
  have hD : va_D (va_A [] s.heap.size) [] := zD0
  generalize hAe : va_A [] s.heap.size = A at hD hV hE ⊢
  have hE_t1 : zTt 1 .char t1 3 A s := hE _ (List.mem_of_getElem? (i := 0) rfl)
  obtain ⟨tf_t1, ht_t1, hr_t1⟩ := hE_t1
  have hE_t1 : zTt 1 .char t1 3 A s := ⟨tf_t1, ht_t1, hr_t1⟩
  have hA : ∀ q : Nat, s.heap.size ≤ q → A q := fun q h => by rw [← hAe]; exact Or.inr h
  have hl := lv_entry ([.int p0, .ref t1]) (n := 3) (Nat.le_of_ble_eq_true rfl)
  rw [show entryFrame m args 3 = entryFrame m ([.int p0, .ref t1] : List Value).toArray 3 by rw [hargs], lg_entry_eq]
  generalize (lg_sl ([.int p0, .ref t1]) ++ List.replicate (3 - (lg_sl ([.int p0, .ref t1])).length) Slot.unset).toArray = ls at hl ⊢
  have hl : lv_has ls 3 [(0, .int p0), (1, .ref t1)] := hl
  refine zstart (fun H hH => ?_)
  rw [← hH] at hP
  have hS : va_S A s.heap H [] := by rw [hH]; exact va_S.rf
  generalize ([] : List Loc) = locs at hS ⊢
  refine zgen (fun R Q hR hQ => ?_)
  refine lv_iconst (v := 0) hx hb dX2_placeOf_0 (by decide) ?_
  have J2 : ∀ (n : Nat) (m2_L_2 : Int32), (0 ≤ m2_L_2.toInt ∧ m2_L_2.toInt ≤ 3) → (zNt 1 m2_L_2 p0) → (4 - m2_L_2.toInt).toNat = n → ∀ (H : Heap) (locs : List Loc) (ls : Array Slot), va_P (dC, dI) vwCl [] H → va_S A s.heap H locs → lv_has ls 3 [(2, .int m2_L_2), (0, .int p0), (1, .ref t1)] → W p l e R s m args below meth c H locs 0 0 Q (F0 m 2 ls []) := by
    intro n2
    induction n2 using Nat.strongRecOn with
    | _ n2 ih2 =>
      intro m2_L_2 jf2_0 jv2_0 hmu2 H locs ls hP hS hl
      refine lv_iload_n hx hb dX2_placeOf_2 rfl (lv_at hl 0 rfl) ?_
      refine lv_aload_n hx hb dX2_placeOf_3 rfl (lv_at hl 2 rfl) ?_
      refine va_tlen (v := 3) hx hb ht_t1 hS (by decide) dX2_placeOf_4 ?_
      refine lv_icmp_ge (tgt := 23) hx hb dX2_placeOf_5 (by decide) (fun c5 => ?_) (fun c5 => ?_)
      · have c5 : 3 ≤ m2_L_2.toInt := z3 (by decide) rfl c5
        refine lv_iconst (v := (-1)) hx hb dX2_placeOf_23 (by decide) ?_
        have zr0 : ((-1) : Int32).toInt = (-1) := by decide
        rw [hQ]
        exact W.iret (v := ((-1))) hx hb hr (fun t ht hW => ⟨⟨(-1), (), rfl, ⟨by (try dsimp only); omega, by (try dsimp only); omega, by (try dsimp only); omega, zpn1 jv2_0 (by omega)⟩, trivial⟩, hS.F ht⟩) hS.2.2 dX2_placeOf_24
      · have c5 : m2_L_2.toInt < 3 := z4 (by decide) rfl c5
        refine lv_aload_n hx hb dX2_placeOf_8 rfl (lv_at hl 2 rfl) ?_
        refine lv_iload_n hx hb dX2_placeOf_9 rfl (lv_at hl 0 rfl) ?_
        refine va_tc hx hb ht_t1 hS (vp_in_iff.mpr ⟨by omega, by omega⟩) rfl dX2_placeOf_10 ?_
        refine lv_topi (fun v10 e10 => ?_)
        have i10 : 100 ≤ v10.toInt ∧ v10.toInt ≤ 112 := ztl (t := 1) (lo := 100) (hi := 112) hr_t1 (by decide) e10 (by omega) (by omega)
        have x10 := ztx (t := 1) hr_t1 e10 (by omega) (by omega)
        refine lv_iload_n hx hb dX2_placeOf_11 rfl (lv_at hl 1 rfl) ?_
        refine lv_icmp_ne (tgt := 17) hx hb dX2_placeOf_12 (by decide) (fun c12 => ?_) (fun c12 => ?_)
        · have c12 : ¬ v10.toInt = p0.toInt := z6 rfl rfl c12
          obtain ⟨v17, e17⟩ : ∃ y : Int32, y = m2_L_2 + Int32.ofInt (1) := ⟨_, rfl⟩
          refine lv_iinc (v := v17) (lv' := [(2, .int v17), (0, .int p0), (1, .ref t1)]) hx hb dX2_placeOf_17 hl (k := 0) rfl e17.symm (by decide) rfl (fun ls hl => ?_)
          have i17 : v17.toInt = m2_L_2.toInt + 1 := zaddI e17 (by decide) (by omega) (by omega)
          refine lv_goto (tgt := 2) hx hb dX2_placeOf_20 (by decide) ?_
          exact ih2 _ (by omega) v17 (by omega) (zNtS jv2_0 x10 (by omega) (by omega) i17) rfl H locs ls hP hS (lv_sub hl [0, 1, 2] rfl)
        · have c12 : v10.toInt = p0.toInt := z5 rfl rfl c12
          refine lv_iload_n hx hb dX2_placeOf_15 rfl (lv_at hl 0 rfl) ?_
          rw [hQ]
          exact W.iret (v := m2_L_2) hx hb hr (fun t ht hW => ⟨⟨m2_L_2, (), rfl, ⟨by (try dsimp only); omega, by (try dsimp only); omega, by (try dsimp only); omega, zpl1 x10 (by omega) (by omega) (by omega)⟩, trivial⟩, hS.F ht⟩) hS.2.2 dX2_placeOf_16
  refine lv_istore_n (lv' := [(2, .int 0), (0, .int p0), (1, .ref t1)]) hx hb dX2_placeOf_1 rfl hl (by decide) rfl (fun ls hl => ?_)
  have zj2_m2_L_2 : (0 : Int32).toInt = 0 := by decide
  exact J2 _ 0 (by decide) (zNt0) rfl H locs ls hP hS (lv_sub hl [0, 1, 2] rfl)
set_option maxHeartbeats 4000000 in
set_option maxRecDepth 100000 in
theorem g_X2_placeOf_b (l : Launch) (dC : Nat → ClassId) (dI : Nat → Nat → Nat) (cI cJ : ClassId) (p0 : Int32) (t1 : Nat) (sz : Nat)     : Met l yX2_placeOf (.code yX2_placeOf cX2_placeOf 3 (some .int) :: wA) ({ frames := 0, cells := 0, slots := 0, locals := 0 }) (zPX (dC, dI) [(cI, .int), (cJ, .long)] [.int p0, .ref t1] sz [] (va_A [] sz) [(4, .char, t1, 4)]) (va_Qi (fun (r : Int32) (u : Unit) => ((-1) ≤ r.toInt) ∧ (r.toInt ≤ 3) ∧ (0 ≤ r.toInt → 1 ≤ p0.toInt) ∧ (r = cIt 1 p0.toInt)) (fun (_ : Unit) (_ : State) => True) (va_A [] sz)) 0 0 (va_A [] sz) := by
  refine Met.ofW (cc := cX2_placeOf) (maxL := 3) (ret := (some .int)) (by decide) rfl ?_
  intro p e s m args below meth c s₁ B hml hv
  obtain ⟨⟨⟨hargs, hsz, hP, hK, hT⟩, hV⟩, hE⟩ := hv
  have hx := B.exec
  have hb := B.bytes
  have hr := B.returns
  have hts : ∀ w ∈ wA, w.before args s = true := fun w h => atoms_spec (ws := .code yX2_placeOf cX2_placeOf 3 (some .int) :: wA) B.pre w (List.mem_cons_of_mem _ h)
  have hown : s.vm.findClass RX2 = some m.cls := findClass_of_methodNamed B.named
  have hlocks := B.notSynchronized
  subst hsz
  have hD : va_D (va_A [] s.heap.size) [] := zD0
  generalize hAe : va_A [] s.heap.size = A at hD hV hE ⊢
  have hE_t1 : zTt 4 .char t1 4 A s := hE _ (List.mem_of_getElem? (i := 0) rfl)
  obtain ⟨tf_t1, ht_t1, hr_t1⟩ := hE_t1
  have hE_t1 : zTt 4 .char t1 4 A s := ⟨tf_t1, ht_t1, hr_t1⟩
  have hA : ∀ q : Nat, s.heap.size ≤ q → A q := fun q h => by rw [← hAe]; exact Or.inr h
  have hl := lv_entry ([.int p0, .ref t1]) (n := 3) (Nat.le_of_ble_eq_true rfl)
  rw [show entryFrame m args 3 = entryFrame m ([.int p0, .ref t1] : List Value).toArray 3 by rw [hargs], lg_entry_eq]
  generalize (lg_sl ([.int p0, .ref t1]) ++ List.replicate (3 - (lg_sl ([.int p0, .ref t1])).length) Slot.unset).toArray = ls at hl ⊢
  have hl : lv_has ls 3 [(0, .int p0), (1, .ref t1)] := hl
  refine zstart (fun H hH => ?_)
  rw [← hH] at hP
  have hS : va_S A s.heap H [] := by rw [hH]; exact va_S.rf
  generalize ([] : List Loc) = locs at hS ⊢
  refine zgen (fun R Q hR hQ => ?_)
  refine lv_iconst (v := 0) hx hb dX2_placeOf_0 (by decide) ?_
  have J2 : ∀ (n : Nat) (m2_L_2 : Int32), (0 ≤ m2_L_2.toInt ∧ m2_L_2.toInt ≤ 4) → (zNt 4 m2_L_2 p0) → (5 - m2_L_2.toInt).toNat = n → ∀ (H : Heap) (locs : List Loc) (ls : Array Slot), va_P (dC, dI) vwCl [] H → va_S A s.heap H locs → lv_has ls 3 [(2, .int m2_L_2), (0, .int p0), (1, .ref t1)] → W p l e R s m args below meth c H locs 0 0 Q (F0 m 2 ls []) := by
    intro n2
    induction n2 using Nat.strongRecOn with
    | _ n2 ih2 =>
      intro m2_L_2 jf2_0 jv2_0 hmu2 H locs ls hP hS hl
      refine lv_iload_n hx hb dX2_placeOf_2 rfl (lv_at hl 0 rfl) ?_
      refine lv_aload_n hx hb dX2_placeOf_3 rfl (lv_at hl 2 rfl) ?_
      refine va_tlen (v := 4) hx hb ht_t1 hS (by decide) dX2_placeOf_4 ?_
      refine lv_icmp_ge (tgt := 23) hx hb dX2_placeOf_5 (by decide) (fun c5 => ?_) (fun c5 => ?_)
      · have c5 : 4 ≤ m2_L_2.toInt := z3 (by decide) rfl c5
        refine lv_iconst (v := (-1)) hx hb dX2_placeOf_23 (by decide) ?_
        have zr0 : ((-1) : Int32).toInt = (-1) := by decide
        rw [hQ]
        exact W.iret (v := ((-1))) hx hb hr (fun t ht hW => ⟨⟨(-1), (), rfl, ⟨by (try dsimp only); omega, by (try dsimp only); omega, by (try dsimp only); omega, zpn4 jv2_0 (by omega)⟩, trivial⟩, hS.F ht⟩) hS.2.2 dX2_placeOf_24
      · have c5 : m2_L_2.toInt < 4 := z4 (by decide) rfl c5
        refine lv_aload_n hx hb dX2_placeOf_8 rfl (lv_at hl 2 rfl) ?_
        refine lv_iload_n hx hb dX2_placeOf_9 rfl (lv_at hl 0 rfl) ?_
        refine va_tc hx hb ht_t1 hS (vp_in_iff.mpr ⟨by omega, by omega⟩) rfl dX2_placeOf_10 ?_
        refine lv_topi (fun v10 e10 => ?_)
        have i10 : 100 ≤ v10.toInt ∧ v10.toInt ≤ 121 := ztl (t := 4) (lo := 100) (hi := 121) hr_t1 (by decide) e10 (by omega) (by omega)
        have x10 := ztx (t := 4) hr_t1 e10 (by omega) (by omega)
        refine lv_iload_n hx hb dX2_placeOf_11 rfl (lv_at hl 1 rfl) ?_
        refine lv_icmp_ne (tgt := 17) hx hb dX2_placeOf_12 (by decide) (fun c12 => ?_) (fun c12 => ?_)
        · have c12 : ¬ v10.toInt = p0.toInt := z6 rfl rfl c12
          obtain ⟨v17, e17⟩ : ∃ y : Int32, y = m2_L_2 + Int32.ofInt (1) := ⟨_, rfl⟩
          refine lv_iinc (v := v17) (lv' := [(2, .int v17), (0, .int p0), (1, .ref t1)]) hx hb dX2_placeOf_17 hl (k := 0) rfl e17.symm (by decide) rfl (fun ls hl => ?_)
          have i17 : v17.toInt = m2_L_2.toInt + 1 := zaddI e17 (by decide) (by omega) (by omega)
          refine lv_goto (tgt := 2) hx hb dX2_placeOf_20 (by decide) ?_
          exact ih2 _ (by omega) v17 (by omega) (zNtS jv2_0 x10 (by omega) (by omega) i17) rfl H locs ls hP hS (lv_sub hl [0, 1, 2] rfl)
        · have c12 : v10.toInt = p0.toInt := z5 rfl rfl c12
          refine lv_iload_n hx hb dX2_placeOf_15 rfl (lv_at hl 0 rfl) ?_
          rw [hQ]
          exact W.iret (v := m2_L_2) hx hb hr (fun t ht hW => ⟨⟨m2_L_2, (), rfl, ⟨by (try dsimp only); omega, by (try dsimp only); omega, by (try dsimp only); omega, zpl4 x10 (by omega) (by omega) (by omega)⟩, trivial⟩, hS.F ht⟩) hS.2.2 dX2_placeOf_16
  refine lv_istore_n (lv' := [(2, .int 0), (0, .int p0), (1, .ref t1)]) hx hb dX2_placeOf_1 rfl hl (by decide) rfl (fun ls hl => ?_)
  have zj2_m2_L_2 : (0 : Int32).toInt = 0 := by decide
  exact J2 _ 0 (by decide) (zNt0) rfl H locs ls hP hS (lv_sub hl [0, 1, 2] rfl)
set_option maxHeartbeats 4000000 in
set_option maxRecDepth 100000 in
theorem g_X2_placeOf_p (l : Launch) (dC : Nat → ClassId) (dI : Nat → Nat → Nat) (cI cJ : ClassId) (p0 : Int32) (t1 : Nat) (sz : Nat)     : Met l yX2_placeOf (.code yX2_placeOf cX2_placeOf 3 (some .int) :: wA) ({ frames := 0, cells := 0, slots := 0, locals := 0 }) (zPX (dC, dI) [(cI, .int), (cJ, .long)] [.int p0, .ref t1] sz [] (va_A [] sz) [(7, .char, t1, 4)]) (va_Qi (fun (r : Int32) (u : Unit) => ((-1) ≤ r.toInt) ∧ (r.toInt ≤ 3) ∧ (0 ≤ r.toInt → 1 ≤ p0.toInt) ∧ (r = cIt 2 p0.toInt)) (fun (_ : Unit) (_ : State) => True) (va_A [] sz)) 0 0 (va_A [] sz) := by
  refine Met.ofW (cc := cX2_placeOf) (maxL := 3) (ret := (some .int)) (by decide) rfl ?_
  intro p e s m args below meth c s₁ B hml hv
  obtain ⟨⟨⟨hargs, hsz, hP, hK, hT⟩, hV⟩, hE⟩ := hv
  have hx := B.exec
  have hb := B.bytes
  have hr := B.returns
  have hts : ∀ w ∈ wA, w.before args s = true := fun w h => atoms_spec (ws := .code yX2_placeOf cX2_placeOf 3 (some .int) :: wA) B.pre w (List.mem_cons_of_mem _ h)
  have hown : s.vm.findClass RX2 = some m.cls := findClass_of_methodNamed B.named
  have hlocks := B.notSynchronized
  subst hsz
  have hD : va_D (va_A [] s.heap.size) [] := zD0
  generalize hAe : va_A [] s.heap.size = A at hD hV hE ⊢
  have hE_t1 : zTt 7 .char t1 4 A s := hE _ (List.mem_of_getElem? (i := 0) rfl)
  obtain ⟨tf_t1, ht_t1, hr_t1⟩ := hE_t1
  have hE_t1 : zTt 7 .char t1 4 A s := ⟨tf_t1, ht_t1, hr_t1⟩
  have hA : ∀ q : Nat, s.heap.size ≤ q → A q := fun q h => by rw [← hAe]; exact Or.inr h
  have hl := lv_entry ([.int p0, .ref t1]) (n := 3) (Nat.le_of_ble_eq_true rfl)
  rw [show entryFrame m args 3 = entryFrame m ([.int p0, .ref t1] : List Value).toArray 3 by rw [hargs], lg_entry_eq]
  generalize (lg_sl ([.int p0, .ref t1]) ++ List.replicate (3 - (lg_sl ([.int p0, .ref t1])).length) Slot.unset).toArray = ls at hl ⊢
  have hl : lv_has ls 3 [(0, .int p0), (1, .ref t1)] := hl
  refine zstart (fun H hH => ?_)
  rw [← hH] at hP
  have hS : va_S A s.heap H [] := by rw [hH]; exact va_S.rf
  generalize ([] : List Loc) = locs at hS ⊢
  refine zgen (fun R Q hR hQ => ?_)
  refine lv_iconst (v := 0) hx hb dX2_placeOf_0 (by decide) ?_
  have J2 : ∀ (n : Nat) (m2_L_2 : Int32), (0 ≤ m2_L_2.toInt ∧ m2_L_2.toInt ≤ 4) → (zNt 7 m2_L_2 p0) → (5 - m2_L_2.toInt).toNat = n → ∀ (H : Heap) (locs : List Loc) (ls : Array Slot), va_P (dC, dI) vwCl [] H → va_S A s.heap H locs → lv_has ls 3 [(2, .int m2_L_2), (0, .int p0), (1, .ref t1)] → W p l e R s m args below meth c H locs 0 0 Q (F0 m 2 ls []) := by
    intro n2
    induction n2 using Nat.strongRecOn with
    | _ n2 ih2 =>
      intro m2_L_2 jf2_0 jv2_0 hmu2 H locs ls hP hS hl
      refine lv_iload_n hx hb dX2_placeOf_2 rfl (lv_at hl 0 rfl) ?_
      refine lv_aload_n hx hb dX2_placeOf_3 rfl (lv_at hl 2 rfl) ?_
      refine va_tlen (v := 4) hx hb ht_t1 hS (by decide) dX2_placeOf_4 ?_
      refine lv_icmp_ge (tgt := 23) hx hb dX2_placeOf_5 (by decide) (fun c5 => ?_) (fun c5 => ?_)
      · have c5 : 4 ≤ m2_L_2.toInt := z3 (by decide) rfl c5
        refine lv_iconst (v := (-1)) hx hb dX2_placeOf_23 (by decide) ?_
        have zr0 : ((-1) : Int32).toInt = (-1) := by decide
        rw [hQ]
        exact W.iret (v := ((-1))) hx hb hr (fun t ht hW => ⟨⟨(-1), (), rfl, ⟨by (try dsimp only); omega, by (try dsimp only); omega, by (try dsimp only); omega, zpn7 jv2_0 (by omega)⟩, trivial⟩, hS.F ht⟩) hS.2.2 dX2_placeOf_24
      · have c5 : m2_L_2.toInt < 4 := z4 (by decide) rfl c5
        refine lv_aload_n hx hb dX2_placeOf_8 rfl (lv_at hl 2 rfl) ?_
        refine lv_iload_n hx hb dX2_placeOf_9 rfl (lv_at hl 0 rfl) ?_
        refine va_tc hx hb ht_t1 hS (vp_in_iff.mpr ⟨by omega, by omega⟩) rfl dX2_placeOf_10 ?_
        refine lv_topi (fun v10 e10 => ?_)
        have i10 : 97 ≤ v10.toInt ∧ v10.toInt ≤ 115 := ztl (t := 7) (lo := 97) (hi := 115) hr_t1 (by decide) e10 (by omega) (by omega)
        have x10 := ztx (t := 7) hr_t1 e10 (by omega) (by omega)
        refine lv_iload_n hx hb dX2_placeOf_11 rfl (lv_at hl 1 rfl) ?_
        refine lv_icmp_ne (tgt := 17) hx hb dX2_placeOf_12 (by decide) (fun c12 => ?_) (fun c12 => ?_)
        · have c12 : ¬ v10.toInt = p0.toInt := z6 rfl rfl c12
          obtain ⟨v17, e17⟩ : ∃ y : Int32, y = m2_L_2 + Int32.ofInt (1) := ⟨_, rfl⟩
          refine lv_iinc (v := v17) (lv' := [(2, .int v17), (0, .int p0), (1, .ref t1)]) hx hb dX2_placeOf_17 hl (k := 0) rfl e17.symm (by decide) rfl (fun ls hl => ?_)
          have i17 : v17.toInt = m2_L_2.toInt + 1 := zaddI e17 (by decide) (by omega) (by omega)
          refine lv_goto (tgt := 2) hx hb dX2_placeOf_20 (by decide) ?_
          exact ih2 _ (by omega) v17 (by omega) (zNtS jv2_0 x10 (by omega) (by omega) i17) rfl H locs ls hP hS (lv_sub hl [0, 1, 2] rfl)
        · have c12 : v10.toInt = p0.toInt := z5 rfl rfl c12
          refine lv_iload_n hx hb dX2_placeOf_15 rfl (lv_at hl 0 rfl) ?_
          rw [hQ]
          exact W.iret (v := m2_L_2) hx hb hr (fun t ht hW => ⟨⟨m2_L_2, (), rfl, ⟨by (try dsimp only); omega, by (try dsimp only); omega, by (try dsimp only); omega, zpl7 x10 (by omega) (by omega) (by omega)⟩, trivial⟩, hS.F ht⟩) hS.2.2 dX2_placeOf_16
  refine lv_istore_n (lv' := [(2, .int 0), (0, .int p0), (1, .ref t1)]) hx hb dX2_placeOf_1 rfl hl (by decide) rfl (fun ls hl => ?_)
  have zj2_m2_L_2 : (0 : Int32).toInt = 0 := by decide
  exact J2 _ 0 (by decide) (zNt0) rfl H locs ls hP hS (lv_sub hl [0, 1, 2] rfl)
set_option maxHeartbeats 4000000 in
set_option maxRecDepth 100000 in
theorem g_X2_items_s (l : Launch) (dC : Nat → ClassId) (dI : Nat → Nat → Nat) (cI cJ : ClassId) (h0 : Nat) (t1 : Nat) (t2 : Nat) (rw : Nat) (p3 : Int32) (tp : Nat) (aC : Nat) (hsr : Int32) (tB : Nat) (tl : Int32) (ta : Int32) (fB : Nat → Int32) (frw : Nat → Int32) (sz : Nat) (n_p3 : 0 ≤ p3.toInt ∧ p3.toInt ≤ 0) (n_ta : 0 ≤ ta.toInt ∧ ta.toInt ≤ 240) (n_tl : 0 ≤ tl.toInt ∧ tl.toInt ≤ 240) (hty : zTy tl fB)   : Met l yX2_items (.code yX2_items cX2_items 9 (some .boolean) :: wA) ({ frames := 1, cells := 0, slots := 0, locals := 24 }) (zPX (dC, dI) [(cI, .int), (cJ, .long)] [.ref h0, .ref t1, .ref t2, .ref rw, .int p3] sz [(h0, .inr (2, [.ref tp, .ref aC, .int hsr])), (tp, .inr (9, [.ref tB, .int tl, .int ta])), (tB, .inl (cI, 260, .inl fB)), (rw, .inl (cI, 3, .inl frw))] (va_A [(h0, .inr (2, [.ref tp, .ref aC, .int hsr])), (tp, .inr (9, [.ref tB, .int tl, .int ta])), (tB, .inl (cI, 260, .inl fB)), (rw, .inl (cI, 3, .inl frw))] sz) [(1, .char, t1, 3), (2, .int, t2, 3)]) (va_Qi (fun (r : Int32) (u : Int32 × (Nat → Int32)) => (0 ≤ r.toInt) ∧ (r.toInt ≤ 1) ∧ (0 ≤ u.1.toInt) ∧ (u.1.toInt ≤ 240) ∧ (ta.toInt ≤ u.1.toInt) ∧ (zFs fB tl (sIts (sB fB tl.toInt) tl.toInt 0 0 ta.toInt) r u.1) ∧ (r.toInt = 1 → zIe fB tl 0 3 p3.toInt.toNat ta.toInt frw u.2)) (fun (u : Int32 × (Nat → Int32)) (t : State) => va_P (dC, dI) vwCl [(h0, .inr (2, [.ref tp, .ref aC, .int hsr])), (tp, .inr (9, [.ref tB, .int tl, .int u.1])), (tB, .inl (cI, 260, .inl fB)), (rw, .inl (cI, 3, .inl u.2))] t.heap ∧ va_D (va_A [(h0, .inr (2, [.ref tp, .ref aC, .int hsr])), (tp, .inr (9, [.ref tB, .int tl, .int ta])), (tB, .inl (cI, 260, .inl fB)), (rw, .inl (cI, 3, .inl frw))] sz) [(h0, .inr (2, [.ref tp, .ref aC, .int hsr])), (tp, .inr (9, [.ref tB, .int tl, .int u.1])), (tB, .inl (cI, 260, .inl fB)), (rw, .inl (cI, 3, .inl u.2))]) (va_A [(h0, .inr (2, [.ref tp, .ref aC, .int hsr])), (tp, .inr (9, [.ref tB, .int tl, .int ta])), (tB, .inl (cI, 260, .inl fB)), (rw, .inl (cI, 3, .inl frw))] sz)) 0 0 (va_A [(h0, .inr (2, [.ref tp, .ref aC, .int hsr])), (tp, .inr (9, [.ref tB, .int tl, .int ta])), (tB, .inl (cI, 260, .inl fB)), (rw, .inl (cI, 3, .inl frw))] sz) := by
  refine Met.ofW (cc := cX2_items) (maxL := 9) (ret := (some .boolean)) (by decide) rfl ?_
  intro p e s m args below meth c s₁ B hml hv
  obtain ⟨⟨⟨hargs, hsz, hP, hK, hT⟩, hV⟩, hE⟩ := hv
  have hx := B.exec
  have hb := B.bytes
  have hr := B.returns
  have hts : ∀ w ∈ wA, w.before args s = true := fun w h => atoms_spec (ws := .code yX2_items cX2_items 9 (some .boolean) :: wA) B.pre w (List.mem_cons_of_mem _ h)
  have hown : s.vm.findClass RX2 = some m.cls := findClass_of_methodNamed B.named
  have hlocks := B.notSynchronized
  subst hsz
  have hD := hT.self (sz := s.heap.size)
  generalize hAe : va_A [(h0, .inr (2, [.ref tp, .ref aC, .int hsr])), (tp, .inr (9, [.ref tB, .int tl, .int ta])), (tB, .inl (cI, 260, .inl fB)), (rw, .inl (cI, 3, .inl frw))] s.heap.size = A at hD hV hE ⊢
  have hE_t1 : zTt 1 .char t1 3 A s := hE _ (List.mem_of_getElem? (i := 0) rfl)
  obtain ⟨tf_t1, ht_t1, hr_t1⟩ := hE_t1
  have hE_t1 : zTt 1 .char t1 3 A s := ⟨tf_t1, ht_t1, hr_t1⟩
  have hE_t2 : zTt 2 .int t2 3 A s := hE _ (List.mem_of_getElem? (i := 1) rfl)
  obtain ⟨tf_t2, ht_t2, hr_t2⟩ := hE_t2
  have hE_t2 : zTt 2 .int t2 3 A s := ⟨tf_t2, ht_t2, hr_t2⟩
  have hA : ∀ q : Nat, s.heap.size ≤ q → A q := fun q h => by rw [← hAe]; exact Or.inr h
  have hl := lv_entry ([.ref h0, .ref t1, .ref t2, .ref rw, .int p3]) (n := 9) (Nat.le_of_ble_eq_true rfl)
  rw [show entryFrame m args 9 = entryFrame m ([.ref h0, .ref t1, .ref t2, .ref rw, .int p3] : List Value).toArray 9 by rw [hargs], lg_entry_eq]
  generalize (lg_sl ([.ref h0, .ref t1, .ref t2, .ref rw, .int p3]) ++ List.replicate (9 - (lg_sl ([.ref h0, .ref t1, .ref t2, .ref rw, .int p3])).length) Slot.unset).toArray = ls at hl ⊢
  have hl : lv_has ls 9 [(0, .ref h0), (1, .ref t1), (2, .ref t2), (3, .ref rw), (4, .int p3)] := hl
  refine zstart (fun H hH => ?_)
  rw [← hH] at hP
  have hS : va_S A s.heap H [] := by rw [hH]; exact va_S.rf
  generalize ([] : List Loc) = locs at hS ⊢
  refine zgen (fun R Q hR hQ => ?_)
  refine lv_iconst (v := 0) hx hb dX2_items_0 (by decide) ?_
  refine lv_istore (lv' := [(5, .int 0), (0, .ref h0), (1, .ref t1), (2, .ref t2), (3, .ref rw), (4, .int p3)]) hx hb dX2_items_1 hl (by decide) rfl (fun ls hl => ?_)
  refine lv_iconst (v := 0) hx hb dX2_items_3 (by decide) ?_
  have J6 : ∀ (n : Nat) (m6_A_rw : Nat → Int32) (m6_F_tp_2 : Int32) (m6_L_5 : Int32) (m6_L_6 : Int32), (0 ≤ m6_F_tp_2.toInt ∧ m6_F_tp_2.toInt ≤ 240) → (0 ≤ m6_L_6.toInt ∧ m6_L_6.toInt ≤ 3) → (ta.toInt ≤ m6_F_tp_2.toInt) → (sIts (sB fB tl.toInt) tl.toInt 0 0 ta.toInt = sIts (sB fB tl.toInt) tl.toInt 0 m6_L_5 m6_F_tp_2.toInt) → (zPc 3 m6_L_5 m6_L_6) → (zIv fB tl 0 3 p3.toInt.toNat ta.toInt frw m6_A_rw m6_L_5 m6_F_tp_2) → (4 - m6_L_6.toInt).toNat = n → ∀ (H : Heap) (locs : List Loc) (ls : Array Slot), va_P (dC, dI) vwCl [(h0, .inr (2, [.ref tp, .ref aC, .int hsr])), (tp, .inr (9, [.ref tB, .int tl, .int m6_F_tp_2])), (tB, .inl (cI, 260, .inl fB)), (rw, .inl (cI, 3, .inl m6_A_rw))] H → va_D A [(h0, .inr (2, [.ref tp, .ref aC, .int hsr])), (tp, .inr (9, [.ref tB, .int tl, .int m6_F_tp_2])), (tB, .inl (cI, 260, .inl fB)), (rw, .inl (cI, 3, .inl m6_A_rw))] → va_S A s.heap H locs → lv_has ls 9 [(6, .int m6_L_6), (5, .int m6_L_5), (0, .ref h0), (1, .ref t1), (2, .ref t2), (3, .ref rw), (4, .int p3)] → W p l e R s m args below meth c H locs 0 0 Q (F0 m 6 ls []) := by
    intro n6
    induction n6 using Nat.strongRecOn with
    | _ n6 ih6 =>
      intro m6_A_rw m6_F_tp_2 m6_L_5 m6_L_6 jf6_0 jf6_1 jf6_2 jv6_0 jv6_1 jv6_2 hmu6 H locs ls hP hD hS hl
      refine lv_iload hx hb dX2_items_6 (lv_at hl 0 rfl) ?_
      refine lv_aload_n hx hb dX2_items_8 rfl (lv_at hl 3 rfl) ?_
      refine va_tlen (v := 3) hx hb ht_t1 hS (by decide) dX2_items_9 ?_
      refine lv_icmp_ge (tgt := 112) hx hb dX2_items_10 (by decide) (fun c10 => ?_) (fun c10 => ?_)
      · have c10 : 3 ≤ m6_L_6.toInt := z3 (by decide) rfl c10
        refine lv_iconst (v := 1) hx hb dX2_items_112 (by decide) ?_
        have zr0 : (1 : Int32).toInt = 1 := by decide
        rw [hQ]
        exact W.zret (v := 1) (ty := .boolean) hx hb hr rfl (fun t ht hW => ⟨⟨1, (m6_F_tp_2, m6_A_rw), rfl, ⟨by (try dsimp only); omega, by (try dsimp only); omega, by (try dsimp only); omega, by (try dsimp only); omega, by (try dsimp only); omega, zit_full jv6_0 (Or.inl ⟨rfl, jv6_1, by omega⟩), fun _ => zIvF jv6_2 (Or.inl ⟨rfl, jv6_1, by omega⟩)⟩, ⟨by rw [ht]; exact hP, hD⟩⟩, hS.F ht⟩) hS.2.2 dX2_items_113
      · have c10 : m6_L_6.toInt < 3 := z4 (by decide) rfl c10
        refine lv_aload_n hx hb dX2_items_13 rfl (lv_at hl 2 rfl) ?_
        refine va_get (D := (dC, dI)) (ci := 2) (v := .ref tp) (C := RX2) (T := TX2) (N := 3) hx hb hts iX2 hown hK hP 0 rfl rfl 0 (by decide) (hts _ qw154) (fun _ h9 => h9) rfl dX2_items_14 ?_
        obtain ⟨hPc, hDc, hFc⟩ := zc3 (wc := [(tp, .inr (9, [.ref tB, .int tl, .int m6_F_tp_2])), (tB, .inl (cI, 260, .inl fB))]) hP hD hS hA [1, 2] (by decide +kernel) rfl
        refine va_calli (va_runV (As := []) (rest := []) ⟨hx, hb, hml, hown, hts⟩ (g_X9_peek l dC dI cI cJ tp tB tl m6_F_tp_2 fB H.size jf6_0 n_tl (hty)) (cwV 0 hts (zgV qw437 qw438 qw439 qw99 qw440) rfl rfl rfl hd_X9_peek ⟨by rw [hR]; exact Nat.le_of_ble_eq_true rfl, by rw [hR]; exact Nat.le_of_ble_eq_true rfl⟩) (zPV hPc hK hDc (va_recv (q := (RX9, TX9, 3)) hK hP (ci := 9) (q0 := 1) rfl rfl)) rfl rfl hl.1 rfl (lv_room (Nat.le_of_ble_eq_true rfl)) dX2_items_17 ⟨Nat.zero_le _, Nat.zero_le _⟩) hS (fun q _ h => hFc q h) hFc (fun v17 u17 t H locs ht hvm hw hB hz1 hk1 hS9 => ?_)
        obtain ⟨u17_0, rfl⟩ : ∃ z, z = u17 := ⟨_, rfl⟩
        obtain ⟨hP9, hD9⟩ := zj2 (wX := [(h0, .inr (2, [.ref tp, .ref aC, .int hsr])), (tp, .inr (9, [.ref tB, .int tl, .int u17_0])), (tB, .inl (cI, 260, .inl fB)), (rw, .inl (cI, 3, .inl m6_A_rw))]) hP hD hk1 hFc ht hB [1, 2] [(false, 0), (true, 0), (true, 1), (false, 3)] rfl (by decide +kernel) (by decide +kernel) rfl
        clear hP hD hS hPc hDc hFc hB hk1 hz1 hvm
        have hP := hP9
        have hD := hD9
        have hS := hS9
        clear hP9 hD9 hS9
        obtain ⟨f17_0, f17_1, f17_2, f17_3, f17_4⟩ : (0 ≤ u17_0.toInt) ∧ (u17_0.toInt ≤ 240) ∧ (¬ v17.toInt = 0 → u17_0.toInt < tl.toInt) ∧ (m6_F_tp_2.toInt ≤ u17_0.toInt) ∧ (zPK fB tl m6_F_tp_2 v17 u17_0) := hw
        have F17 := f17_4
        refine lv_aload_n hx hb dX2_items_20 rfl (lv_at hl 3 rfl) ?_
        have hPc : va_P (dC, dI) vwCl [] H := zP0
        have hDc : va_D (fun _ => True) [] := zD0
        have hFc := zfr hS hA
        refine va_calli (va_runS (As := [.int v17, .ref t1]) (rest := []) ⟨hx, hb, hml, hown, hts⟩ (g_X2_placeOf_s l dC dI cI cJ v17 t1 H.size) (cwS 2 hts (zgS qw449 qw450 qw100 qw451) rfl rfl rfl hd_X2_placeOf ⟨by rw [hR]; exact Nat.le_of_ble_eq_true rfl, by rw [hR]; exact Nat.le_of_ble_eq_true rfl⟩) (zPXS hPc hK hDc (zV_call hV hS hFc) (zTs_call (zTsc hE_t1 zTs0) hS hFc)) rfl rfl hl.1 rfl (lv_room (Nat.le_of_ble_eq_true rfl)) dX2_items_21 ⟨Nat.zero_le _, Nat.zero_le _⟩) hS (fun q _ h => hFc q h) hFc (fun v21 u21 t H locs ht hvm hw hB hz1 hk1 hS9 => ?_)
        replace hP := zkeep hP hk1
        replace hS := hS9
        clear hPc hDc hFc hk1 hz1 hvm hS9
        obtain ⟨f21_0, f21_1, f21_2, f21_3⟩ : ((-1) ≤ v21.toInt) ∧ (v21.toInt ≤ 2) ∧ (0 ≤ v21.toInt → 1 ≤ v17.toInt) ∧ (v21 = cIt 0 v17.toInt) := hw
        have F21 := f21_3
        refine lv_istore (lv' := [(7, .int v21), (6, .int m6_L_6), (5, .int m6_L_5), (0, .ref h0), (1, .ref t1), (2, .ref t2), (3, .ref rw), (4, .int p3)]) hx hb dX2_items_24 hl (by decide) rfl (fun ls hl => ?_)
        refine lv_iload hx hb dX2_items_26 (lv_at hl 0 rfl) ?_
        refine lv_iconst (v := (-1)) hx hb dX2_items_28 (by decide) ?_
        refine lv_icmp_eq (tgt := 43) hx hb dX2_items_29 (by decide) (fun c29 => ?_) (fun c29 => ?_)
        · have c29 : v21.toInt = (-1) := z5 rfl (by decide) c29
          refine lv_iconst (v := 1) hx hb dX2_items_43 (by decide) ?_
          have zr0 : (1 : Int32).toInt = 1 := by decide
          rw [hQ]
          exact W.zret (v := 1) (ty := .boolean) hx hb hr rfl (fun t ht hW => ⟨⟨1, (u17_0, m6_A_rw), rfl, ⟨by (try dsimp only); omega, by (try dsimp only); omega, by (try dsimp only); omega, by (try dsimp only); omega, by (try dsimp only); omega, zit_no jv6_0 F17 F21 (Or.inl (by omega)), fun _ => zIvN jv6_2 F17 F21 (Or.inl (by omega))⟩, ⟨by rw [ht]; exact hP, hD⟩⟩, hS.F ht⟩) hS.2.2 dX2_items_44
        · have c29 : ¬ v21.toInt = (-1) := z6 rfl (by decide) c29
          refine lv_iload hx hb dX2_items_32 (lv_at hl 2 rfl) ?_
          refine lv_iload hx hb dX2_items_34 (lv_at hl 0 rfl) ?_
          have hPc : va_P (dC, dI) vwCl [] H := zP0
          have hDc : va_D (fun _ => True) [] := zD0
          have hFc := zfr hS hA
          refine va_calli (va_runSN (As := [.int m6_L_5, .int v21]) (rest := []) ⟨hx, hb, hml, hown, hts⟩ (g_X10_bit l dC dI cI cJ m6_L_5 v21 H.size) ⟨va_cnB 2 hts (zgI qw454) rfl rfl rfl hV.2.1 (hts _ qw98) (hd_X10_bit).2 ⟨by rw [hR]; exact Nat.le_of_ble_eq_true rfl, by rw [hR]; exact Nat.le_of_ble_eq_true rfl⟩, hts _ qw453, trivial⟩ (zPS hPc hK hDc) rfl rfl hl.1 rfl (lv_room (Nat.le_of_ble_eq_true rfl)) dX2_items_36 ⟨Nat.zero_le _, Nat.zero_le _⟩) hS (fun q _ h => hFc q h) hFc (fun v36 u36 t H locs ht hvm hw hB hz1 hk1 hS9 => ?_)
          replace hP := zkeep hP hk1
          replace hS := hS9
          clear hPc hDc hFc hk1 hz1 hvm hS9
          obtain ⟨f36_0, f36_1, f36_2⟩ : (0 ≤ v36.toInt) ∧ (v36.toInt ≤ 1) ∧ (v36 = cBt m6_L_5 v21) := hw
          have F36 := f36_2
          refine lv_iconst (v := 1) hx hb dX2_items_39 (by decide) ?_
          refine lv_icmp_ne (tgt := 45) hx hb dX2_items_40 (by decide) (fun c40 => ?_) (fun c40 => ?_)
          · have c40 : ¬ v36.toInt = 1 := z6 rfl (by decide) c40
            refine lv_iload hx hb dX2_items_45 (lv_at hl 2 rfl) ?_
            refine lv_iconst (v := 1) hx hb dX2_items_47 (by decide) ?_
            refine lv_iload hx hb dX2_items_48 (lv_at hl 0 rfl) ?_
            refine lv_ishl hx hb dX2_items_50 ?_
            refine lv_topi (fun v50 e50 => ?_)
            have i50 : 1 ≤ v50.toInt ∧ v50.toInt ≤ 32 := zshl1 e50 (by omega) (by omega)
            refine lv_ior hx hb dX2_items_51 ?_
            refine lv_topi (fun v51 e51 => ?_)
            refine lv_istore (lv' := [(5, .int v51), (7, .int v21), (6, .int m6_L_6), (0, .ref h0), (1, .ref t1), (2, .ref t2), (3, .ref rw), (4, .int p3)]) hx hb dX2_items_52 hl (by decide) rfl (fun ls hl => ?_)
            refine lv_aload_n hx hb dX2_items_54 rfl (lv_at hl 3 rfl) ?_
            refine va_get (D := (dC, dI)) (ci := 2) (v := .ref tp) (C := RX2) (T := TX2) (N := 3) hx hb hts iX2 hown hK hP 0 rfl rfl 0 (by decide) (hts _ qw154) (fun _ h9 => h9) rfl dX2_items_55 ?_
            refine lv_dup hx hb dX2_items_58 rfl ?_
            refine va_get (D := (dC, dI)) (ci := 9) (v := .int u17_0) (C := RX9) (T := TX9) (N := 3) hx hb hts iX9 hown hK hP 1 rfl rfl 2 (by decide) (hts _ qw138) (fun _ h9 => h9) rfl dX2_items_59 ?_
            refine lv_iconst (v := 1) hx hb dX2_items_62 (by decide) ?_
            refine lv_iadd hx hb dX2_items_63 ?_
            refine lv_topi (fun v63 e63 => ?_)
            have i63 : v63.toInt = u17_0.toInt + 1 := zadd e63 rfl (by decide) (by omega) (by omega)
            refine va_put (D := (dC, dI)) (ci := 9) (v := .int v63) (ty := .int) (C := RX9) (T := TX9) (N := 3) hx hb hts iX9 tyX9 tyX9_ok nmX9 hown hK hP hD hS 1 rfl rfl 2 (by decide) (hts _ qw138) (fun _ h9 => h9) rfl (by decide +kernel) rfl rfl (Nat.le_of_ble_eq_true rfl) dX2_items_64 (fun H locs hP9 hD9 hS9 => ?_)
            clear hP hD hS
            obtain ⟨hP, hD⟩ := zst (wX := [(h0, .inr (2, [.ref tp, .ref aC, .int hsr])), (tp, .inr (9, [.ref tB, .int tl, .int v63])), (tB, .inl (cI, 260, .inl fB)), (rw, .inl (cI, 3, .inl m6_A_rw))]) hP9 hD9 rfl
            have hS := hS9
            clear hP9 hD9 hS9
            refine lv_aload_n hx hb dX2_items_67 rfl (lv_at hl 3 rfl) ?_
            refine va_get (D := (dC, dI)) (ci := 2) (v := .ref tp) (C := RX2) (T := TX2) (N := 3) hx hb hts iX2 hown hK hP 0 rfl rfl 0 (by decide) (hts _ qw154) (fun _ h9 => h9) rfl dX2_items_68 ?_
            obtain ⟨hPc, hDc, hFc⟩ := zc3 (wc := [(tp, .inr (9, [.ref tB, .int tl, .int v63])), (tB, .inl (cI, 260, .inl fB))]) hP hD hS hA [1, 2] (by decide +kernel) rfl
            refine va_calli (va_runV (As := []) (rest := []) ⟨hx, hb, hml, hown, hts⟩ (g_X9_peek l dC dI cI cJ tp tB tl v63 fB H.size (by omega) n_tl (hty)) (cwV 0 hts (zgV qw437 qw438 qw439 qw99 qw440) rfl rfl rfl hd_X9_peek ⟨by rw [hR]; exact Nat.le_of_ble_eq_true rfl, by rw [hR]; exact Nat.le_of_ble_eq_true rfl⟩) (zPV hPc hK hDc (va_recv (q := (RX9, TX9, 3)) hK hP (ci := 9) (q0 := 1) rfl rfl)) rfl rfl hl.1 rfl (lv_room (Nat.le_of_ble_eq_true rfl)) dX2_items_71 ⟨Nat.zero_le _, Nat.zero_le _⟩) hS (fun q _ h => hFc q h) hFc (fun v71 u71 t H locs ht hvm hw hB hz1 hk1 hS9 => ?_)
            obtain ⟨u71_0, rfl⟩ : ∃ z, z = u71 := ⟨_, rfl⟩
            obtain ⟨hP9, hD9⟩ := zj2 (wX := [(h0, .inr (2, [.ref tp, .ref aC, .int hsr])), (tp, .inr (9, [.ref tB, .int tl, .int u71_0])), (tB, .inl (cI, 260, .inl fB)), (rw, .inl (cI, 3, .inl m6_A_rw))]) hP hD hk1 hFc ht hB [1, 2] [(false, 0), (true, 0), (true, 1), (false, 3)] rfl (by decide +kernel) (by decide +kernel) rfl
            clear hP hD hS hPc hDc hFc hB hk1 hz1 hvm
            have hP := hP9
            have hD := hD9
            have hS := hS9
            clear hP9 hD9 hS9
            obtain ⟨f71_0, f71_1, f71_2, f71_3, f71_4⟩ : (0 ≤ u71_0.toInt) ∧ (u71_0.toInt ≤ 240) ∧ (¬ v71.toInt = 0 → u71_0.toInt < tl.toInt) ∧ (v63.toInt ≤ u71_0.toInt) ∧ (zPK fB tl v63 v71 u71_0) := hw
            have F71 := f71_4
            refine lv_pop hx hb dX2_items_74 rfl ?_
            refine lv_aload_n hx hb dX2_items_75 rfl (lv_at hl 3 rfl) ?_
            refine va_get (D := (dC, dI)) (ci := 2) (v := .ref tp) (C := RX2) (T := TX2) (N := 3) hx hb hts iX2 hown hK hP 0 rfl rfl 0 (by decide) (hts _ qw154) (fun _ h9 => h9) rfl dX2_items_76 ?_
            refine lv_iconst (v := 2) hx hb dX2_items_79 (by decide) ?_
            refine lv_aload_n hx hb dX2_items_80 rfl (lv_at hl 5 rfl) ?_
            refine lv_iload hx hb dX2_items_81 (lv_at hl 1 rfl) ?_
            refine va_ti hx hb ht_t2 hS (vp_in_iff.mpr ⟨by omega, by omega⟩) rfl dX2_items_83 ?_
            refine lv_topi (fun v83 e83 => ?_)
            have i83 : 9 ≤ v83.toInt ∧ v83.toInt ≤ 99 := ztl (t := 2) (lo := 9) (hi := 99) hr_t2 (by decide) e83 (by omega) (by omega)
            have x83 := ztx (t := 2) hr_t2 e83 (by omega) (by omega)
            obtain ⟨hPc, hDc, hFc⟩ := zc3 (wc := [(tp, .inr (9, [.ref tB, .int tl, .int u71_0])), (tB, .inl (cI, 260, .inl fB))]) hP hD hS hA [1, 2] (by decide +kernel) rfl
            refine va_calli (va_runV (As := [.int 2, .int v83]) (rest := []) ⟨hx, hb, hml, hown, hts⟩ (g_X9_number_2 l dC dI cI cJ tp v83 tB tl u71_0 fB H.size (by omega) ⟨f71_0, f71_1⟩ n_tl) (cwV 2 hts (zgV qw455 qw456 qw457 qw99 qw458) rfl rfl rfl hd_X9_number ⟨by rw [hR]; exact Nat.le_of_ble_eq_true rfl, by rw [hR]; exact Nat.le_of_ble_eq_true rfl⟩) (zPV hPc hK hDc (va_recv (q := (RX9, TX9, 3)) hK hP (ci := 9) (q0 := 1) rfl rfl)) rfl rfl hl.1 rfl (lv_room (Nat.le_of_ble_eq_true rfl)) dX2_items_84 ⟨Nat.zero_le _, Nat.zero_le _⟩) hS (fun q _ h => hFc q h) hFc (fun v84 u84 t H locs ht hvm hw hB hz1 hk1 hS9 => ?_)
            obtain ⟨u84_0, rfl⟩ : ∃ z, z = u84 := ⟨_, rfl⟩
            obtain ⟨hP9, hD9⟩ := zj2 (wX := [(h0, .inr (2, [.ref tp, .ref aC, .int hsr])), (tp, .inr (9, [.ref tB, .int tl, .int u84_0])), (tB, .inl (cI, 260, .inl fB)), (rw, .inl (cI, 3, .inl m6_A_rw))]) hP hD hk1 hFc ht hB [1, 2] [(false, 0), (true, 0), (true, 1), (false, 3)] rfl (by decide +kernel) (by decide +kernel) rfl
            clear hP hD hS hPc hDc hFc hB hk1 hz1 hvm
            have hP := hP9
            have hD := hD9
            have hS := hS9
            clear hP9 hD9 hS9
            obtain ⟨f84_0, f84_1, f84_2, f84_3, f84_4, f84_5⟩ : ((-1) ≤ v84.toInt) ∧ (v84.toInt ≤ 99) ∧ (0 ≤ u84_0.toInt) ∧ (u84_0.toInt ≤ 240) ∧ (u71_0.toInt ≤ u84_0.toInt) ∧ (zN2 fB tl u71_0 v83 v84 u84_0) := hw
            have F84 := f84_5
            refine lv_istore (lv' := [(8, .int v84), (5, .int v51), (7, .int v21), (6, .int m6_L_6), (0, .ref h0), (1, .ref t1), (2, .ref t2), (3, .ref rw), (4, .int p3)]) hx hb dX2_items_87 hl (by decide) rfl (fun ls hl => ?_)
            refine lv_iload hx hb dX2_items_89 (lv_at hl 0 rfl) ?_
            refine lv_iconst (v := (-1)) hx hb dX2_items_91 (by decide) ?_
            refine lv_icmp_ne (tgt := 97) hx hb dX2_items_92 (by decide) (fun c92 => ?_) (fun c92 => ?_)
            · have c92 : ¬ v84.toInt = (-1) := z6 rfl (by decide) c92
              refine lv_aload_n hx hb dX2_items_97 rfl (lv_at hl 7 rfl) ?_
              refine lv_iload hx hb dX2_items_98 (lv_at hl 8 rfl) ?_
              refine lv_iload hx hb dX2_items_100 (lv_at hl 2 rfl) ?_
              refine lv_iadd hx hb dX2_items_102 ?_
              refine lv_topi (fun v102 e102 => ?_)
              have i102 : v102.toInt = p3.toInt + v21.toInt := zadd e102 rfl rfl (by omega) (by omega)
              refine lv_iload hx hb dX2_items_103 (lv_at hl 0 rfl) ?_
              refine va_iast hx hb hK hP hD hS 3 0 rfl rfl (vp_in_iff.mpr ⟨by omega, by omega⟩) dX2_items_105 (fun H locs hP9 hD9 hS9 => ?_)
              clear hP hD hS
              obtain ⟨v105_f, e105⟩ : ∃ g : Nat → Int32, g = upd m6_A_rw (v102).toNatClampNeg v84 := ⟨_, rfl⟩
              rw [← e105] at hP9 hD9
              obtain ⟨hP, hD⟩ := zst (wX := [(h0, .inr (2, [.ref tp, .ref aC, .int hsr])), (tp, .inr (9, [.ref tB, .int tl, .int u84_0])), (tB, .inl (cI, 260, .inl fB)), (rw, .inl (cI, 3, .inl v105_f))]) hP9 hD9 rfl
              have hS := hS9
              clear hP9 hD9 hS9
              obtain ⟨v106, e106⟩ : ∃ y : Int32, y = m6_L_6 + Int32.ofInt (1) := ⟨_, rfl⟩
              refine lv_iinc (v := v106) (lv' := [(6, .int v106), (8, .int v84), (5, .int v51), (7, .int v21), (0, .ref h0), (1, .ref t1), (2, .ref t2), (3, .ref rw), (4, .int p3)]) hx hb dX2_items_106 hl (k := 3) rfl e106.symm (by decide) rfl (fun ls hl => ?_)
              have i106 : v106.toInt = m6_L_6.toInt + 1 := zaddI e106 (by decide) (by omega) (by omega)
              refine lv_goto (tgt := 6) hx hb dX2_items_109 (by decide) ?_
              exact ih6 _ (by omega) v105_f u84_0 v51 v106 ⟨f84_2, f84_3⟩ (by omega) (by omega) (by rw [e51, e50]; exact zit_go jv6_0 F17 F21 (by omega) (fun z => by rw [← F36] at z; rw [z] at c40; exact c40 (by decide)) i63 F71 (zhi2 x83 (by omega) (by omega)) F84 (by omega) (by omega)) (by rw [e51, e50]; exact zPcS3 jv6_1 (by omega) (by omega) (fun z => by rw [← F36] at z; rw [z] at c40; exact c40 (by decide)) i106) (by rw [e51, e50]; exact zIvS jv6_2 F17 F21 (by omega) (fun z => by rw [← F36] at z; rw [z] at c40; exact c40 (by decide)) i63 F71 (zhi2 x83 (by omega) (by omega)) F84 (by omega) (by omega) e105 (by omega) (by omega)) rfl H locs ls hP hD hS (lv_sub hl [0, 2, 4, 5, 6, 7, 8] rfl)
            · have c92 : v84.toInt = (-1) := z5 rfl (by decide) c92
              refine lv_iconst (v := 0) hx hb dX2_items_95 (by decide) ?_
              have zr0 : (0 : Int32).toInt = 0 := by decide
              rw [hQ]
              exact W.zret (v := 0) (ty := .boolean) hx hb hr rfl (fun t ht hW => ⟨⟨0, (u84_0, m6_A_rw), rfl, ⟨by (try dsimp only); omega, by (try dsimp only); omega, by (try dsimp only); omega, by (try dsimp only); omega, by (try dsimp only); omega, zit_bad jv6_0 F17 F21 (by omega) (fun z => by rw [← F36] at z; rw [z] at c40; exact c40 (by decide)) i63 F71 (zhi2 x83 (by omega) (by omega)) F84 (by omega), fun z => absurd z (by decide)⟩, ⟨by rw [ht]; exact hP, hD⟩⟩, hS.F ht⟩) hS.2.2 dX2_items_96
          · have c40 : v36.toInt = 1 := z5 rfl (by decide) c40
            refine lv_iconst (v := 1) hx hb dX2_items_43 (by decide) ?_
            have zr0 : (1 : Int32).toInt = 1 := by decide
            rw [hQ]
            exact W.zret (v := 1) (ty := .boolean) hx hb hr rfl (fun t ht hW => ⟨⟨1, (u17_0, m6_A_rw), rfl, ⟨by (try dsimp only); omega, by (try dsimp only); omega, by (try dsimp only); omega, by (try dsimp only); omega, by (try dsimp only); omega, zit_no jv6_0 F17 F21 (Or.inr (F36.symm.trans (z7 (a := 1) (by decide) (by omega)))), fun _ => zIvN jv6_2 F17 F21 (Or.inr (F36.symm.trans (z7 (a := 1) (by decide) (by omega))))⟩, ⟨by rw [ht]; exact hP, hD⟩⟩, hS.F ht⟩) hS.2.2 dX2_items_44
  refine lv_istore (lv' := [(6, .int 0), (5, .int 0), (0, .ref h0), (1, .ref t1), (2, .ref t2), (3, .ref rw), (4, .int p3)]) hx hb dX2_items_4 hl (by decide) rfl (fun ls hl => ?_)
  have zj6_m6_L_5 : (0 : Int32).toInt = 0 := by decide
  have zj6_m6_L_6 : (0 : Int32).toInt = 0 := by decide
  exact J6 _ frw ta 0 0 n_ta (by decide) (by omega) (rfl) (zPc0) (zIv0) rfl H locs ls hP hD hS (lv_sub hl [0, 1, 2, 3, 4, 5, 6] rfl)
set_option maxHeartbeats 4000000 in
set_option maxRecDepth 100000 in
theorem g_X2_items_b (l : Launch) (dC : Nat → ClassId) (dI : Nat → Nat → Nat) (cI cJ : ClassId) (h0 : Nat) (t1 : Nat) (t2 : Nat) (rw : Nat) (p3 : Int32) (tp : Nat) (aC : Nat) (hsr : Int32) (tB : Nat) (tl : Int32) (ta : Int32) (fB : Nat → Int32) (frw : Nat → Int32) (sz : Nat) (n_p3 : 0 ≤ p3.toInt ∧ p3.toInt ≤ 20) (n_ta : 0 ≤ ta.toInt ∧ ta.toInt ≤ 240) (n_tl : 0 ≤ tl.toInt ∧ tl.toInt ≤ 240) (hty : zTy tl fB)   : Met l yX2_items (.code yX2_items cX2_items 9 (some .boolean) :: wA) ({ frames := 1, cells := 0, slots := 0, locals := 24 }) (zPX (dC, dI) [(cI, .int), (cJ, .long)] [.ref h0, .ref t1, .ref t2, .ref rw, .int p3] sz [(h0, .inr (2, [.ref tp, .ref aC, .int hsr])), (tp, .inr (9, [.ref tB, .int tl, .int ta])), (tB, .inl (cI, 260, .inl fB)), (rw, .inl (cI, 24, .inl frw))] (va_A [(h0, .inr (2, [.ref tp, .ref aC, .int hsr])), (tp, .inr (9, [.ref tB, .int tl, .int ta])), (tB, .inl (cI, 260, .inl fB)), (rw, .inl (cI, 24, .inl frw))] sz) [(4, .char, t1, 4), (5, .int, t2, 4)]) (va_Qi (fun (r : Int32) (u : Int32 × (Nat → Int32)) => (0 ≤ r.toInt) ∧ (r.toInt ≤ 1) ∧ (0 ≤ u.1.toInt) ∧ (u.1.toInt ≤ 240) ∧ (ta.toInt ≤ u.1.toInt) ∧ (zFs fB tl (sIts (sB fB tl.toInt) tl.toInt 1 0 ta.toInt) r u.1) ∧ (r.toInt = 1 → zIe fB tl 1 4 p3.toInt.toNat ta.toInt frw u.2)) (fun (u : Int32 × (Nat → Int32)) (t : State) => va_P (dC, dI) vwCl [(h0, .inr (2, [.ref tp, .ref aC, .int hsr])), (tp, .inr (9, [.ref tB, .int tl, .int u.1])), (tB, .inl (cI, 260, .inl fB)), (rw, .inl (cI, 24, .inl u.2))] t.heap ∧ va_D (va_A [(h0, .inr (2, [.ref tp, .ref aC, .int hsr])), (tp, .inr (9, [.ref tB, .int tl, .int ta])), (tB, .inl (cI, 260, .inl fB)), (rw, .inl (cI, 24, .inl frw))] sz) [(h0, .inr (2, [.ref tp, .ref aC, .int hsr])), (tp, .inr (9, [.ref tB, .int tl, .int u.1])), (tB, .inl (cI, 260, .inl fB)), (rw, .inl (cI, 24, .inl u.2))]) (va_A [(h0, .inr (2, [.ref tp, .ref aC, .int hsr])), (tp, .inr (9, [.ref tB, .int tl, .int ta])), (tB, .inl (cI, 260, .inl fB)), (rw, .inl (cI, 24, .inl frw))] sz)) 0 0 (va_A [(h0, .inr (2, [.ref tp, .ref aC, .int hsr])), (tp, .inr (9, [.ref tB, .int tl, .int ta])), (tB, .inl (cI, 260, .inl fB)), (rw, .inl (cI, 24, .inl frw))] sz) := by
  refine Met.ofW (cc := cX2_items) (maxL := 9) (ret := (some .boolean)) (by decide) rfl ?_
  intro p e s m args below meth c s₁ B hml hv
  obtain ⟨⟨⟨hargs, hsz, hP, hK, hT⟩, hV⟩, hE⟩ := hv
  have hx := B.exec
  have hb := B.bytes
  have hr := B.returns
  have hts : ∀ w ∈ wA, w.before args s = true := fun w h => atoms_spec (ws := .code yX2_items cX2_items 9 (some .boolean) :: wA) B.pre w (List.mem_cons_of_mem _ h)
  have hown : s.vm.findClass RX2 = some m.cls := findClass_of_methodNamed B.named
  have hlocks := B.notSynchronized
  subst hsz
  have hD := hT.self (sz := s.heap.size)
  generalize hAe : va_A [(h0, .inr (2, [.ref tp, .ref aC, .int hsr])), (tp, .inr (9, [.ref tB, .int tl, .int ta])), (tB, .inl (cI, 260, .inl fB)), (rw, .inl (cI, 24, .inl frw))] s.heap.size = A at hD hV hE ⊢
  have hE_t1 : zTt 4 .char t1 4 A s := hE _ (List.mem_of_getElem? (i := 0) rfl)
  obtain ⟨tf_t1, ht_t1, hr_t1⟩ := hE_t1
  have hE_t1 : zTt 4 .char t1 4 A s := ⟨tf_t1, ht_t1, hr_t1⟩
  have hE_t2 : zTt 5 .int t2 4 A s := hE _ (List.mem_of_getElem? (i := 1) rfl)
  obtain ⟨tf_t2, ht_t2, hr_t2⟩ := hE_t2
  have hE_t2 : zTt 5 .int t2 4 A s := ⟨tf_t2, ht_t2, hr_t2⟩
  have hA : ∀ q : Nat, s.heap.size ≤ q → A q := fun q h => by rw [← hAe]; exact Or.inr h
  have hl := lv_entry ([.ref h0, .ref t1, .ref t2, .ref rw, .int p3]) (n := 9) (Nat.le_of_ble_eq_true rfl)
  rw [show entryFrame m args 9 = entryFrame m ([.ref h0, .ref t1, .ref t2, .ref rw, .int p3] : List Value).toArray 9 by rw [hargs], lg_entry_eq]
  generalize (lg_sl ([.ref h0, .ref t1, .ref t2, .ref rw, .int p3]) ++ List.replicate (9 - (lg_sl ([.ref h0, .ref t1, .ref t2, .ref rw, .int p3])).length) Slot.unset).toArray = ls at hl ⊢
  have hl : lv_has ls 9 [(0, .ref h0), (1, .ref t1), (2, .ref t2), (3, .ref rw), (4, .int p3)] := hl
  refine zstart (fun H hH => ?_)
  rw [← hH] at hP
  have hS : va_S A s.heap H [] := by rw [hH]; exact va_S.rf
  generalize ([] : List Loc) = locs at hS ⊢
  refine zgen (fun R Q hR hQ => ?_)
  refine lv_iconst (v := 0) hx hb dX2_items_0 (by decide) ?_
  refine lv_istore (lv' := [(5, .int 0), (0, .ref h0), (1, .ref t1), (2, .ref t2), (3, .ref rw), (4, .int p3)]) hx hb dX2_items_1 hl (by decide) rfl (fun ls hl => ?_)
  refine lv_iconst (v := 0) hx hb dX2_items_3 (by decide) ?_
  have J6 : ∀ (n : Nat) (m6_A_rw : Nat → Int32) (m6_F_tp_2 : Int32) (m6_L_5 : Int32) (m6_L_6 : Int32), (0 ≤ m6_F_tp_2.toInt ∧ m6_F_tp_2.toInt ≤ 240) → (0 ≤ m6_L_6.toInt ∧ m6_L_6.toInt ≤ 4) → (ta.toInt ≤ m6_F_tp_2.toInt) → (sIts (sB fB tl.toInt) tl.toInt 1 0 ta.toInt = sIts (sB fB tl.toInt) tl.toInt 1 m6_L_5 m6_F_tp_2.toInt) → (zPc 4 m6_L_5 m6_L_6) → (zIv fB tl 1 4 p3.toInt.toNat ta.toInt frw m6_A_rw m6_L_5 m6_F_tp_2) → (5 - m6_L_6.toInt).toNat = n → ∀ (H : Heap) (locs : List Loc) (ls : Array Slot), va_P (dC, dI) vwCl [(h0, .inr (2, [.ref tp, .ref aC, .int hsr])), (tp, .inr (9, [.ref tB, .int tl, .int m6_F_tp_2])), (tB, .inl (cI, 260, .inl fB)), (rw, .inl (cI, 24, .inl m6_A_rw))] H → va_D A [(h0, .inr (2, [.ref tp, .ref aC, .int hsr])), (tp, .inr (9, [.ref tB, .int tl, .int m6_F_tp_2])), (tB, .inl (cI, 260, .inl fB)), (rw, .inl (cI, 24, .inl m6_A_rw))] → va_S A s.heap H locs → lv_has ls 9 [(6, .int m6_L_6), (5, .int m6_L_5), (0, .ref h0), (1, .ref t1), (2, .ref t2), (3, .ref rw), (4, .int p3)] → W p l e R s m args below meth c H locs 0 0 Q (F0 m 6 ls []) := by
    intro n6
    induction n6 using Nat.strongRecOn with
    | _ n6 ih6 =>
      intro m6_A_rw m6_F_tp_2 m6_L_5 m6_L_6 jf6_0 jf6_1 jf6_2 jv6_0 jv6_1 jv6_2 hmu6 H locs ls hP hD hS hl
      refine lv_iload hx hb dX2_items_6 (lv_at hl 0 rfl) ?_
      refine lv_aload_n hx hb dX2_items_8 rfl (lv_at hl 3 rfl) ?_
      refine va_tlen (v := 4) hx hb ht_t1 hS (by decide) dX2_items_9 ?_
      refine lv_icmp_ge (tgt := 112) hx hb dX2_items_10 (by decide) (fun c10 => ?_) (fun c10 => ?_)
      · have c10 : 4 ≤ m6_L_6.toInt := z3 (by decide) rfl c10
        refine lv_iconst (v := 1) hx hb dX2_items_112 (by decide) ?_
        have zr0 : (1 : Int32).toInt = 1 := by decide
        rw [hQ]
        exact W.zret (v := 1) (ty := .boolean) hx hb hr rfl (fun t ht hW => ⟨⟨1, (m6_F_tp_2, m6_A_rw), rfl, ⟨by (try dsimp only); omega, by (try dsimp only); omega, by (try dsimp only); omega, by (try dsimp only); omega, by (try dsimp only); omega, zit_full jv6_0 (Or.inr ⟨by decide, jv6_1, by omega⟩), fun _ => zIvF jv6_2 (Or.inr ⟨by decide, jv6_1, by omega⟩)⟩, ⟨by rw [ht]; exact hP, hD⟩⟩, hS.F ht⟩) hS.2.2 dX2_items_113
      · have c10 : m6_L_6.toInt < 4 := z4 (by decide) rfl c10
        refine lv_aload_n hx hb dX2_items_13 rfl (lv_at hl 2 rfl) ?_
        refine va_get (D := (dC, dI)) (ci := 2) (v := .ref tp) (C := RX2) (T := TX2) (N := 3) hx hb hts iX2 hown hK hP 0 rfl rfl 0 (by decide) (hts _ qw154) (fun _ h9 => h9) rfl dX2_items_14 ?_
        obtain ⟨hPc, hDc, hFc⟩ := zc3 (wc := [(tp, .inr (9, [.ref tB, .int tl, .int m6_F_tp_2])), (tB, .inl (cI, 260, .inl fB))]) hP hD hS hA [1, 2] (by decide +kernel) rfl
        refine va_calli (va_runV (As := []) (rest := []) ⟨hx, hb, hml, hown, hts⟩ (g_X9_peek l dC dI cI cJ tp tB tl m6_F_tp_2 fB H.size jf6_0 n_tl (hty)) (cwV 0 hts (zgV qw437 qw438 qw439 qw99 qw440) rfl rfl rfl hd_X9_peek ⟨by rw [hR]; exact Nat.le_of_ble_eq_true rfl, by rw [hR]; exact Nat.le_of_ble_eq_true rfl⟩) (zPV hPc hK hDc (va_recv (q := (RX9, TX9, 3)) hK hP (ci := 9) (q0 := 1) rfl rfl)) rfl rfl hl.1 rfl (lv_room (Nat.le_of_ble_eq_true rfl)) dX2_items_17 ⟨Nat.zero_le _, Nat.zero_le _⟩) hS (fun q _ h => hFc q h) hFc (fun v17 u17 t H locs ht hvm hw hB hz1 hk1 hS9 => ?_)
        obtain ⟨u17_0, rfl⟩ : ∃ z, z = u17 := ⟨_, rfl⟩
        obtain ⟨hP9, hD9⟩ := zj2 (wX := [(h0, .inr (2, [.ref tp, .ref aC, .int hsr])), (tp, .inr (9, [.ref tB, .int tl, .int u17_0])), (tB, .inl (cI, 260, .inl fB)), (rw, .inl (cI, 24, .inl m6_A_rw))]) hP hD hk1 hFc ht hB [1, 2] [(false, 0), (true, 0), (true, 1), (false, 3)] rfl (by decide +kernel) (by decide +kernel) rfl
        clear hP hD hS hPc hDc hFc hB hk1 hz1 hvm
        have hP := hP9
        have hD := hD9
        have hS := hS9
        clear hP9 hD9 hS9
        obtain ⟨f17_0, f17_1, f17_2, f17_3, f17_4⟩ : (0 ≤ u17_0.toInt) ∧ (u17_0.toInt ≤ 240) ∧ (¬ v17.toInt = 0 → u17_0.toInt < tl.toInt) ∧ (m6_F_tp_2.toInt ≤ u17_0.toInt) ∧ (zPK fB tl m6_F_tp_2 v17 u17_0) := hw
        have F17 := f17_4
        refine lv_aload_n hx hb dX2_items_20 rfl (lv_at hl 3 rfl) ?_
        have hPc : va_P (dC, dI) vwCl [] H := zP0
        have hDc : va_D (fun _ => True) [] := zD0
        have hFc := zfr hS hA
        have hPc : va_P (dC, dI) vwCl [] H := zP0
        have hDc : va_D (fun _ => True) [] := zD0
        have hFc := zfr hS hA
        refine va_calli (va_runS (As := [.int v17, .ref t1]) (rest := []) ⟨hx, hb, hml, hown, hts⟩ (g_X2_placeOf_b l dC dI cI cJ v17 t1 H.size) (cwS 2 hts (zgS qw449 qw450 qw100 qw451) rfl rfl rfl hd_X2_placeOf ⟨by rw [hR]; exact Nat.le_of_ble_eq_true rfl, by rw [hR]; exact Nat.le_of_ble_eq_true rfl⟩) (zPXS hPc hK hDc (zV_call hV hS hFc) (zTs_call (zTsc hE_t1 zTs0) hS hFc)) rfl rfl hl.1 rfl (lv_room (Nat.le_of_ble_eq_true rfl)) dX2_items_21 ⟨Nat.zero_le _, Nat.zero_le _⟩) hS (fun q _ h => hFc q h) hFc (fun v21 u21 t H locs ht hvm hw hB hz1 hk1 hS9 => ?_)
        replace hP := zkeep hP hk1
        replace hS := hS9
        clear hPc hDc hFc hk1 hz1 hvm hS9
        obtain ⟨f21_0, f21_1, f21_2, f21_3⟩ : ((-1) ≤ v21.toInt) ∧ (v21.toInt ≤ 3) ∧ (0 ≤ v21.toInt → 1 ≤ v17.toInt) ∧ (v21 = cIt 1 v17.toInt) := hw
        have F21 := f21_3
        refine lv_istore (lv' := [(7, .int v21), (6, .int m6_L_6), (5, .int m6_L_5), (0, .ref h0), (1, .ref t1), (2, .ref t2), (3, .ref rw), (4, .int p3)]) hx hb dX2_items_24 hl (by decide) rfl (fun ls hl => ?_)
        refine lv_iload hx hb dX2_items_26 (lv_at hl 0 rfl) ?_
        refine lv_iconst (v := (-1)) hx hb dX2_items_28 (by decide) ?_
        refine lv_icmp_eq (tgt := 43) hx hb dX2_items_29 (by decide) (fun c29 => ?_) (fun c29 => ?_)
        · have c29 : v21.toInt = (-1) := z5 rfl (by decide) c29
          refine lv_iconst (v := 1) hx hb dX2_items_43 (by decide) ?_
          have zr0 : (1 : Int32).toInt = 1 := by decide
          rw [hQ]
          exact W.zret (v := 1) (ty := .boolean) hx hb hr rfl (fun t ht hW => ⟨⟨1, (u17_0, m6_A_rw), rfl, ⟨by (try dsimp only); omega, by (try dsimp only); omega, by (try dsimp only); omega, by (try dsimp only); omega, by (try dsimp only); omega, zit_no jv6_0 F17 F21 (Or.inl (by omega)), fun _ => zIvN jv6_2 F17 F21 (Or.inl (by omega))⟩, ⟨by rw [ht]; exact hP, hD⟩⟩, hS.F ht⟩) hS.2.2 dX2_items_44
        · have c29 : ¬ v21.toInt = (-1) := z6 rfl (by decide) c29
          refine lv_iload hx hb dX2_items_32 (lv_at hl 2 rfl) ?_
          refine lv_iload hx hb dX2_items_34 (lv_at hl 0 rfl) ?_
          have hPc : va_P (dC, dI) vwCl [] H := zP0
          have hDc : va_D (fun _ => True) [] := zD0
          have hFc := zfr hS hA
          refine va_calli (va_runSN (As := [.int m6_L_5, .int v21]) (rest := []) ⟨hx, hb, hml, hown, hts⟩ (g_X10_bit l dC dI cI cJ m6_L_5 v21 H.size) ⟨va_cnB 2 hts (zgI qw454) rfl rfl rfl hV.2.1 (hts _ qw98) (hd_X10_bit).2 ⟨by rw [hR]; exact Nat.le_of_ble_eq_true rfl, by rw [hR]; exact Nat.le_of_ble_eq_true rfl⟩, hts _ qw453, trivial⟩ (zPS hPc hK hDc) rfl rfl hl.1 rfl (lv_room (Nat.le_of_ble_eq_true rfl)) dX2_items_36 ⟨Nat.zero_le _, Nat.zero_le _⟩) hS (fun q _ h => hFc q h) hFc (fun v36 u36 t H locs ht hvm hw hB hz1 hk1 hS9 => ?_)
          replace hP := zkeep hP hk1
          replace hS := hS9
          clear hPc hDc hFc hk1 hz1 hvm hS9
          obtain ⟨f36_0, f36_1, f36_2⟩ : (0 ≤ v36.toInt) ∧ (v36.toInt ≤ 1) ∧ (v36 = cBt m6_L_5 v21) := hw
          have F36 := f36_2
          refine lv_iconst (v := 1) hx hb dX2_items_39 (by decide) ?_
          refine lv_icmp_ne (tgt := 45) hx hb dX2_items_40 (by decide) (fun c40 => ?_) (fun c40 => ?_)
          · have c40 : ¬ v36.toInt = 1 := z6 rfl (by decide) c40
            refine lv_iload hx hb dX2_items_45 (lv_at hl 2 rfl) ?_
            refine lv_iconst (v := 1) hx hb dX2_items_47 (by decide) ?_
            refine lv_iload hx hb dX2_items_48 (lv_at hl 0 rfl) ?_
            refine lv_ishl hx hb dX2_items_50 ?_
            refine lv_topi (fun v50 e50 => ?_)
            have i50 : 1 ≤ v50.toInt ∧ v50.toInt ≤ 32 := zshl1 e50 (by omega) (by omega)
            refine lv_ior hx hb dX2_items_51 ?_
            refine lv_topi (fun v51 e51 => ?_)
            refine lv_istore (lv' := [(5, .int v51), (7, .int v21), (6, .int m6_L_6), (0, .ref h0), (1, .ref t1), (2, .ref t2), (3, .ref rw), (4, .int p3)]) hx hb dX2_items_52 hl (by decide) rfl (fun ls hl => ?_)
            refine lv_aload_n hx hb dX2_items_54 rfl (lv_at hl 3 rfl) ?_
            refine va_get (D := (dC, dI)) (ci := 2) (v := .ref tp) (C := RX2) (T := TX2) (N := 3) hx hb hts iX2 hown hK hP 0 rfl rfl 0 (by decide) (hts _ qw154) (fun _ h9 => h9) rfl dX2_items_55 ?_
            refine lv_dup hx hb dX2_items_58 rfl ?_
            refine va_get (D := (dC, dI)) (ci := 9) (v := .int u17_0) (C := RX9) (T := TX9) (N := 3) hx hb hts iX9 hown hK hP 1 rfl rfl 2 (by decide) (hts _ qw138) (fun _ h9 => h9) rfl dX2_items_59 ?_
            refine lv_iconst (v := 1) hx hb dX2_items_62 (by decide) ?_
            refine lv_iadd hx hb dX2_items_63 ?_
            refine lv_topi (fun v63 e63 => ?_)
            have i63 : v63.toInt = u17_0.toInt + 1 := zadd e63 rfl (by decide) (by omega) (by omega)
            refine va_put (D := (dC, dI)) (ci := 9) (v := .int v63) (ty := .int) (C := RX9) (T := TX9) (N := 3) hx hb hts iX9 tyX9 tyX9_ok nmX9 hown hK hP hD hS 1 rfl rfl 2 (by decide) (hts _ qw138) (fun _ h9 => h9) rfl (by decide +kernel) rfl rfl (Nat.le_of_ble_eq_true rfl) dX2_items_64 (fun H locs hP9 hD9 hS9 => ?_)
            clear hP hD hS
            obtain ⟨hP, hD⟩ := zst (wX := [(h0, .inr (2, [.ref tp, .ref aC, .int hsr])), (tp, .inr (9, [.ref tB, .int tl, .int v63])), (tB, .inl (cI, 260, .inl fB)), (rw, .inl (cI, 24, .inl m6_A_rw))]) hP9 hD9 rfl
            have hS := hS9
            clear hP9 hD9 hS9
            refine lv_aload_n hx hb dX2_items_67 rfl (lv_at hl 3 rfl) ?_
            refine va_get (D := (dC, dI)) (ci := 2) (v := .ref tp) (C := RX2) (T := TX2) (N := 3) hx hb hts iX2 hown hK hP 0 rfl rfl 0 (by decide) (hts _ qw154) (fun _ h9 => h9) rfl dX2_items_68 ?_
            obtain ⟨hPc, hDc, hFc⟩ := zc3 (wc := [(tp, .inr (9, [.ref tB, .int tl, .int v63])), (tB, .inl (cI, 260, .inl fB))]) hP hD hS hA [1, 2] (by decide +kernel) rfl
            refine va_calli (va_runV (As := []) (rest := []) ⟨hx, hb, hml, hown, hts⟩ (g_X9_peek l dC dI cI cJ tp tB tl v63 fB H.size (by omega) n_tl (hty)) (cwV 0 hts (zgV qw437 qw438 qw439 qw99 qw440) rfl rfl rfl hd_X9_peek ⟨by rw [hR]; exact Nat.le_of_ble_eq_true rfl, by rw [hR]; exact Nat.le_of_ble_eq_true rfl⟩) (zPV hPc hK hDc (va_recv (q := (RX9, TX9, 3)) hK hP (ci := 9) (q0 := 1) rfl rfl)) rfl rfl hl.1 rfl (lv_room (Nat.le_of_ble_eq_true rfl)) dX2_items_71 ⟨Nat.zero_le _, Nat.zero_le _⟩) hS (fun q _ h => hFc q h) hFc (fun v71 u71 t H locs ht hvm hw hB hz1 hk1 hS9 => ?_)
            obtain ⟨u71_0, rfl⟩ : ∃ z, z = u71 := ⟨_, rfl⟩
            obtain ⟨hP9, hD9⟩ := zj2 (wX := [(h0, .inr (2, [.ref tp, .ref aC, .int hsr])), (tp, .inr (9, [.ref tB, .int tl, .int u71_0])), (tB, .inl (cI, 260, .inl fB)), (rw, .inl (cI, 24, .inl m6_A_rw))]) hP hD hk1 hFc ht hB [1, 2] [(false, 0), (true, 0), (true, 1), (false, 3)] rfl (by decide +kernel) (by decide +kernel) rfl
            clear hP hD hS hPc hDc hFc hB hk1 hz1 hvm
            have hP := hP9
            have hD := hD9
            have hS := hS9
            clear hP9 hD9 hS9
            obtain ⟨f71_0, f71_1, f71_2, f71_3, f71_4⟩ : (0 ≤ u71_0.toInt) ∧ (u71_0.toInt ≤ 240) ∧ (¬ v71.toInt = 0 → u71_0.toInt < tl.toInt) ∧ (v63.toInt ≤ u71_0.toInt) ∧ (zPK fB tl v63 v71 u71_0) := hw
            have F71 := f71_4
            refine lv_pop hx hb dX2_items_74 rfl ?_
            refine lv_aload_n hx hb dX2_items_75 rfl (lv_at hl 3 rfl) ?_
            refine va_get (D := (dC, dI)) (ci := 2) (v := .ref tp) (C := RX2) (T := TX2) (N := 3) hx hb hts iX2 hown hK hP 0 rfl rfl 0 (by decide) (hts _ qw154) (fun _ h9 => h9) rfl dX2_items_76 ?_
            refine lv_iconst (v := 2) hx hb dX2_items_79 (by decide) ?_
            refine lv_aload_n hx hb dX2_items_80 rfl (lv_at hl 5 rfl) ?_
            refine lv_iload hx hb dX2_items_81 (lv_at hl 1 rfl) ?_
            refine va_ti hx hb ht_t2 hS (vp_in_iff.mpr ⟨by omega, by omega⟩) rfl dX2_items_83 ?_
            refine lv_topi (fun v83 e83 => ?_)
            have i83 : 9 ≤ v83.toInt ∧ v83.toInt ≤ 99 := ztl (t := 5) (lo := 9) (hi := 99) hr_t2 (by decide) e83 (by omega) (by omega)
            have x83 := ztx (t := 5) hr_t2 e83 (by omega) (by omega)
            obtain ⟨hPc, hDc, hFc⟩ := zc3 (wc := [(tp, .inr (9, [.ref tB, .int tl, .int u71_0])), (tB, .inl (cI, 260, .inl fB))]) hP hD hS hA [1, 2] (by decide +kernel) rfl
            refine va_calli (va_runV (As := [.int 2, .int v83]) (rest := []) ⟨hx, hb, hml, hown, hts⟩ (g_X9_number_2 l dC dI cI cJ tp v83 tB tl u71_0 fB H.size (by omega) ⟨f71_0, f71_1⟩ n_tl) (cwV 2 hts (zgV qw455 qw456 qw457 qw99 qw458) rfl rfl rfl hd_X9_number ⟨by rw [hR]; exact Nat.le_of_ble_eq_true rfl, by rw [hR]; exact Nat.le_of_ble_eq_true rfl⟩) (zPV hPc hK hDc (va_recv (q := (RX9, TX9, 3)) hK hP (ci := 9) (q0 := 1) rfl rfl)) rfl rfl hl.1 rfl (lv_room (Nat.le_of_ble_eq_true rfl)) dX2_items_84 ⟨Nat.zero_le _, Nat.zero_le _⟩) hS (fun q _ h => hFc q h) hFc (fun v84 u84 t H locs ht hvm hw hB hz1 hk1 hS9 => ?_)
            obtain ⟨u84_0, rfl⟩ : ∃ z, z = u84 := ⟨_, rfl⟩
            obtain ⟨hP9, hD9⟩ := zj2 (wX := [(h0, .inr (2, [.ref tp, .ref aC, .int hsr])), (tp, .inr (9, [.ref tB, .int tl, .int u84_0])), (tB, .inl (cI, 260, .inl fB)), (rw, .inl (cI, 24, .inl m6_A_rw))]) hP hD hk1 hFc ht hB [1, 2] [(false, 0), (true, 0), (true, 1), (false, 3)] rfl (by decide +kernel) (by decide +kernel) rfl
            clear hP hD hS hPc hDc hFc hB hk1 hz1 hvm
            have hP := hP9
            have hD := hD9
            have hS := hS9
            clear hP9 hD9 hS9
            obtain ⟨f84_0, f84_1, f84_2, f84_3, f84_4, f84_5⟩ : ((-1) ≤ v84.toInt) ∧ (v84.toInt ≤ 99) ∧ (0 ≤ u84_0.toInt) ∧ (u84_0.toInt ≤ 240) ∧ (u71_0.toInt ≤ u84_0.toInt) ∧ (zN2 fB tl u71_0 v83 v84 u84_0) := hw
            have F84 := f84_5
            refine lv_istore (lv' := [(8, .int v84), (5, .int v51), (7, .int v21), (6, .int m6_L_6), (0, .ref h0), (1, .ref t1), (2, .ref t2), (3, .ref rw), (4, .int p3)]) hx hb dX2_items_87 hl (by decide) rfl (fun ls hl => ?_)
            refine lv_iload hx hb dX2_items_89 (lv_at hl 0 rfl) ?_
            refine lv_iconst (v := (-1)) hx hb dX2_items_91 (by decide) ?_
            refine lv_icmp_ne (tgt := 97) hx hb dX2_items_92 (by decide) (fun c92 => ?_) (fun c92 => ?_)
            · have c92 : ¬ v84.toInt = (-1) := z6 rfl (by decide) c92
              refine lv_aload_n hx hb dX2_items_97 rfl (lv_at hl 7 rfl) ?_
              refine lv_iload hx hb dX2_items_98 (lv_at hl 8 rfl) ?_
              refine lv_iload hx hb dX2_items_100 (lv_at hl 2 rfl) ?_
              refine lv_iadd hx hb dX2_items_102 ?_
              refine lv_topi (fun v102 e102 => ?_)
              have i102 : v102.toInt = p3.toInt + v21.toInt := zadd e102 rfl rfl (by omega) (by omega)
              refine lv_iload hx hb dX2_items_103 (lv_at hl 0 rfl) ?_
              refine va_iast hx hb hK hP hD hS 3 0 rfl rfl (vp_in_iff.mpr ⟨by omega, by omega⟩) dX2_items_105 (fun H locs hP9 hD9 hS9 => ?_)
              clear hP hD hS
              obtain ⟨v105_f, e105⟩ : ∃ g : Nat → Int32, g = upd m6_A_rw (v102).toNatClampNeg v84 := ⟨_, rfl⟩
              rw [← e105] at hP9 hD9
              obtain ⟨hP, hD⟩ := zst (wX := [(h0, .inr (2, [.ref tp, .ref aC, .int hsr])), (tp, .inr (9, [.ref tB, .int tl, .int u84_0])), (tB, .inl (cI, 260, .inl fB)), (rw, .inl (cI, 24, .inl v105_f))]) hP9 hD9 rfl
              have hS := hS9
              clear hP9 hD9 hS9
              obtain ⟨v106, e106⟩ : ∃ y : Int32, y = m6_L_6 + Int32.ofInt (1) := ⟨_, rfl⟩
              refine lv_iinc (v := v106) (lv' := [(6, .int v106), (8, .int v84), (5, .int v51), (7, .int v21), (0, .ref h0), (1, .ref t1), (2, .ref t2), (3, .ref rw), (4, .int p3)]) hx hb dX2_items_106 hl (k := 3) rfl e106.symm (by decide) rfl (fun ls hl => ?_)
              have i106 : v106.toInt = m6_L_6.toInt + 1 := zaddI e106 (by decide) (by omega) (by omega)
              refine lv_goto (tgt := 6) hx hb dX2_items_109 (by decide) ?_
              exact ih6 _ (by omega) v105_f u84_0 v51 v106 ⟨f84_2, f84_3⟩ (by omega) (by omega) (by rw [e51, e50]; exact zit_go jv6_0 F17 F21 (by omega) (fun z => by rw [← F36] at z; rw [z] at c40; exact c40 (by decide)) i63 F71 (zhi5 x83 (by omega) (by omega)) F84 (by omega) (by omega)) (by rw [e51, e50]; exact zPcS4 jv6_1 (by omega) (by omega) (fun z => by rw [← F36] at z; rw [z] at c40; exact c40 (by decide)) i106) (by rw [e51, e50]; exact zIvS jv6_2 F17 F21 (by omega) (fun z => by rw [← F36] at z; rw [z] at c40; exact c40 (by decide)) i63 F71 (zhi5 x83 (by omega) (by omega)) F84 (by omega) (by omega) e105 (by omega) (by omega)) rfl H locs ls hP hD hS (lv_sub hl [0, 2, 4, 5, 6, 7, 8] rfl)
            · have c92 : v84.toInt = (-1) := z5 rfl (by decide) c92
              refine lv_iconst (v := 0) hx hb dX2_items_95 (by decide) ?_
              have zr0 : (0 : Int32).toInt = 0 := by decide
              rw [hQ]
              exact W.zret (v := 0) (ty := .boolean) hx hb hr rfl (fun t ht hW => ⟨⟨0, (u84_0, m6_A_rw), rfl, ⟨by (try dsimp only); omega, by (try dsimp only); omega, by (try dsimp only); omega, by (try dsimp only); omega, by (try dsimp only); omega, zit_bad jv6_0 F17 F21 (by omega) (fun z => by rw [← F36] at z; rw [z] at c40; exact c40 (by decide)) i63 F71 (zhi5 x83 (by omega) (by omega)) F84 (by omega), fun z => absurd z (by decide)⟩, ⟨by rw [ht]; exact hP, hD⟩⟩, hS.F ht⟩) hS.2.2 dX2_items_96
          · have c40 : v36.toInt = 1 := z5 rfl (by decide) c40
            refine lv_iconst (v := 1) hx hb dX2_items_43 (by decide) ?_
            have zr0 : (1 : Int32).toInt = 1 := by decide
            rw [hQ]
            exact W.zret (v := 1) (ty := .boolean) hx hb hr rfl (fun t ht hW => ⟨⟨1, (u17_0, m6_A_rw), rfl, ⟨by (try dsimp only); omega, by (try dsimp only); omega, by (try dsimp only); omega, by (try dsimp only); omega, by (try dsimp only); omega, zit_no jv6_0 F17 F21 (Or.inr (F36.symm.trans (z7 (a := 1) (by decide) (by omega)))), fun _ => zIvN jv6_2 F17 F21 (Or.inr (F36.symm.trans (z7 (a := 1) (by decide) (by omega))))⟩, ⟨by rw [ht]; exact hP, hD⟩⟩, hS.F ht⟩) hS.2.2 dX2_items_44
  refine lv_istore (lv' := [(6, .int 0), (5, .int 0), (0, .ref h0), (1, .ref t1), (2, .ref t2), (3, .ref rw), (4, .int p3)]) hx hb dX2_items_4 hl (by decide) rfl (fun ls hl => ?_)
  have zj6_m6_L_5 : (0 : Int32).toInt = 0 := by decide
  have zj6_m6_L_6 : (0 : Int32).toInt = 0 := by decide
  exact J6 _ frw ta 0 0 n_ta (by decide) (by omega) (rfl) (zPc0) (zIv0) rfl H locs ls hP hD hS (lv_sub hl [0, 1, 2, 3, 4, 5, 6] rfl)
set_option maxHeartbeats 4000000 in
set_option maxRecDepth 100000 in
theorem g_X2_items_p (l : Launch) (dC : Nat → ClassId) (dI : Nat → Nat → Nat) (cI cJ : ClassId) (h0 : Nat) (t1 : Nat) (t2 : Nat) (rw : Nat) (p3 : Int32) (tp : Nat) (aC : Nat) (hsr : Int32) (tB : Nat) (tl : Int32) (ta : Int32) (fB : Nat → Int32) (frw : Nat → Int32) (sz : Nat) (n_p3 : 0 ≤ p3.toInt ∧ p3.toInt ≤ 16) (n_ta : 0 ≤ ta.toInt ∧ ta.toInt ≤ 240) (n_tl : 0 ≤ tl.toInt ∧ tl.toInt ≤ 240) (hty : zTy tl fB)   : Met l yX2_items (.code yX2_items cX2_items 9 (some .boolean) :: wA) ({ frames := 1, cells := 0, slots := 0, locals := 24 }) (zPX (dC, dI) [(cI, .int), (cJ, .long)] [.ref h0, .ref t1, .ref t2, .ref rw, .int p3] sz [(h0, .inr (2, [.ref tp, .ref aC, .int hsr])), (tp, .inr (9, [.ref tB, .int tl, .int ta])), (tB, .inl (cI, 260, .inl fB)), (rw, .inl (cI, 20, .inl frw))] (va_A [(h0, .inr (2, [.ref tp, .ref aC, .int hsr])), (tp, .inr (9, [.ref tB, .int tl, .int ta])), (tB, .inl (cI, 260, .inl fB)), (rw, .inl (cI, 20, .inl frw))] sz) [(7, .char, t1, 4), (8, .int, t2, 4)]) (va_Qi (fun (r : Int32) (u : Int32 × (Nat → Int32)) => (0 ≤ r.toInt) ∧ (r.toInt ≤ 1) ∧ (0 ≤ u.1.toInt) ∧ (u.1.toInt ≤ 240) ∧ (ta.toInt ≤ u.1.toInt) ∧ (zFs fB tl (sIts (sB fB tl.toInt) tl.toInt 2 0 ta.toInt) r u.1) ∧ (r.toInt = 1 → zIe fB tl 2 4 p3.toInt.toNat ta.toInt frw u.2)) (fun (u : Int32 × (Nat → Int32)) (t : State) => va_P (dC, dI) vwCl [(h0, .inr (2, [.ref tp, .ref aC, .int hsr])), (tp, .inr (9, [.ref tB, .int tl, .int u.1])), (tB, .inl (cI, 260, .inl fB)), (rw, .inl (cI, 20, .inl u.2))] t.heap ∧ va_D (va_A [(h0, .inr (2, [.ref tp, .ref aC, .int hsr])), (tp, .inr (9, [.ref tB, .int tl, .int ta])), (tB, .inl (cI, 260, .inl fB)), (rw, .inl (cI, 20, .inl frw))] sz) [(h0, .inr (2, [.ref tp, .ref aC, .int hsr])), (tp, .inr (9, [.ref tB, .int tl, .int u.1])), (tB, .inl (cI, 260, .inl fB)), (rw, .inl (cI, 20, .inl u.2))]) (va_A [(h0, .inr (2, [.ref tp, .ref aC, .int hsr])), (tp, .inr (9, [.ref tB, .int tl, .int ta])), (tB, .inl (cI, 260, .inl fB)), (rw, .inl (cI, 20, .inl frw))] sz)) 0 0 (va_A [(h0, .inr (2, [.ref tp, .ref aC, .int hsr])), (tp, .inr (9, [.ref tB, .int tl, .int ta])), (tB, .inl (cI, 260, .inl fB)), (rw, .inl (cI, 20, .inl frw))] sz) := by
  refine Met.ofW (cc := cX2_items) (maxL := 9) (ret := (some .boolean)) (by decide) rfl ?_
  intro p e s m args below meth c s₁ B hml hv
  obtain ⟨⟨⟨hargs, hsz, hP, hK, hT⟩, hV⟩, hE⟩ := hv
  have hx := B.exec
  have hb := B.bytes
  have hr := B.returns
  have hts : ∀ w ∈ wA, w.before args s = true := fun w h => atoms_spec (ws := .code yX2_items cX2_items 9 (some .boolean) :: wA) B.pre w (List.mem_cons_of_mem _ h)
  have hown : s.vm.findClass RX2 = some m.cls := findClass_of_methodNamed B.named
  have hlocks := B.notSynchronized
  subst hsz
  have hD := hT.self (sz := s.heap.size)
  generalize hAe : va_A [(h0, .inr (2, [.ref tp, .ref aC, .int hsr])), (tp, .inr (9, [.ref tB, .int tl, .int ta])), (tB, .inl (cI, 260, .inl fB)), (rw, .inl (cI, 20, .inl frw))] s.heap.size = A at hD hV hE ⊢
  have hE_t1 : zTt 7 .char t1 4 A s := hE _ (List.mem_of_getElem? (i := 0) rfl)
  obtain ⟨tf_t1, ht_t1, hr_t1⟩ := hE_t1
  have hE_t1 : zTt 7 .char t1 4 A s := ⟨tf_t1, ht_t1, hr_t1⟩
  have hE_t2 : zTt 8 .int t2 4 A s := hE _ (List.mem_of_getElem? (i := 1) rfl)
  obtain ⟨tf_t2, ht_t2, hr_t2⟩ := hE_t2
  have hE_t2 : zTt 8 .int t2 4 A s := ⟨tf_t2, ht_t2, hr_t2⟩
  have hA : ∀ q : Nat, s.heap.size ≤ q → A q := fun q h => by rw [← hAe]; exact Or.inr h
  have hl := lv_entry ([.ref h0, .ref t1, .ref t2, .ref rw, .int p3]) (n := 9) (Nat.le_of_ble_eq_true rfl)
  rw [show entryFrame m args 9 = entryFrame m ([.ref h0, .ref t1, .ref t2, .ref rw, .int p3] : List Value).toArray 9 by rw [hargs], lg_entry_eq]
  generalize (lg_sl ([.ref h0, .ref t1, .ref t2, .ref rw, .int p3]) ++ List.replicate (9 - (lg_sl ([.ref h0, .ref t1, .ref t2, .ref rw, .int p3])).length) Slot.unset).toArray = ls at hl ⊢
  have hl : lv_has ls 9 [(0, .ref h0), (1, .ref t1), (2, .ref t2), (3, .ref rw), (4, .int p3)] := hl
  refine zstart (fun H hH => ?_)
  rw [← hH] at hP
  have hS : va_S A s.heap H [] := by rw [hH]; exact va_S.rf
  generalize ([] : List Loc) = locs at hS ⊢
  refine zgen (fun R Q hR hQ => ?_)
  refine lv_iconst (v := 0) hx hb dX2_items_0 (by decide) ?_
  refine lv_istore (lv' := [(5, .int 0), (0, .ref h0), (1, .ref t1), (2, .ref t2), (3, .ref rw), (4, .int p3)]) hx hb dX2_items_1 hl (by decide) rfl (fun ls hl => ?_)
  refine lv_iconst (v := 0) hx hb dX2_items_3 (by decide) ?_
  have J6 : ∀ (n : Nat) (m6_A_rw : Nat → Int32) (m6_F_tp_2 : Int32) (m6_L_5 : Int32) (m6_L_6 : Int32), (0 ≤ m6_F_tp_2.toInt ∧ m6_F_tp_2.toInt ≤ 240) → (0 ≤ m6_L_6.toInt ∧ m6_L_6.toInt ≤ 4) → (ta.toInt ≤ m6_F_tp_2.toInt) → (sIts (sB fB tl.toInt) tl.toInt 2 0 ta.toInt = sIts (sB fB tl.toInt) tl.toInt 2 m6_L_5 m6_F_tp_2.toInt) → (zPc 4 m6_L_5 m6_L_6) → (zIv fB tl 2 4 p3.toInt.toNat ta.toInt frw m6_A_rw m6_L_5 m6_F_tp_2) → (5 - m6_L_6.toInt).toNat = n → ∀ (H : Heap) (locs : List Loc) (ls : Array Slot), va_P (dC, dI) vwCl [(h0, .inr (2, [.ref tp, .ref aC, .int hsr])), (tp, .inr (9, [.ref tB, .int tl, .int m6_F_tp_2])), (tB, .inl (cI, 260, .inl fB)), (rw, .inl (cI, 20, .inl m6_A_rw))] H → va_D A [(h0, .inr (2, [.ref tp, .ref aC, .int hsr])), (tp, .inr (9, [.ref tB, .int tl, .int m6_F_tp_2])), (tB, .inl (cI, 260, .inl fB)), (rw, .inl (cI, 20, .inl m6_A_rw))] → va_S A s.heap H locs → lv_has ls 9 [(6, .int m6_L_6), (5, .int m6_L_5), (0, .ref h0), (1, .ref t1), (2, .ref t2), (3, .ref rw), (4, .int p3)] → W p l e R s m args below meth c H locs 0 0 Q (F0 m 6 ls []) := by
    intro n6
    induction n6 using Nat.strongRecOn with
    | _ n6 ih6 =>
      intro m6_A_rw m6_F_tp_2 m6_L_5 m6_L_6 jf6_0 jf6_1 jf6_2 jv6_0 jv6_1 jv6_2 hmu6 H locs ls hP hD hS hl
      refine lv_iload hx hb dX2_items_6 (lv_at hl 0 rfl) ?_
      refine lv_aload_n hx hb dX2_items_8 rfl (lv_at hl 3 rfl) ?_
      refine va_tlen (v := 4) hx hb ht_t1 hS (by decide) dX2_items_9 ?_
      refine lv_icmp_ge (tgt := 112) hx hb dX2_items_10 (by decide) (fun c10 => ?_) (fun c10 => ?_)
      · have c10 : 4 ≤ m6_L_6.toInt := z3 (by decide) rfl c10
        refine lv_iconst (v := 1) hx hb dX2_items_112 (by decide) ?_
        have zr0 : (1 : Int32).toInt = 1 := by decide
        rw [hQ]
        exact W.zret (v := 1) (ty := .boolean) hx hb hr rfl (fun t ht hW => ⟨⟨1, (m6_F_tp_2, m6_A_rw), rfl, ⟨by (try dsimp only); omega, by (try dsimp only); omega, by (try dsimp only); omega, by (try dsimp only); omega, by (try dsimp only); omega, zit_full jv6_0 (Or.inr ⟨by decide, jv6_1, by omega⟩), fun _ => zIvF jv6_2 (Or.inr ⟨by decide, jv6_1, by omega⟩)⟩, ⟨by rw [ht]; exact hP, hD⟩⟩, hS.F ht⟩) hS.2.2 dX2_items_113
      · have c10 : m6_L_6.toInt < 4 := z4 (by decide) rfl c10
        refine lv_aload_n hx hb dX2_items_13 rfl (lv_at hl 2 rfl) ?_
        refine va_get (D := (dC, dI)) (ci := 2) (v := .ref tp) (C := RX2) (T := TX2) (N := 3) hx hb hts iX2 hown hK hP 0 rfl rfl 0 (by decide) (hts _ qw154) (fun _ h9 => h9) rfl dX2_items_14 ?_
        obtain ⟨hPc, hDc, hFc⟩ := zc3 (wc := [(tp, .inr (9, [.ref tB, .int tl, .int m6_F_tp_2])), (tB, .inl (cI, 260, .inl fB))]) hP hD hS hA [1, 2] (by decide +kernel) rfl
        refine va_calli (va_runV (As := []) (rest := []) ⟨hx, hb, hml, hown, hts⟩ (g_X9_peek l dC dI cI cJ tp tB tl m6_F_tp_2 fB H.size jf6_0 n_tl (hty)) (cwV 0 hts (zgV qw437 qw438 qw439 qw99 qw440) rfl rfl rfl hd_X9_peek ⟨by rw [hR]; exact Nat.le_of_ble_eq_true rfl, by rw [hR]; exact Nat.le_of_ble_eq_true rfl⟩) (zPV hPc hK hDc (va_recv (q := (RX9, TX9, 3)) hK hP (ci := 9) (q0 := 1) rfl rfl)) rfl rfl hl.1 rfl (lv_room (Nat.le_of_ble_eq_true rfl)) dX2_items_17 ⟨Nat.zero_le _, Nat.zero_le _⟩) hS (fun q _ h => hFc q h) hFc (fun v17 u17 t H locs ht hvm hw hB hz1 hk1 hS9 => ?_)
        obtain ⟨u17_0, rfl⟩ : ∃ z, z = u17 := ⟨_, rfl⟩
        obtain ⟨hP9, hD9⟩ := zj2 (wX := [(h0, .inr (2, [.ref tp, .ref aC, .int hsr])), (tp, .inr (9, [.ref tB, .int tl, .int u17_0])), (tB, .inl (cI, 260, .inl fB)), (rw, .inl (cI, 20, .inl m6_A_rw))]) hP hD hk1 hFc ht hB [1, 2] [(false, 0), (true, 0), (true, 1), (false, 3)] rfl (by decide +kernel) (by decide +kernel) rfl
        clear hP hD hS hPc hDc hFc hB hk1 hz1 hvm
        have hP := hP9
        have hD := hD9
        have hS := hS9
        clear hP9 hD9 hS9
        obtain ⟨f17_0, f17_1, f17_2, f17_3, f17_4⟩ : (0 ≤ u17_0.toInt) ∧ (u17_0.toInt ≤ 240) ∧ (¬ v17.toInt = 0 → u17_0.toInt < tl.toInt) ∧ (m6_F_tp_2.toInt ≤ u17_0.toInt) ∧ (zPK fB tl m6_F_tp_2 v17 u17_0) := hw
        have F17 := f17_4
        refine lv_aload_n hx hb dX2_items_20 rfl (lv_at hl 3 rfl) ?_
        have hPc : va_P (dC, dI) vwCl [] H := zP0
        have hDc : va_D (fun _ => True) [] := zD0
        have hFc := zfr hS hA
        have hPc : va_P (dC, dI) vwCl [] H := zP0
        have hDc : va_D (fun _ => True) [] := zD0
        have hFc := zfr hS hA
        have hPc : va_P (dC, dI) vwCl [] H := zP0
        have hDc : va_D (fun _ => True) [] := zD0
        have hFc := zfr hS hA
        refine va_calli (va_runS (As := [.int v17, .ref t1]) (rest := []) ⟨hx, hb, hml, hown, hts⟩ (g_X2_placeOf_p l dC dI cI cJ v17 t1 H.size) (cwS 2 hts (zgS qw449 qw450 qw100 qw451) rfl rfl rfl hd_X2_placeOf ⟨by rw [hR]; exact Nat.le_of_ble_eq_true rfl, by rw [hR]; exact Nat.le_of_ble_eq_true rfl⟩) (zPXS hPc hK hDc (zV_call hV hS hFc) (zTs_call (zTsc hE_t1 zTs0) hS hFc)) rfl rfl hl.1 rfl (lv_room (Nat.le_of_ble_eq_true rfl)) dX2_items_21 ⟨Nat.zero_le _, Nat.zero_le _⟩) hS (fun q _ h => hFc q h) hFc (fun v21 u21 t H locs ht hvm hw hB hz1 hk1 hS9 => ?_)
        replace hP := zkeep hP hk1
        replace hS := hS9
        clear hPc hDc hFc hk1 hz1 hvm hS9
        obtain ⟨f21_0, f21_1, f21_2, f21_3⟩ : ((-1) ≤ v21.toInt) ∧ (v21.toInt ≤ 3) ∧ (0 ≤ v21.toInt → 1 ≤ v17.toInt) ∧ (v21 = cIt 2 v17.toInt) := hw
        have F21 := f21_3
        refine lv_istore (lv' := [(7, .int v21), (6, .int m6_L_6), (5, .int m6_L_5), (0, .ref h0), (1, .ref t1), (2, .ref t2), (3, .ref rw), (4, .int p3)]) hx hb dX2_items_24 hl (by decide) rfl (fun ls hl => ?_)
        refine lv_iload hx hb dX2_items_26 (lv_at hl 0 rfl) ?_
        refine lv_iconst (v := (-1)) hx hb dX2_items_28 (by decide) ?_
        refine lv_icmp_eq (tgt := 43) hx hb dX2_items_29 (by decide) (fun c29 => ?_) (fun c29 => ?_)
        · have c29 : v21.toInt = (-1) := z5 rfl (by decide) c29
          refine lv_iconst (v := 1) hx hb dX2_items_43 (by decide) ?_
          have zr0 : (1 : Int32).toInt = 1 := by decide
          rw [hQ]
          exact W.zret (v := 1) (ty := .boolean) hx hb hr rfl (fun t ht hW => ⟨⟨1, (u17_0, m6_A_rw), rfl, ⟨by (try dsimp only); omega, by (try dsimp only); omega, by (try dsimp only); omega, by (try dsimp only); omega, by (try dsimp only); omega, zit_no jv6_0 F17 F21 (Or.inl (by omega)), fun _ => zIvN jv6_2 F17 F21 (Or.inl (by omega))⟩, ⟨by rw [ht]; exact hP, hD⟩⟩, hS.F ht⟩) hS.2.2 dX2_items_44
        · have c29 : ¬ v21.toInt = (-1) := z6 rfl (by decide) c29
          refine lv_iload hx hb dX2_items_32 (lv_at hl 2 rfl) ?_
          refine lv_iload hx hb dX2_items_34 (lv_at hl 0 rfl) ?_
          have hPc : va_P (dC, dI) vwCl [] H := zP0
          have hDc : va_D (fun _ => True) [] := zD0
          have hFc := zfr hS hA
          refine va_calli (va_runSN (As := [.int m6_L_5, .int v21]) (rest := []) ⟨hx, hb, hml, hown, hts⟩ (g_X10_bit l dC dI cI cJ m6_L_5 v21 H.size) ⟨va_cnB 2 hts (zgI qw454) rfl rfl rfl hV.2.1 (hts _ qw98) (hd_X10_bit).2 ⟨by rw [hR]; exact Nat.le_of_ble_eq_true rfl, by rw [hR]; exact Nat.le_of_ble_eq_true rfl⟩, hts _ qw453, trivial⟩ (zPS hPc hK hDc) rfl rfl hl.1 rfl (lv_room (Nat.le_of_ble_eq_true rfl)) dX2_items_36 ⟨Nat.zero_le _, Nat.zero_le _⟩) hS (fun q _ h => hFc q h) hFc (fun v36 u36 t H locs ht hvm hw hB hz1 hk1 hS9 => ?_)
          replace hP := zkeep hP hk1
          replace hS := hS9
          clear hPc hDc hFc hk1 hz1 hvm hS9
          obtain ⟨f36_0, f36_1, f36_2⟩ : (0 ≤ v36.toInt) ∧ (v36.toInt ≤ 1) ∧ (v36 = cBt m6_L_5 v21) := hw
          have F36 := f36_2
          refine lv_iconst (v := 1) hx hb dX2_items_39 (by decide) ?_
          refine lv_icmp_ne (tgt := 45) hx hb dX2_items_40 (by decide) (fun c40 => ?_) (fun c40 => ?_)
          · have c40 : ¬ v36.toInt = 1 := z6 rfl (by decide) c40
            refine lv_iload hx hb dX2_items_45 (lv_at hl 2 rfl) ?_
            refine lv_iconst (v := 1) hx hb dX2_items_47 (by decide) ?_
            refine lv_iload hx hb dX2_items_48 (lv_at hl 0 rfl) ?_
            refine lv_ishl hx hb dX2_items_50 ?_
            refine lv_topi (fun v50 e50 => ?_)
            have i50 : 1 ≤ v50.toInt ∧ v50.toInt ≤ 32 := zshl1 e50 (by omega) (by omega)
            refine lv_ior hx hb dX2_items_51 ?_
            refine lv_topi (fun v51 e51 => ?_)
            refine lv_istore (lv' := [(5, .int v51), (7, .int v21), (6, .int m6_L_6), (0, .ref h0), (1, .ref t1), (2, .ref t2), (3, .ref rw), (4, .int p3)]) hx hb dX2_items_52 hl (by decide) rfl (fun ls hl => ?_)
            refine lv_aload_n hx hb dX2_items_54 rfl (lv_at hl 3 rfl) ?_
            refine va_get (D := (dC, dI)) (ci := 2) (v := .ref tp) (C := RX2) (T := TX2) (N := 3) hx hb hts iX2 hown hK hP 0 rfl rfl 0 (by decide) (hts _ qw154) (fun _ h9 => h9) rfl dX2_items_55 ?_
            refine lv_dup hx hb dX2_items_58 rfl ?_
            refine va_get (D := (dC, dI)) (ci := 9) (v := .int u17_0) (C := RX9) (T := TX9) (N := 3) hx hb hts iX9 hown hK hP 1 rfl rfl 2 (by decide) (hts _ qw138) (fun _ h9 => h9) rfl dX2_items_59 ?_
            refine lv_iconst (v := 1) hx hb dX2_items_62 (by decide) ?_
            refine lv_iadd hx hb dX2_items_63 ?_
            refine lv_topi (fun v63 e63 => ?_)
            have i63 : v63.toInt = u17_0.toInt + 1 := zadd e63 rfl (by decide) (by omega) (by omega)
            refine va_put (D := (dC, dI)) (ci := 9) (v := .int v63) (ty := .int) (C := RX9) (T := TX9) (N := 3) hx hb hts iX9 tyX9 tyX9_ok nmX9 hown hK hP hD hS 1 rfl rfl 2 (by decide) (hts _ qw138) (fun _ h9 => h9) rfl (by decide +kernel) rfl rfl (Nat.le_of_ble_eq_true rfl) dX2_items_64 (fun H locs hP9 hD9 hS9 => ?_)
            clear hP hD hS
            obtain ⟨hP, hD⟩ := zst (wX := [(h0, .inr (2, [.ref tp, .ref aC, .int hsr])), (tp, .inr (9, [.ref tB, .int tl, .int v63])), (tB, .inl (cI, 260, .inl fB)), (rw, .inl (cI, 20, .inl m6_A_rw))]) hP9 hD9 rfl
            have hS := hS9
            clear hP9 hD9 hS9
            refine lv_aload_n hx hb dX2_items_67 rfl (lv_at hl 3 rfl) ?_
            refine va_get (D := (dC, dI)) (ci := 2) (v := .ref tp) (C := RX2) (T := TX2) (N := 3) hx hb hts iX2 hown hK hP 0 rfl rfl 0 (by decide) (hts _ qw154) (fun _ h9 => h9) rfl dX2_items_68 ?_
            obtain ⟨hPc, hDc, hFc⟩ := zc3 (wc := [(tp, .inr (9, [.ref tB, .int tl, .int v63])), (tB, .inl (cI, 260, .inl fB))]) hP hD hS hA [1, 2] (by decide +kernel) rfl
            refine va_calli (va_runV (As := []) (rest := []) ⟨hx, hb, hml, hown, hts⟩ (g_X9_peek l dC dI cI cJ tp tB tl v63 fB H.size (by omega) n_tl (hty)) (cwV 0 hts (zgV qw437 qw438 qw439 qw99 qw440) rfl rfl rfl hd_X9_peek ⟨by rw [hR]; exact Nat.le_of_ble_eq_true rfl, by rw [hR]; exact Nat.le_of_ble_eq_true rfl⟩) (zPV hPc hK hDc (va_recv (q := (RX9, TX9, 3)) hK hP (ci := 9) (q0 := 1) rfl rfl)) rfl rfl hl.1 rfl (lv_room (Nat.le_of_ble_eq_true rfl)) dX2_items_71 ⟨Nat.zero_le _, Nat.zero_le _⟩) hS (fun q _ h => hFc q h) hFc (fun v71 u71 t H locs ht hvm hw hB hz1 hk1 hS9 => ?_)
            obtain ⟨u71_0, rfl⟩ : ∃ z, z = u71 := ⟨_, rfl⟩
            obtain ⟨hP9, hD9⟩ := zj2 (wX := [(h0, .inr (2, [.ref tp, .ref aC, .int hsr])), (tp, .inr (9, [.ref tB, .int tl, .int u71_0])), (tB, .inl (cI, 260, .inl fB)), (rw, .inl (cI, 20, .inl m6_A_rw))]) hP hD hk1 hFc ht hB [1, 2] [(false, 0), (true, 0), (true, 1), (false, 3)] rfl (by decide +kernel) (by decide +kernel) rfl
            clear hP hD hS hPc hDc hFc hB hk1 hz1 hvm
            have hP := hP9
            have hD := hD9
            have hS := hS9
            clear hP9 hD9 hS9
            obtain ⟨f71_0, f71_1, f71_2, f71_3, f71_4⟩ : (0 ≤ u71_0.toInt) ∧ (u71_0.toInt ≤ 240) ∧ (¬ v71.toInt = 0 → u71_0.toInt < tl.toInt) ∧ (v63.toInt ≤ u71_0.toInt) ∧ (zPK fB tl v63 v71 u71_0) := hw
            have F71 := f71_4
            refine lv_pop hx hb dX2_items_74 rfl ?_
            refine lv_aload_n hx hb dX2_items_75 rfl (lv_at hl 3 rfl) ?_
            refine va_get (D := (dC, dI)) (ci := 2) (v := .ref tp) (C := RX2) (T := TX2) (N := 3) hx hb hts iX2 hown hK hP 0 rfl rfl 0 (by decide) (hts _ qw154) (fun _ h9 => h9) rfl dX2_items_76 ?_
            refine lv_iconst (v := 2) hx hb dX2_items_79 (by decide) ?_
            refine lv_aload_n hx hb dX2_items_80 rfl (lv_at hl 5 rfl) ?_
            refine lv_iload hx hb dX2_items_81 (lv_at hl 1 rfl) ?_
            refine va_ti hx hb ht_t2 hS (vp_in_iff.mpr ⟨by omega, by omega⟩) rfl dX2_items_83 ?_
            refine lv_topi (fun v83 e83 => ?_)
            have i83 : 3 ≤ v83.toInt ∧ v83.toInt ≤ 30 := ztl (t := 8) (lo := 3) (hi := 30) hr_t2 (by decide) e83 (by omega) (by omega)
            have x83 := ztx (t := 8) hr_t2 e83 (by omega) (by omega)
            obtain ⟨hPc, hDc, hFc⟩ := zc3 (wc := [(tp, .inr (9, [.ref tB, .int tl, .int u71_0])), (tB, .inl (cI, 260, .inl fB))]) hP hD hS hA [1, 2] (by decide +kernel) rfl
            refine va_calli (va_runV (As := [.int 2, .int v83]) (rest := []) ⟨hx, hb, hml, hown, hts⟩ (g_X9_number_2 l dC dI cI cJ tp v83 tB tl u71_0 fB H.size (by omega) ⟨f71_0, f71_1⟩ n_tl) (cwV 2 hts (zgV qw455 qw456 qw457 qw99 qw458) rfl rfl rfl hd_X9_number ⟨by rw [hR]; exact Nat.le_of_ble_eq_true rfl, by rw [hR]; exact Nat.le_of_ble_eq_true rfl⟩) (zPV hPc hK hDc (va_recv (q := (RX9, TX9, 3)) hK hP (ci := 9) (q0 := 1) rfl rfl)) rfl rfl hl.1 rfl (lv_room (Nat.le_of_ble_eq_true rfl)) dX2_items_84 ⟨Nat.zero_le _, Nat.zero_le _⟩) hS (fun q _ h => hFc q h) hFc (fun v84 u84 t H locs ht hvm hw hB hz1 hk1 hS9 => ?_)
            obtain ⟨u84_0, rfl⟩ : ∃ z, z = u84 := ⟨_, rfl⟩
            obtain ⟨hP9, hD9⟩ := zj2 (wX := [(h0, .inr (2, [.ref tp, .ref aC, .int hsr])), (tp, .inr (9, [.ref tB, .int tl, .int u84_0])), (tB, .inl (cI, 260, .inl fB)), (rw, .inl (cI, 20, .inl m6_A_rw))]) hP hD hk1 hFc ht hB [1, 2] [(false, 0), (true, 0), (true, 1), (false, 3)] rfl (by decide +kernel) (by decide +kernel) rfl
            clear hP hD hS hPc hDc hFc hB hk1 hz1 hvm
            have hP := hP9
            have hD := hD9
            have hS := hS9
            clear hP9 hD9 hS9
            obtain ⟨f84_0, f84_1, f84_2, f84_3, f84_4, f84_5⟩ : ((-1) ≤ v84.toInt) ∧ (v84.toInt ≤ 99) ∧ (0 ≤ u84_0.toInt) ∧ (u84_0.toInt ≤ 240) ∧ (u71_0.toInt ≤ u84_0.toInt) ∧ (zN2 fB tl u71_0 v83 v84 u84_0) := hw
            have F84 := f84_5
            refine lv_istore (lv' := [(8, .int v84), (5, .int v51), (7, .int v21), (6, .int m6_L_6), (0, .ref h0), (1, .ref t1), (2, .ref t2), (3, .ref rw), (4, .int p3)]) hx hb dX2_items_87 hl (by decide) rfl (fun ls hl => ?_)
            refine lv_iload hx hb dX2_items_89 (lv_at hl 0 rfl) ?_
            refine lv_iconst (v := (-1)) hx hb dX2_items_91 (by decide) ?_
            refine lv_icmp_ne (tgt := 97) hx hb dX2_items_92 (by decide) (fun c92 => ?_) (fun c92 => ?_)
            · have c92 : ¬ v84.toInt = (-1) := z6 rfl (by decide) c92
              refine lv_aload_n hx hb dX2_items_97 rfl (lv_at hl 7 rfl) ?_
              refine lv_iload hx hb dX2_items_98 (lv_at hl 8 rfl) ?_
              refine lv_iload hx hb dX2_items_100 (lv_at hl 2 rfl) ?_
              refine lv_iadd hx hb dX2_items_102 ?_
              refine lv_topi (fun v102 e102 => ?_)
              have i102 : v102.toInt = p3.toInt + v21.toInt := zadd e102 rfl rfl (by omega) (by omega)
              refine lv_iload hx hb dX2_items_103 (lv_at hl 0 rfl) ?_
              refine va_iast hx hb hK hP hD hS 3 0 rfl rfl (vp_in_iff.mpr ⟨by omega, by omega⟩) dX2_items_105 (fun H locs hP9 hD9 hS9 => ?_)
              clear hP hD hS
              obtain ⟨v105_f, e105⟩ : ∃ g : Nat → Int32, g = upd m6_A_rw (v102).toNatClampNeg v84 := ⟨_, rfl⟩
              rw [← e105] at hP9 hD9
              obtain ⟨hP, hD⟩ := zst (wX := [(h0, .inr (2, [.ref tp, .ref aC, .int hsr])), (tp, .inr (9, [.ref tB, .int tl, .int u84_0])), (tB, .inl (cI, 260, .inl fB)), (rw, .inl (cI, 20, .inl v105_f))]) hP9 hD9 rfl
              have hS := hS9
              clear hP9 hD9 hS9
              obtain ⟨v106, e106⟩ : ∃ y : Int32, y = m6_L_6 + Int32.ofInt (1) := ⟨_, rfl⟩
              refine lv_iinc (v := v106) (lv' := [(6, .int v106), (8, .int v84), (5, .int v51), (7, .int v21), (0, .ref h0), (1, .ref t1), (2, .ref t2), (3, .ref rw), (4, .int p3)]) hx hb dX2_items_106 hl (k := 3) rfl e106.symm (by decide) rfl (fun ls hl => ?_)
              have i106 : v106.toInt = m6_L_6.toInt + 1 := zaddI e106 (by decide) (by omega) (by omega)
              refine lv_goto (tgt := 6) hx hb dX2_items_109 (by decide) ?_
              exact ih6 _ (by omega) v105_f u84_0 v51 v106 ⟨f84_2, f84_3⟩ (by omega) (by omega) (by rw [e51, e50]; exact zit_go jv6_0 F17 F21 (by omega) (fun z => by rw [← F36] at z; rw [z] at c40; exact c40 (by decide)) i63 F71 (zhi8 x83 (by omega) (by omega)) F84 (by omega) (by omega)) (by rw [e51, e50]; exact zPcS4 jv6_1 (by omega) (by omega) (fun z => by rw [← F36] at z; rw [z] at c40; exact c40 (by decide)) i106) (by rw [e51, e50]; exact zIvS jv6_2 F17 F21 (by omega) (fun z => by rw [← F36] at z; rw [z] at c40; exact c40 (by decide)) i63 F71 (zhi8 x83 (by omega) (by omega)) F84 (by omega) (by omega) e105 (by omega) (by omega)) rfl H locs ls hP hD hS (lv_sub hl [0, 2, 4, 5, 6, 7, 8] rfl)
            · have c92 : v84.toInt = (-1) := z5 rfl (by decide) c92
              refine lv_iconst (v := 0) hx hb dX2_items_95 (by decide) ?_
              have zr0 : (0 : Int32).toInt = 0 := by decide
              rw [hQ]
              exact W.zret (v := 0) (ty := .boolean) hx hb hr rfl (fun t ht hW => ⟨⟨0, (u84_0, m6_A_rw), rfl, ⟨by (try dsimp only); omega, by (try dsimp only); omega, by (try dsimp only); omega, by (try dsimp only); omega, by (try dsimp only); omega, zit_bad jv6_0 F17 F21 (by omega) (fun z => by rw [← F36] at z; rw [z] at c40; exact c40 (by decide)) i63 F71 (zhi8 x83 (by omega) (by omega)) F84 (by omega), fun z => absurd z (by decide)⟩, ⟨by rw [ht]; exact hP, hD⟩⟩, hS.F ht⟩) hS.2.2 dX2_items_96
          · have c40 : v36.toInt = 1 := z5 rfl (by decide) c40
            refine lv_iconst (v := 1) hx hb dX2_items_43 (by decide) ?_
            have zr0 : (1 : Int32).toInt = 1 := by decide
            rw [hQ]
            exact W.zret (v := 1) (ty := .boolean) hx hb hr rfl (fun t ht hW => ⟨⟨1, (u17_0, m6_A_rw), rfl, ⟨by (try dsimp only); omega, by (try dsimp only); omega, by (try dsimp only); omega, by (try dsimp only); omega, by (try dsimp only); omega, zit_no jv6_0 F17 F21 (Or.inr (F36.symm.trans (z7 (a := 1) (by decide) (by omega)))), fun _ => zIvN jv6_2 F17 F21 (Or.inr (F36.symm.trans (z7 (a := 1) (by decide) (by omega))))⟩, ⟨by rw [ht]; exact hP, hD⟩⟩, hS.F ht⟩) hS.2.2 dX2_items_44
  refine lv_istore (lv' := [(6, .int 0), (5, .int 0), (0, .ref h0), (1, .ref t1), (2, .ref t2), (3, .ref rw), (4, .int p3)]) hx hb dX2_items_4 hl (by decide) rfl (fun ls hl => ?_)
  have zj6_m6_L_5 : (0 : Int32).toInt = 0 := by decide
  have zj6_m6_L_6 : (0 : Int32).toInt = 0 := by decide
  exact J6 _ frw ta 0 0 n_ta (by decide) (by omega) (rfl) (zPc0) (zIv0) rfl H locs ls hP hD hS (lv_sub hl [0, 1, 2, 3, 4, 5, 6] rfl)
set_option maxHeartbeats 4000000 in
set_option maxRecDepth 100000 in
theorem g_X2_clause (l : Launch) (dC : Nat → ClassId) (dI : Nat → Nat → Nat) (cI cJ : ClassId) (h0 : Nat) (tp : Nat) (aC : Nat) (hsr : Int32) (tB : Nat) (tl : Int32) (ta : Int32) (fB : Nat → Int32) (aR : Nat) (aB : Nat) (aP : Nat) (nb : Int32) (np : Int32) (fr : Nat → Int32) (fb : Nat → Int32) (fp : Nat → Int32) (sz : Nat) (n_hsr : 0 ≤ hsr.toInt ∧ hsr.toInt ≤ 1) (n_nb : 0 ≤ nb.toInt ∧ nb.toInt ≤ 6) (n_np : 0 ≤ np.toInt ∧ np.toInt ≤ 5) (n_ta : 0 ≤ ta.toInt ∧ ta.toInt ≤ 240) (n_tl : 0 ≤ tl.toInt ∧ tl.toInt ≤ 240) (hty : zTy tl fB)   : Met l yX2_clause (.code yX2_clause cX2_clause 3 (some .boolean) :: wA) ({ frames := 2, cells := 0, slots := 0, locals := 60 }) (zPW (dC, dI) [(cI, .int), (cJ, .long)] [.ref h0] sz [(h0, .inr (2, [.ref tp, .ref aC, .int hsr])), (tp, .inr (9, [.ref tB, .int tl, .int ta])), (tB, .inl (cI, 260, .inl fB)), (aC, .inr (1, [.ref aR, .ref aB, .ref aP, .int nb, .int np])), (aR, .inl (cI, 3, .inl fr)), (aB, .inl (cI, 24, .inl fb)), (aP, .inl (cI, 20, .inl fp))] (va_A [(h0, .inr (2, [.ref tp, .ref aC, .int hsr])), (tp, .inr (9, [.ref tB, .int tl, .int ta])), (tB, .inl (cI, 260, .inl fB)), (aC, .inr (1, [.ref aR, .ref aB, .ref aP, .int nb, .int np])), (aR, .inl (cI, 3, .inl fr)), (aB, .inl (cI, 24, .inl fb)), (aP, .inl (cI, 20, .inl fp))] sz)) (va_Qi (fun (r : Int32) (u : Int32 × Int32 × Int32 × Int32 × (Nat → Int32) × (Nat → Int32) × (Nat → Int32)) => (0 ≤ r.toInt) ∧ (r.toInt ≤ 1) ∧ (0 ≤ u.1.toInt) ∧ (u.1.toInt ≤ 1) ∧ (0 ≤ u.2.1.toInt) ∧ (u.2.1.toInt ≤ 240) ∧ (0 ≤ u.2.2.1.toInt) ∧ (u.2.2.1.toInt ≤ 6) ∧ (0 ≤ u.2.2.2.1.toInt) ∧ (u.2.2.2.1.toInt ≤ 5) ∧ (¬ r.toInt = 0 → ta.toInt < u.2.1.toInt) ∧ (zCc fB tl ta hsr nb np r u.2.1 u.1 u.2.2.1 u.2.2.2.1) ∧ (zCw fB tl ta hsr nb np fr fb fp r u.1 u.2.2.1 u.2.2.2.1 u.2.2.2.2.1 u.2.2.2.2.2.1 u.2.2.2.2.2.2)) (fun (u : Int32 × Int32 × Int32 × Int32 × (Nat → Int32) × (Nat → Int32) × (Nat → Int32)) (t : State) => va_P (dC, dI) vwCl [(h0, .inr (2, [.ref tp, .ref aC, .int u.1])), (tp, .inr (9, [.ref tB, .int tl, .int u.2.1])), (tB, .inl (cI, 260, .inl fB)), (aC, .inr (1, [.ref aR, .ref aB, .ref aP, .int u.2.2.1, .int u.2.2.2.1])), (aR, .inl (cI, 3, .inl u.2.2.2.2.1)), (aB, .inl (cI, 24, .inl u.2.2.2.2.2.1)), (aP, .inl (cI, 20, .inl u.2.2.2.2.2.2))] t.heap ∧ va_D (va_A [(h0, .inr (2, [.ref tp, .ref aC, .int hsr])), (tp, .inr (9, [.ref tB, .int tl, .int ta])), (tB, .inl (cI, 260, .inl fB)), (aC, .inr (1, [.ref aR, .ref aB, .ref aP, .int nb, .int np])), (aR, .inl (cI, 3, .inl fr)), (aB, .inl (cI, 24, .inl fb)), (aP, .inl (cI, 20, .inl fp))] sz) [(h0, .inr (2, [.ref tp, .ref aC, .int u.1])), (tp, .inr (9, [.ref tB, .int tl, .int u.2.1])), (tB, .inl (cI, 260, .inl fB)), (aC, .inr (1, [.ref aR, .ref aB, .ref aP, .int u.2.2.1, .int u.2.2.2.1])), (aR, .inl (cI, 3, .inl u.2.2.2.2.1)), (aB, .inl (cI, 24, .inl u.2.2.2.2.2.1)), (aP, .inl (cI, 20, .inl u.2.2.2.2.2.2))]) (va_A [(h0, .inr (2, [.ref tp, .ref aC, .int hsr])), (tp, .inr (9, [.ref tB, .int tl, .int ta])), (tB, .inl (cI, 260, .inl fB)), (aC, .inr (1, [.ref aR, .ref aB, .ref aP, .int nb, .int np])), (aR, .inl (cI, 3, .inl fr)), (aB, .inl (cI, 24, .inl fb)), (aP, .inl (cI, 20, .inl fp))] sz)) 0 0 (va_A [(h0, .inr (2, [.ref tp, .ref aC, .int hsr])), (tp, .inr (9, [.ref tB, .int tl, .int ta])), (tB, .inl (cI, 260, .inl fB)), (aC, .inr (1, [.ref aR, .ref aB, .ref aP, .int nb, .int np])), (aR, .inl (cI, 3, .inl fr)), (aB, .inl (cI, 24, .inl fb)), (aP, .inl (cI, 20, .inl fp))] sz) := by
  refine Met.ofW (cc := cX2_clause) (maxL := 3) (ret := (some .boolean)) (by decide) rfl ?_
  intro p e s m args below meth c s₁ B hml hv
  obtain ⟨⟨hargs, hsz, hP, hK, hT⟩, hV⟩ := hv
  have hx := B.exec
  have hb := B.bytes
  have hr := B.returns
  have hts : ∀ w ∈ wA, w.before args s = true := fun w h => atoms_spec (ws := .code yX2_clause cX2_clause 3 (some .boolean) :: wA) B.pre w (List.mem_cons_of_mem _ h)
  have hown : s.vm.findClass RX2 = some m.cls := findClass_of_methodNamed B.named
  have hlocks := B.notSynchronized
  subst hsz
  have hD := hT.self (sz := s.heap.size)
  generalize hAe : va_A [(h0, .inr (2, [.ref tp, .ref aC, .int hsr])), (tp, .inr (9, [.ref tB, .int tl, .int ta])), (tB, .inl (cI, 260, .inl fB)), (aC, .inr (1, [.ref aR, .ref aB, .ref aP, .int nb, .int np])), (aR, .inl (cI, 3, .inl fr)), (aB, .inl (cI, 24, .inl fb)), (aP, .inl (cI, 20, .inl fp))] s.heap.size = A at hD hV ⊢
  have hA : ∀ q : Nat, s.heap.size ≤ q → A q := fun q h => by rw [← hAe]; exact Or.inr h
  have hl := lv_entry ([.ref h0]) (n := 3) (Nat.le_of_ble_eq_true rfl)
  rw [show entryFrame m args 3 = entryFrame m ([.ref h0] : List Value).toArray 3 by rw [hargs], lg_entry_eq]
  generalize (lg_sl ([.ref h0]) ++ List.replicate (3 - (lg_sl ([.ref h0])).length) Slot.unset).toArray = ls at hl ⊢
  have hl : lv_has ls 3 [(0, .ref h0)] := hl
  refine zstart (fun H hH => ?_)
  rw [← hH] at hP
  have hS : va_S A s.heap H [] := by rw [hH]; exact va_S.rf
  generalize ([] : List Loc) = locs at hS ⊢
  refine zgen (fun R Q hR hQ => ?_)
  refine lv_aload_n hx hb dX2_clause_0 rfl (lv_at hl 0 rfl) ?_
  refine va_get (D := (dC, dI)) (ci := 2) (v := .ref tp) (C := RX2) (T := TX2) (N := 3) hx hb hts iX2 hown hK hP 0 rfl rfl 0 (by decide) (hts _ qw154) (fun _ h9 => h9) rfl dX2_clause_1 ?_
  obtain ⟨hPc, hDc, hFc⟩ := zc3 (wc := [(tp, .inr (9, [.ref tB, .int tl, .int ta])), (tB, .inl (cI, 260, .inl fB))]) hP hD hS hA [1, 2] (by decide +kernel) rfl
  refine va_calli (va_runV (As := []) (rest := []) ⟨hx, hb, hml, hown, hts⟩ (g_X9_peek l dC dI cI cJ tp tB tl ta fB H.size n_ta n_tl (hty)) (cwV 0 hts (zgV qw437 qw438 qw439 qw99 qw440) rfl rfl rfl hd_X9_peek ⟨by rw [hR]; exact Nat.le_of_ble_eq_true rfl, by rw [hR]; exact Nat.le_of_ble_eq_true rfl⟩) (zPV hPc hK hDc (va_recv (q := (RX9, TX9, 3)) hK hP (ci := 9) (q0 := 1) rfl rfl)) rfl rfl hl.1 rfl (lv_room (Nat.le_of_ble_eq_true rfl)) dX2_clause_4 ⟨Nat.zero_le _, Nat.zero_le _⟩) hS (fun q _ h => hFc q h) hFc (fun v4 u4 t H locs ht hvm hw hB hz1 hk1 hS9 => ?_)
  obtain ⟨u4_0, rfl⟩ : ∃ z, z = u4 := ⟨_, rfl⟩
  obtain ⟨hP9, hD9⟩ := zj2 (wX := [(h0, .inr (2, [.ref tp, .ref aC, .int hsr])), (tp, .inr (9, [.ref tB, .int tl, .int u4_0])), (tB, .inl (cI, 260, .inl fB)), (aC, .inr (1, [.ref aR, .ref aB, .ref aP, .int nb, .int np])), (aR, .inl (cI, 3, .inl fr)), (aB, .inl (cI, 24, .inl fb)), (aP, .inl (cI, 20, .inl fp))]) hP hD hk1 hFc ht hB [1, 2] [(false, 0), (true, 0), (true, 1), (false, 3), (false, 4), (false, 5), (false, 6)] rfl (by decide +kernel) (by decide +kernel) rfl
  clear hP hD hS hPc hDc hFc hB hk1 hz1 hvm
  have hP := hP9
  have hD := hD9
  have hS := hS9
  clear hP9 hD9 hS9
  obtain ⟨f4_0, f4_1, f4_2, f4_3, f4_4⟩ : (0 ≤ u4_0.toInt) ∧ (u4_0.toInt ≤ 240) ∧ (¬ v4.toInt = 0 → u4_0.toInt < tl.toInt) ∧ (ta.toInt ≤ u4_0.toInt) ∧ (zPK fB tl ta v4 u4_0) := hw
  have F4 := f4_4
  refine lv_istore_n (lv' := [(1, .int v4), (0, .ref h0)]) hx hb dX2_clause_7 rfl hl (by decide) rfl (fun ls hl => ?_)
  refine lv_iload_n hx hb dX2_clause_8 rfl (lv_at hl 0 rfl) ?_
  refine lv_bipush (v := 115) hx hb dX2_clause_9 (by decide) ?_
  refine lv_icmp_ne (tgt := 58) hx hb dX2_clause_11 (by decide) (fun c11 => ?_) (fun c11 => ?_)
  · have c11 : ¬ v4.toInt = 115 := z6 rfl (by decide) c11
    refine lv_iload_n hx hb dX2_clause_58 rfl (lv_at hl 0 rfl) ?_
    refine lv_bipush (v := 98) hx hb dX2_clause_59 (by decide) ?_
    refine lv_icmp_ne (tgt := 147) hx hb dX2_clause_61 (by decide) (fun c61 => ?_) (fun c61 => ?_)
    · have c61 : ¬ v4.toInt = 98 := z6 rfl (by decide) c61
      refine lv_iload_n hx hb dX2_clause_147 rfl (lv_at hl 0 rfl) ?_
      refine lv_bipush (v := 112) hx hb dX2_clause_148 (by decide) ?_
      refine lv_icmp_ne (tgt := 235) hx hb dX2_clause_150 (by decide) (fun c150 => ?_) (fun c150 => ?_)
      · have c150 : ¬ v4.toInt = 112 := z6 rfl (by decide) c150
        refine lv_iconst (v := 0) hx hb dX2_clause_235 (by decide) ?_
        have zr0 : (0 : Int32).toInt = 0 := by decide
        rw [hQ]
        exact W.zret (v := 0) (ty := .boolean) hx hb hr rfl (fun t ht hW => ⟨⟨0, (hsr, u4_0, nb, np, fr, fb, fp), rfl, ⟨by (try dsimp only); omega, by (try dsimp only); omega, by (try dsimp only); omega, by (try dsimp only); omega, by (try dsimp only); omega, by (try dsimp only); omega, by (try dsimp only); omega, by (try dsimp only); omega, by (try dsimp only); omega, by (try dsimp only); omega, by (try dsimp only); omega, zcc_n F4 (by omega) (by omega) (by omega), fun z => absurd z (by decide)⟩, ⟨by rw [ht]; exact hP, hD⟩⟩, hS.F ht⟩) hS.2.2 dX2_clause_236
      · have c150 : v4.toInt = 112 := z5 rfl (by decide) c150
        refine lv_aload_n hx hb dX2_clause_153 rfl (lv_at hl 1 rfl) ?_
        refine va_get (D := (dC, dI)) (ci := 2) (v := .ref aC) (C := RX2) (T := TX2) (N := 3) hx hb hts iX2 hown hK hP 0 rfl rfl 1 (by decide) (hts _ qw155) (fun _ h9 => h9) rfl dX2_clause_154 ?_
        refine va_get (D := (dC, dI)) (ci := 1) (v := .int np) (C := RX1) (T := TX1) (N := 5) hx hb hts iX1 hown hK hP 3 rfl rfl 4 (by decide) (hts _ qw197) (fun _ h9 => h9) rfl dX2_clause_157 ?_
        refine lv_iconst (v := 5) hx hb dX2_clause_160 (by decide) ?_
        refine lv_icmp_ge (tgt := 235) hx hb dX2_clause_161 (by decide) (fun c161 => ?_) (fun c161 => ?_)
        · have c161 : 5 ≤ np.toInt := z3 (by decide) rfl c161
          refine lv_iconst (v := 0) hx hb dX2_clause_235 (by decide) ?_
          have zr0 : (0 : Int32).toInt = 0 := by decide
          rw [hQ]
          exact W.zret (v := 0) (ty := .boolean) hx hb hr rfl (fun t ht hW => ⟨⟨0, (hsr, u4_0, nb, np, fr, fb, fp), rfl, ⟨by (try dsimp only); omega, by (try dsimp only); omega, by (try dsimp only); omega, by (try dsimp only); omega, by (try dsimp only); omega, by (try dsimp only); omega, by (try dsimp only); omega, by (try dsimp only); omega, by (try dsimp only); omega, by (try dsimp only); omega, by (try dsimp only); omega, zcc_n F4 (by omega) (by omega) (by omega), fun z => absurd z (by decide)⟩, ⟨by rw [ht]; exact hP, hD⟩⟩, hS.F ht⟩) hS.2.2 dX2_clause_236
        · have c161 : np.toInt < 5 := z4 (by decide) rfl c161
          refine lv_aload_n hx hb dX2_clause_164 rfl (lv_at hl 1 rfl) ?_
          refine va_get (D := (dC, dI)) (ci := 2) (v := .ref aC) (C := RX2) (T := TX2) (N := 3) hx hb hts iX2 hown hK hP 0 rfl rfl 1 (by decide) (hts _ qw155) (fun _ h9 => h9) rfl dX2_clause_165 ?_
          refine va_get (D := (dC, dI)) (ci := 1) (v := .int np) (C := RX1) (T := TX1) (N := 5) hx hb hts iX1 hown hK hP 3 rfl rfl 4 (by decide) (hts _ qw197) (fun _ h9 => h9) rfl dX2_clause_168 ?_
          refine lv_iconst (v := 4) hx hb dX2_clause_171 (by decide) ?_
          refine lv_imul hx hb dX2_clause_172 ?_
          refine lv_topi (fun v172 e172 => ?_)
          have i172 : v172.toInt = np.toInt * 4 := zmul e172 rfl (by decide) (by omega) (by omega)
          refine lv_istore_n (lv' := [(2, .int v172), (1, .int v4), (0, .ref h0)]) hx hb dX2_clause_173 rfl hl (by decide) rfl (fun ls hl => ?_)
          refine lv_aload_n hx hb dX2_clause_174 rfl (lv_at hl 2 rfl) ?_
          refine va_get (D := (dC, dI)) (ci := 2) (v := .ref aC) (C := RX2) (T := TX2) (N := 3) hx hb hts iX2 hown hK hP 0 rfl rfl 1 (by decide) (hts _ qw155) (fun _ h9 => h9) rfl dX2_clause_175 ?_
          refine lv_dup hx hb dX2_clause_178 rfl ?_
          refine va_get (D := (dC, dI)) (ci := 1) (v := .int np) (C := RX1) (T := TX1) (N := 5) hx hb hts iX1 hown hK hP 3 rfl rfl 4 (by decide) (hts _ qw197) (fun _ h9 => h9) rfl dX2_clause_179 ?_
          refine lv_iconst (v := 1) hx hb dX2_clause_182 (by decide) ?_
          refine lv_iadd hx hb dX2_clause_183 ?_
          refine lv_topi (fun v183 e183 => ?_)
          have i183 : v183.toInt = np.toInt + 1 := zadd e183 rfl (by decide) (by omega) (by omega)
          refine va_put (D := (dC, dI)) (ci := 1) (v := .int v183) (ty := .int) (C := RX1) (T := TX1) (N := 5) hx hb hts iX1 tyX1 tyX1_ok nmX1 hown hK hP hD hS 3 rfl rfl 4 (by decide) (hts _ qw197) (fun _ h9 => h9) rfl (by decide +kernel) rfl rfl (Nat.le_of_ble_eq_true rfl) dX2_clause_184 (fun H locs hP9 hD9 hS9 => ?_)
          clear hP hD hS
          obtain ⟨hP, hD⟩ := zst (wX := [(h0, .inr (2, [.ref tp, .ref aC, .int hsr])), (tp, .inr (9, [.ref tB, .int tl, .int u4_0])), (tB, .inl (cI, 260, .inl fB)), (aC, .inr (1, [.ref aR, .ref aB, .ref aP, .int nb, .int v183])), (aR, .inl (cI, 3, .inl fr)), (aB, .inl (cI, 24, .inl fb)), (aP, .inl (cI, 20, .inl fp))]) hP9 hD9 rfl
          have hS := hS9
          clear hP9 hD9 hS9
          refine lv_aload_n hx hb dX2_clause_187 rfl (lv_at hl 2 rfl) ?_
          refine va_get (D := (dC, dI)) (ci := 2) (v := .ref tp) (C := RX2) (T := TX2) (N := 3) hx hb hts iX2 hown hK hP 0 rfl rfl 0 (by decide) (hts _ qw154) (fun _ h9 => h9) rfl dX2_clause_188 ?_
          refine lv_dup hx hb dX2_clause_191 rfl ?_
          refine va_get (D := (dC, dI)) (ci := 9) (v := .int u4_0) (C := RX9) (T := TX9) (N := 3) hx hb hts iX9 hown hK hP 1 rfl rfl 2 (by decide) (hts _ qw138) (fun _ h9 => h9) rfl dX2_clause_192 ?_
          refine lv_iconst (v := 1) hx hb dX2_clause_195 (by decide) ?_
          refine lv_iadd hx hb dX2_clause_196 ?_
          refine lv_topi (fun v196 e196 => ?_)
          have i196 : v196.toInt = u4_0.toInt + 1 := zadd e196 rfl (by decide) (by omega) (by omega)
          refine va_put (D := (dC, dI)) (ci := 9) (v := .int v196) (ty := .int) (C := RX9) (T := TX9) (N := 3) hx hb hts iX9 tyX9 tyX9_ok nmX9 hown hK hP hD hS 1 rfl rfl 2 (by decide) (hts _ qw138) (fun _ h9 => h9) rfl (by decide +kernel) rfl rfl (Nat.le_of_ble_eq_true rfl) dX2_clause_197 (fun H locs hP9 hD9 hS9 => ?_)
          clear hP hD hS
          obtain ⟨hP, hD⟩ := zst (wX := [(h0, .inr (2, [.ref tp, .ref aC, .int hsr])), (tp, .inr (9, [.ref tB, .int tl, .int v196])), (tB, .inl (cI, 260, .inl fB)), (aC, .inr (1, [.ref aR, .ref aB, .ref aP, .int nb, .int v183])), (aR, .inl (cI, 3, .inl fr)), (aB, .inl (cI, 24, .inl fb)), (aP, .inl (cI, 20, .inl fp))]) hP9 hD9 rfl
          have hS := hS9
          clear hP9 hD9 hS9
          obtain ⟨g200, hz200, hE200⟩ := hV.2.2.2.2.2.2.2.2.2.2.2
          obtain ⟨tf200, ht200, hr200⟩ : zTt 9 .int g200 4 A s := hE200
          refine va_gets hx hb hz200 hS hown (hts _ qw465) (fun _ h9 => h9) dX2_clause_200 ?_
          have hE200 : zTt 9 .int g200 4 A s := ⟨tf200, ht200, hr200⟩
          refine lv_iconst (v := 0) hx hb dX2_clause_203 (by decide) ?_
          refine lv_aload_n hx hb dX2_clause_204 rfl (lv_at hl 2 rfl) ?_
          refine va_get (D := (dC, dI)) (ci := 2) (v := .ref aC) (C := RX2) (T := TX2) (N := 3) hx hb hts iX2 hown hK hP 0 rfl rfl 1 (by decide) (hts _ qw155) (fun _ h9 => h9) rfl dX2_clause_205 ?_
          refine va_get (D := (dC, dI)) (ci := 1) (v := .ref aP) (C := RX1) (T := TX1) (N := 5) hx hb hts iX1 hown hK hP 3 rfl rfl 2 (by decide) (hts _ qw191) (fun _ h9 => h9) rfl dX2_clause_208 ?_
          refine lv_iload_n hx hb dX2_clause_211 rfl (lv_at hl 0 rfl) ?_
          refine lv_iconst (v := 4) hx hb dX2_clause_212 (by decide) ?_
          refine zcopyT hx hb (by rw [hml]; exact hl.1.symm) hown (hts _ qw430) (hts _ qw432) (hts _ qw431) (hts _ qw109) hK hP hD hS 6 0 ht200 rfl rfl (by decide) (znn (by omega)) (by decide) (by decide) (zcpb (a := v172.toInt) (b := 4) rfl (by decide) (by omega)) (by rw [hR]; exact Nat.le_of_ble_eq_true rfl) (by rw [hR]; decide) dX2_clause_213 (fun H locs hP9 hD9 hS9 => ?_)
          clear hP hD hS
          obtain ⟨v213_f, e213⟩ : ∃ g : Nat → Int32, g = va_cpy tf200 fp (0 : Int32).toNatClampNeg (v172 : Int32).toNatClampNeg (4 : Int32).toNatClampNeg := ⟨_, rfl⟩
          rw [← e213] at hP9 hD9
          obtain ⟨hP, hD⟩ := zst (wX := [(h0, .inr (2, [.ref tp, .ref aC, .int hsr])), (tp, .inr (9, [.ref tB, .int tl, .int v196])), (tB, .inl (cI, 260, .inl fB)), (aC, .inr (1, [.ref aR, .ref aB, .ref aP, .int nb, .int v183])), (aR, .inl (cI, 3, .inl fr)), (aB, .inl (cI, 24, .inl fb)), (aP, .inl (cI, 20, .inl v213_f))]) hP9 hD9 rfl
          have hS := hS9
          clear hP9 hD9 hS9
          refine lv_aload_n hx hb dX2_clause_216 rfl (lv_at hl 2 rfl) ?_
          obtain ⟨g217, hz217, hE217⟩ := hV.2.2.2.2.2.2.2.2.2.1
          obtain ⟨tf217, ht217, hr217⟩ : zTt 7 .char g217 4 A s := hE217
          refine va_gets hx hb hz217 hS hown (hts _ qw467) (fun _ h9 => h9) dX2_clause_217 ?_
          have hE217 : zTt 7 .char g217 4 A s := ⟨tf217, ht217, hr217⟩
          obtain ⟨g220, hz220, hE220⟩ := hV.2.2.2.2.2.2.2.2.2.2.1
          obtain ⟨tf220, ht220, hr220⟩ : zTt 8 .int g220 4 A s := hE220
          refine va_gets hx hb hz220 hS hown (hts _ qw469) (fun _ h9 => h9) dX2_clause_220 ?_
          have hE220 : zTt 8 .int g220 4 A s := ⟨tf220, ht220, hr220⟩
          refine lv_aload_n hx hb dX2_clause_223 rfl (lv_at hl 2 rfl) ?_
          refine va_get (D := (dC, dI)) (ci := 2) (v := .ref aC) (C := RX2) (T := TX2) (N := 3) hx hb hts iX2 hown hK hP 0 rfl rfl 1 (by decide) (hts _ qw155) (fun _ h9 => h9) rfl dX2_clause_224 ?_
          refine va_get (D := (dC, dI)) (ci := 1) (v := .ref aP) (C := RX1) (T := TX1) (N := 5) hx hb hts iX1 hown hK hP 3 rfl rfl 2 (by decide) (hts _ qw191) (fun _ h9 => h9) rfl dX2_clause_227 ?_
          refine lv_iload_n hx hb dX2_clause_230 rfl (lv_at hl 0 rfl) ?_
          obtain ⟨hPc, hDc, hFc⟩ := zc3 (wc := [(h0, .inr (2, [.ref tp, .ref aC, .int hsr])), (tp, .inr (9, [.ref tB, .int tl, .int v196])), (tB, .inl (cI, 260, .inl fB)), (aP, .inl (cI, 20, .inl v213_f))]) hP hD hS hA [0, 1, 2, 6] (by decide +kernel) rfl
          refine va_calli (va_runV (As := [.ref g217, .ref g220, .ref aP, .int v172]) (rest := []) ⟨hx, hb, hml, hown, hts⟩ (g_X2_items_p l dC dI cI cJ h0 g217 g220 aP v172 tp aC hsr tB tl v196 fB v213_f H.size (by omega) (by omega) n_tl (hty)) (cwV 4 hts (zgV qw445 qw447 qw1 qw100 qw448) rfl rfl rfl hd_X2_items ⟨by rw [hR]; exact Nat.le_of_ble_eq_true rfl, by rw [hR]; exact Nat.le_of_ble_eq_true rfl⟩) (zPXV hPc hK hDc (va_recv (q := (RX2, TX2, 3)) hK hP (ci := 2) (q0 := 0) rfl rfl) (zV_call hV hS hFc) (zTs_call (zTsc hE217 (zTsc hE220 zTs0)) hS hFc)) rfl rfl hl.1 rfl (lv_room (Nat.le_of_ble_eq_true rfl)) dX2_clause_231 ⟨Nat.zero_le _, Nat.zero_le _⟩) hS (fun q _ h => hFc q h) hFc (fun v231 u231 t H locs ht hvm hw hB hz1 hk1 hS9 => ?_)
          obtain ⟨u231_0, u231_1⟩ := u231
          obtain ⟨hP9, hD9⟩ := zj2 (wX := [(h0, .inr (2, [.ref tp, .ref aC, .int hsr])), (tp, .inr (9, [.ref tB, .int tl, .int u231_0])), (tB, .inl (cI, 260, .inl fB)), (aC, .inr (1, [.ref aR, .ref aB, .ref aP, .int nb, .int v183])), (aR, .inl (cI, 3, .inl fr)), (aB, .inl (cI, 24, .inl fb)), (aP, .inl (cI, 20, .inl u231_1))]) hP hD hk1 hFc ht hB [0, 1, 2, 6] [(true, 0), (true, 1), (true, 2), (false, 3), (false, 4), (false, 5), (true, 3)] rfl (by decide +kernel) (by decide +kernel) rfl
          clear hP hD hS hPc hDc hFc hB hk1 hz1 hvm
          have hP := hP9
          have hD := hD9
          have hS := hS9
          clear hP9 hD9 hS9
          obtain ⟨f231_0, f231_1, f231_2, f231_3, f231_4, f231_5, f231_6⟩ : (0 ≤ v231.toInt) ∧ (v231.toInt ≤ 1) ∧ (0 ≤ u231_0.toInt) ∧ (u231_0.toInt ≤ 240) ∧ (v196.toInt ≤ u231_0.toInt) ∧ (zFs fB tl (sIts (sB fB tl.toInt) tl.toInt 2 0 v196.toInt) v231 u231_0) ∧ (v231.toInt = 1 → zIe fB tl 2 4 v172.toInt.toNat v196.toInt v213_f u231_1) := hw
          have F231 := f231_5
          have F231_1 := f231_6
          rw [hQ]
          exact W.zret (v := v231) (ty := .boolean) hx hb hr (znb (by omega) (by omega)) (fun t ht hW => ⟨⟨v231, (hsr, u231_0, nb, v183, fr, fb, u231_1), rfl, ⟨by (try dsimp only); omega, by (try dsimp only); omega, by (try dsimp only); omega, by (try dsimp only); omega, by (try dsimp only); omega, by (try dsimp only); omega, by (try dsimp only); omega, by (try dsimp only); omega, by (try dsimp only); omega, by (try dsimp only); omega, by (try dsimp only); omega, zcc_p F4 (by omega) (by omega) i196 i183 F231, zcw_p F4 (by omega) (by omega) (by omega) i196 i183 hr200 e213 (by omega) F231_1⟩, ⟨by rw [ht]; exact hP, hD⟩⟩, hS.F ht⟩) hS.2.2 dX2_clause_234
    · have c61 : v4.toInt = 98 := z5 rfl (by decide) c61
      refine lv_aload_n hx hb dX2_clause_64 rfl (lv_at hl 1 rfl) ?_
      refine va_get (D := (dC, dI)) (ci := 2) (v := .ref aC) (C := RX2) (T := TX2) (N := 3) hx hb hts iX2 hown hK hP 0 rfl rfl 1 (by decide) (hts _ qw155) (fun _ h9 => h9) rfl dX2_clause_65 ?_
      refine va_get (D := (dC, dI)) (ci := 1) (v := .int nb) (C := RX1) (T := TX1) (N := 5) hx hb hts iX1 hown hK hP 3 rfl rfl 3 (by decide) (hts _ qw193) (fun _ h9 => h9) rfl dX2_clause_68 ?_
      refine lv_bipush (v := 6) hx hb dX2_clause_71 (by decide) ?_
      refine lv_icmp_ge (tgt := 147) hx hb dX2_clause_73 (by decide) (fun c73 => ?_) (fun c73 => ?_)
      · have c73 : 6 ≤ nb.toInt := z3 (by decide) rfl c73
        refine lv_iload_n hx hb dX2_clause_147 rfl (lv_at hl 0 rfl) ?_
        refine lv_bipush (v := 112) hx hb dX2_clause_148 (by decide) ?_
        refine lv_icmp_ne (tgt := 235) hx hb dX2_clause_150 (by decide) (fun c150 => ?_) (fun c150 => by exfalso; have c150 : v4.toInt = 112 := z5 rfl (by decide) c150; omega)
        have c150 : ¬ v4.toInt = 112 := z6 rfl (by decide) c150
        refine lv_iconst (v := 0) hx hb dX2_clause_235 (by decide) ?_
        have zr0 : (0 : Int32).toInt = 0 := by decide
        rw [hQ]
        exact W.zret (v := 0) (ty := .boolean) hx hb hr rfl (fun t ht hW => ⟨⟨0, (hsr, u4_0, nb, np, fr, fb, fp), rfl, ⟨by (try dsimp only); omega, by (try dsimp only); omega, by (try dsimp only); omega, by (try dsimp only); omega, by (try dsimp only); omega, by (try dsimp only); omega, by (try dsimp only); omega, by (try dsimp only); omega, by (try dsimp only); omega, by (try dsimp only); omega, by (try dsimp only); omega, zcc_n F4 (by omega) (by omega) (by omega), fun z => absurd z (by decide)⟩, ⟨by rw [ht]; exact hP, hD⟩⟩, hS.F ht⟩) hS.2.2 dX2_clause_236
      · have c73 : nb.toInt < 6 := z4 (by decide) rfl c73
        refine lv_aload_n hx hb dX2_clause_76 rfl (lv_at hl 1 rfl) ?_
        refine va_get (D := (dC, dI)) (ci := 2) (v := .ref aC) (C := RX2) (T := TX2) (N := 3) hx hb hts iX2 hown hK hP 0 rfl rfl 1 (by decide) (hts _ qw155) (fun _ h9 => h9) rfl dX2_clause_77 ?_
        refine va_get (D := (dC, dI)) (ci := 1) (v := .int nb) (C := RX1) (T := TX1) (N := 5) hx hb hts iX1 hown hK hP 3 rfl rfl 3 (by decide) (hts _ qw193) (fun _ h9 => h9) rfl dX2_clause_80 ?_
        refine lv_iconst (v := 4) hx hb dX2_clause_83 (by decide) ?_
        refine lv_imul hx hb dX2_clause_84 ?_
        refine lv_topi (fun v84 e84 => ?_)
        have i84 : v84.toInt = nb.toInt * 4 := zmul e84 rfl (by decide) (by omega) (by omega)
        refine lv_istore_n (lv' := [(2, .int v84), (1, .int v4), (0, .ref h0)]) hx hb dX2_clause_85 rfl hl (by decide) rfl (fun ls hl => ?_)
        refine lv_aload_n hx hb dX2_clause_86 rfl (lv_at hl 2 rfl) ?_
        refine va_get (D := (dC, dI)) (ci := 2) (v := .ref aC) (C := RX2) (T := TX2) (N := 3) hx hb hts iX2 hown hK hP 0 rfl rfl 1 (by decide) (hts _ qw155) (fun _ h9 => h9) rfl dX2_clause_87 ?_
        refine lv_dup hx hb dX2_clause_90 rfl ?_
        refine va_get (D := (dC, dI)) (ci := 1) (v := .int nb) (C := RX1) (T := TX1) (N := 5) hx hb hts iX1 hown hK hP 3 rfl rfl 3 (by decide) (hts _ qw193) (fun _ h9 => h9) rfl dX2_clause_91 ?_
        refine lv_iconst (v := 1) hx hb dX2_clause_94 (by decide) ?_
        refine lv_iadd hx hb dX2_clause_95 ?_
        refine lv_topi (fun v95 e95 => ?_)
        have i95 : v95.toInt = nb.toInt + 1 := zadd e95 rfl (by decide) (by omega) (by omega)
        refine va_put (D := (dC, dI)) (ci := 1) (v := .int v95) (ty := .int) (C := RX1) (T := TX1) (N := 5) hx hb hts iX1 tyX1 tyX1_ok nmX1 hown hK hP hD hS 3 rfl rfl 3 (by decide) (hts _ qw193) (fun _ h9 => h9) rfl (by decide +kernel) rfl rfl (Nat.le_of_ble_eq_true rfl) dX2_clause_96 (fun H locs hP9 hD9 hS9 => ?_)
        clear hP hD hS
        obtain ⟨hP, hD⟩ := zst (wX := [(h0, .inr (2, [.ref tp, .ref aC, .int hsr])), (tp, .inr (9, [.ref tB, .int tl, .int u4_0])), (tB, .inl (cI, 260, .inl fB)), (aC, .inr (1, [.ref aR, .ref aB, .ref aP, .int v95, .int np])), (aR, .inl (cI, 3, .inl fr)), (aB, .inl (cI, 24, .inl fb)), (aP, .inl (cI, 20, .inl fp))]) hP9 hD9 rfl
        have hS := hS9
        clear hP9 hD9 hS9
        refine lv_aload_n hx hb dX2_clause_99 rfl (lv_at hl 2 rfl) ?_
        refine va_get (D := (dC, dI)) (ci := 2) (v := .ref tp) (C := RX2) (T := TX2) (N := 3) hx hb hts iX2 hown hK hP 0 rfl rfl 0 (by decide) (hts _ qw154) (fun _ h9 => h9) rfl dX2_clause_100 ?_
        refine lv_dup hx hb dX2_clause_103 rfl ?_
        refine va_get (D := (dC, dI)) (ci := 9) (v := .int u4_0) (C := RX9) (T := TX9) (N := 3) hx hb hts iX9 hown hK hP 1 rfl rfl 2 (by decide) (hts _ qw138) (fun _ h9 => h9) rfl dX2_clause_104 ?_
        refine lv_iconst (v := 1) hx hb dX2_clause_107 (by decide) ?_
        refine lv_iadd hx hb dX2_clause_108 ?_
        refine lv_topi (fun v108 e108 => ?_)
        have i108 : v108.toInt = u4_0.toInt + 1 := zadd e108 rfl (by decide) (by omega) (by omega)
        refine va_put (D := (dC, dI)) (ci := 9) (v := .int v108) (ty := .int) (C := RX9) (T := TX9) (N := 3) hx hb hts iX9 tyX9 tyX9_ok nmX9 hown hK hP hD hS 1 rfl rfl 2 (by decide) (hts _ qw138) (fun _ h9 => h9) rfl (by decide +kernel) rfl rfl (Nat.le_of_ble_eq_true rfl) dX2_clause_109 (fun H locs hP9 hD9 hS9 => ?_)
        clear hP hD hS
        obtain ⟨hP, hD⟩ := zst (wX := [(h0, .inr (2, [.ref tp, .ref aC, .int hsr])), (tp, .inr (9, [.ref tB, .int tl, .int v108])), (tB, .inl (cI, 260, .inl fB)), (aC, .inr (1, [.ref aR, .ref aB, .ref aP, .int v95, .int np])), (aR, .inl (cI, 3, .inl fr)), (aB, .inl (cI, 24, .inl fb)), (aP, .inl (cI, 20, .inl fp))]) hP9 hD9 rfl
        have hS := hS9
        clear hP9 hD9 hS9
        obtain ⟨g112, hz112, hE112⟩ := hV.2.2.2.2.2.2.2.2.1
        obtain ⟨tf112, ht112, hr112⟩ : zTt 6 .int g112 4 A s := hE112
        refine va_gets hx hb hz112 hS hown (hts _ qw459) (fun _ h9 => h9) dX2_clause_112 ?_
        have hE112 : zTt 6 .int g112 4 A s := ⟨tf112, ht112, hr112⟩
        refine lv_iconst (v := 0) hx hb dX2_clause_115 (by decide) ?_
        refine lv_aload_n hx hb dX2_clause_116 rfl (lv_at hl 2 rfl) ?_
        refine va_get (D := (dC, dI)) (ci := 2) (v := .ref aC) (C := RX2) (T := TX2) (N := 3) hx hb hts iX2 hown hK hP 0 rfl rfl 1 (by decide) (hts _ qw155) (fun _ h9 => h9) rfl dX2_clause_117 ?_
        refine va_get (D := (dC, dI)) (ci := 1) (v := .ref aB) (C := RX1) (T := TX1) (N := 5) hx hb hts iX1 hown hK hP 3 rfl rfl 1 (by decide) (hts _ qw189) (fun _ h9 => h9) rfl dX2_clause_120 ?_
        refine lv_iload_n hx hb dX2_clause_123 rfl (lv_at hl 0 rfl) ?_
        refine lv_iconst (v := 4) hx hb dX2_clause_124 (by decide) ?_
        refine zcopyT hx hb (by rw [hml]; exact hl.1.symm) hown (hts _ qw430) (hts _ qw432) (hts _ qw431) (hts _ qw109) hK hP hD hS 5 0 ht112 rfl rfl (by decide) (znn (by omega)) (by decide) (by decide) (zcpb (a := v84.toInt) (b := 4) rfl (by decide) (by omega)) (by rw [hR]; exact Nat.le_of_ble_eq_true rfl) (by rw [hR]; decide) dX2_clause_125 (fun H locs hP9 hD9 hS9 => ?_)
        clear hP hD hS
        obtain ⟨v125_f, e125⟩ : ∃ g : Nat → Int32, g = va_cpy tf112 fb (0 : Int32).toNatClampNeg (v84 : Int32).toNatClampNeg (4 : Int32).toNatClampNeg := ⟨_, rfl⟩
        rw [← e125] at hP9 hD9
        obtain ⟨hP, hD⟩ := zst (wX := [(h0, .inr (2, [.ref tp, .ref aC, .int hsr])), (tp, .inr (9, [.ref tB, .int tl, .int v108])), (tB, .inl (cI, 260, .inl fB)), (aC, .inr (1, [.ref aR, .ref aB, .ref aP, .int v95, .int np])), (aR, .inl (cI, 3, .inl fr)), (aB, .inl (cI, 24, .inl v125_f)), (aP, .inl (cI, 20, .inl fp))]) hP9 hD9 rfl
        have hS := hS9
        clear hP9 hD9 hS9
        refine lv_aload_n hx hb dX2_clause_128 rfl (lv_at hl 2 rfl) ?_
        obtain ⟨g129, hz129, hE129⟩ := hV.2.2.2.2.2.2.1
        obtain ⟨tf129, ht129, hr129⟩ : zTt 4 .char g129 4 A s := hE129
        refine va_gets hx hb hz129 hS hown (hts _ qw461) (fun _ h9 => h9) dX2_clause_129 ?_
        have hE129 : zTt 4 .char g129 4 A s := ⟨tf129, ht129, hr129⟩
        obtain ⟨g132, hz132, hE132⟩ := hV.2.2.2.2.2.2.2.1
        obtain ⟨tf132, ht132, hr132⟩ : zTt 5 .int g132 4 A s := hE132
        refine va_gets hx hb hz132 hS hown (hts _ qw463) (fun _ h9 => h9) dX2_clause_132 ?_
        have hE132 : zTt 5 .int g132 4 A s := ⟨tf132, ht132, hr132⟩
        refine lv_aload_n hx hb dX2_clause_135 rfl (lv_at hl 2 rfl) ?_
        refine va_get (D := (dC, dI)) (ci := 2) (v := .ref aC) (C := RX2) (T := TX2) (N := 3) hx hb hts iX2 hown hK hP 0 rfl rfl 1 (by decide) (hts _ qw155) (fun _ h9 => h9) rfl dX2_clause_136 ?_
        refine va_get (D := (dC, dI)) (ci := 1) (v := .ref aB) (C := RX1) (T := TX1) (N := 5) hx hb hts iX1 hown hK hP 3 rfl rfl 1 (by decide) (hts _ qw189) (fun _ h9 => h9) rfl dX2_clause_139 ?_
        refine lv_iload_n hx hb dX2_clause_142 rfl (lv_at hl 0 rfl) ?_
        obtain ⟨hPc, hDc, hFc⟩ := zc3 (wc := [(h0, .inr (2, [.ref tp, .ref aC, .int hsr])), (tp, .inr (9, [.ref tB, .int tl, .int v108])), (tB, .inl (cI, 260, .inl fB)), (aB, .inl (cI, 24, .inl v125_f))]) hP hD hS hA [0, 1, 2, 5] (by decide +kernel) rfl
        refine va_calli (va_runV (As := [.ref g129, .ref g132, .ref aB, .int v84]) (rest := []) ⟨hx, hb, hml, hown, hts⟩ (g_X2_items_b l dC dI cI cJ h0 g129 g132 aB v84 tp aC hsr tB tl v108 fB v125_f H.size (by omega) (by omega) n_tl (hty)) (cwV 4 hts (zgV qw445 qw447 qw1 qw100 qw448) rfl rfl rfl hd_X2_items ⟨by rw [hR]; exact Nat.le_of_ble_eq_true rfl, by rw [hR]; exact Nat.le_of_ble_eq_true rfl⟩) (zPXV hPc hK hDc (va_recv (q := (RX2, TX2, 3)) hK hP (ci := 2) (q0 := 0) rfl rfl) (zV_call hV hS hFc) (zTs_call (zTsc hE129 (zTsc hE132 zTs0)) hS hFc)) rfl rfl hl.1 rfl (lv_room (Nat.le_of_ble_eq_true rfl)) dX2_clause_143 ⟨Nat.zero_le _, Nat.zero_le _⟩) hS (fun q _ h => hFc q h) hFc (fun v143 u143 t H locs ht hvm hw hB hz1 hk1 hS9 => ?_)
        obtain ⟨u143_0, u143_1⟩ := u143
        obtain ⟨hP9, hD9⟩ := zj2 (wX := [(h0, .inr (2, [.ref tp, .ref aC, .int hsr])), (tp, .inr (9, [.ref tB, .int tl, .int u143_0])), (tB, .inl (cI, 260, .inl fB)), (aC, .inr (1, [.ref aR, .ref aB, .ref aP, .int v95, .int np])), (aR, .inl (cI, 3, .inl fr)), (aB, .inl (cI, 24, .inl u143_1)), (aP, .inl (cI, 20, .inl fp))]) hP hD hk1 hFc ht hB [0, 1, 2, 5] [(true, 0), (true, 1), (true, 2), (false, 3), (false, 4), (true, 3), (false, 6)] rfl (by decide +kernel) (by decide +kernel) rfl
        clear hP hD hS hPc hDc hFc hB hk1 hz1 hvm
        have hP := hP9
        have hD := hD9
        have hS := hS9
        clear hP9 hD9 hS9
        obtain ⟨f143_0, f143_1, f143_2, f143_3, f143_4, f143_5, f143_6⟩ : (0 ≤ v143.toInt) ∧ (v143.toInt ≤ 1) ∧ (0 ≤ u143_0.toInt) ∧ (u143_0.toInt ≤ 240) ∧ (v108.toInt ≤ u143_0.toInt) ∧ (zFs fB tl (sIts (sB fB tl.toInt) tl.toInt 1 0 v108.toInt) v143 u143_0) ∧ (v143.toInt = 1 → zIe fB tl 1 4 v84.toInt.toNat v108.toInt v125_f u143_1) := hw
        have F143 := f143_5
        have F143_1 := f143_6
        rw [hQ]
        exact W.zret (v := v143) (ty := .boolean) hx hb hr (znb (by omega) (by omega)) (fun t ht hW => ⟨⟨v143, (hsr, u143_0, v95, np, fr, u143_1, fp), rfl, ⟨by (try dsimp only); omega, by (try dsimp only); omega, by (try dsimp only); omega, by (try dsimp only); omega, by (try dsimp only); omega, by (try dsimp only); omega, by (try dsimp only); omega, by (try dsimp only); omega, by (try dsimp only); omega, by (try dsimp only); omega, by (try dsimp only); omega, zcc_b F4 (by omega) (by omega) i108 i95 F143, zcw_b F4 (by omega) (by omega) (by omega) i108 i95 hr112 e125 (by omega) F143_1⟩, ⟨by rw [ht]; exact hP, hD⟩⟩, hS.F ht⟩) hS.2.2 dX2_clause_146
  · have c11 : v4.toInt = 115 := z5 rfl (by decide) c11
    refine lv_aload_n hx hb dX2_clause_14 rfl (lv_at hl 1 rfl) ?_
    refine va_get (D := (dC, dI)) (ci := 2) (v := .int hsr) (C := RX2) (T := TX2) (N := 3) hx hb hts iX2 hown hK hP 0 rfl rfl 2 (by decide) (hts _ qw156) (fun _ h9 => h9) rfl dX2_clause_15 ?_
    refine lv_if_ne (tgt := 58) hx hb dX2_clause_18 (by decide) (fun c18 => ?_) (fun c18 => ?_)
    · have c18 : ¬ hsr.toInt = 0 := z6 rfl (by decide) c18
      refine lv_iload_n hx hb dX2_clause_58 rfl (lv_at hl 0 rfl) ?_
      refine lv_bipush (v := 98) hx hb dX2_clause_59 (by decide) ?_
      refine lv_icmp_ne (tgt := 147) hx hb dX2_clause_61 (by decide) (fun c61 => ?_) (fun c61 => by exfalso; have c61 : v4.toInt = 98 := z5 rfl (by decide) c61; omega)
      have c61 : ¬ v4.toInt = 98 := z6 rfl (by decide) c61
      refine lv_iload_n hx hb dX2_clause_147 rfl (lv_at hl 0 rfl) ?_
      refine lv_bipush (v := 112) hx hb dX2_clause_148 (by decide) ?_
      refine lv_icmp_ne (tgt := 235) hx hb dX2_clause_150 (by decide) (fun c150 => ?_) (fun c150 => by exfalso; have c150 : v4.toInt = 112 := z5 rfl (by decide) c150; omega)
      have c150 : ¬ v4.toInt = 112 := z6 rfl (by decide) c150
      refine lv_iconst (v := 0) hx hb dX2_clause_235 (by decide) ?_
      have zr0 : (0 : Int32).toInt = 0 := by decide
      rw [hQ]
      exact W.zret (v := 0) (ty := .boolean) hx hb hr rfl (fun t ht hW => ⟨⟨0, (hsr, u4_0, nb, np, fr, fb, fp), rfl, ⟨by (try dsimp only); omega, by (try dsimp only); omega, by (try dsimp only); omega, by (try dsimp only); omega, by (try dsimp only); omega, by (try dsimp only); omega, by (try dsimp only); omega, by (try dsimp only); omega, by (try dsimp only); omega, by (try dsimp only); omega, by (try dsimp only); omega, zcc_n F4 (by omega) (by omega) (by omega), fun z => absurd z (by decide)⟩, ⟨by rw [ht]; exact hP, hD⟩⟩, hS.F ht⟩) hS.2.2 dX2_clause_236
    · have c18 : hsr.toInt = 0 := z5 rfl (by decide) c18
      refine lv_aload_n hx hb dX2_clause_21 rfl (lv_at hl 1 rfl) ?_
      refine lv_iconst (v := 1) hx hb dX2_clause_22 (by decide) ?_
      refine va_put (D := (dC, dI)) (ci := 2) (v := .int 1) (ty := .boolean) (C := RX2) (T := TX2) (N := 3) hx hb hts iX2 tyX2 tyX2_ok nmX2 hown hK hP hD hS 0 rfl rfl 2 (by decide) (hts _ qw156) (fun _ h9 => h9) rfl (by decide +kernel) rfl rfl (Nat.le_of_ble_eq_true rfl) dX2_clause_23 (fun H locs hP9 hD9 hS9 => ?_)
      clear hP hD hS
      obtain ⟨hP, hD⟩ := zst (wX := [(h0, .inr (2, [.ref tp, .ref aC, .int 1])), (tp, .inr (9, [.ref tB, .int tl, .int u4_0])), (tB, .inl (cI, 260, .inl fB)), (aC, .inr (1, [.ref aR, .ref aB, .ref aP, .int nb, .int np])), (aR, .inl (cI, 3, .inl fr)), (aB, .inl (cI, 24, .inl fb)), (aP, .inl (cI, 20, .inl fp))]) hP9 hD9 rfl
      have hS := hS9
      clear hP9 hD9 hS9
      refine lv_aload_n hx hb dX2_clause_26 rfl (lv_at hl 1 rfl) ?_
      refine va_get (D := (dC, dI)) (ci := 2) (v := .ref tp) (C := RX2) (T := TX2) (N := 3) hx hb hts iX2 hown hK hP 0 rfl rfl 0 (by decide) (hts _ qw154) (fun _ h9 => h9) rfl dX2_clause_27 ?_
      refine lv_dup hx hb dX2_clause_30 rfl ?_
      refine va_get (D := (dC, dI)) (ci := 9) (v := .int u4_0) (C := RX9) (T := TX9) (N := 3) hx hb hts iX9 hown hK hP 1 rfl rfl 2 (by decide) (hts _ qw138) (fun _ h9 => h9) rfl dX2_clause_31 ?_
      refine lv_iconst (v := 1) hx hb dX2_clause_34 (by decide) ?_
      refine lv_iadd hx hb dX2_clause_35 ?_
      refine lv_topi (fun v35 e35 => ?_)
      have i35 : v35.toInt = u4_0.toInt + 1 := zadd e35 rfl (by decide) (by omega) (by omega)
      refine va_put (D := (dC, dI)) (ci := 9) (v := .int v35) (ty := .int) (C := RX9) (T := TX9) (N := 3) hx hb hts iX9 tyX9 tyX9_ok nmX9 hown hK hP hD hS 1 rfl rfl 2 (by decide) (hts _ qw138) (fun _ h9 => h9) rfl (by decide +kernel) rfl rfl (Nat.le_of_ble_eq_true rfl) dX2_clause_36 (fun H locs hP9 hD9 hS9 => ?_)
      clear hP hD hS
      obtain ⟨hP, hD⟩ := zst (wX := [(h0, .inr (2, [.ref tp, .ref aC, .int 1])), (tp, .inr (9, [.ref tB, .int tl, .int v35])), (tB, .inl (cI, 260, .inl fB)), (aC, .inr (1, [.ref aR, .ref aB, .ref aP, .int nb, .int np])), (aR, .inl (cI, 3, .inl fr)), (aB, .inl (cI, 24, .inl fb)), (aP, .inl (cI, 20, .inl fp))]) hP9 hD9 rfl
      have hS := hS9
      clear hP9 hD9 hS9
      refine lv_aload_n hx hb dX2_clause_39 rfl (lv_at hl 1 rfl) ?_
      obtain ⟨g40, hz40, hE40⟩ := hV.2.2.2.1
      obtain ⟨tf40, ht40, hr40⟩ : zTt 1 .char g40 3 A s := hE40
      refine va_gets hx hb hz40 hS hown (hts _ qw441) (fun _ h9 => h9) dX2_clause_40 ?_
      have hE40 : zTt 1 .char g40 3 A s := ⟨tf40, ht40, hr40⟩
      obtain ⟨g43, hz43, hE43⟩ := hV.2.2.2.2.1
      obtain ⟨tf43, ht43, hr43⟩ : zTt 2 .int g43 3 A s := hE43
      refine va_gets hx hb hz43 hS hown (hts _ qw443) (fun _ h9 => h9) dX2_clause_43 ?_
      have hE43 : zTt 2 .int g43 3 A s := ⟨tf43, ht43, hr43⟩
      refine lv_aload_n hx hb dX2_clause_46 rfl (lv_at hl 1 rfl) ?_
      refine va_get (D := (dC, dI)) (ci := 2) (v := .ref aC) (C := RX2) (T := TX2) (N := 3) hx hb hts iX2 hown hK hP 0 rfl rfl 1 (by decide) (hts _ qw155) (fun _ h9 => h9) rfl dX2_clause_47 ?_
      refine va_get (D := (dC, dI)) (ci := 1) (v := .ref aR) (C := RX1) (T := TX1) (N := 5) hx hb hts iX1 hown hK hP 3 rfl rfl 0 (by decide) (hts _ qw187) (fun _ h9 => h9) rfl dX2_clause_50 ?_
      refine lv_iconst (v := 0) hx hb dX2_clause_53 (by decide) ?_
      obtain ⟨hPc, hDc, hFc⟩ := zc3 (wc := [(h0, .inr (2, [.ref tp, .ref aC, .int 1])), (tp, .inr (9, [.ref tB, .int tl, .int v35])), (tB, .inl (cI, 260, .inl fB)), (aR, .inl (cI, 3, .inl fr))]) hP hD hS hA [0, 1, 2, 4] (by decide +kernel) rfl
      refine va_calli (va_runV (As := [.ref g40, .ref g43, .ref aR, .int 0]) (rest := []) ⟨hx, hb, hml, hown, hts⟩ (g_X2_items_s l dC dI cI cJ h0 g40 g43 aR 0 tp aC 1 tB tl v35 fB fr H.size (by decide) (by omega) n_tl (hty)) (cwV 4 hts (zgV qw445 qw447 qw1 qw100 qw448) rfl rfl rfl hd_X2_items ⟨by rw [hR]; exact Nat.le_of_ble_eq_true rfl, by rw [hR]; exact Nat.le_of_ble_eq_true rfl⟩) (zPXV hPc hK hDc (va_recv (q := (RX2, TX2, 3)) hK hP (ci := 2) (q0 := 0) rfl rfl) (zV_call hV hS hFc) (zTs_call (zTsc hE40 (zTsc hE43 zTs0)) hS hFc)) rfl rfl hl.1 rfl (lv_room (Nat.le_of_ble_eq_true rfl)) dX2_clause_54 ⟨Nat.zero_le _, Nat.zero_le _⟩) hS (fun q _ h => hFc q h) hFc (fun v54 u54 t H locs ht hvm hw hB hz1 hk1 hS9 => ?_)
      obtain ⟨u54_0, u54_1⟩ := u54
      obtain ⟨hP9, hD9⟩ := zj2 (wX := [(h0, .inr (2, [.ref tp, .ref aC, .int 1])), (tp, .inr (9, [.ref tB, .int tl, .int u54_0])), (tB, .inl (cI, 260, .inl fB)), (aC, .inr (1, [.ref aR, .ref aB, .ref aP, .int nb, .int np])), (aR, .inl (cI, 3, .inl u54_1)), (aB, .inl (cI, 24, .inl fb)), (aP, .inl (cI, 20, .inl fp))]) hP hD hk1 hFc ht hB [0, 1, 2, 4] [(true, 0), (true, 1), (true, 2), (false, 3), (true, 3), (false, 5), (false, 6)] rfl (by decide +kernel) (by decide +kernel) rfl
      clear hP hD hS hPc hDc hFc hB hk1 hz1 hvm
      have hP := hP9
      have hD := hD9
      have hS := hS9
      clear hP9 hD9 hS9
      have zn54_0 : (0 : Int32).toInt = 0 := by decide
      obtain ⟨f54_0, f54_1, f54_2, f54_3, f54_4, f54_5, f54_6⟩ : (0 ≤ v54.toInt) ∧ (v54.toInt ≤ 1) ∧ (0 ≤ u54_0.toInt) ∧ (u54_0.toInt ≤ 240) ∧ (v35.toInt ≤ u54_0.toInt) ∧ (zFs fB tl (sIts (sB fB tl.toInt) tl.toInt 0 0 v35.toInt) v54 u54_0) ∧ (v54.toInt = 1 → zIe fB tl 0 3 (0 : Int32).toInt.toNat v35.toInt fr u54_1) := hw
      have F54 := f54_5
      have F54_1 := f54_6
      have zr1 : (1 : Int32).toInt = 1 := by decide
      rw [hQ]
      exact W.zret (v := v54) (ty := .boolean) hx hb hr (znb (by omega) (by omega)) (fun t ht hW => ⟨⟨v54, (1, u54_0, nb, np, u54_1, fb, fp), rfl, ⟨by (try dsimp only); omega, by (try dsimp only); omega, by (try dsimp only); omega, by (try dsimp only); omega, by (try dsimp only); omega, by (try dsimp only); omega, by (try dsimp only); omega, by (try dsimp only); omega, by (try dsimp only); omega, by (try dsimp only); omega, by (try dsimp only); omega, zcc_s F4 (by omega) (by omega) i35 F54, zcw_s F4 (by omega) (by omega) i35 (by decide) F54_1⟩, ⟨by rw [ht]; exact hP, hD⟩⟩, hS.F ht⟩) hS.2.2 dX2_clause_57
set_option maxHeartbeats 4000000 in
set_option maxRecDepth 100000 in
theorem g_X2_read (l : Launch) (dC : Nat → ClassId) (dI : Nat → Nat → Nat) (cI cJ : ClassId) (h0 : Nat) (tp : Nat) (aC : Nat) (h0_tape : Value) (h0_court : Value) (hsr : Int32) (tB : Nat) (tl : Int32) (ta : Int32) (fB : Nat → Int32) (aR : Nat) (aB : Nat) (aP : Nat) (nb : Int32) (np : Int32) (fr : Nat → Int32) (fb : Nat → Int32) (fp : Nat → Int32) (sz : Nat) (n_hsr : 0 ≤ hsr.toInt ∧ hsr.toInt ≤ 1) (n_nb : 0 ≤ nb.toInt ∧ nb.toInt ≤ 6) (n_np : 0 ≤ np.toInt ∧ np.toInt ≤ 5) (n_ta : 0 ≤ ta.toInt ∧ ta.toInt ≤ 240) (n_tl : 0 ≤ tl.toInt ∧ tl.toInt ≤ 240) (hty : zTy tl fB)   : Met l yX2_read (.code yX2_read cX2_read 5 (some .int) :: wA) ({ frames := 3, cells := 0, slots := 0, locals := 82 }) (zPW (dC, dI) [(cI, .int), (cJ, .long)] [.ref h0, .ref tp, .ref aC] sz [(h0, .inr (2, [h0_tape, h0_court, .int hsr])), (tp, .inr (9, [.ref tB, .int tl, .int ta])), (tB, .inl (cI, 260, .inl fB)), (aC, .inr (1, [.ref aR, .ref aB, .ref aP, .int nb, .int np])), (aR, .inl (cI, 3, .inl fr)), (aB, .inl (cI, 24, .inl fb)), (aP, .inl (cI, 20, .inl fp))] (va_A [(h0, .inr (2, [h0_tape, h0_court, .int hsr])), (tp, .inr (9, [.ref tB, .int tl, .int ta])), (tB, .inl (cI, 260, .inl fB)), (aC, .inr (1, [.ref aR, .ref aB, .ref aP, .int nb, .int np])), (aR, .inl (cI, 3, .inl fr)), (aB, .inl (cI, 24, .inl fb)), (aP, .inl (cI, 20, .inl fp))] sz)) (va_Qi (fun (r : Int32) (u : Int32 × Int32 × Int32 × Int32 × (Nat → Int32) × (Nat → Int32) × (Nat → Int32)) => ((-1) ≤ r.toInt) ∧ (r.toInt ≤ 240) ∧ (0 ≤ u.1.toInt) ∧ (u.1.toInt ≤ 1) ∧ (0 ≤ u.2.1.toInt) ∧ (u.2.1.toInt ≤ 240) ∧ (0 ≤ u.2.2.1.toInt) ∧ (u.2.2.1.toInt ≤ 6) ∧ (0 ≤ u.2.2.2.1.toInt) ∧ (u.2.2.2.1.toInt ≤ 5) ∧ (sCrt (sB fB tl.toInt) tl.toInt = (r.toInt, u.1.toInt, u.2.2.1.toInt, u.2.2.2.1.toInt)) ∧ (r.toInt = -1 → zCn u.2.2.2.2.1 u.2.2.2.2.2.1 u.2.2.2.2.2.2 u.2.2.1.toInt u.2.2.2.1.toInt (sCrtV (sB fB tl.toInt) tl.toInt))) (fun (u : Int32 × Int32 × Int32 × Int32 × (Nat → Int32) × (Nat → Int32) × (Nat → Int32)) (t : State) => va_P (dC, dI) vwCl [(h0, .inr (2, [.ref tp, .ref aC, .int u.1])), (tp, .inr (9, [.ref tB, .int tl, .int u.2.1])), (tB, .inl (cI, 260, .inl fB)), (aC, .inr (1, [.ref aR, .ref aB, .ref aP, .int u.2.2.1, .int u.2.2.2.1])), (aR, .inl (cI, 3, .inl u.2.2.2.2.1)), (aB, .inl (cI, 24, .inl u.2.2.2.2.2.1)), (aP, .inl (cI, 20, .inl u.2.2.2.2.2.2))] t.heap ∧ va_D (va_A [(h0, .inr (2, [h0_tape, h0_court, .int hsr])), (tp, .inr (9, [.ref tB, .int tl, .int ta])), (tB, .inl (cI, 260, .inl fB)), (aC, .inr (1, [.ref aR, .ref aB, .ref aP, .int nb, .int np])), (aR, .inl (cI, 3, .inl fr)), (aB, .inl (cI, 24, .inl fb)), (aP, .inl (cI, 20, .inl fp))] sz) [(h0, .inr (2, [.ref tp, .ref aC, .int u.1])), (tp, .inr (9, [.ref tB, .int tl, .int u.2.1])), (tB, .inl (cI, 260, .inl fB)), (aC, .inr (1, [.ref aR, .ref aB, .ref aP, .int u.2.2.1, .int u.2.2.2.1])), (aR, .inl (cI, 3, .inl u.2.2.2.2.1)), (aB, .inl (cI, 24, .inl u.2.2.2.2.2.1)), (aP, .inl (cI, 20, .inl u.2.2.2.2.2.2))]) (va_A [(h0, .inr (2, [h0_tape, h0_court, .int hsr])), (tp, .inr (9, [.ref tB, .int tl, .int ta])), (tB, .inl (cI, 260, .inl fB)), (aC, .inr (1, [.ref aR, .ref aB, .ref aP, .int nb, .int np])), (aR, .inl (cI, 3, .inl fr)), (aB, .inl (cI, 24, .inl fb)), (aP, .inl (cI, 20, .inl fp))] sz)) 0 0 (va_A [(h0, .inr (2, [h0_tape, h0_court, .int hsr])), (tp, .inr (9, [.ref tB, .int tl, .int ta])), (tB, .inl (cI, 260, .inl fB)), (aC, .inr (1, [.ref aR, .ref aB, .ref aP, .int nb, .int np])), (aR, .inl (cI, 3, .inl fr)), (aB, .inl (cI, 24, .inl fb)), (aP, .inl (cI, 20, .inl fp))] sz) := by
  refine Met.ofW (cc := cX2_read) (maxL := 5) (ret := (some .int)) (by decide) rfl ?_
  intro p e s m args below meth c s₁ B hml hv
  have y_hsr : zHid (0 ≤ hsr.toInt ∧ hsr.toInt ≤ 1) := n_hsr
  have y_nb : zHid (0 ≤ nb.toInt ∧ nb.toInt ≤ 6) := n_nb
  have y_np : zHid (0 ≤ np.toInt ∧ np.toInt ≤ 5) := n_np
  have y_ta : zHid (0 ≤ ta.toInt ∧ ta.toInt ≤ 240) := n_ta
  clear n_hsr n_nb n_np n_ta
  obtain ⟨⟨hargs, hsz, hP, hK, hT⟩, hV⟩ := hv
  have hx := B.exec
  have hb := B.bytes
  have hr := B.returns
  have hts : ∀ w ∈ wA, w.before args s = true := fun w h => atoms_spec (ws := .code yX2_read cX2_read 5 (some .int) :: wA) B.pre w (List.mem_cons_of_mem _ h)
  have hown : s.vm.findClass RX2 = some m.cls := findClass_of_methodNamed B.named
  have hlocks := B.notSynchronized
  subst hsz
  have hD := hT.self (sz := s.heap.size)
  generalize hAe : va_A [(h0, .inr (2, [h0_tape, h0_court, .int hsr])), (tp, .inr (9, [.ref tB, .int tl, .int ta])), (tB, .inl (cI, 260, .inl fB)), (aC, .inr (1, [.ref aR, .ref aB, .ref aP, .int nb, .int np])), (aR, .inl (cI, 3, .inl fr)), (aB, .inl (cI, 24, .inl fb)), (aP, .inl (cI, 20, .inl fp))] s.heap.size = A at hD hV ⊢
  have hA : ∀ q : Nat, s.heap.size ≤ q → A q := fun q h => by rw [← hAe]; exact Or.inr h
  have hl := lv_entry ([.ref h0, .ref tp, .ref aC]) (n := 5) (Nat.le_of_ble_eq_true rfl)
  rw [show entryFrame m args 5 = entryFrame m ([.ref h0, .ref tp, .ref aC] : List Value).toArray 5 by rw [hargs], lg_entry_eq]
  generalize (lg_sl ([.ref h0, .ref tp, .ref aC]) ++ List.replicate (5 - (lg_sl ([.ref h0, .ref tp, .ref aC])).length) Slot.unset).toArray = ls at hl ⊢
  have hl : lv_has ls 5 [(0, .ref h0), (1, .ref tp), (2, .ref aC)] := hl
  refine zstart (fun H hH => ?_)
  rw [← hH] at hP
  have hS : va_S A s.heap H [] := by rw [hH]; exact va_S.rf
  generalize ([] : List Loc) = locs at hS ⊢
  refine zgen (fun R Q hR hQ => ?_)
  refine lv_aload_n hx hb dX2_read_0 rfl (lv_at hl 0 rfl) ?_
  refine lv_aload_n hx hb dX2_read_1 rfl (lv_at hl 1 rfl) ?_
  refine va_put (D := (dC, dI)) (ci := 2) (v := .ref tp) (ty := .object "NinePortraits$Tape") (C := RX2) (T := TX2) (N := 3) hx hb hts iX2 tyX2 tyX2_ok nmX2 hown hK hP hD hS 0 rfl rfl 0 (by decide) (hts _ qw154) (fun _ h9 => h9) rfl (by decide +kernel) rfl rfl (Nat.le_of_ble_eq_true rfl) dX2_read_2 (fun H locs hP9 hD9 hS9 => ?_)
  clear hP hD hS
  obtain ⟨hP, hD⟩ := zst (wX := [(h0, .inr (2, [.ref tp, h0_court, .int hsr])), (tp, .inr (9, [.ref tB, .int tl, .int ta])), (tB, .inl (cI, 260, .inl fB)), (aC, .inr (1, [.ref aR, .ref aB, .ref aP, .int nb, .int np])), (aR, .inl (cI, 3, .inl fr)), (aB, .inl (cI, 24, .inl fb)), (aP, .inl (cI, 20, .inl fp))]) hP9 hD9 rfl
  have hS := hS9
  clear hP9 hD9 hS9
  refine lv_aload_n hx hb dX2_read_5 rfl (lv_at hl 0 rfl) ?_
  refine lv_aload_n hx hb dX2_read_6 rfl (lv_at hl 2 rfl) ?_
  refine va_put (D := (dC, dI)) (ci := 2) (v := .ref aC) (ty := .object "NinePortraits$Court") (C := RX2) (T := TX2) (N := 3) hx hb hts iX2 tyX2 tyX2_ok nmX2 hown hK hP hD hS 0 rfl rfl 1 (by decide) (hts _ qw155) (fun _ h9 => h9) rfl (by decide +kernel) rfl rfl (Nat.le_of_ble_eq_true rfl) dX2_read_7 (fun H locs hP9 hD9 hS9 => ?_)
  clear hP hD hS
  obtain ⟨hP, hD⟩ := zst (wX := [(h0, .inr (2, [.ref tp, .ref aC, .int hsr])), (tp, .inr (9, [.ref tB, .int tl, .int ta])), (tB, .inl (cI, 260, .inl fB)), (aC, .inr (1, [.ref aR, .ref aB, .ref aP, .int nb, .int np])), (aR, .inl (cI, 3, .inl fr)), (aB, .inl (cI, 24, .inl fb)), (aP, .inl (cI, 20, .inl fp))]) hP9 hD9 rfl
  have hS := hS9
  clear hP9 hD9 hS9
  refine lv_aload_n hx hb dX2_read_10 rfl (lv_at hl 0 rfl) ?_
  refine va_get (D := (dC, dI)) (ci := 2) (v := .ref tp) (C := RX2) (T := TX2) (N := 3) hx hb hts iX2 hown hK hP 0 rfl rfl 0 (by decide) (hts _ qw154) (fun _ h9 => h9) rfl dX2_read_11 ?_
  refine lv_iconst (v := 0) hx hb dX2_read_14 (by decide) ?_
  refine va_put (D := (dC, dI)) (ci := 9) (v := .int 0) (ty := .int) (C := RX9) (T := TX9) (N := 3) hx hb hts iX9 tyX9 tyX9_ok nmX9 hown hK hP hD hS 1 rfl rfl 2 (by decide) (hts _ qw138) (fun _ h9 => h9) rfl (by decide +kernel) rfl rfl (Nat.le_of_ble_eq_true rfl) dX2_read_15 (fun H locs hP9 hD9 hS9 => ?_)
  clear hP hD hS
  obtain ⟨hP, hD⟩ := zst (wX := [(h0, .inr (2, [.ref tp, .ref aC, .int hsr])), (tp, .inr (9, [.ref tB, .int tl, .int 0])), (tB, .inl (cI, 260, .inl fB)), (aC, .inr (1, [.ref aR, .ref aB, .ref aP, .int nb, .int np])), (aR, .inl (cI, 3, .inl fr)), (aB, .inl (cI, 24, .inl fb)), (aP, .inl (cI, 20, .inl fp))]) hP9 hD9 rfl
  have hS := hS9
  clear hP9 hD9 hS9
  refine lv_aload_n hx hb dX2_read_18 rfl (lv_at hl 0 rfl) ?_
  refine va_get (D := (dC, dI)) (ci := 2) (v := .ref aC) (C := RX2) (T := TX2) (N := 3) hx hb hts iX2 hown hK hP 0 rfl rfl 1 (by decide) (hts _ qw155) (fun _ h9 => h9) rfl dX2_read_19 ?_
  refine lv_iconst (v := 0) hx hb dX2_read_22 (by decide) ?_
  refine va_put (D := (dC, dI)) (ci := 1) (v := .int 0) (ty := .int) (C := RX1) (T := TX1) (N := 5) hx hb hts iX1 tyX1 tyX1_ok nmX1 hown hK hP hD hS 3 rfl rfl 3 (by decide) (hts _ qw193) (fun _ h9 => h9) rfl (by decide +kernel) rfl rfl (Nat.le_of_ble_eq_true rfl) dX2_read_23 (fun H locs hP9 hD9 hS9 => ?_)
  clear hP hD hS
  obtain ⟨hP, hD⟩ := zst (wX := [(h0, .inr (2, [.ref tp, .ref aC, .int hsr])), (tp, .inr (9, [.ref tB, .int tl, .int 0])), (tB, .inl (cI, 260, .inl fB)), (aC, .inr (1, [.ref aR, .ref aB, .ref aP, .int 0, .int np])), (aR, .inl (cI, 3, .inl fr)), (aB, .inl (cI, 24, .inl fb)), (aP, .inl (cI, 20, .inl fp))]) hP9 hD9 rfl
  have hS := hS9
  clear hP9 hD9 hS9
  refine lv_aload_n hx hb dX2_read_26 rfl (lv_at hl 0 rfl) ?_
  refine va_get (D := (dC, dI)) (ci := 2) (v := .ref aC) (C := RX2) (T := TX2) (N := 3) hx hb hts iX2 hown hK hP 0 rfl rfl 1 (by decide) (hts _ qw155) (fun _ h9 => h9) rfl dX2_read_27 ?_
  refine lv_iconst (v := 0) hx hb dX2_read_30 (by decide) ?_
  refine va_put (D := (dC, dI)) (ci := 1) (v := .int 0) (ty := .int) (C := RX1) (T := TX1) (N := 5) hx hb hts iX1 tyX1 tyX1_ok nmX1 hown hK hP hD hS 3 rfl rfl 4 (by decide) (hts _ qw197) (fun _ h9 => h9) rfl (by decide +kernel) rfl rfl (Nat.le_of_ble_eq_true rfl) dX2_read_31 (fun H locs hP9 hD9 hS9 => ?_)
  clear hP hD hS
  obtain ⟨hP, hD⟩ := zst (wX := [(h0, .inr (2, [.ref tp, .ref aC, .int hsr])), (tp, .inr (9, [.ref tB, .int tl, .int 0])), (tB, .inl (cI, 260, .inl fB)), (aC, .inr (1, [.ref aR, .ref aB, .ref aP, .int 0, .int 0])), (aR, .inl (cI, 3, .inl fr)), (aB, .inl (cI, 24, .inl fb)), (aP, .inl (cI, 20, .inl fp))]) hP9 hD9 rfl
  have hS := hS9
  clear hP9 hD9 hS9
  refine lv_aload_n hx hb dX2_read_34 rfl (lv_at hl 0 rfl) ?_
  refine lv_iconst (v := 0) hx hb dX2_read_35 (by decide) ?_
  refine va_put (D := (dC, dI)) (ci := 2) (v := .int 0) (ty := .boolean) (C := RX2) (T := TX2) (N := 3) hx hb hts iX2 tyX2 tyX2_ok nmX2 hown hK hP hD hS 0 rfl rfl 2 (by decide) (hts _ qw156) (fun _ h9 => h9) rfl (by decide +kernel) rfl rfl (Nat.le_of_ble_eq_true rfl) dX2_read_36 (fun H locs hP9 hD9 hS9 => ?_)
  clear hP hD hS
  obtain ⟨hP, hD⟩ := zst (wX := [(h0, .inr (2, [.ref tp, .ref aC, .int 0])), (tp, .inr (9, [.ref tB, .int tl, .int 0])), (tB, .inl (cI, 260, .inl fB)), (aC, .inr (1, [.ref aR, .ref aB, .ref aP, .int 0, .int 0])), (aR, .inl (cI, 3, .inl fr)), (aB, .inl (cI, 24, .inl fb)), (aP, .inl (cI, 20, .inl fp))]) hP9 hD9 rfl
  have hS := hS9
  clear hP9 hD9 hS9
  obtain ⟨g39, hz39, hE39⟩ := hV.2.2.2.2.2.1
  obtain ⟨tf39, ht39, hr39⟩ : zTt 3 .int g39 3 A s := hE39
  refine va_gets hx hb hz39 hS hown (hts _ qw428) (fun _ h9 => h9) dX2_read_39 ?_
  have hE39 : zTt 3 .int g39 3 A s := ⟨tf39, ht39, hr39⟩
  refine lv_iconst (v := 0) hx hb dX2_read_42 (by decide) ?_
  refine lv_aload_n hx hb dX2_read_43 rfl (lv_at hl 0 rfl) ?_
  refine va_get (D := (dC, dI)) (ci := 2) (v := .ref aC) (C := RX2) (T := TX2) (N := 3) hx hb hts iX2 hown hK hP 0 rfl rfl 1 (by decide) (hts _ qw155) (fun _ h9 => h9) rfl dX2_read_44 ?_
  refine va_get (D := (dC, dI)) (ci := 1) (v := .ref aR) (C := RX1) (T := TX1) (N := 5) hx hb hts iX1 hown hK hP 3 rfl rfl 0 (by decide) (hts _ qw187) (fun _ h9 => h9) rfl dX2_read_47 ?_
  refine lv_iconst (v := 0) hx hb dX2_read_50 (by decide) ?_
  obtain ⟨g51, hz51, hE51⟩ := hV.2.2.2.2.2.1
  obtain ⟨tf51, ht51, hr51⟩ : zTt 3 .int g51 3 A s := hE51
  refine va_gets hx hb hz51 hS hown (hts _ qw428) (fun _ h9 => h9) dX2_read_51 ?_
  have hE51 : zTt 3 .int g51 3 A s := ⟨tf51, ht51, hr51⟩
  refine va_tlen (v := 3) hx hb ht51 hS (by decide) dX2_read_54 ?_
  refine zcopyT hx hb (by rw [hml]; exact hl.1.symm) hown (hts _ qw430) (hts _ qw432) (hts _ qw431) (hts _ qw109) hK hP hD hS 4 0 ht39 rfl rfl (by decide) (by decide) (by decide) (by decide) (zcpb (a := 0) (b := 3) (by decide) (by decide) (by omega)) (by rw [hR]; exact Nat.le_of_ble_eq_true rfl) (by rw [hR]; decide) dX2_read_55 (fun H locs hP9 hD9 hS9 => ?_)
  clear hP hD hS
  obtain ⟨v55_f, e55⟩ : ∃ g : Nat → Int32, g = va_cpy tf39 fr (0 : Int32).toNatClampNeg (0 : Int32).toNatClampNeg (3 : Int32).toNatClampNeg := ⟨_, rfl⟩
  rw [← e55] at hP9 hD9
  obtain ⟨hP, hD⟩ := zst (wX := [(h0, .inr (2, [.ref tp, .ref aC, .int 0])), (tp, .inr (9, [.ref tB, .int tl, .int 0])), (tB, .inl (cI, 260, .inl fB)), (aC, .inr (1, [.ref aR, .ref aB, .ref aP, .int 0, .int 0])), (aR, .inl (cI, 3, .inl v55_f)), (aB, .inl (cI, 24, .inl fb)), (aP, .inl (cI, 20, .inl fp))]) hP9 hD9 rfl
  have hS := hS9
  clear hP9 hD9 hS9
  refine lv_aload_n hx hb dX2_read_58 rfl (lv_at hl 0 rfl) ?_
  obtain ⟨hPc, hDc, hFc⟩ := zc3 (wc := [(h0, .inr (2, [.ref tp, .ref aC, .int 0])), (tp, .inr (9, [.ref tB, .int tl, .int 0])), (tB, .inl (cI, 260, .inl fB)), (aC, .inr (1, [.ref aR, .ref aB, .ref aP, .int 0, .int 0])), (aR, .inl (cI, 3, .inl v55_f)), (aB, .inl (cI, 24, .inl fb)), (aP, .inl (cI, 20, .inl fp))]) hP hD hS hA [0, 1, 2, 3, 4, 5, 6] (by decide +kernel) rfl
  refine va_calli (va_runV (As := []) (rest := []) ⟨hx, hb, hml, hown, hts⟩ (g_X2_clause l dC dI cI cJ h0 tp aC 0 tB tl 0 fB aR aB aP 0 0 v55_f fb fp H.size (by decide) (by decide) (by decide) (by decide) n_tl (hty)) (cwV 0 hts (zgV qw433 qw435 qw0 qw100 qw436) rfl rfl rfl hd_X2_clause ⟨by rw [hR]; exact Nat.le_of_ble_eq_true rfl, by rw [hR]; exact Nat.le_of_ble_eq_true rfl⟩) (zPWV hPc hK hDc (va_recv (q := (RX2, TX2, 3)) hK hP (ci := 2) (q0 := 0) rfl rfl) (zV_call hV hS hFc)) rfl rfl hl.1 rfl (lv_room (Nat.le_of_ble_eq_true rfl)) dX2_read_59 ⟨Nat.zero_le _, Nat.zero_le _⟩) hS (fun q _ h => hFc q h) hFc (fun v59 u59 t H locs ht hvm hw hB hz1 hk1 hS9 => ?_)
  obtain ⟨u59_0, u59_1, u59_2, u59_3, u59_4, u59_5, u59_6⟩ := u59
  obtain ⟨hP9, hD9⟩ := zj2 (wX := [(h0, .inr (2, [.ref tp, .ref aC, .int u59_0])), (tp, .inr (9, [.ref tB, .int tl, .int u59_1])), (tB, .inl (cI, 260, .inl fB)), (aC, .inr (1, [.ref aR, .ref aB, .ref aP, .int u59_2, .int u59_3])), (aR, .inl (cI, 3, .inl u59_4)), (aB, .inl (cI, 24, .inl u59_5)), (aP, .inl (cI, 20, .inl u59_6))]) hP hD hk1 hFc ht hB [0, 1, 2, 3, 4, 5, 6] [(true, 0), (true, 1), (true, 2), (true, 3), (true, 4), (true, 5), (true, 6)] rfl (by decide +kernel) (by decide +kernel) rfl
  clear hP hD hS hPc hDc hFc hB hk1 hz1 hvm
  have hP := hP9
  have hD := hD9
  have hS := hS9
  clear hP9 hD9 hS9
  have zn59_0 : (0 : Int32).toInt = 0 := by decide
  obtain ⟨f59_0, f59_1, f59_2, f59_3, f59_4, f59_5, f59_6, f59_7, f59_8, f59_9, f59_10, f59_11, f59_12⟩ : (0 ≤ v59.toInt) ∧ (v59.toInt ≤ 1) ∧ (0 ≤ u59_0.toInt) ∧ (u59_0.toInt ≤ 1) ∧ (0 ≤ u59_1.toInt) ∧ (u59_1.toInt ≤ 240) ∧ (0 ≤ u59_2.toInt) ∧ (u59_2.toInt ≤ 6) ∧ (0 ≤ u59_3.toInt) ∧ (u59_3.toInt ≤ 5) ∧ (¬ v59.toInt = 0 → (0 : Int32).toInt < u59_1.toInt) ∧ (zCc fB tl 0 0 0 0 v59 u59_1 u59_0 u59_2 u59_3) ∧ (zCw fB tl 0 0 0 0 v55_f fb fp v59 u59_0 u59_2 u59_3 u59_4 u59_5 u59_6) := hw
  have F59 := f59_11
  have F59_1 := f59_12
  refine lv_istore_n (lv' := [(3, .int v59), (0, .ref h0), (1, .ref tp), (2, .ref aC)]) hx hb dX2_read_62 rfl hl (by decide) rfl (fun ls hl => ?_)
  refine lv_iconst (v := 0) hx hb dX2_read_63 (by decide) ?_
  have J66 : ∀ (n : Nat) (m66_A_aB : Nat → Int32) (m66_A_aP : Nat → Int32) (m66_A_aR : Nat → Int32) (m66_F_aC_3 : Int32) (m66_F_aC_4 : Int32) (m66_F_h0_2 : Int32) (m66_F_tp_2 : Int32) (m66_L_3 : Int32) (m66_L_4 : Int32), (0 ≤ m66_F_aC_3.toInt ∧ m66_F_aC_3.toInt ≤ 6) → (0 ≤ m66_F_aC_4.toInt ∧ m66_F_aC_4.toInt ≤ 5) → (0 ≤ m66_F_h0_2.toInt ∧ m66_F_h0_2.toInt ≤ 1) → (0 ≤ m66_F_tp_2.toInt ∧ m66_F_tp_2.toInt ≤ 240) → (0 ≤ m66_L_3.toInt ∧ m66_L_3.toInt ≤ 1) → (0 ≤ m66_L_4.toInt ∧ m66_L_4.toInt ≤ 240) → (¬ m66_L_3.toInt = 0 → m66_L_4.toInt ≤ m66_F_tp_2.toInt) → (zCr fB tl m66_L_3 m66_F_tp_2 m66_F_h0_2 m66_F_aC_3 m66_F_aC_4) → (zCrV fB tl m66_L_3 m66_F_tp_2 m66_F_h0_2 m66_F_aC_3 m66_F_aC_4 m66_A_aR m66_A_aB m66_A_aP) → (241 - m66_L_4.toInt).toNat = n → ∀ (H : Heap) (locs : List Loc) (ls : Array Slot), va_P (dC, dI) vwCl [(h0, .inr (2, [.ref tp, .ref aC, .int m66_F_h0_2])), (tp, .inr (9, [.ref tB, .int tl, .int m66_F_tp_2])), (tB, .inl (cI, 260, .inl fB)), (aC, .inr (1, [.ref aR, .ref aB, .ref aP, .int m66_F_aC_3, .int m66_F_aC_4])), (aR, .inl (cI, 3, .inl m66_A_aR)), (aB, .inl (cI, 24, .inl m66_A_aB)), (aP, .inl (cI, 20, .inl m66_A_aP))] H → va_D A [(h0, .inr (2, [.ref tp, .ref aC, .int m66_F_h0_2])), (tp, .inr (9, [.ref tB, .int tl, .int m66_F_tp_2])), (tB, .inl (cI, 260, .inl fB)), (aC, .inr (1, [.ref aR, .ref aB, .ref aP, .int m66_F_aC_3, .int m66_F_aC_4])), (aR, .inl (cI, 3, .inl m66_A_aR)), (aB, .inl (cI, 24, .inl m66_A_aB)), (aP, .inl (cI, 20, .inl m66_A_aP))] → va_S A s.heap H locs → lv_has ls 5 [(4, .int m66_L_4), (3, .int m66_L_3), (0, .ref h0), (1, .ref tp), (2, .ref aC)] → W p l e R s m args below meth c H locs 0 0 Q (F0 m 66 ls []) := by
    intro n66
    induction n66 using Nat.strongRecOn with
    | _ n66 ih66 =>
      intro m66_A_aB m66_A_aP m66_A_aR m66_F_aC_3 m66_F_aC_4 m66_F_h0_2 m66_F_tp_2 m66_L_3 m66_L_4 jf66_0 jf66_1 jf66_2 jf66_3 jf66_4 jf66_5 jf66_6 jv66_0 jv66_1 hmu66 H locs ls hP hD hS hl
      refine lv_iload hx hb dX2_read_66 (lv_at hl 0 rfl) ?_
      refine lv_aload_n hx hb dX2_read_68 rfl (lv_at hl 2 rfl) ?_
      refine va_get (D := (dC, dI)) (ci := 2) (v := .ref tp) (C := RX2) (T := TX2) (N := 3) hx hb hts iX2 hown hK hP 0 rfl rfl 0 (by decide) (hts _ qw154) (fun _ h9 => h9) rfl dX2_read_69 ?_
      refine va_get (D := (dC, dI)) (ci := 9) (v := .int tl) (C := RX9) (T := TX9) (N := 3) hx hb hts iX9 hown hK hP 1 rfl rfl 1 (by decide) (hts _ qw136) (fun _ h9 => h9) rfl dX2_read_72 ?_
      refine lv_icmp_ge (tgt := 105) hx hb dX2_read_75 (by decide) (fun c75 => ?_) (fun c75 => ?_)
      · have c75 : tl.toInt ≤ m66_L_4.toInt := z3 rfl rfl c75
        refine lv_iload_n hx hb dX2_read_105 rfl (lv_at hl 1 rfl) ?_
        refine lv_if_eq (tgt := 141) hx hb dX2_read_106 (by decide) (fun c106 => ?_) (fun c106 => ?_)
        · have c106 : m66_L_3.toInt = 0 := z5 rfl (by decide) c106
          refine lv_aload_n hx hb dX2_read_141 rfl (lv_at hl 2 rfl) ?_
          refine va_get (D := (dC, dI)) (ci := 2) (v := .ref tp) (C := RX2) (T := TX2) (N := 3) hx hb hts iX2 hown hK hP 0 rfl rfl 0 (by decide) (hts _ qw154) (fun _ h9 => h9) rfl dX2_read_142 ?_
          refine va_get (D := (dC, dI)) (ci := 9) (v := .int m66_F_tp_2) (C := RX9) (T := TX9) (N := 3) hx hb hts iX9 hown hK hP 1 rfl rfl 2 (by decide) (hts _ qw138) (fun _ h9 => h9) rfl dX2_read_145 ?_
          rw [hQ]
          exact W.iret (v := m66_F_tp_2) hx hb hr (fun t ht hW => ⟨⟨m66_F_tp_2, (m66_F_h0_2, m66_F_tp_2, m66_F_aC_3, m66_F_aC_4, m66_A_aR, m66_A_aB, m66_A_aP), rfl, ⟨by (try dsimp only); omega, by (try dsimp only); omega, by (try dsimp only); omega, by (try dsimp only); omega, by (try dsimp only); omega, by (try dsimp only); omega, by (try dsimp only); omega, by (try dsimp only); omega, by (try dsimp only); omega, by (try dsimp only); omega, zCrF jv66_0 (by omega) (by omega), fun z => absurd z (by omega)⟩, ⟨by rw [ht]; exact hP, hD⟩⟩, hS.F ht⟩) hS.2.2 dX2_read_148
        · have c106 : ¬ m66_L_3.toInt = 0 := z6 rfl (by decide) c106
          refine lv_aload_n hx hb dX2_read_109 rfl (lv_at hl 2 rfl) ?_
          refine va_get (D := (dC, dI)) (ci := 2) (v := .ref tp) (C := RX2) (T := TX2) (N := 3) hx hb hts iX2 hown hK hP 0 rfl rfl 0 (by decide) (hts _ qw154) (fun _ h9 => h9) rfl dX2_read_110 ?_
          obtain ⟨hPc, hDc, hFc⟩ := zc3 (wc := [(tp, .inr (9, [.ref tB, .int tl, .int m66_F_tp_2])), (tB, .inl (cI, 260, .inl fB))]) hP hD hS hA [1, 2] (by decide +kernel) rfl
          refine va_calli (va_runV (As := []) (rest := []) ⟨hx, hb, hml, hown, hts⟩ (g_X9_peek l dC dI cI cJ tp tB tl m66_F_tp_2 fB H.size jf66_3 n_tl (hty)) (cwV 0 hts (zgV qw437 qw438 qw439 qw99 qw440) rfl rfl rfl hd_X9_peek ⟨by rw [hR]; exact Nat.le_of_ble_eq_true rfl, by rw [hR]; exact Nat.le_of_ble_eq_true rfl⟩) (zPV hPc hK hDc (va_recv (q := (RX9, TX9, 3)) hK hP (ci := 9) (q0 := 1) rfl rfl)) rfl rfl hl.1 rfl (lv_room (Nat.le_of_ble_eq_true rfl)) dX2_read_113 ⟨Nat.zero_le _, Nat.zero_le _⟩) hS (fun q _ h => hFc q h) hFc (fun v113 u113 t H locs ht hvm hw hB hz1 hk1 hS9 => ?_)
          obtain ⟨u113_0, rfl⟩ : ∃ z, z = u113 := ⟨_, rfl⟩
          obtain ⟨hP9, hD9⟩ := zj2 (wX := [(h0, .inr (2, [.ref tp, .ref aC, .int m66_F_h0_2])), (tp, .inr (9, [.ref tB, .int tl, .int u113_0])), (tB, .inl (cI, 260, .inl fB)), (aC, .inr (1, [.ref aR, .ref aB, .ref aP, .int m66_F_aC_3, .int m66_F_aC_4])), (aR, .inl (cI, 3, .inl m66_A_aR)), (aB, .inl (cI, 24, .inl m66_A_aB)), (aP, .inl (cI, 20, .inl m66_A_aP))]) hP hD hk1 hFc ht hB [1, 2] [(false, 0), (true, 0), (true, 1), (false, 3), (false, 4), (false, 5), (false, 6)] rfl (by decide +kernel) (by decide +kernel) rfl
          clear hP hD hS hPc hDc hFc hB hk1 hz1 hvm
          have hP := hP9
          have hD := hD9
          have hS := hS9
          clear hP9 hD9 hS9
          obtain ⟨f113_0, f113_1, f113_2, f113_3, f113_4⟩ : (0 ≤ u113_0.toInt) ∧ (u113_0.toInt ≤ 240) ∧ (¬ v113.toInt = 0 → u113_0.toInt < tl.toInt) ∧ (m66_F_tp_2.toInt ≤ u113_0.toInt) ∧ (zPK fB tl m66_F_tp_2 v113 u113_0) := hw
          have F113 := f113_4
          refine lv_if_ne (tgt := 141) hx hb dX2_read_116 (by decide) (fun c116 => ?_) (fun c116 => ?_)
          · have c116 : ¬ v113.toInt = 0 := z6 rfl (by decide) c116
            refine lv_aload_n hx hb dX2_read_141 rfl (lv_at hl 2 rfl) ?_
            refine va_get (D := (dC, dI)) (ci := 2) (v := .ref tp) (C := RX2) (T := TX2) (N := 3) hx hb hts iX2 hown hK hP 0 rfl rfl 0 (by decide) (hts _ qw154) (fun _ h9 => h9) rfl dX2_read_142 ?_
            refine va_get (D := (dC, dI)) (ci := 9) (v := .int u113_0) (C := RX9) (T := TX9) (N := 3) hx hb hts iX9 hown hK hP 1 rfl rfl 2 (by decide) (hts _ qw138) (fun _ h9 => h9) rfl dX2_read_145 ?_
            rw [hQ]
            exact W.iret (v := u113_0) hx hb hr (fun t ht hW => ⟨⟨u113_0, (m66_F_h0_2, u113_0, m66_F_aC_3, m66_F_aC_4, m66_A_aR, m66_A_aB, m66_A_aP), rfl, ⟨by (try dsimp only); omega, by (try dsimp only); omega, by (try dsimp only); omega, by (try dsimp only); omega, by (try dsimp only); omega, by (try dsimp only); omega, by (try dsimp only); omega, by (try dsimp only); omega, by (try dsimp only); omega, by (try dsimp only); omega, by (try dsimp only); first | exact zCrW jv66_0 (by omega) (Or.inl (by omega)) F113.1 F113.2 (by omega) (by omega), fun z => absurd z (by omega)⟩, ⟨by rw [ht]; exact hP, hD⟩⟩, hS.F ht⟩) hS.2.2 dX2_read_148
          · have c116 : v113.toInt = 0 := z5 rfl (by decide) c116
            refine lv_aload_n hx hb dX2_read_119 rfl (lv_at hl 2 rfl) ?_
            refine va_get (D := (dC, dI)) (ci := 2) (v := .ref aC) (C := RX2) (T := TX2) (N := 3) hx hb hts iX2 hown hK hP 0 rfl rfl 1 (by decide) (hts _ qw155) (fun _ h9 => h9) rfl dX2_read_120 ?_
            refine va_get (D := (dC, dI)) (ci := 1) (v := .int m66_F_aC_3) (C := RX1) (T := TX1) (N := 5) hx hb hts iX1 hown hK hP 3 rfl rfl 3 (by decide) (hts _ qw193) (fun _ h9 => h9) rfl dX2_read_123 ?_
            refine lv_if_le (tgt := 141) hx hb dX2_read_126 (by decide) (fun c126 => ?_) (fun c126 => ?_)
            · have c126 : m66_F_aC_3.toInt ≤ 0 := z3 rfl (by decide) c126
              refine lv_aload_n hx hb dX2_read_141 rfl (lv_at hl 2 rfl) ?_
              refine va_get (D := (dC, dI)) (ci := 2) (v := .ref tp) (C := RX2) (T := TX2) (N := 3) hx hb hts iX2 hown hK hP 0 rfl rfl 0 (by decide) (hts _ qw154) (fun _ h9 => h9) rfl dX2_read_142 ?_
              refine va_get (D := (dC, dI)) (ci := 9) (v := .int u113_0) (C := RX9) (T := TX9) (N := 3) hx hb hts iX9 hown hK hP 1 rfl rfl 2 (by decide) (hts _ qw138) (fun _ h9 => h9) rfl dX2_read_145 ?_
              rw [hQ]
              exact W.iret (v := u113_0) hx hb hr (fun t ht hW => ⟨⟨u113_0, (m66_F_h0_2, u113_0, m66_F_aC_3, m66_F_aC_4, m66_A_aR, m66_A_aB, m66_A_aP), rfl, ⟨by (try dsimp only); omega, by (try dsimp only); omega, by (try dsimp only); omega, by (try dsimp only); omega, by (try dsimp only); omega, by (try dsimp only); omega, by (try dsimp only); omega, by (try dsimp only); omega, by (try dsimp only); omega, by (try dsimp only); omega, by (try dsimp only); first | exact zCrW jv66_0 (by omega) (Or.inl (by omega)) F113.1 F113.2 (by omega) (by omega), fun z => absurd z (by omega)⟩, ⟨by rw [ht]; exact hP, hD⟩⟩, hS.F ht⟩) hS.2.2 dX2_read_148
            · have c126 : 0 < m66_F_aC_3.toInt := z4 rfl (by decide) c126
              refine lv_aload_n hx hb dX2_read_129 rfl (lv_at hl 2 rfl) ?_
              refine va_get (D := (dC, dI)) (ci := 2) (v := .ref aC) (C := RX2) (T := TX2) (N := 3) hx hb hts iX2 hown hK hP 0 rfl rfl 1 (by decide) (hts _ qw155) (fun _ h9 => h9) rfl dX2_read_130 ?_
              refine va_get (D := (dC, dI)) (ci := 1) (v := .int m66_F_aC_4) (C := RX1) (T := TX1) (N := 5) hx hb hts iX1 hown hK hP 3 rfl rfl 4 (by decide) (hts _ qw197) (fun _ h9 => h9) rfl dX2_read_133 ?_
              refine lv_if_le (tgt := 141) hx hb dX2_read_136 (by decide) (fun c136 => ?_) (fun c136 => ?_)
              · have c136 : m66_F_aC_4.toInt ≤ 0 := z3 rfl (by decide) c136
                refine lv_aload_n hx hb dX2_read_141 rfl (lv_at hl 2 rfl) ?_
                refine va_get (D := (dC, dI)) (ci := 2) (v := .ref tp) (C := RX2) (T := TX2) (N := 3) hx hb hts iX2 hown hK hP 0 rfl rfl 0 (by decide) (hts _ qw154) (fun _ h9 => h9) rfl dX2_read_142 ?_
                refine va_get (D := (dC, dI)) (ci := 9) (v := .int u113_0) (C := RX9) (T := TX9) (N := 3) hx hb hts iX9 hown hK hP 1 rfl rfl 2 (by decide) (hts _ qw138) (fun _ h9 => h9) rfl dX2_read_145 ?_
                rw [hQ]
                exact W.iret (v := u113_0) hx hb hr (fun t ht hW => ⟨⟨u113_0, (m66_F_h0_2, u113_0, m66_F_aC_3, m66_F_aC_4, m66_A_aR, m66_A_aB, m66_A_aP), rfl, ⟨by (try dsimp only); omega, by (try dsimp only); omega, by (try dsimp only); omega, by (try dsimp only); omega, by (try dsimp only); omega, by (try dsimp only); omega, by (try dsimp only); omega, by (try dsimp only); omega, by (try dsimp only); omega, by (try dsimp only); omega, by (try dsimp only); first | exact zCrW jv66_0 (by omega) (Or.inl (by omega)) F113.1 F113.2 (by omega) (by omega), fun z => absurd z (by omega)⟩, ⟨by rw [ht]; exact hP, hD⟩⟩, hS.F ht⟩) hS.2.2 dX2_read_148
              · have c136 : 0 < m66_F_aC_4.toInt := z4 rfl (by decide) c136
                refine lv_iconst (v := (-1)) hx hb dX2_read_139 (by decide) ?_
                have zr0 : ((-1) : Int32).toInt = (-1) := by decide
                rw [hQ]
                exact W.iret (v := ((-1))) hx hb hr (fun t ht hW => ⟨⟨(-1), (m66_F_h0_2, u113_0, m66_F_aC_3, m66_F_aC_4, m66_A_aR, m66_A_aB, m66_A_aP), rfl, ⟨by (try dsimp only); omega, by (try dsimp only); omega, by (try dsimp only); omega, by (try dsimp only); omega, by (try dsimp only); omega, by (try dsimp only); omega, by (try dsimp only); omega, by (try dsimp only); omega, by (try dsimp only); omega, by (try dsimp only); omega, by (try dsimp only); first | exact zCrN jv66_0 (by omega) (Or.inl (by omega)) F113.1 F113.2 (by omega) (by omega) (by omega) (by decide), fun _ => zCrVE jv66_1 (by omega) (Or.inl (by omega))⟩, ⟨by rw [ht]; exact hP, hD⟩⟩, hS.F ht⟩) hS.2.2 dX2_read_140
      · have c75 : m66_L_4.toInt < tl.toInt := z4 rfl rfl c75
        refine lv_iload_n hx hb dX2_read_78 rfl (lv_at hl 1 rfl) ?_
        refine lv_if_eq (tgt := 105) hx hb dX2_read_79 (by decide) (fun c79 => ?_) (fun c79 => ?_)
        · have c79 : m66_L_3.toInt = 0 := z5 rfl (by decide) c79
          refine lv_iload_n hx hb dX2_read_105 rfl (lv_at hl 1 rfl) ?_
          refine lv_if_eq (tgt := 141) hx hb dX2_read_106 (by decide) (fun c106 => ?_) (fun c106 => by exfalso; have c106 : ¬ m66_L_3.toInt = 0 := z6 rfl (by decide) c106; omega)
          have c106 : m66_L_3.toInt = 0 := z5 rfl (by decide) c106
          refine lv_aload_n hx hb dX2_read_141 rfl (lv_at hl 2 rfl) ?_
          refine va_get (D := (dC, dI)) (ci := 2) (v := .ref tp) (C := RX2) (T := TX2) (N := 3) hx hb hts iX2 hown hK hP 0 rfl rfl 0 (by decide) (hts _ qw154) (fun _ h9 => h9) rfl dX2_read_142 ?_
          refine va_get (D := (dC, dI)) (ci := 9) (v := .int m66_F_tp_2) (C := RX9) (T := TX9) (N := 3) hx hb hts iX9 hown hK hP 1 rfl rfl 2 (by decide) (hts _ qw138) (fun _ h9 => h9) rfl dX2_read_145 ?_
          rw [hQ]
          exact W.iret (v := m66_F_tp_2) hx hb hr (fun t ht hW => ⟨⟨m66_F_tp_2, (m66_F_h0_2, m66_F_tp_2, m66_F_aC_3, m66_F_aC_4, m66_A_aR, m66_A_aB, m66_A_aP), rfl, ⟨by (try dsimp only); omega, by (try dsimp only); omega, by (try dsimp only); omega, by (try dsimp only); omega, by (try dsimp only); omega, by (try dsimp only); omega, by (try dsimp only); omega, by (try dsimp only); omega, by (try dsimp only); omega, by (try dsimp only); omega, zCrF jv66_0 (by omega) (by omega), fun z => absurd z (by omega)⟩, ⟨by rw [ht]; exact hP, hD⟩⟩, hS.F ht⟩) hS.2.2 dX2_read_148
        · have c79 : ¬ m66_L_3.toInt = 0 := z6 rfl (by decide) c79
          refine lv_aload_n hx hb dX2_read_82 rfl (lv_at hl 2 rfl) ?_
          refine va_get (D := (dC, dI)) (ci := 2) (v := .ref tp) (C := RX2) (T := TX2) (N := 3) hx hb hts iX2 hown hK hP 0 rfl rfl 0 (by decide) (hts _ qw154) (fun _ h9 => h9) rfl dX2_read_83 ?_
          refine lv_bipush (v := 59) hx hb dX2_read_86 (by decide) ?_
          obtain ⟨hPc, hDc, hFc⟩ := zc3 (wc := [(tp, .inr (9, [.ref tB, .int tl, .int m66_F_tp_2])), (tB, .inl (cI, 260, .inl fB))]) hP hD hS hA [1, 2] (by decide +kernel) rfl
          refine va_calli (va_runV (As := [.int 59]) (rest := []) ⟨hx, hb, hml, hown, hts⟩ (g_X9_takes l dC dI cI cJ tp 59 tB tl m66_F_tp_2 fB H.size (by decide) jf66_3 n_tl (hty)) (cwV 1 hts (zgV qw471 qw472 qw473 qw99 qw474) rfl rfl rfl hd_X9_takes ⟨by rw [hR]; exact Nat.le_of_ble_eq_true rfl, by rw [hR]; exact Nat.le_of_ble_eq_true rfl⟩) (zPV hPc hK hDc (va_recv (q := (RX9, TX9, 3)) hK hP (ci := 9) (q0 := 1) rfl rfl)) rfl rfl hl.1 rfl (lv_room (Nat.le_of_ble_eq_true rfl)) dX2_read_88 ⟨Nat.zero_le _, Nat.zero_le _⟩) hS (fun q _ h => hFc q h) hFc (fun v88 u88 t H locs ht hvm hw hB hz1 hk1 hS9 => ?_)
          obtain ⟨u88_0, rfl⟩ : ∃ z, z = u88 := ⟨_, rfl⟩
          obtain ⟨hP9, hD9⟩ := zj2 (wX := [(h0, .inr (2, [.ref tp, .ref aC, .int m66_F_h0_2])), (tp, .inr (9, [.ref tB, .int tl, .int u88_0])), (tB, .inl (cI, 260, .inl fB)), (aC, .inr (1, [.ref aR, .ref aB, .ref aP, .int m66_F_aC_3, .int m66_F_aC_4])), (aR, .inl (cI, 3, .inl m66_A_aR)), (aB, .inl (cI, 24, .inl m66_A_aB)), (aP, .inl (cI, 20, .inl m66_A_aP))]) hP hD hk1 hFc ht hB [1, 2] [(false, 0), (true, 0), (true, 1), (false, 3), (false, 4), (false, 5), (false, 6)] rfl (by decide +kernel) (by decide +kernel) rfl
          clear hP hD hS hPc hDc hFc hB hk1 hz1 hvm
          have hP := hP9
          have hD := hD9
          have hS := hS9
          clear hP9 hD9 hS9
          obtain ⟨f88_0, f88_1, f88_2, f88_3, f88_4, f88_5⟩ : (0 ≤ v88.toInt) ∧ (v88.toInt ≤ 1) ∧ (0 ≤ u88_0.toInt) ∧ (u88_0.toInt ≤ 240) ∧ (m66_F_tp_2.toInt ≤ u88_0.toInt) ∧ (zTk fB tl m66_F_tp_2 59 v88 u88_0) := hw
          have F88 := f88_5
          refine lv_if_eq (tgt := 105) hx hb dX2_read_91 (by decide) (fun c91 => ?_) (fun c91 => ?_)
          · have c91 : v88.toInt = 0 := z5 rfl (by decide) c91
            refine lv_iload_n hx hb dX2_read_105 rfl (lv_at hl 1 rfl) ?_
            refine lv_if_eq (tgt := 141) hx hb dX2_read_106 (by decide) (fun c106 => by exfalso; have c106 : m66_L_3.toInt = 0 := z5 rfl (by decide) c106; omega) (fun c106 => ?_)
            have c106 : ¬ m66_L_3.toInt = 0 := z6 rfl (by decide) c106
            refine lv_aload_n hx hb dX2_read_109 rfl (lv_at hl 2 rfl) ?_
            refine va_get (D := (dC, dI)) (ci := 2) (v := .ref tp) (C := RX2) (T := TX2) (N := 3) hx hb hts iX2 hown hK hP 0 rfl rfl 0 (by decide) (hts _ qw154) (fun _ h9 => h9) rfl dX2_read_110 ?_
            obtain ⟨hPc, hDc, hFc⟩ := zc3 (wc := [(tp, .inr (9, [.ref tB, .int tl, .int u88_0])), (tB, .inl (cI, 260, .inl fB))]) hP hD hS hA [1, 2] (by decide +kernel) rfl
            refine va_calli (va_runV (As := []) (rest := []) ⟨hx, hb, hml, hown, hts⟩ (g_X9_peek l dC dI cI cJ tp tB tl u88_0 fB H.size ⟨f88_2, f88_3⟩ n_tl (hty)) (cwV 0 hts (zgV qw437 qw438 qw439 qw99 qw440) rfl rfl rfl hd_X9_peek ⟨by rw [hR]; exact Nat.le_of_ble_eq_true rfl, by rw [hR]; exact Nat.le_of_ble_eq_true rfl⟩) (zPV hPc hK hDc (va_recv (q := (RX9, TX9, 3)) hK hP (ci := 9) (q0 := 1) rfl rfl)) rfl rfl hl.1 rfl (lv_room (Nat.le_of_ble_eq_true rfl)) dX2_read_113 ⟨Nat.zero_le _, Nat.zero_le _⟩) hS (fun q _ h => hFc q h) hFc (fun v113 u113 t H locs ht hvm hw hB hz1 hk1 hS9 => ?_)
            obtain ⟨u113_0, rfl⟩ : ∃ z, z = u113 := ⟨_, rfl⟩
            obtain ⟨hP9, hD9⟩ := zj2 (wX := [(h0, .inr (2, [.ref tp, .ref aC, .int m66_F_h0_2])), (tp, .inr (9, [.ref tB, .int tl, .int u113_0])), (tB, .inl (cI, 260, .inl fB)), (aC, .inr (1, [.ref aR, .ref aB, .ref aP, .int m66_F_aC_3, .int m66_F_aC_4])), (aR, .inl (cI, 3, .inl m66_A_aR)), (aB, .inl (cI, 24, .inl m66_A_aB)), (aP, .inl (cI, 20, .inl m66_A_aP))]) hP hD hk1 hFc ht hB [1, 2] [(false, 0), (true, 0), (true, 1), (false, 3), (false, 4), (false, 5), (false, 6)] rfl (by decide +kernel) (by decide +kernel) rfl
            clear hP hD hS hPc hDc hFc hB hk1 hz1 hvm
            have hP := hP9
            have hD := hD9
            have hS := hS9
            clear hP9 hD9 hS9
            obtain ⟨f113_0, f113_1, f113_2, f113_3, f113_4⟩ : (0 ≤ u113_0.toInt) ∧ (u113_0.toInt ≤ 240) ∧ (¬ v113.toInt = 0 → u113_0.toInt < tl.toInt) ∧ (u88_0.toInt ≤ u113_0.toInt) ∧ (zPK fB tl u88_0 v113 u113_0) := hw
            have F113 := f113_4
            refine lv_if_ne (tgt := 141) hx hb dX2_read_116 (by decide) (fun c116 => ?_) (fun c116 => ?_)
            · have c116 : ¬ v113.toInt = 0 := z6 rfl (by decide) c116
              refine lv_aload_n hx hb dX2_read_141 rfl (lv_at hl 2 rfl) ?_
              refine va_get (D := (dC, dI)) (ci := 2) (v := .ref tp) (C := RX2) (T := TX2) (N := 3) hx hb hts iX2 hown hK hP 0 rfl rfl 0 (by decide) (hts _ qw154) (fun _ h9 => h9) rfl dX2_read_142 ?_
              refine va_get (D := (dC, dI)) (ci := 9) (v := .int u113_0) (C := RX9) (T := TX9) (N := 3) hx hb hts iX9 hown hK hP 1 rfl rfl 2 (by decide) (hts _ qw138) (fun _ h9 => h9) rfl dX2_read_145 ?_
              rw [hQ]
              exact W.iret (v := u113_0) hx hb hr (fun t ht hW => ⟨⟨u113_0, (m66_F_h0_2, u113_0, m66_F_aC_3, m66_F_aC_4, m66_A_aR, m66_A_aB, m66_A_aP), rfl, ⟨by (try dsimp only); omega, by (try dsimp only); omega, by (try dsimp only); omega, by (try dsimp only); omega, by (try dsimp only); omega, by (try dsimp only); omega, by (try dsimp only); omega, by (try dsimp only); omega, by (try dsimp only); omega, by (try dsimp only); omega, by (try dsimp only); first | exact zCrW jv66_0 (by omega) (Or.inr (zTk_n F88 (by omega) (by decide))) (zTk_s F88 (by omega) F113.1) F113.2 (by omega) (by omega), fun z => absurd z (by omega)⟩, ⟨by rw [ht]; exact hP, hD⟩⟩, hS.F ht⟩) hS.2.2 dX2_read_148
            · have c116 : v113.toInt = 0 := z5 rfl (by decide) c116
              refine lv_aload_n hx hb dX2_read_119 rfl (lv_at hl 2 rfl) ?_
              refine va_get (D := (dC, dI)) (ci := 2) (v := .ref aC) (C := RX2) (T := TX2) (N := 3) hx hb hts iX2 hown hK hP 0 rfl rfl 1 (by decide) (hts _ qw155) (fun _ h9 => h9) rfl dX2_read_120 ?_
              refine va_get (D := (dC, dI)) (ci := 1) (v := .int m66_F_aC_3) (C := RX1) (T := TX1) (N := 5) hx hb hts iX1 hown hK hP 3 rfl rfl 3 (by decide) (hts _ qw193) (fun _ h9 => h9) rfl dX2_read_123 ?_
              refine lv_if_le (tgt := 141) hx hb dX2_read_126 (by decide) (fun c126 => ?_) (fun c126 => ?_)
              · have c126 : m66_F_aC_3.toInt ≤ 0 := z3 rfl (by decide) c126
                refine lv_aload_n hx hb dX2_read_141 rfl (lv_at hl 2 rfl) ?_
                refine va_get (D := (dC, dI)) (ci := 2) (v := .ref tp) (C := RX2) (T := TX2) (N := 3) hx hb hts iX2 hown hK hP 0 rfl rfl 0 (by decide) (hts _ qw154) (fun _ h9 => h9) rfl dX2_read_142 ?_
                refine va_get (D := (dC, dI)) (ci := 9) (v := .int u113_0) (C := RX9) (T := TX9) (N := 3) hx hb hts iX9 hown hK hP 1 rfl rfl 2 (by decide) (hts _ qw138) (fun _ h9 => h9) rfl dX2_read_145 ?_
                rw [hQ]
                exact W.iret (v := u113_0) hx hb hr (fun t ht hW => ⟨⟨u113_0, (m66_F_h0_2, u113_0, m66_F_aC_3, m66_F_aC_4, m66_A_aR, m66_A_aB, m66_A_aP), rfl, ⟨by (try dsimp only); omega, by (try dsimp only); omega, by (try dsimp only); omega, by (try dsimp only); omega, by (try dsimp only); omega, by (try dsimp only); omega, by (try dsimp only); omega, by (try dsimp only); omega, by (try dsimp only); omega, by (try dsimp only); omega, by (try dsimp only); first | exact zCrW jv66_0 (by omega) (Or.inr (zTk_n F88 (by omega) (by decide))) (zTk_s F88 (by omega) F113.1) F113.2 (by omega) (by omega), fun z => absurd z (by omega)⟩, ⟨by rw [ht]; exact hP, hD⟩⟩, hS.F ht⟩) hS.2.2 dX2_read_148
              · have c126 : 0 < m66_F_aC_3.toInt := z4 rfl (by decide) c126
                refine lv_aload_n hx hb dX2_read_129 rfl (lv_at hl 2 rfl) ?_
                refine va_get (D := (dC, dI)) (ci := 2) (v := .ref aC) (C := RX2) (T := TX2) (N := 3) hx hb hts iX2 hown hK hP 0 rfl rfl 1 (by decide) (hts _ qw155) (fun _ h9 => h9) rfl dX2_read_130 ?_
                refine va_get (D := (dC, dI)) (ci := 1) (v := .int m66_F_aC_4) (C := RX1) (T := TX1) (N := 5) hx hb hts iX1 hown hK hP 3 rfl rfl 4 (by decide) (hts _ qw197) (fun _ h9 => h9) rfl dX2_read_133 ?_
                refine lv_if_le (tgt := 141) hx hb dX2_read_136 (by decide) (fun c136 => ?_) (fun c136 => ?_)
                · have c136 : m66_F_aC_4.toInt ≤ 0 := z3 rfl (by decide) c136
                  refine lv_aload_n hx hb dX2_read_141 rfl (lv_at hl 2 rfl) ?_
                  refine va_get (D := (dC, dI)) (ci := 2) (v := .ref tp) (C := RX2) (T := TX2) (N := 3) hx hb hts iX2 hown hK hP 0 rfl rfl 0 (by decide) (hts _ qw154) (fun _ h9 => h9) rfl dX2_read_142 ?_
                  refine va_get (D := (dC, dI)) (ci := 9) (v := .int u113_0) (C := RX9) (T := TX9) (N := 3) hx hb hts iX9 hown hK hP 1 rfl rfl 2 (by decide) (hts _ qw138) (fun _ h9 => h9) rfl dX2_read_145 ?_
                  rw [hQ]
                  exact W.iret (v := u113_0) hx hb hr (fun t ht hW => ⟨⟨u113_0, (m66_F_h0_2, u113_0, m66_F_aC_3, m66_F_aC_4, m66_A_aR, m66_A_aB, m66_A_aP), rfl, ⟨by (try dsimp only); omega, by (try dsimp only); omega, by (try dsimp only); omega, by (try dsimp only); omega, by (try dsimp only); omega, by (try dsimp only); omega, by (try dsimp only); omega, by (try dsimp only); omega, by (try dsimp only); omega, by (try dsimp only); omega, by (try dsimp only); first | exact zCrW jv66_0 (by omega) (Or.inr (zTk_n F88 (by omega) (by decide))) (zTk_s F88 (by omega) F113.1) F113.2 (by omega) (by omega), fun z => absurd z (by omega)⟩, ⟨by rw [ht]; exact hP, hD⟩⟩, hS.F ht⟩) hS.2.2 dX2_read_148
                · have c136 : 0 < m66_F_aC_4.toInt := z4 rfl (by decide) c136
                  refine lv_iconst (v := (-1)) hx hb dX2_read_139 (by decide) ?_
                  have zr0 : ((-1) : Int32).toInt = (-1) := by decide
                  rw [hQ]
                  exact W.iret (v := ((-1))) hx hb hr (fun t ht hW => ⟨⟨(-1), (m66_F_h0_2, u113_0, m66_F_aC_3, m66_F_aC_4, m66_A_aR, m66_A_aB, m66_A_aP), rfl, ⟨by (try dsimp only); omega, by (try dsimp only); omega, by (try dsimp only); omega, by (try dsimp only); omega, by (try dsimp only); omega, by (try dsimp only); omega, by (try dsimp only); omega, by (try dsimp only); omega, by (try dsimp only); omega, by (try dsimp only); omega, by (try dsimp only); first | exact zCrN jv66_0 (by omega) (Or.inr (zTk_n F88 (by omega) (by decide))) (zTk_s F88 (by omega) F113.1) F113.2 (by omega) (by omega) (by omega) (by decide), fun _ => zCrVE jv66_1 (by omega) (Or.inr (zTk_n F88 (by omega) (by decide)))⟩, ⟨by rw [ht]; exact hP, hD⟩⟩, hS.F ht⟩) hS.2.2 dX2_read_140
          · have c91 : ¬ v88.toInt = 0 := z6 rfl (by decide) c91
            refine lv_aload_n hx hb dX2_read_94 rfl (lv_at hl 2 rfl) ?_
            obtain ⟨hPc, hDc, hFc⟩ := zc3 (wc := [(h0, .inr (2, [.ref tp, .ref aC, .int m66_F_h0_2])), (tp, .inr (9, [.ref tB, .int tl, .int u88_0])), (tB, .inl (cI, 260, .inl fB)), (aC, .inr (1, [.ref aR, .ref aB, .ref aP, .int m66_F_aC_3, .int m66_F_aC_4])), (aR, .inl (cI, 3, .inl m66_A_aR)), (aB, .inl (cI, 24, .inl m66_A_aB)), (aP, .inl (cI, 20, .inl m66_A_aP))]) hP hD hS hA [0, 1, 2, 3, 4, 5, 6] (by decide +kernel) rfl
            refine va_calli (va_runV (As := []) (rest := []) ⟨hx, hb, hml, hown, hts⟩ (g_X2_clause l dC dI cI cJ h0 tp aC m66_F_h0_2 tB tl u88_0 fB aR aB aP m66_F_aC_3 m66_F_aC_4 m66_A_aR m66_A_aB m66_A_aP H.size jf66_2 jf66_0 jf66_1 ⟨f88_2, f88_3⟩ n_tl (hty)) (cwV 0 hts (zgV qw433 qw435 qw0 qw100 qw436) rfl rfl rfl hd_X2_clause ⟨by rw [hR]; exact Nat.le_of_ble_eq_true rfl, by rw [hR]; exact Nat.le_of_ble_eq_true rfl⟩) (zPWV hPc hK hDc (va_recv (q := (RX2, TX2, 3)) hK hP (ci := 2) (q0 := 0) rfl rfl) (zV_call hV hS hFc)) rfl rfl hl.1 rfl (lv_room (Nat.le_of_ble_eq_true rfl)) dX2_read_95 ⟨Nat.zero_le _, Nat.zero_le _⟩) hS (fun q _ h => hFc q h) hFc (fun v95 u95 t H locs ht hvm hw hB hz1 hk1 hS9 => ?_)
            obtain ⟨u95_0, u95_1, u95_2, u95_3, u95_4, u95_5, u95_6⟩ := u95
            obtain ⟨hP9, hD9⟩ := zj2 (wX := [(h0, .inr (2, [.ref tp, .ref aC, .int u95_0])), (tp, .inr (9, [.ref tB, .int tl, .int u95_1])), (tB, .inl (cI, 260, .inl fB)), (aC, .inr (1, [.ref aR, .ref aB, .ref aP, .int u95_2, .int u95_3])), (aR, .inl (cI, 3, .inl u95_4)), (aB, .inl (cI, 24, .inl u95_5)), (aP, .inl (cI, 20, .inl u95_6))]) hP hD hk1 hFc ht hB [0, 1, 2, 3, 4, 5, 6] [(true, 0), (true, 1), (true, 2), (true, 3), (true, 4), (true, 5), (true, 6)] rfl (by decide +kernel) (by decide +kernel) rfl
            clear hP hD hS hPc hDc hFc hB hk1 hz1 hvm
            have hP := hP9
            have hD := hD9
            have hS := hS9
            clear hP9 hD9 hS9
            obtain ⟨f95_0, f95_1, f95_2, f95_3, f95_4, f95_5, f95_6, f95_7, f95_8, f95_9, f95_10, f95_11, f95_12⟩ : (0 ≤ v95.toInt) ∧ (v95.toInt ≤ 1) ∧ (0 ≤ u95_0.toInt) ∧ (u95_0.toInt ≤ 1) ∧ (0 ≤ u95_1.toInt) ∧ (u95_1.toInt ≤ 240) ∧ (0 ≤ u95_2.toInt) ∧ (u95_2.toInt ≤ 6) ∧ (0 ≤ u95_3.toInt) ∧ (u95_3.toInt ≤ 5) ∧ (¬ v95.toInt = 0 → u88_0.toInt < u95_1.toInt) ∧ (zCc fB tl u88_0 m66_F_h0_2 m66_F_aC_3 m66_F_aC_4 v95 u95_1 u95_0 u95_2 u95_3) ∧ (zCw fB tl u88_0 m66_F_h0_2 m66_F_aC_3 m66_F_aC_4 m66_A_aR m66_A_aB m66_A_aP v95 u95_0 u95_2 u95_3 u95_4 u95_5 u95_6) := hw
            have F95 := f95_11
            have F95_1 := f95_12
            refine lv_istore_n (lv' := [(3, .int v95), (4, .int m66_L_4), (0, .ref h0), (1, .ref tp), (2, .ref aC)]) hx hb dX2_read_98 rfl hl (by decide) rfl (fun ls hl => ?_)
            obtain ⟨v99, e99⟩ : ∃ y : Int32, y = m66_L_4 + Int32.ofInt (1) := ⟨_, rfl⟩
            refine lv_iinc (v := v99) (lv' := [(4, .int v99), (3, .int v95), (0, .ref h0), (1, .ref tp), (2, .ref aC)]) hx hb dX2_read_99 hl (k := 1) rfl e99.symm (by decide) rfl (fun ls hl => ?_)
            have i99 : v99.toInt = m66_L_4.toInt + 1 := zaddI e99 (by decide) (by omega) (by omega)
            refine lv_goto (tgt := 66) hx hb dX2_read_102 (by decide) ?_
            exact ih66 _ (by omega) u95_5 u95_6 u95_4 u95_2 u95_3 u95_0 u95_1 v95 v99 ⟨f95_6, f95_7⟩ ⟨f95_8, f95_9⟩ ⟨f95_2, f95_3⟩ ⟨f95_4, f95_5⟩ ⟨f95_0, f95_1⟩ (by omega) (by omega) (zCrS jv66_0 (by omega) F88 (by omega) F95) (zCrVS jv66_1 (by omega) F88 (by omega) F95 F95_1) rfl H locs ls hP hD hS (lv_sub hl [0, 1, 2, 3, 4] rfl)
  refine lv_istore (lv' := [(4, .int 0), (3, .int v59), (0, .ref h0), (1, .ref tp), (2, .ref aC)]) hx hb dX2_read_64 hl (by decide) rfl (fun ls hl => ?_)
  have zj66_m66_L_4 : (0 : Int32).toInt = 0 := by decide
  exact J66 _ u59_5 u59_6 u59_4 u59_2 u59_3 u59_0 u59_1 v59 0 ⟨f59_6, f59_7⟩ ⟨f59_8, f59_9⟩ ⟨f59_2, f59_3⟩ ⟨f59_4, f59_5⟩ ⟨f59_0, f59_1⟩ (by decide) (by omega) (zCr0 F59) (zCrV0 hr39 e55 F59 F59_1) rfl H locs ls hP hD hS (lv_sub hl [0, 1, 2, 3, 4] rfl)
set_option maxHeartbeats 4000000 in
set_option maxRecDepth 100000 in
theorem g_X1_become (l : Launch) (dC : Nat → ClassId) (dI : Nat → Nat → Nat) (cI cJ : ClassId) (h0 : Nat) (xC : Nat) (aR : Nat) (aB : Nat) (aP : Nat) (nb : Int32) (np : Int32) (fr : Nat → Int32) (fb : Nat → Int32) (fp : Nat → Int32) (xR : Nat) (xB : Nat) (xP : Nat) (dnb : Int32) (dnp : Int32) (dfr : Nat → Int32) (dfb : Nat → Int32) (dfp : Nat → Int32) (sz : Nat) (n_dnb : 0 ≤ dnb.toInt ∧ dnb.toInt ≤ 6) (n_dnp : 0 ≤ dnp.toInt ∧ dnp.toInt ≤ 5) (n_nb : 0 ≤ nb.toInt ∧ nb.toInt ≤ 6) (n_np : 0 ≤ np.toInt ∧ np.toInt ≤ 5)    : Met l yX1_become (.code yX1_become cX1_become 2 none :: wA) ({ frames := 1, cells := 0, slots := 0, locals := 60 }) (zP (dC, dI) [(cI, .int), (cJ, .long)] [.ref h0, .ref xC] sz [(h0, .inr (1, [.ref aR, .ref aB, .ref aP, .int nb, .int np])), (aR, .inl (cI, 3, .inl fr)), (aB, .inl (cI, 24, .inl fb)), (aP, .inl (cI, 20, .inl fp)), (xC, .inr (1, [.ref xR, .ref xB, .ref xP, .int dnb, .int dnp])), (xR, .inl (cI, 3, .inl dfr)), (xB, .inl (cI, 24, .inl dfb)), (xP, .inl (cI, 20, .inl dfp))]) (va_Qv (fun (u : (Nat → Int32) × (Nat → Int32) × (Nat → Int32)) => ((∀ j : Nat, j < 3 → u.1 j = dfr j) ∧ (∀ j : Nat, j < 24 → u.2.1 j = dfb j) ∧ ∀ j : Nat, j < 20 → u.2.2 j = dfp j)) (fun (u : (Nat → Int32) × (Nat → Int32) × (Nat → Int32)) (t : State) => va_P (dC, dI) vwCl [(h0, .inr (1, [.ref aR, .ref aB, .ref aP, .int dnb, .int dnp])), (aR, .inl (cI, 3, .inl u.1)), (aB, .inl (cI, 24, .inl u.2.1)), (aP, .inl (cI, 20, .inl u.2.2)), (xC, .inr (1, [.ref xR, .ref xB, .ref xP, .int dnb, .int dnp])), (xR, .inl (cI, 3, .inl dfr)), (xB, .inl (cI, 24, .inl dfb)), (xP, .inl (cI, 20, .inl dfp))] t.heap ∧ va_D (va_A [(h0, .inr (1, [.ref aR, .ref aB, .ref aP, .int nb, .int np])), (aR, .inl (cI, 3, .inl fr)), (aB, .inl (cI, 24, .inl fb)), (aP, .inl (cI, 20, .inl fp)), (xC, .inr (1, [.ref xR, .ref xB, .ref xP, .int dnb, .int dnp])), (xR, .inl (cI, 3, .inl dfr)), (xB, .inl (cI, 24, .inl dfb)), (xP, .inl (cI, 20, .inl dfp))] sz) [(h0, .inr (1, [.ref aR, .ref aB, .ref aP, .int dnb, .int dnp])), (aR, .inl (cI, 3, .inl u.1)), (aB, .inl (cI, 24, .inl u.2.1)), (aP, .inl (cI, 20, .inl u.2.2)), (xC, .inr (1, [.ref xR, .ref xB, .ref xP, .int dnb, .int dnp])), (xR, .inl (cI, 3, .inl dfr)), (xB, .inl (cI, 24, .inl dfb)), (xP, .inl (cI, 20, .inl dfp))]) (va_A [(h0, .inr (1, [.ref aR, .ref aB, .ref aP, .int nb, .int np])), (aR, .inl (cI, 3, .inl fr)), (aB, .inl (cI, 24, .inl fb)), (aP, .inl (cI, 20, .inl fp)), (xC, .inr (1, [.ref xR, .ref xB, .ref xP, .int dnb, .int dnp])), (xR, .inl (cI, 3, .inl dfr)), (xB, .inl (cI, 24, .inl dfb)), (xP, .inl (cI, 20, .inl dfp))] sz)) 0 0 (va_A [(h0, .inr (1, [.ref aR, .ref aB, .ref aP, .int nb, .int np])), (aR, .inl (cI, 3, .inl fr)), (aB, .inl (cI, 24, .inl fb)), (aP, .inl (cI, 20, .inl fp)), (xC, .inr (1, [.ref xR, .ref xB, .ref xP, .int dnb, .int dnp])), (xR, .inl (cI, 3, .inl dfr)), (xB, .inl (cI, 24, .inl dfb)), (xP, .inl (cI, 20, .inl dfp))] sz) := by
  refine Met.ofW (cc := cX1_become) (maxL := 2) (ret := none) (by decide) rfl ?_
  intro p e s m args below meth c s₁ B hml hv
  have y_nb : zHid (0 ≤ nb.toInt ∧ nb.toInt ≤ 6) := n_nb
  have y_np : zHid (0 ≤ np.toInt ∧ np.toInt ≤ 5) := n_np
  clear n_nb n_np
  obtain ⟨hargs, hsz, hP, hK, hT⟩ := hv
  have hx := B.exec
  have hb := B.bytes
  have hr := B.returns
  have hts : ∀ w ∈ wA, w.before args s = true := fun w h => atoms_spec (ws := .code yX1_become cX1_become 2 none :: wA) B.pre w (List.mem_cons_of_mem _ h)
  have hown : s.vm.findClass RX1 = some m.cls := findClass_of_methodNamed B.named
  have hlocks := B.notSynchronized
  subst hsz
  have hD := hT.self (sz := s.heap.size)
  generalize hAe : va_A [(h0, .inr (1, [.ref aR, .ref aB, .ref aP, .int nb, .int np])), (aR, .inl (cI, 3, .inl fr)), (aB, .inl (cI, 24, .inl fb)), (aP, .inl (cI, 20, .inl fp)), (xC, .inr (1, [.ref xR, .ref xB, .ref xP, .int dnb, .int dnp])), (xR, .inl (cI, 3, .inl dfr)), (xB, .inl (cI, 24, .inl dfb)), (xP, .inl (cI, 20, .inl dfp))] s.heap.size = A at hD ⊢
  have hA : ∀ q : Nat, s.heap.size ≤ q → A q := fun q h => by rw [← hAe]; exact Or.inr h
  have hl := lv_entry ([.ref h0, .ref xC]) (n := 2) (Nat.le_of_ble_eq_true rfl)
  rw [show entryFrame m args 2 = entryFrame m ([.ref h0, .ref xC] : List Value).toArray 2 by rw [hargs], lg_entry_eq]
  generalize (lg_sl ([.ref h0, .ref xC]) ++ List.replicate (2 - (lg_sl ([.ref h0, .ref xC])).length) Slot.unset).toArray = ls at hl ⊢
  have hl : lv_has ls 2 [(0, .ref h0), (1, .ref xC)] := hl
  refine zstart (fun H hH => ?_)
  rw [← hH] at hP
  have hS : va_S A s.heap H [] := by rw [hH]; exact va_S.rf
  generalize ([] : List Loc) = locs at hS ⊢
  refine zgen (fun R Q hR hQ => ?_)
  refine lv_aload_n hx hb dX1_become_0 rfl (lv_at hl 0 rfl) ?_
  refine lv_aload_n hx hb dX1_become_1 rfl (lv_at hl 1 rfl) ?_
  refine va_get (D := (dC, dI)) (ci := 1) (v := .int dnb) (C := RX1) (T := TX1) (N := 5) hx hb hts iX1 hown hK hP 4 rfl rfl 3 (by decide) (hts _ qw192) (fun _ h9 => h9) rfl dX1_become_2 ?_
  refine va_put (D := (dC, dI)) (ci := 1) (v := .int dnb) (ty := .int) (C := RX1) (T := TX1) (N := 5) hx hb hts iX1 tyX1 tyX1_ok nmX1 hown hK hP hD hS 0 rfl rfl 3 (by decide) (hts _ qw192) (fun _ h9 => h9) rfl (by decide +kernel) rfl rfl (Nat.le_of_ble_eq_true rfl) dX1_become_5 (fun H locs hP9 hD9 hS9 => ?_)
  clear hP hD hS
  obtain ⟨hP, hD⟩ := zst (wX := [(h0, .inr (1, [.ref aR, .ref aB, .ref aP, .int dnb, .int np])), (aR, .inl (cI, 3, .inl fr)), (aB, .inl (cI, 24, .inl fb)), (aP, .inl (cI, 20, .inl fp)), (xC, .inr (1, [.ref xR, .ref xB, .ref xP, .int dnb, .int dnp])), (xR, .inl (cI, 3, .inl dfr)), (xB, .inl (cI, 24, .inl dfb)), (xP, .inl (cI, 20, .inl dfp))]) hP9 hD9 rfl
  have hS := hS9
  clear hP9 hD9 hS9
  refine lv_aload_n hx hb dX1_become_8 rfl (lv_at hl 0 rfl) ?_
  refine lv_aload_n hx hb dX1_become_9 rfl (lv_at hl 1 rfl) ?_
  refine va_get (D := (dC, dI)) (ci := 1) (v := .int dnp) (C := RX1) (T := TX1) (N := 5) hx hb hts iX1 hown hK hP 4 rfl rfl 4 (by decide) (hts _ qw196) (fun _ h9 => h9) rfl dX1_become_10 ?_
  refine va_put (D := (dC, dI)) (ci := 1) (v := .int dnp) (ty := .int) (C := RX1) (T := TX1) (N := 5) hx hb hts iX1 tyX1 tyX1_ok nmX1 hown hK hP hD hS 0 rfl rfl 4 (by decide) (hts _ qw196) (fun _ h9 => h9) rfl (by decide +kernel) rfl rfl (Nat.le_of_ble_eq_true rfl) dX1_become_13 (fun H locs hP9 hD9 hS9 => ?_)
  clear hP hD hS
  obtain ⟨hP, hD⟩ := zst (wX := [(h0, .inr (1, [.ref aR, .ref aB, .ref aP, .int dnb, .int dnp])), (aR, .inl (cI, 3, .inl fr)), (aB, .inl (cI, 24, .inl fb)), (aP, .inl (cI, 20, .inl fp)), (xC, .inr (1, [.ref xR, .ref xB, .ref xP, .int dnb, .int dnp])), (xR, .inl (cI, 3, .inl dfr)), (xB, .inl (cI, 24, .inl dfb)), (xP, .inl (cI, 20, .inl dfp))]) hP9 hD9 rfl
  have hS := hS9
  clear hP9 hD9 hS9
  refine lv_aload_n hx hb dX1_become_16 rfl (lv_at hl 1 rfl) ?_
  refine va_get (D := (dC, dI)) (ci := 1) (v := .ref xR) (C := RX1) (T := TX1) (N := 5) hx hb hts iX1 hown hK hP 4 rfl rfl 0 (by decide) (hts _ qw186) (fun _ h9 => h9) rfl dX1_become_17 ?_
  refine lv_iconst (v := 0) hx hb dX1_become_20 (by decide) ?_
  refine lv_aload_n hx hb dX1_become_21 rfl (lv_at hl 0 rfl) ?_
  refine va_get (D := (dC, dI)) (ci := 1) (v := .ref aR) (C := RX1) (T := TX1) (N := 5) hx hb hts iX1 hown hK hP 0 rfl rfl 0 (by decide) (hts _ qw186) (fun _ h9 => h9) rfl dX1_become_22 ?_
  refine lv_iconst (v := 0) hx hb dX1_become_25 (by decide) ?_
  refine lv_aload_n hx hb dX1_become_26 rfl (lv_at hl 0 rfl) ?_
  refine va_get (D := (dC, dI)) (ci := 1) (v := .ref aR) (C := RX1) (T := TX1) (N := 5) hx hb hts iX1 hown hK hP 0 rfl rfl 0 (by decide) (hts _ qw186) (fun _ h9 => h9) rfl dX1_become_27 ?_
  refine va_alen (v := 3) hx hb hK hP 1 0 rfl rfl rfl dX1_become_30 ?_
  refine va_copyi hx hb (by rw [hml]; exact hl.1.symm) hown (hts _ qw527) (hts _ qw432) (hts _ qw431) (hts _ qw109) hK hP hD hS 5 1 0 0 rfl rfl rfl rfl rfl (by decide) (by decide) (by decide) (zcpb (a := 0) (b := 3) (by decide) (by decide) (by omega)) (zcpb (a := 0) (b := 3) (by decide) (by decide) (by omega)) (fun i hi => rfl) (by rw [hR]; exact Nat.le_of_ble_eq_true rfl) (by rw [hR]; decide) dX1_become_31 (fun H locs hP9 hD9 hS9 => ?_)
  clear hP hD hS
  obtain ⟨v31_f, e31⟩ : ∃ g : Nat → Int32, g = va_cpy dfr fr (0 : Int32).toNatClampNeg (0 : Int32).toNatClampNeg (3 : Int32).toNatClampNeg := ⟨_, rfl⟩
  rw [← e31] at hP9 hD9
  obtain ⟨hP, hD⟩ := zst (wX := [(h0, .inr (1, [.ref aR, .ref aB, .ref aP, .int dnb, .int dnp])), (aR, .inl (cI, 3, .inl v31_f)), (aB, .inl (cI, 24, .inl fb)), (aP, .inl (cI, 20, .inl fp)), (xC, .inr (1, [.ref xR, .ref xB, .ref xP, .int dnb, .int dnp])), (xR, .inl (cI, 3, .inl dfr)), (xB, .inl (cI, 24, .inl dfb)), (xP, .inl (cI, 20, .inl dfp))]) hP9 hD9 rfl
  have hS := hS9
  clear hP9 hD9 hS9
  refine lv_aload_n hx hb dX1_become_34 rfl (lv_at hl 1 rfl) ?_
  refine va_get (D := (dC, dI)) (ci := 1) (v := .ref xB) (C := RX1) (T := TX1) (N := 5) hx hb hts iX1 hown hK hP 4 rfl rfl 1 (by decide) (hts _ qw188) (fun _ h9 => h9) rfl dX1_become_35 ?_
  refine lv_iconst (v := 0) hx hb dX1_become_38 (by decide) ?_
  refine lv_aload_n hx hb dX1_become_39 rfl (lv_at hl 0 rfl) ?_
  refine va_get (D := (dC, dI)) (ci := 1) (v := .ref aB) (C := RX1) (T := TX1) (N := 5) hx hb hts iX1 hown hK hP 0 rfl rfl 1 (by decide) (hts _ qw188) (fun _ h9 => h9) rfl dX1_become_40 ?_
  refine lv_iconst (v := 0) hx hb dX1_become_43 (by decide) ?_
  refine lv_aload_n hx hb dX1_become_44 rfl (lv_at hl 0 rfl) ?_
  refine va_get (D := (dC, dI)) (ci := 1) (v := .ref aB) (C := RX1) (T := TX1) (N := 5) hx hb hts iX1 hown hK hP 0 rfl rfl 1 (by decide) (hts _ qw188) (fun _ h9 => h9) rfl dX1_become_45 ?_
  refine va_alen (v := 24) hx hb hK hP 2 0 rfl rfl rfl dX1_become_48 ?_
  refine va_copyi hx hb (by rw [hml]; exact hl.1.symm) hown (hts _ qw527) (hts _ qw432) (hts _ qw431) (hts _ qw109) hK hP hD hS 6 2 0 0 rfl rfl rfl rfl rfl (by decide) (by decide) (by decide) (zcpb (a := 0) (b := 24) (by decide) (by decide) (by omega)) (zcpb (a := 0) (b := 24) (by decide) (by decide) (by omega)) (fun i hi => rfl) (by rw [hR]; exact Nat.le_of_ble_eq_true rfl) (by rw [hR]; decide) dX1_become_49 (fun H locs hP9 hD9 hS9 => ?_)
  clear hP hD hS
  obtain ⟨v49_f, e49⟩ : ∃ g : Nat → Int32, g = va_cpy dfb fb (0 : Int32).toNatClampNeg (0 : Int32).toNatClampNeg (24 : Int32).toNatClampNeg := ⟨_, rfl⟩
  rw [← e49] at hP9 hD9
  obtain ⟨hP, hD⟩ := zst (wX := [(h0, .inr (1, [.ref aR, .ref aB, .ref aP, .int dnb, .int dnp])), (aR, .inl (cI, 3, .inl v31_f)), (aB, .inl (cI, 24, .inl v49_f)), (aP, .inl (cI, 20, .inl fp)), (xC, .inr (1, [.ref xR, .ref xB, .ref xP, .int dnb, .int dnp])), (xR, .inl (cI, 3, .inl dfr)), (xB, .inl (cI, 24, .inl dfb)), (xP, .inl (cI, 20, .inl dfp))]) hP9 hD9 rfl
  have hS := hS9
  clear hP9 hD9 hS9
  refine lv_aload_n hx hb dX1_become_52 rfl (lv_at hl 1 rfl) ?_
  refine va_get (D := (dC, dI)) (ci := 1) (v := .ref xP) (C := RX1) (T := TX1) (N := 5) hx hb hts iX1 hown hK hP 4 rfl rfl 2 (by decide) (hts _ qw190) (fun _ h9 => h9) rfl dX1_become_53 ?_
  refine lv_iconst (v := 0) hx hb dX1_become_56 (by decide) ?_
  refine lv_aload_n hx hb dX1_become_57 rfl (lv_at hl 0 rfl) ?_
  refine va_get (D := (dC, dI)) (ci := 1) (v := .ref aP) (C := RX1) (T := TX1) (N := 5) hx hb hts iX1 hown hK hP 0 rfl rfl 2 (by decide) (hts _ qw190) (fun _ h9 => h9) rfl dX1_become_58 ?_
  refine lv_iconst (v := 0) hx hb dX1_become_61 (by decide) ?_
  refine lv_aload_n hx hb dX1_become_62 rfl (lv_at hl 0 rfl) ?_
  refine va_get (D := (dC, dI)) (ci := 1) (v := .ref aP) (C := RX1) (T := TX1) (N := 5) hx hb hts iX1 hown hK hP 0 rfl rfl 2 (by decide) (hts _ qw190) (fun _ h9 => h9) rfl dX1_become_63 ?_
  refine va_alen (v := 20) hx hb hK hP 3 0 rfl rfl rfl dX1_become_66 ?_
  refine va_copyi hx hb (by rw [hml]; exact hl.1.symm) hown (hts _ qw527) (hts _ qw432) (hts _ qw431) (hts _ qw109) hK hP hD hS 7 3 0 0 rfl rfl rfl rfl rfl (by decide) (by decide) (by decide) (zcpb (a := 0) (b := 20) (by decide) (by decide) (by omega)) (zcpb (a := 0) (b := 20) (by decide) (by decide) (by omega)) (fun i hi => rfl) (by rw [hR]; exact Nat.le_of_ble_eq_true rfl) (by rw [hR]; decide) dX1_become_67 (fun H locs hP9 hD9 hS9 => ?_)
  clear hP hD hS
  obtain ⟨v67_f, e67⟩ : ∃ g : Nat → Int32, g = va_cpy dfp fp (0 : Int32).toNatClampNeg (0 : Int32).toNatClampNeg (20 : Int32).toNatClampNeg := ⟨_, rfl⟩
  rw [← e67] at hP9 hD9
  obtain ⟨hP, hD⟩ := zst (wX := [(h0, .inr (1, [.ref aR, .ref aB, .ref aP, .int dnb, .int dnp])), (aR, .inl (cI, 3, .inl v31_f)), (aB, .inl (cI, 24, .inl v49_f)), (aP, .inl (cI, 20, .inl v67_f)), (xC, .inr (1, [.ref xR, .ref xB, .ref xP, .int dnb, .int dnp])), (xR, .inl (cI, 3, .inl dfr)), (xB, .inl (cI, 24, .inl dfb)), (xP, .inl (cI, 20, .inl dfp))]) hP9 hD9 rfl
  have hS := hS9
  clear hP9 hD9 hS9
  rw [hQ]
  exact W.vret hx hb hr (fun t ht hW => ⟨⟨(v31_f, v49_f, v67_f), rfl, (⟨zcpE (N := 3) e31, zcpE (N := 24) e49, zcpE (N := 20) e67⟩), ⟨by rw [ht]; exact hP, hD⟩⟩, hS.F ht⟩) hS.2.2 dX1_become_70
set_option maxHeartbeats 4000000 in
set_option maxRecDepth 100000 in
theorem g_X10_fault (l : Launch) (dC : Nat → ClassId) (dI : Nat → Nat → Nat) (cI cJ : ClassId) (h0 : Nat) (p0 : Int32) (tp : Nat) (cr : Nat) (lr : Nat) (xC : Nat) (aC : Nat) (h0_laws : Value) (g0 : Nat) (k0 : Nat) (ac : Nat) (sd : Nat) (mi : Nat) (dw : Nat) (rf : Nat) (lc : Int32) (lh : Int32) (br : Int32) (hi : Int32) (cr_tape : Value) (cr_court : Value) (hsr : Int32) (lS : Nat) (sz5 : Int32) (lr_tape : Value) (fS : Nat → Int32) (xR : Nat) (xB : Nat) (xP : Nat) (dnb : Int32) (dnp : Int32) (dfr : Nat → Int32) (dfb : Nat → Int32) (dfp : Nat → Int32) (tB : Nat) (tl : Int32) (ta : Int32) (fB : Nat → Int32) (sz : Nat) (n_dnb : 0 ≤ dnb.toInt ∧ dnb.toInt ≤ 6) (n_dnp : 0 ≤ dnp.toInt ∧ dnp.toInt ≤ 5) (n_hi : 0 ≤ hi.toInt ∧ hi.toInt ≤ 1) (n_hsr : 0 ≤ hsr.toInt ∧ hsr.toInt ≤ 1) (n_lc : 0 ≤ lc.toInt ∧ lc.toInt ≤ 4) (n_sz5 : 0 ≤ sz5.toInt ∧ sz5.toInt ≤ 241) (n_ta : 0 ≤ ta.toInt ∧ ta.toInt ≤ 240) (n_tl : 0 ≤ tl.toInt ∧ tl.toInt ≤ 240) (hty : zTy tl fB) (ci_fS_zSt : zSt fS)  : Met l yX10_fault (.code yX10_fault cX10_fault 2 (some .int) :: wA) ({ frames := 39, cells := 0, slots := 0, locals := 751 }) (zPW (dC, dI) [(cI, .int), (cJ, .long)] [.ref h0, .int p0] sz [(h0, .inr (10, [.ref tp, .ref cr, .ref lr, .ref xC, .ref aC, h0_laws, .ref g0, .ref k0, .ref ac, .ref sd, .ref mi, .ref dw, .ref rf, .int lc, .int lh, .int br, .int hi])), (cr, .inr (2, [cr_tape, cr_court, .int hsr])), (lr, .inr (5, [.ref lS, .int sz5, lr_tape])), (lS, .inl (cI, 241, .inl fS)), (xC, .inr (1, [.ref xR, .ref xB, .ref xP, .int dnb, .int dnp])), (xR, .inl (cI, 3, .inl dfr)), (xB, .inl (cI, 24, .inl dfb)), (xP, .inl (cI, 20, .inl dfp)), (tp, .inr (9, [.ref tB, .int tl, .int ta])), (tB, .inl (cI, 260, .inl fB))] (va_A [(h0, .inr (10, [.ref tp, .ref cr, .ref lr, .ref xC, .ref aC, h0_laws, .ref g0, .ref k0, .ref ac, .ref sd, .ref mi, .ref dw, .ref rf, .int lc, .int lh, .int br, .int hi])), (cr, .inr (2, [cr_tape, cr_court, .int hsr])), (lr, .inr (5, [.ref lS, .int sz5, lr_tape])), (lS, .inl (cI, 241, .inl fS)), (xC, .inr (1, [.ref xR, .ref xB, .ref xP, .int dnb, .int dnp])), (xR, .inl (cI, 3, .inl dfr)), (xB, .inl (cI, 24, .inl dfb)), (xP, .inl (cI, 20, .inl dfp)), (tp, .inr (9, [.ref tB, .int tl, .int ta])), (tB, .inl (cI, 260, .inl fB))] sz)) (va_Qi (fun (r : Int32) (u : Value × Value × Int32 × Int32 × Value × (Nat → Int32) × Int32 × Int32 × (Nat → Int32) × (Nat → Int32) × (Nat → Int32) × Int32) => ((-2) ≤ r.toInt) ∧ (r.toInt ≤ 240) ∧ (0 ≤ u.2.2.1.toInt) ∧ (u.2.2.1.toInt ≤ 1) ∧ (0 ≤ u.2.2.2.1.toInt) ∧ (u.2.2.2.1.toInt ≤ 241) ∧ (0 ≤ u.2.2.2.2.2.2.1.toInt) ∧ (u.2.2.2.2.2.2.1.toInt ≤ 6) ∧ (0 ≤ u.2.2.2.2.2.2.2.1.toInt) ∧ (u.2.2.2.2.2.2.2.1.toInt ≤ 5) ∧ (0 ≤ u.2.2.2.2.2.2.2.2.2.2.2.toInt) ∧ (u.2.2.2.2.2.2.2.2.2.2.2.toInt ≤ 240) ∧ ((p0.toInt = 0 ∧ r.toInt = (sCrt (sB fB tl.toInt) tl.toInt).1) ∨ (p0.toInt = 1 ∧ r.toInt = sLaw (sB fB tl.toInt) tl.toInt) ∨ (¬ p0.toInt = 0 ∧ ¬ p0.toInt = 1 ∧ r.toInt = -2)) ∧ (zSt u.2.2.2.2.2.1)) (fun (u : Value × Value × Int32 × Int32 × Value × (Nat → Int32) × Int32 × Int32 × (Nat → Int32) × (Nat → Int32) × (Nat → Int32) × Int32) (t : State) => va_P (dC, dI) vwCl [(h0, .inr (10, [.ref tp, .ref cr, .ref lr, .ref xC, .ref aC, h0_laws, .ref g0, .ref k0, .ref ac, .ref sd, .ref mi, .ref dw, .ref rf, .int lc, .int lh, .int br, .int hi])), (cr, .inr (2, [u.1, u.2.1, .int u.2.2.1])), (lr, .inr (5, [.ref lS, .int u.2.2.2.1, u.2.2.2.2.1])), (lS, .inl (cI, 241, .inl u.2.2.2.2.2.1)), (xC, .inr (1, [.ref xR, .ref xB, .ref xP, .int u.2.2.2.2.2.2.1, .int u.2.2.2.2.2.2.2.1])), (xR, .inl (cI, 3, .inl u.2.2.2.2.2.2.2.2.1)), (xB, .inl (cI, 24, .inl u.2.2.2.2.2.2.2.2.2.1)), (xP, .inl (cI, 20, .inl u.2.2.2.2.2.2.2.2.2.2.1)), (tp, .inr (9, [.ref tB, .int tl, .int u.2.2.2.2.2.2.2.2.2.2.2])), (tB, .inl (cI, 260, .inl fB))] t.heap ∧ va_D (va_A [(h0, .inr (10, [.ref tp, .ref cr, .ref lr, .ref xC, .ref aC, h0_laws, .ref g0, .ref k0, .ref ac, .ref sd, .ref mi, .ref dw, .ref rf, .int lc, .int lh, .int br, .int hi])), (cr, .inr (2, [cr_tape, cr_court, .int hsr])), (lr, .inr (5, [.ref lS, .int sz5, lr_tape])), (lS, .inl (cI, 241, .inl fS)), (xC, .inr (1, [.ref xR, .ref xB, .ref xP, .int dnb, .int dnp])), (xR, .inl (cI, 3, .inl dfr)), (xB, .inl (cI, 24, .inl dfb)), (xP, .inl (cI, 20, .inl dfp)), (tp, .inr (9, [.ref tB, .int tl, .int ta])), (tB, .inl (cI, 260, .inl fB))] sz) [(h0, .inr (10, [.ref tp, .ref cr, .ref lr, .ref xC, .ref aC, h0_laws, .ref g0, .ref k0, .ref ac, .ref sd, .ref mi, .ref dw, .ref rf, .int lc, .int lh, .int br, .int hi])), (cr, .inr (2, [u.1, u.2.1, .int u.2.2.1])), (lr, .inr (5, [.ref lS, .int u.2.2.2.1, u.2.2.2.2.1])), (lS, .inl (cI, 241, .inl u.2.2.2.2.2.1)), (xC, .inr (1, [.ref xR, .ref xB, .ref xP, .int u.2.2.2.2.2.2.1, .int u.2.2.2.2.2.2.2.1])), (xR, .inl (cI, 3, .inl u.2.2.2.2.2.2.2.2.1)), (xB, .inl (cI, 24, .inl u.2.2.2.2.2.2.2.2.2.1)), (xP, .inl (cI, 20, .inl u.2.2.2.2.2.2.2.2.2.2.1)), (tp, .inr (9, [.ref tB, .int tl, .int u.2.2.2.2.2.2.2.2.2.2.2])), (tB, .inl (cI, 260, .inl fB))]) (va_A [(h0, .inr (10, [.ref tp, .ref cr, .ref lr, .ref xC, .ref aC, h0_laws, .ref g0, .ref k0, .ref ac, .ref sd, .ref mi, .ref dw, .ref rf, .int lc, .int lh, .int br, .int hi])), (cr, .inr (2, [cr_tape, cr_court, .int hsr])), (lr, .inr (5, [.ref lS, .int sz5, lr_tape])), (lS, .inl (cI, 241, .inl fS)), (xC, .inr (1, [.ref xR, .ref xB, .ref xP, .int dnb, .int dnp])), (xR, .inl (cI, 3, .inl dfr)), (xB, .inl (cI, 24, .inl dfb)), (xP, .inl (cI, 20, .inl dfp)), (tp, .inr (9, [.ref tB, .int tl, .int ta])), (tB, .inl (cI, 260, .inl fB))] sz)) 0 0 (va_A [(h0, .inr (10, [.ref tp, .ref cr, .ref lr, .ref xC, .ref aC, h0_laws, .ref g0, .ref k0, .ref ac, .ref sd, .ref mi, .ref dw, .ref rf, .int lc, .int lh, .int br, .int hi])), (cr, .inr (2, [cr_tape, cr_court, .int hsr])), (lr, .inr (5, [.ref lS, .int sz5, lr_tape])), (lS, .inl (cI, 241, .inl fS)), (xC, .inr (1, [.ref xR, .ref xB, .ref xP, .int dnb, .int dnp])), (xR, .inl (cI, 3, .inl dfr)), (xB, .inl (cI, 24, .inl dfb)), (xP, .inl (cI, 20, .inl dfp)), (tp, .inr (9, [.ref tB, .int tl, .int ta])), (tB, .inl (cI, 260, .inl fB))] sz) := by
  refine Met.ofW (cc := cX10_fault) (maxL := 2) (ret := (some .int)) (by decide) rfl ?_
  intro p e s m args below meth c s₁ B hml hv
  have y_hi : zHid (0 ≤ hi.toInt ∧ hi.toInt ≤ 1) := n_hi
  have y_lc : zHid (0 ≤ lc.toInt ∧ lc.toInt ≤ 4) := n_lc
  clear n_hi n_lc
  obtain ⟨⟨hargs, hsz, hP, hK, hT⟩, hV⟩ := hv
  have hx := B.exec
  have hb := B.bytes
  have hr := B.returns
  have hts : ∀ w ∈ wA, w.before args s = true := fun w h => atoms_spec (ws := .code yX10_fault cX10_fault 2 (some .int) :: wA) B.pre w (List.mem_cons_of_mem _ h)
  have hown : s.vm.findClass RX10 = some m.cls := findClass_of_methodNamed B.named
  have hlocks := B.notSynchronized
  subst hsz
  have hD := hT.self (sz := s.heap.size)
  generalize hAe : va_A [(h0, .inr (10, [.ref tp, .ref cr, .ref lr, .ref xC, .ref aC, h0_laws, .ref g0, .ref k0, .ref ac, .ref sd, .ref mi, .ref dw, .ref rf, .int lc, .int lh, .int br, .int hi])), (cr, .inr (2, [cr_tape, cr_court, .int hsr])), (lr, .inr (5, [.ref lS, .int sz5, lr_tape])), (lS, .inl (cI, 241, .inl fS)), (xC, .inr (1, [.ref xR, .ref xB, .ref xP, .int dnb, .int dnp])), (xR, .inl (cI, 3, .inl dfr)), (xB, .inl (cI, 24, .inl dfb)), (xP, .inl (cI, 20, .inl dfp)), (tp, .inr (9, [.ref tB, .int tl, .int ta])), (tB, .inl (cI, 260, .inl fB))] s.heap.size = A at hD hV ⊢
  have hA : ∀ q : Nat, s.heap.size ≤ q → A q := fun q h => by rw [← hAe]; exact Or.inr h
  have hl := lv_entry ([.ref h0, .int p0]) (n := 2) (Nat.le_of_ble_eq_true rfl)
  rw [show entryFrame m args 2 = entryFrame m ([.ref h0, .int p0] : List Value).toArray 2 by rw [hargs], lg_entry_eq]
  generalize (lg_sl ([.ref h0, .int p0]) ++ List.replicate (2 - (lg_sl ([.ref h0, .int p0])).length) Slot.unset).toArray = ls at hl ⊢
  have hl : lv_has ls 2 [(0, .ref h0), (1, .int p0)] := hl
  refine zstart (fun H hH => ?_)
  rw [← hH] at hP
  have hS : va_S A s.heap H [] := by rw [hH]; exact va_S.rf
  generalize ([] : List Loc) = locs at hS ⊢
  refine zgen (fun R Q hR hQ => ?_)
  refine lv_iload_n hx hb dX10_fault_0 rfl (lv_at hl 1 rfl) ?_
  refine lv_if_ne (tgt := 20) hx hb dX10_fault_1 (by decide) (fun c1 => ?_) (fun c1 => ?_)
  · have c1 : ¬ p0.toInt = 0 := z6 rfl (by decide) c1
    refine lv_iload_n hx hb dX10_fault_20 rfl (lv_at hl 1 rfl) ?_
    refine lv_iconst (v := 1) hx hb dX10_fault_21 (by decide) ?_
    refine lv_icmp_ne (tgt := 37) hx hb dX10_fault_22 (by decide) (fun c22 => ?_) (fun c22 => ?_)
    · have c22 : ¬ p0.toInt = 1 := z6 rfl (by decide) c22
      refine lv_bipush (v := (-2)) hx hb dX10_fault_37 (by decide) ?_
      have zr0 : ((-2) : Int32).toInt = (-2) := by decide
      rw [hQ]
      exact W.iret (v := ((-2))) hx hb hr (fun t ht hW => ⟨⟨(-2), ((cr_tape), (cr_court), hsr, sz5, (lr_tape), fS, dnb, dnp, dfr, dfb, dfp, ta), rfl, ⟨by (try dsimp only); omega, by (try dsimp only); omega, by (try dsimp only); omega, by (try dsimp only); omega, by (try dsimp only); omega, by (try dsimp only); omega, by (try dsimp only); omega, by (try dsimp only); omega, by (try dsimp only); omega, by (try dsimp only); omega, by (try dsimp only); omega, by (try dsimp only); omega, by (try dsimp only); exact Or.inr (Or.inr ⟨by omega, by omega, by decide⟩), ci_fS_zSt⟩, ⟨by rw [ht]; exact hP, hD⟩⟩, hS.F ht⟩) hS.2.2 dX10_fault_39
    · have c22 : p0.toInt = 1 := z5 rfl (by decide) c22
      refine lv_aload_n hx hb dX10_fault_25 rfl (lv_at hl 0 rfl) ?_
      refine va_get (D := (dC, dI)) (ci := 10) (v := .ref lr) (C := RX10) (T := TX10) (N := 17) hx hb hts iX10 hown hK hP 0 rfl rfl 2 (by decide) (hts _ qw358) (fun _ h9 => h9) rfl dX10_fault_26 ?_
      refine lv_aload_n hx hb dX10_fault_29 rfl (lv_at hl 0 rfl) ?_
      refine va_get (D := (dC, dI)) (ci := 10) (v := .ref tp) (C := RX10) (T := TX10) (N := 17) hx hb hts iX10 hown hK hP 0 rfl rfl 0 (by decide) (hts _ qw356) (fun _ h9 => h9) rfl dX10_fault_30 ?_
      obtain ⟨hPc, hDc, hFc⟩ := zc3 (wc := [(lr, .inr (5, [.ref lS, .int sz5, lr_tape])), (lS, .inl (cI, 241, .inl fS)), (tp, .inr (9, [.ref tB, .int tl, .int ta])), (tB, .inl (cI, 260, .inl fB))]) hP hD hS hA [2, 3, 8, 9] (by decide +kernel) rfl
      refine va_calli (va_runV (As := [.ref tp]) (rest := []) ⟨hx, hb, hml, hown, hts⟩ (g_X5_read l dC dI cI cJ lr tp lS sz5 lr_tape fS tB tl ta fB H.size n_sz5 n_ta n_tl (hty) ci_fS_zSt) (cwV 1 hts (zgV qw476 qw477 qw478 qw101 qw479) rfl rfl rfl hd_X5_read ⟨by rw [hR]; exact Nat.le_of_ble_eq_true rfl, by rw [hR]; exact Nat.le_of_ble_eq_true rfl⟩) (zPWV hPc hK hDc (va_recv (q := (RX5, TX5, 3)) hK hP (ci := 5) (q0 := 2) rfl rfl) (zV_call hV hS hFc)) rfl rfl hl.1 rfl (lv_room (Nat.le_of_ble_eq_true rfl)) dX10_fault_33 ⟨Nat.zero_le _, Nat.zero_le _⟩) hS (fun q _ h => hFc q h) hFc (fun v33 u33 t H locs ht hvm hw hB hz1 hk1 hS9 => ?_)
      obtain ⟨u33_0, u33_1, u33_2⟩ := u33
      obtain ⟨hP9, hD9⟩ := zj2 (wX := [(h0, .inr (10, [.ref tp, .ref cr, .ref lr, .ref xC, .ref aC, h0_laws, .ref g0, .ref k0, .ref ac, .ref sd, .ref mi, .ref dw, .ref rf, .int lc, .int lh, .int br, .int hi])), (cr, .inr (2, [cr_tape, cr_court, .int hsr])), (lr, .inr (5, [.ref lS, .int u33_0, .ref tp])), (lS, .inl (cI, 241, .inl u33_1)), (xC, .inr (1, [.ref xR, .ref xB, .ref xP, .int dnb, .int dnp])), (xR, .inl (cI, 3, .inl dfr)), (xB, .inl (cI, 24, .inl dfb)), (xP, .inl (cI, 20, .inl dfp)), (tp, .inr (9, [.ref tB, .int tl, .int u33_2])), (tB, .inl (cI, 260, .inl fB))]) hP hD hk1 hFc ht hB [2, 3, 8, 9] [(false, 0), (false, 1), (true, 0), (true, 1), (false, 4), (false, 5), (false, 6), (false, 7), (true, 2), (true, 3)] rfl (by decide +kernel) (by decide +kernel) rfl
      clear hP hD hS hPc hDc hFc hB hk1 hz1 hvm
      have hP := hP9
      have hD := hD9
      have hS := hS9
      clear hP9 hD9 hS9
      obtain ⟨f33_0, f33_1, f33_2, f33_3, f33_4, f33_5, f33_6, f33_7, f33_8⟩ : ((-1) ≤ v33.toInt) ∧ (v33.toInt ≤ 240) ∧ (0 ≤ u33_0.toInt) ∧ (u33_0.toInt ≤ 241) ∧ (0 ≤ u33_2.toInt) ∧ (u33_2.toInt ≤ 240) ∧ (sLaw (sB fB tl.toInt) tl.toInt = v33.toInt) ∧ (v33.toInt = -1 → (∃ fS0 : Nat → Int32, zEm fS0 0 (eLaw (sB fB tl.toInt) tl.toInt) u33_1 u33_0) ∧ (sCl (sB fB tl.toInt) tl.toInt 0).1 = 1) ∧ (zSt u33_1) := hw
      have F33 := f33_6
      have F33_1 := f33_7
      rw [hQ]
      exact W.iret (v := v33) hx hb hr (fun t ht hW => ⟨⟨v33, ((cr_tape), (cr_court), hsr, u33_0, (.ref tp), u33_1, dnb, dnp, dfr, dfb, dfp, u33_2), rfl, ⟨by (try dsimp only); omega, by (try dsimp only); omega, by (try dsimp only); omega, by (try dsimp only); omega, by (try dsimp only); omega, by (try dsimp only); omega, by (try dsimp only); omega, by (try dsimp only); omega, by (try dsimp only); omega, by (try dsimp only); omega, by (try dsimp only); omega, by (try dsimp only); omega, by (try dsimp only); exact Or.inr (Or.inl ⟨by omega, F33.symm⟩), f33_8⟩, ⟨by rw [ht]; exact hP, hD⟩⟩, hS.F ht⟩) hS.2.2 dX10_fault_36
  · have c1 : p0.toInt = 0 := z5 rfl (by decide) c1
    refine lv_aload_n hx hb dX10_fault_4 rfl (lv_at hl 0 rfl) ?_
    refine va_get (D := (dC, dI)) (ci := 10) (v := .ref cr) (C := RX10) (T := TX10) (N := 17) hx hb hts iX10 hown hK hP 0 rfl rfl 1 (by decide) (hts _ qw357) (fun _ h9 => h9) rfl dX10_fault_5 ?_
    refine lv_aload_n hx hb dX10_fault_8 rfl (lv_at hl 0 rfl) ?_
    refine va_get (D := (dC, dI)) (ci := 10) (v := .ref tp) (C := RX10) (T := TX10) (N := 17) hx hb hts iX10 hown hK hP 0 rfl rfl 0 (by decide) (hts _ qw356) (fun _ h9 => h9) rfl dX10_fault_9 ?_
    refine lv_aload_n hx hb dX10_fault_12 rfl (lv_at hl 0 rfl) ?_
    refine va_get (D := (dC, dI)) (ci := 10) (v := .ref xC) (C := RX10) (T := TX10) (N := 17) hx hb hts iX10 hown hK hP 0 rfl rfl 3 (by decide) (hts _ qw359) (fun _ h9 => h9) rfl dX10_fault_13 ?_
    obtain ⟨hPc, hDc, hFc⟩ := zc3 (wc := [(cr, .inr (2, [cr_tape, cr_court, .int hsr])), (tp, .inr (9, [.ref tB, .int tl, .int ta])), (tB, .inl (cI, 260, .inl fB)), (xC, .inr (1, [.ref xR, .ref xB, .ref xP, .int dnb, .int dnp])), (xR, .inl (cI, 3, .inl dfr)), (xB, .inl (cI, 24, .inl dfb)), (xP, .inl (cI, 20, .inl dfp))]) hP hD hS hA [1, 8, 9, 4, 5, 6, 7] (by decide +kernel) rfl
    refine va_calli (va_runV (As := [.ref tp, .ref xC]) (rest := []) ⟨hx, hb, hml, hown, hts⟩ (g_X2_read l dC dI cI cJ cr tp xC cr_tape cr_court hsr tB tl ta fB xR xB xP dnb dnp dfr dfb dfp H.size n_hsr n_dnb n_dnp n_ta n_tl (hty)) (cwV 2 hts (zgV qw424 qw425 qw426 qw100 qw427) rfl rfl rfl hd_X2_read ⟨by rw [hR]; exact Nat.le_of_ble_eq_true rfl, by rw [hR]; exact Nat.le_of_ble_eq_true rfl⟩) (zPWV hPc hK hDc (va_recv (q := (RX2, TX2, 3)) hK hP (ci := 2) (q0 := 1) rfl rfl) (zV_call hV hS hFc)) rfl rfl hl.1 rfl (lv_room (Nat.le_of_ble_eq_true rfl)) dX10_fault_16 ⟨Nat.zero_le _, Nat.zero_le _⟩) hS (fun q _ h => hFc q h) hFc (fun v16 u16 t H locs ht hvm hw hB hz1 hk1 hS9 => ?_)
    obtain ⟨u16_0, u16_1, u16_2, u16_3, u16_4, u16_5, u16_6⟩ := u16
    obtain ⟨hP9, hD9⟩ := zj2 (wX := [(h0, .inr (10, [.ref tp, .ref cr, .ref lr, .ref xC, .ref aC, h0_laws, .ref g0, .ref k0, .ref ac, .ref sd, .ref mi, .ref dw, .ref rf, .int lc, .int lh, .int br, .int hi])), (cr, .inr (2, [.ref tp, .ref xC, .int u16_0])), (lr, .inr (5, [.ref lS, .int sz5, lr_tape])), (lS, .inl (cI, 241, .inl fS)), (xC, .inr (1, [.ref xR, .ref xB, .ref xP, .int u16_2, .int u16_3])), (xR, .inl (cI, 3, .inl u16_4)), (xB, .inl (cI, 24, .inl u16_5)), (xP, .inl (cI, 20, .inl u16_6)), (tp, .inr (9, [.ref tB, .int tl, .int u16_1])), (tB, .inl (cI, 260, .inl fB))]) hP hD hk1 hFc ht hB [1, 8, 9, 4, 5, 6, 7] [(false, 0), (true, 0), (false, 2), (false, 3), (true, 3), (true, 4), (true, 5), (true, 6), (true, 1), (true, 2)] rfl (by decide +kernel) (by decide +kernel) rfl
    clear hP hD hS hPc hDc hFc hB hk1 hz1 hvm
    have hP := hP9
    have hD := hD9
    have hS := hS9
    clear hP9 hD9 hS9
    obtain ⟨f16_0, f16_1, f16_2, f16_3, f16_4, f16_5, f16_6, f16_7, f16_8, f16_9, f16_10, f16_11⟩ : ((-1) ≤ v16.toInt) ∧ (v16.toInt ≤ 240) ∧ (0 ≤ u16_0.toInt) ∧ (u16_0.toInt ≤ 1) ∧ (0 ≤ u16_1.toInt) ∧ (u16_1.toInt ≤ 240) ∧ (0 ≤ u16_2.toInt) ∧ (u16_2.toInt ≤ 6) ∧ (0 ≤ u16_3.toInt) ∧ (u16_3.toInt ≤ 5) ∧ (sCrt (sB fB tl.toInt) tl.toInt = (v16.toInt, u16_0.toInt, u16_2.toInt, u16_3.toInt)) ∧ (v16.toInt = -1 → zCn u16_4 u16_5 u16_6 u16_2.toInt u16_3.toInt (sCrtV (sB fB tl.toInt) tl.toInt)) := hw
    have F16 := f16_10
    have F16_1 := f16_11
    rw [hQ]
    exact W.iret (v := v16) hx hb hr (fun t ht hW => ⟨⟨v16, ((.ref tp), (.ref xC), u16_0, sz5, (lr_tape), fS, u16_2, u16_3, u16_4, u16_5, u16_6, u16_1), rfl, ⟨by (try dsimp only); omega, by (try dsimp only); omega, by (try dsimp only); omega, by (try dsimp only); omega, by (try dsimp only); omega, by (try dsimp only); omega, by (try dsimp only); omega, by (try dsimp only); omega, by (try dsimp only); omega, by (try dsimp only); omega, by (try dsimp only); omega, by (try dsimp only); omega, by (try dsimp only); exact Or.inl ⟨by omega, by rw [F16]⟩, ci_fS_zSt⟩, ⟨by rw [ht]; exact hP, hD⟩⟩, hS.F ht⟩) hS.2.2 dX10_fault_19
set_option maxHeartbeats 4000000 in
set_option maxRecDepth 100000 in
theorem g_X10_takeCourt (l : Launch) (dC : Nat → ClassId) (dI : Nat → Nat → Nat) (cI cJ : ClassId) (h0 : Nat) (tp : Nat) (cr : Nat) (lr : Nat) (xC : Nat) (aC : Nat) (h0_laws : Value) (g0 : Nat) (k0 : Nat) (ac : Nat) (sd : Nat) (mi : Nat) (dw : Nat) (rf : Nat) (lc : Int32) (lh : Int32) (br : Int32) (hi : Int32) (xR : Nat) (xB : Nat) (xP : Nat) (dnb : Int32) (dnp : Int32) (dfr : Nat → Int32) (dfb : Nat → Int32) (dfp : Nat → Int32) (aR : Nat) (aB : Nat) (aP : Nat) (nb : Int32) (np : Int32) (fr : Nat → Int32) (fb : Nat → Int32) (fp : Nat → Int32) (gY : Nat) (gF : Nat) (gP : Nat) (gpn : Int32) (glt : Int32) (gsh : Int32) (gwd : Int32) (gpu : Int32) (gmo : Int32) (gfY : Nat → Int32) (gfF : Nat → Int32) (gfP : Nat → Int32) (aW : Nat) (pl : Int32) (cn : Int32) (tB : Nat) (tl : Int32) (ta : Int32) (sz : Nat) (n_cn : 0 ≤ cn.toInt ∧ cn.toInt ≤ 40) (n_dnb : 0 ≤ dnb.toInt ∧ dnb.toInt ≤ 6) (n_dnp : 0 ≤ dnp.toInt ∧ dnp.toInt ≤ 5) (n_gpn : 0 ≤ gpn.toInt ∧ gpn.toInt ≤ 20) (n_gwd : (-1) ≤ gwd.toInt ∧ gwd.toInt ≤ 5) (n_hi : 0 ≤ hi.toInt ∧ hi.toInt ≤ 1) (n_lc : 0 ≤ lc.toInt ∧ lc.toInt ≤ 4) (n_nb : 0 ≤ nb.toInt ∧ nb.toInt ≤ 6) (n_np : 0 ≤ np.toInt ∧ np.toInt ≤ 5) (n_pl : 0 ≤ pl.toInt ∧ pl.toInt ≤ 39) (n_ta : 0 ≤ ta.toInt ∧ ta.toInt ≤ 240) (n_tl : 0 ≤ tl.toInt ∧ tl.toInt ≤ 240)  (ci_gfP_zPo : zPo gfP)  : Met l yX10_takeCourt (.code yX10_takeCourt cX10_takeCourt 1 (some .int) :: wA) ({ frames := 2, cells := 0, slots := 0, locals := 81 }) (zP (dC, dI) [(cI, .int), (cJ, .long)] [.ref h0] sz [(h0, .inr (10, [.ref tp, .ref cr, .ref lr, .ref xC, .ref aC, h0_laws, .ref g0, .ref k0, .ref ac, .ref sd, .ref mi, .ref dw, .ref rf, .int lc, .int lh, .int br, .int hi])), (xC, .inr (1, [.ref xR, .ref xB, .ref xP, .int dnb, .int dnp])), (xR, .inl (cI, 3, .inl dfr)), (xB, .inl (cI, 24, .inl dfb)), (xP, .inl (cI, 20, .inl dfp)), (aC, .inr (1, [.ref aR, .ref aB, .ref aP, .int nb, .int np])), (aR, .inl (cI, 3, .inl fr)), (aB, .inl (cI, 24, .inl fb)), (aP, .inl (cI, 20, .inl fp)), (g0, .inr (7, [.ref gY, .ref gF, .ref gP, .int gpn, .int glt, .int gsh, .int gwd, .int gpu, .int gmo])), (gY, .inl (cI, 6, .inl gfY)), (gF, .inl (cI, 5, .inl gfF)), (gP, .inl (cI, 80, .inl gfP)), (ac, .inr (0, [.ref aW, .int pl, .int cn])), (tp, .inr (9, [.ref tB, .int tl, .int ta]))]) (va_Qi (fun (r : Int32) (u : (Nat → Int32) × (Nat → Int32) × (Nat → Int32) × Int32 × (Nat → Int32) × (Nat → Int32)) => (0 ≤ r.toInt) ∧ (r.toInt ≤ 6) ∧ (r.toInt = dnb.toInt) ∧ ((∀ j : Nat, j < 3 → u.1 j = dfr j) ∧ (∀ j : Nat, j < 24 → u.2.1 j = dfb j) ∧ ∀ j : Nat, j < 20 → u.2.2.1 j = dfp j) ∧ ((∀ i : Nat, (i : Int) < dnb.toInt → u.2.2.2.2.1 i = u.2.1 (4 * i + 3)) ∧ (∀ i : Nat, (i : Int) < dnp.toInt → u.2.2.2.2.2 i = u.2.2.1 (4 * i + 2)) ∧ u.2.2.2.1 = u.1 0)) (fun (u : (Nat → Int32) × (Nat → Int32) × (Nat → Int32) × Int32 × (Nat → Int32) × (Nat → Int32)) (t : State) => va_P (dC, dI) vwCl [(h0, .inr (10, [.ref tp, .ref cr, .ref lr, .ref xC, .ref aC, h0_laws, .ref g0, .ref k0, .ref ac, .ref sd, .ref mi, .ref dw, .ref rf, .int lc, .int lh, .int br, .int 0])), (xC, .inr (1, [.ref xR, .ref xB, .ref xP, .int dnb, .int dnp])), (xR, .inl (cI, 3, .inl dfr)), (xB, .inl (cI, 24, .inl dfb)), (xP, .inl (cI, 20, .inl dfp)), (aC, .inr (1, [.ref aR, .ref aB, .ref aP, .int dnb, .int dnp])), (aR, .inl (cI, 3, .inl u.1)), (aB, .inl (cI, 24, .inl u.2.1)), (aP, .inl (cI, 20, .inl u.2.2.1)), (g0, .inr (7, [.ref gY, .ref gF, .ref gP, .int 0, .int 0, .int 0, .int (-1), .int u.2.2.2.1, .int 0])), (gY, .inl (cI, 6, .inl u.2.2.2.2.1)), (gF, .inl (cI, 5, .inl u.2.2.2.2.2)), (gP, .inl (cI, 80, .inl gfP)), (ac, .inr (0, [.ref aW, .int pl, .int 0])), (tp, .inr (9, [.ref tB, .int 0, .int ta]))] t.heap ∧ va_D (va_A [(h0, .inr (10, [.ref tp, .ref cr, .ref lr, .ref xC, .ref aC, h0_laws, .ref g0, .ref k0, .ref ac, .ref sd, .ref mi, .ref dw, .ref rf, .int lc, .int lh, .int br, .int hi])), (xC, .inr (1, [.ref xR, .ref xB, .ref xP, .int dnb, .int dnp])), (xR, .inl (cI, 3, .inl dfr)), (xB, .inl (cI, 24, .inl dfb)), (xP, .inl (cI, 20, .inl dfp)), (aC, .inr (1, [.ref aR, .ref aB, .ref aP, .int nb, .int np])), (aR, .inl (cI, 3, .inl fr)), (aB, .inl (cI, 24, .inl fb)), (aP, .inl (cI, 20, .inl fp)), (g0, .inr (7, [.ref gY, .ref gF, .ref gP, .int gpn, .int glt, .int gsh, .int gwd, .int gpu, .int gmo])), (gY, .inl (cI, 6, .inl gfY)), (gF, .inl (cI, 5, .inl gfF)), (gP, .inl (cI, 80, .inl gfP)), (ac, .inr (0, [.ref aW, .int pl, .int cn])), (tp, .inr (9, [.ref tB, .int tl, .int ta]))] sz) [(h0, .inr (10, [.ref tp, .ref cr, .ref lr, .ref xC, .ref aC, h0_laws, .ref g0, .ref k0, .ref ac, .ref sd, .ref mi, .ref dw, .ref rf, .int lc, .int lh, .int br, .int 0])), (xC, .inr (1, [.ref xR, .ref xB, .ref xP, .int dnb, .int dnp])), (xR, .inl (cI, 3, .inl dfr)), (xB, .inl (cI, 24, .inl dfb)), (xP, .inl (cI, 20, .inl dfp)), (aC, .inr (1, [.ref aR, .ref aB, .ref aP, .int dnb, .int dnp])), (aR, .inl (cI, 3, .inl u.1)), (aB, .inl (cI, 24, .inl u.2.1)), (aP, .inl (cI, 20, .inl u.2.2.1)), (g0, .inr (7, [.ref gY, .ref gF, .ref gP, .int 0, .int 0, .int 0, .int (-1), .int u.2.2.2.1, .int 0])), (gY, .inl (cI, 6, .inl u.2.2.2.2.1)), (gF, .inl (cI, 5, .inl u.2.2.2.2.2)), (gP, .inl (cI, 80, .inl gfP)), (ac, .inr (0, [.ref aW, .int pl, .int 0])), (tp, .inr (9, [.ref tB, .int 0, .int ta]))]) (va_A [(h0, .inr (10, [.ref tp, .ref cr, .ref lr, .ref xC, .ref aC, h0_laws, .ref g0, .ref k0, .ref ac, .ref sd, .ref mi, .ref dw, .ref rf, .int lc, .int lh, .int br, .int hi])), (xC, .inr (1, [.ref xR, .ref xB, .ref xP, .int dnb, .int dnp])), (xR, .inl (cI, 3, .inl dfr)), (xB, .inl (cI, 24, .inl dfb)), (xP, .inl (cI, 20, .inl dfp)), (aC, .inr (1, [.ref aR, .ref aB, .ref aP, .int nb, .int np])), (aR, .inl (cI, 3, .inl fr)), (aB, .inl (cI, 24, .inl fb)), (aP, .inl (cI, 20, .inl fp)), (g0, .inr (7, [.ref gY, .ref gF, .ref gP, .int gpn, .int glt, .int gsh, .int gwd, .int gpu, .int gmo])), (gY, .inl (cI, 6, .inl gfY)), (gF, .inl (cI, 5, .inl gfF)), (gP, .inl (cI, 80, .inl gfP)), (ac, .inr (0, [.ref aW, .int pl, .int cn])), (tp, .inr (9, [.ref tB, .int tl, .int ta]))] sz)) 0 0 (va_A [(h0, .inr (10, [.ref tp, .ref cr, .ref lr, .ref xC, .ref aC, h0_laws, .ref g0, .ref k0, .ref ac, .ref sd, .ref mi, .ref dw, .ref rf, .int lc, .int lh, .int br, .int hi])), (xC, .inr (1, [.ref xR, .ref xB, .ref xP, .int dnb, .int dnp])), (xR, .inl (cI, 3, .inl dfr)), (xB, .inl (cI, 24, .inl dfb)), (xP, .inl (cI, 20, .inl dfp)), (aC, .inr (1, [.ref aR, .ref aB, .ref aP, .int nb, .int np])), (aR, .inl (cI, 3, .inl fr)), (aB, .inl (cI, 24, .inl fb)), (aP, .inl (cI, 20, .inl fp)), (g0, .inr (7, [.ref gY, .ref gF, .ref gP, .int gpn, .int glt, .int gsh, .int gwd, .int gpu, .int gmo])), (gY, .inl (cI, 6, .inl gfY)), (gF, .inl (cI, 5, .inl gfF)), (gP, .inl (cI, 80, .inl gfP)), (ac, .inr (0, [.ref aW, .int pl, .int cn])), (tp, .inr (9, [.ref tB, .int tl, .int ta]))] sz) := by
  refine Met.ofW (cc := cX10_takeCourt) (maxL := 1) (ret := (some .int)) (by decide) rfl ?_
  intro p e s m args below meth c s₁ B hml hv
  have y_cn : zHid (0 ≤ cn.toInt ∧ cn.toInt ≤ 40) := n_cn
  have y_gpn : zHid (0 ≤ gpn.toInt ∧ gpn.toInt ≤ 20) := n_gpn
  have y_gwd : zHid ((-1) ≤ gwd.toInt ∧ gwd.toInt ≤ 5) := n_gwd
  have y_hi : zHid (0 ≤ hi.toInt ∧ hi.toInt ≤ 1) := n_hi
  have y_lc : zHid (0 ≤ lc.toInt ∧ lc.toInt ≤ 4) := n_lc
  have y_nb : zHid (0 ≤ nb.toInt ∧ nb.toInt ≤ 6) := n_nb
  have y_np : zHid (0 ≤ np.toInt ∧ np.toInt ≤ 5) := n_np
  have y_pl : zHid (0 ≤ pl.toInt ∧ pl.toInt ≤ 39) := n_pl
  have y_ta : zHid (0 ≤ ta.toInt ∧ ta.toInt ≤ 240) := n_ta
  have y_tl : zHid (0 ≤ tl.toInt ∧ tl.toInt ≤ 240) := n_tl
  clear n_cn n_gpn n_gwd n_hi n_lc n_nb n_np n_pl n_ta n_tl
  obtain ⟨hargs, hsz, hP, hK, hT⟩ := hv
  have hx := B.exec
  have hb := B.bytes
  have hr := B.returns
  have hts : ∀ w ∈ wA, w.before args s = true := fun w h => atoms_spec (ws := .code yX10_takeCourt cX10_takeCourt 1 (some .int) :: wA) B.pre w (List.mem_cons_of_mem _ h)
  have hown : s.vm.findClass RX10 = some m.cls := findClass_of_methodNamed B.named
  have hlocks := B.notSynchronized
  subst hsz
  have hD := hT.self (sz := s.heap.size)
  generalize hAe : va_A [(h0, .inr (10, [.ref tp, .ref cr, .ref lr, .ref xC, .ref aC, h0_laws, .ref g0, .ref k0, .ref ac, .ref sd, .ref mi, .ref dw, .ref rf, .int lc, .int lh, .int br, .int hi])), (xC, .inr (1, [.ref xR, .ref xB, .ref xP, .int dnb, .int dnp])), (xR, .inl (cI, 3, .inl dfr)), (xB, .inl (cI, 24, .inl dfb)), (xP, .inl (cI, 20, .inl dfp)), (aC, .inr (1, [.ref aR, .ref aB, .ref aP, .int nb, .int np])), (aR, .inl (cI, 3, .inl fr)), (aB, .inl (cI, 24, .inl fb)), (aP, .inl (cI, 20, .inl fp)), (g0, .inr (7, [.ref gY, .ref gF, .ref gP, .int gpn, .int glt, .int gsh, .int gwd, .int gpu, .int gmo])), (gY, .inl (cI, 6, .inl gfY)), (gF, .inl (cI, 5, .inl gfF)), (gP, .inl (cI, 80, .inl gfP)), (ac, .inr (0, [.ref aW, .int pl, .int cn])), (tp, .inr (9, [.ref tB, .int tl, .int ta]))] s.heap.size = A at hD ⊢
  have hA : ∀ q : Nat, s.heap.size ≤ q → A q := fun q h => by rw [← hAe]; exact Or.inr h
  have hl := lv_entry ([.ref h0]) (n := 1) (Nat.le_of_ble_eq_true rfl)
  rw [show entryFrame m args 1 = entryFrame m ([.ref h0] : List Value).toArray 1 by rw [hargs], lg_entry_eq]
  generalize (lg_sl ([.ref h0]) ++ List.replicate (1 - (lg_sl ([.ref h0])).length) Slot.unset).toArray = ls at hl ⊢
  have hl : lv_has ls 1 [(0, .ref h0)] := hl
  refine zstart (fun H hH => ?_)
  rw [← hH] at hP
  have hS : va_S A s.heap H [] := by rw [hH]; exact va_S.rf
  generalize ([] : List Loc) = locs at hS ⊢
  refine zgen (fun R Q hR hQ => ?_)
  refine lv_aload_n hx hb dX10_takeCourt_0 rfl (lv_at hl 0 rfl) ?_
  refine va_get (D := (dC, dI)) (ci := 10) (v := .ref tp) (C := RX10) (T := TX10) (N := 17) hx hb hts iX10 hown hK hP 0 rfl rfl 0 (by decide) (hts _ qw356) (fun _ h9 => h9) rfl dX10_takeCourt_1 ?_
  refine lv_iconst (v := 0) hx hb dX10_takeCourt_4 (by decide) ?_
  refine va_put (D := (dC, dI)) (ci := 9) (v := .int 0) (ty := .int) (C := RX9) (T := TX9) (N := 3) hx hb hts iX9 tyX9 tyX9_ok nmX9 hown hK hP hD hS 14 rfl rfl 1 (by decide) (hts _ qw133) (fun _ h9 => h9) rfl (by decide +kernel) rfl rfl (Nat.le_of_ble_eq_true rfl) dX10_takeCourt_5 (fun H locs hP9 hD9 hS9 => ?_)
  clear hP hD hS
  obtain ⟨hP, hD⟩ := zst (wX := [(h0, .inr (10, [.ref tp, .ref cr, .ref lr, .ref xC, .ref aC, h0_laws, .ref g0, .ref k0, .ref ac, .ref sd, .ref mi, .ref dw, .ref rf, .int lc, .int lh, .int br, .int hi])), (xC, .inr (1, [.ref xR, .ref xB, .ref xP, .int dnb, .int dnp])), (xR, .inl (cI, 3, .inl dfr)), (xB, .inl (cI, 24, .inl dfb)), (xP, .inl (cI, 20, .inl dfp)), (aC, .inr (1, [.ref aR, .ref aB, .ref aP, .int nb, .int np])), (aR, .inl (cI, 3, .inl fr)), (aB, .inl (cI, 24, .inl fb)), (aP, .inl (cI, 20, .inl fp)), (g0, .inr (7, [.ref gY, .ref gF, .ref gP, .int gpn, .int glt, .int gsh, .int gwd, .int gpu, .int gmo])), (gY, .inl (cI, 6, .inl gfY)), (gF, .inl (cI, 5, .inl gfF)), (gP, .inl (cI, 80, .inl gfP)), (ac, .inr (0, [.ref aW, .int pl, .int cn])), (tp, .inr (9, [.ref tB, .int 0, .int ta]))]) hP9 hD9 rfl
  have hS := hS9
  clear hP9 hD9 hS9
  refine lv_aload_n hx hb dX10_takeCourt_8 rfl (lv_at hl 0 rfl) ?_
  refine va_get (D := (dC, dI)) (ci := 10) (v := .ref aC) (C := RX10) (T := TX10) (N := 17) hx hb hts iX10 hown hK hP 0 rfl rfl 4 (by decide) (hts _ qw360) (fun _ h9 => h9) rfl dX10_takeCourt_9 ?_
  refine lv_aload_n hx hb dX10_takeCourt_12 rfl (lv_at hl 0 rfl) ?_
  refine va_get (D := (dC, dI)) (ci := 10) (v := .ref xC) (C := RX10) (T := TX10) (N := 17) hx hb hts iX10 hown hK hP 0 rfl rfl 3 (by decide) (hts _ qw359) (fun _ h9 => h9) rfl dX10_takeCourt_13 ?_
  obtain ⟨hPc, hDc, hFc⟩ := zc3 (wc := [(aC, .inr (1, [.ref aR, .ref aB, .ref aP, .int nb, .int np])), (aR, .inl (cI, 3, .inl fr)), (aB, .inl (cI, 24, .inl fb)), (aP, .inl (cI, 20, .inl fp)), (xC, .inr (1, [.ref xR, .ref xB, .ref xP, .int dnb, .int dnp])), (xR, .inl (cI, 3, .inl dfr)), (xB, .inl (cI, 24, .inl dfb)), (xP, .inl (cI, 20, .inl dfp))]) hP hD hS hA [5, 6, 7, 8, 1, 2, 3, 4] (by decide +kernel) rfl
  refine va_callv (va_runV (As := [.ref xC]) (rest := []) ⟨hx, hb, hml, hown, hts⟩ (g_X1_become l dC dI cI cJ aC xC aR aB aP nb np fr fb fp xR xB xP dnb dnp dfr dfb dfp H.size n_dnb n_dnp y_nb y_np) (cwV 1 hts (zgV qw523 qw524 qw525 qw102 qw526) rfl rfl rfl hd_X1_become ⟨by rw [hR]; exact Nat.le_of_ble_eq_true rfl, by rw [hR]; exact Nat.le_of_ble_eq_true rfl⟩) (zPV hPc hK hDc (va_recv (q := (RX1, TX1, 5)) hK hP (ci := 1) (q0 := 5) rfl rfl)) rfl rfl hl.1 rfl (lv_room (Nat.le_of_ble_eq_true rfl)) dX10_takeCourt_16 ⟨Nat.zero_le _, Nat.zero_le _⟩) hS (fun q _ h => hFc q h) hFc (fun u16 t H locs ht hvm hw hB hz1 hk1 hS9 => ?_)
  obtain ⟨u16_0, u16_1, u16_2⟩ := u16
  obtain ⟨hP9, hD9⟩ := zj2 (wX := [(h0, .inr (10, [.ref tp, .ref cr, .ref lr, .ref xC, .ref aC, h0_laws, .ref g0, .ref k0, .ref ac, .ref sd, .ref mi, .ref dw, .ref rf, .int lc, .int lh, .int br, .int hi])), (xC, .inr (1, [.ref xR, .ref xB, .ref xP, .int dnb, .int dnp])), (xR, .inl (cI, 3, .inl dfr)), (xB, .inl (cI, 24, .inl dfb)), (xP, .inl (cI, 20, .inl dfp)), (aC, .inr (1, [.ref aR, .ref aB, .ref aP, .int dnb, .int dnp])), (aR, .inl (cI, 3, .inl u16_0)), (aB, .inl (cI, 24, .inl u16_1)), (aP, .inl (cI, 20, .inl u16_2)), (g0, .inr (7, [.ref gY, .ref gF, .ref gP, .int gpn, .int glt, .int gsh, .int gwd, .int gpu, .int gmo])), (gY, .inl (cI, 6, .inl gfY)), (gF, .inl (cI, 5, .inl gfF)), (gP, .inl (cI, 80, .inl gfP)), (ac, .inr (0, [.ref aW, .int pl, .int cn])), (tp, .inr (9, [.ref tB, .int 0, .int ta]))]) hP hD hk1 hFc ht hB [5, 6, 7, 8, 1, 2, 3, 4] [(false, 0), (true, 4), (true, 5), (true, 6), (true, 7), (true, 0), (true, 1), (true, 2), (true, 3), (false, 9), (false, 10), (false, 11), (false, 12), (false, 13), (false, 14)] rfl (by decide +kernel) (by decide +kernel) rfl
  clear hP hD hS hPc hDc hFc hB hk1 hz1 hvm
  have hP := hP9
  have hD := hD9
  have hS := hS9
  clear hP9 hD9 hS9
  have f16_0 : ((∀ j : Nat, j < 3 → u16_0 j = dfr j) ∧ (∀ j : Nat, j < 24 → u16_1 j = dfb j) ∧ ∀ j : Nat, j < 20 → u16_2 j = dfp j) := hw
  have F16 := f16_0
  refine lv_aload_n hx hb dX10_takeCourt_19 rfl (lv_at hl 0 rfl) ?_
  refine va_get (D := (dC, dI)) (ci := 10) (v := .ref g0) (C := RX10) (T := TX10) (N := 17) hx hb hts iX10 hown hK hP 0 rfl rfl 6 (by decide) (hts _ qw362) (fun _ h9 => h9) rfl dX10_takeCourt_20 ?_
  refine lv_aload_n hx hb dX10_takeCourt_23 rfl (lv_at hl 0 rfl) ?_
  refine va_get (D := (dC, dI)) (ci := 10) (v := .ref aC) (C := RX10) (T := TX10) (N := 17) hx hb hts iX10 hown hK hP 0 rfl rfl 4 (by decide) (hts _ qw360) (fun _ h9 => h9) rfl dX10_takeCourt_24 ?_
  obtain ⟨hPc, hDc, hFc⟩ := zc3 (wc := [(g0, .inr (7, [.ref gY, .ref gF, .ref gP, .int gpn, .int glt, .int gsh, .int gwd, .int gpu, .int gmo])), (gY, .inl (cI, 6, .inl gfY)), (gF, .inl (cI, 5, .inl gfF)), (gP, .inl (cI, 80, .inl gfP)), (aC, .inr (1, [.ref aR, .ref aB, .ref aP, .int dnb, .int dnp])), (aR, .inl (cI, 3, .inl u16_0)), (aB, .inl (cI, 24, .inl u16_1)), (aP, .inl (cI, 20, .inl u16_2))]) hP hD hS hA [9, 10, 11, 12, 5, 6, 7, 8] (by decide +kernel) rfl
  refine va_callv (va_runV (As := [.ref aC]) (rest := []) ⟨hx, hb, hml, hown, hts⟩ (g_X7_begin l dC dI cI cJ g0 aC gY gF gP gpn glt gsh gwd gpu gmo gfY gfF gfP aR aB aP dnb dnp u16_0 u16_1 u16_2 H.size n_dnb n_dnp) (cwV 1 hts (zgV qw528 qw529 qw530 qw103 qw531) rfl rfl rfl hd_X7_begin ⟨by rw [hR]; exact Nat.le_of_ble_eq_true rfl, by rw [hR]; exact Nat.le_of_ble_eq_true rfl⟩) (zPV hPc hK hDc (va_recv (q := (RX7, TX7, 9)) hK hP (ci := 7) (q0 := 9) rfl rfl)) rfl rfl hl.1 rfl (lv_room (Nat.le_of_ble_eq_true rfl)) dX10_takeCourt_27 ⟨Nat.zero_le _, Nat.zero_le _⟩) hS (fun q _ h => hFc q h) hFc (fun u27 t H locs ht hvm hw hB hz1 hk1 hS9 => ?_)
  obtain ⟨u27_0, u27_1, u27_2⟩ := u27
  obtain ⟨hP9, hD9⟩ := zj2 (wX := [(h0, .inr (10, [.ref tp, .ref cr, .ref lr, .ref xC, .ref aC, h0_laws, .ref g0, .ref k0, .ref ac, .ref sd, .ref mi, .ref dw, .ref rf, .int lc, .int lh, .int br, .int hi])), (xC, .inr (1, [.ref xR, .ref xB, .ref xP, .int dnb, .int dnp])), (xR, .inl (cI, 3, .inl dfr)), (xB, .inl (cI, 24, .inl dfb)), (xP, .inl (cI, 20, .inl dfp)), (aC, .inr (1, [.ref aR, .ref aB, .ref aP, .int dnb, .int dnp])), (aR, .inl (cI, 3, .inl u16_0)), (aB, .inl (cI, 24, .inl u16_1)), (aP, .inl (cI, 20, .inl u16_2)), (g0, .inr (7, [.ref gY, .ref gF, .ref gP, .int 0, .int 0, .int 0, .int (-1), .int u27_0, .int 0])), (gY, .inl (cI, 6, .inl u27_1)), (gF, .inl (cI, 5, .inl u27_2)), (gP, .inl (cI, 80, .inl gfP)), (ac, .inr (0, [.ref aW, .int pl, .int cn])), (tp, .inr (9, [.ref tB, .int 0, .int ta]))]) hP hD hk1 hFc ht hB [9, 10, 11, 12, 5, 6, 7, 8] [(false, 0), (false, 1), (false, 2), (false, 3), (false, 4), (true, 4), (true, 5), (true, 6), (true, 7), (true, 0), (true, 1), (true, 2), (true, 3), (false, 13), (false, 14)] rfl (by decide +kernel) (by decide +kernel) rfl
  clear hP hD hS hPc hDc hFc hB hk1 hz1 hvm
  have hP := hP9
  have hD := hD9
  have hS := hS9
  clear hP9 hD9 hS9
  have f27_0 : ((∀ i : Nat, (i : Int) < dnb.toInt → u27_1 i = u16_1 (4 * i + 3)) ∧ (∀ i : Nat, (i : Int) < dnp.toInt → u27_2 i = u16_2 (4 * i + 2)) ∧ u27_0 = u16_0 0) := hw
  have F27 := f27_0
  refine lv_aload_n hx hb dX10_takeCourt_30 rfl (lv_at hl 0 rfl) ?_
  refine va_get (D := (dC, dI)) (ci := 10) (v := .ref ac) (C := RX10) (T := TX10) (N := 17) hx hb hts iX10 hown hK hP 0 rfl rfl 8 (by decide) (hts _ qw364) (fun _ h9 => h9) rfl dX10_takeCourt_31 ?_
  obtain ⟨hPc, hDc, hFc⟩ := zc3 (wc := [(ac, .inr (0, [.ref aW, .int pl, .int cn]))]) hP hD hS hA [13] (by decide +kernel) rfl
  refine va_callv (va_runV (As := []) (rest := []) ⟨hx, hb, hml, hown, hts⟩ (g_X0_forget l dC dI cI cJ ac (.ref aW) (.int pl) cn H.size) (cwV 0 hts (zgV qw544 qw545 qw546 qw104 qw547) rfl rfl rfl hd_X0_forget ⟨by rw [hR]; exact Nat.le_of_ble_eq_true rfl, by rw [hR]; exact Nat.le_of_ble_eq_true rfl⟩) (zPV hPc hK hDc (va_recv (q := (RX0, TX0, 3)) hK hP (ci := 0) (q0 := 13) rfl rfl)) rfl rfl hl.1 rfl (lv_room (Nat.le_of_ble_eq_true rfl)) dX10_takeCourt_34 ⟨Nat.zero_le _, Nat.zero_le _⟩) hS (fun q _ h => hFc q h) hFc (fun u34 t H locs ht hvm hw hB hz1 hk1 hS9 => ?_)
  obtain ⟨hP9, hD9⟩ := zj2 (wX := [(h0, .inr (10, [.ref tp, .ref cr, .ref lr, .ref xC, .ref aC, h0_laws, .ref g0, .ref k0, .ref ac, .ref sd, .ref mi, .ref dw, .ref rf, .int lc, .int lh, .int br, .int hi])), (xC, .inr (1, [.ref xR, .ref xB, .ref xP, .int dnb, .int dnp])), (xR, .inl (cI, 3, .inl dfr)), (xB, .inl (cI, 24, .inl dfb)), (xP, .inl (cI, 20, .inl dfp)), (aC, .inr (1, [.ref aR, .ref aB, .ref aP, .int dnb, .int dnp])), (aR, .inl (cI, 3, .inl u16_0)), (aB, .inl (cI, 24, .inl u16_1)), (aP, .inl (cI, 20, .inl u16_2)), (g0, .inr (7, [.ref gY, .ref gF, .ref gP, .int 0, .int 0, .int 0, .int (-1), .int u27_0, .int 0])), (gY, .inl (cI, 6, .inl u27_1)), (gF, .inl (cI, 5, .inl u27_2)), (gP, .inl (cI, 80, .inl gfP)), (ac, .inr (0, [.ref aW, .int pl, .int 0])), (tp, .inr (9, [.ref tB, .int 0, .int ta]))]) hP hD hk1 hFc ht hB [13] [(false, 0), (false, 1), (false, 2), (false, 3), (false, 4), (false, 5), (false, 6), (false, 7), (false, 8), (false, 9), (false, 10), (false, 11), (false, 12), (true, 0), (false, 14)] rfl (by decide +kernel) (by decide +kernel) rfl
  clear hP hD hS hPc hDc hFc hB hk1 hz1 hvm
  have hP := hP9
  have hD := hD9
  have hS := hS9
  clear hP9 hD9 hS9
  refine lv_aload_n hx hb dX10_takeCourt_37 rfl (lv_at hl 0 rfl) ?_
  refine lv_iconst (v := 0) hx hb dX10_takeCourt_38 (by decide) ?_
  refine va_put (D := (dC, dI)) (ci := 10) (v := .int 0) (ty := .boolean) (C := RX10) (T := TX10) (N := 17) hx hb hts iX10 tyX10 tyX10_ok nmX10 hown hK hP hD hS 0 rfl rfl 16 (by decide) (hts _ qw372) (fun _ h9 => h9) rfl (by decide +kernel) rfl rfl (Nat.le_of_ble_eq_true rfl) dX10_takeCourt_39 (fun H locs hP9 hD9 hS9 => ?_)
  clear hP hD hS
  obtain ⟨hP, hD⟩ := zst (wX := [(h0, .inr (10, [.ref tp, .ref cr, .ref lr, .ref xC, .ref aC, h0_laws, .ref g0, .ref k0, .ref ac, .ref sd, .ref mi, .ref dw, .ref rf, .int lc, .int lh, .int br, .int 0])), (xC, .inr (1, [.ref xR, .ref xB, .ref xP, .int dnb, .int dnp])), (xR, .inl (cI, 3, .inl dfr)), (xB, .inl (cI, 24, .inl dfb)), (xP, .inl (cI, 20, .inl dfp)), (aC, .inr (1, [.ref aR, .ref aB, .ref aP, .int dnb, .int dnp])), (aR, .inl (cI, 3, .inl u16_0)), (aB, .inl (cI, 24, .inl u16_1)), (aP, .inl (cI, 20, .inl u16_2)), (g0, .inr (7, [.ref gY, .ref gF, .ref gP, .int 0, .int 0, .int 0, .int (-1), .int u27_0, .int 0])), (gY, .inl (cI, 6, .inl u27_1)), (gF, .inl (cI, 5, .inl u27_2)), (gP, .inl (cI, 80, .inl gfP)), (ac, .inr (0, [.ref aW, .int pl, .int 0])), (tp, .inr (9, [.ref tB, .int 0, .int ta]))]) hP9 hD9 rfl
  have hS := hS9
  clear hP9 hD9 hS9
  refine lv_aload_n hx hb dX10_takeCourt_42 rfl (lv_at hl 0 rfl) ?_
  refine va_get (D := (dC, dI)) (ci := 10) (v := .ref aC) (C := RX10) (T := TX10) (N := 17) hx hb hts iX10 hown hK hP 0 rfl rfl 4 (by decide) (hts _ qw360) (fun _ h9 => h9) rfl dX10_takeCourt_43 ?_
  refine va_get (D := (dC, dI)) (ci := 1) (v := .int dnb) (C := RX1) (T := TX1) (N := 5) hx hb hts iX1 hown hK hP 5 rfl rfl 3 (by decide) (hts _ qw195) (fun _ h9 => h9) rfl dX10_takeCourt_46 ?_
  rw [hQ]
  exact W.iret (v := dnb) hx hb hr (fun t ht hW => ⟨⟨dnb, (u16_0, u16_1, u16_2, u27_0, u27_1, u27_2), rfl, ⟨by (try dsimp only); omega, by (try dsimp only); omega, rfl, by (try dsimp only); exact F16, by (try dsimp only); exact F27⟩, ⟨by rw [ht]; exact hP, hD⟩⟩, hS.F ht⟩) hS.2.2 dX10_takeCourt_49
