set_option maxHeartbeats 4000000 in
set_option maxRecDepth 100000 in
theorem g_X11_in (l : Launch) (dC : Nat → ClassId) (dI : Nat → Nat → Nat) (cI cJ : ClassId) (p0 : Int32) (p1 : Int32) (p2 : Int32) (sz : Nat)     : Met l yX11_in (.code yX11_in cX11_in 3 (some .boolean) :: wA) ({ frames := 0, cells := 0, slots := 0, locals := 0 }) (zP (dC, dI) [(cI, .int), (cJ, .long)] [.int p0, .int p1, .int p2] sz []) (va_Qi (fun (r : Int32) (u : Unit) => (0 ≤ r.toInt) ∧ (r.toInt ≤ 1) ∧ (¬ r.toInt = 0 → (p1.toInt ≤ p0.toInt ∧ p0.toInt ≤ p2.toInt)) ∧ (r.toInt = 0 → (p0.toInt < p1.toInt ∨ p2.toInt < p0.toInt))) (fun (_ : Unit) (_ : State) => True) (va_A [] sz)) 0 0 (va_A [] sz) := by
  refine Met.ofW (cc := cX11_in) (maxL := 3) (ret := (some .boolean)) (by decide) rfl ?_
  intro p e s m args below meth c s₁ B hml hv
  obtain ⟨hargs, hsz, hP, hK, hT⟩ := hv
  have hx := B.exec
  have hb := B.bytes
  have hr := B.returns
  have hts : ∀ w ∈ wA, w.before args s = true := fun w h => atoms_spec (ws := .code yX11_in cX11_in 3 (some .boolean) :: wA) B.pre w (List.mem_cons_of_mem _ h)
  have hown : s.vm.findClass RX11 = some m.cls := findClass_of_methodNamed B.named
  have hlocks := B.notSynchronized
  subst hsz
  have hD : va_D (va_A [] s.heap.size) [] := zD0
  generalize hAe : va_A [] s.heap.size = A at hD ⊢
  have hA : ∀ q : Nat, s.heap.size ≤ q → A q := fun q h => by rw [← hAe]; exact Or.inr h
  have hl := lv_entry ([.int p0, .int p1, .int p2]) (n := 3) (Nat.le_of_ble_eq_true rfl)
  rw [show entryFrame m args 3 = entryFrame m ([.int p0, .int p1, .int p2] : List Value).toArray 3 by rw [hargs], lg_entry_eq]
  generalize (lg_sl ([.int p0, .int p1, .int p2]) ++ List.replicate (3 - (lg_sl ([.int p0, .int p1, .int p2])).length) Slot.unset).toArray = ls at hl ⊢
  have hl : lv_has ls 3 [(0, .int p0), (1, .int p1), (2, .int p2)] := hl
  refine zstart (fun H hH => ?_)
  rw [← hH] at hP
  have hS : va_S A s.heap H [] := by rw [hH]; exact va_S.rf
  generalize ([] : List Loc) = locs at hS ⊢
  refine zgen (fun R Q hR hQ => ?_)
  refine lv_iload_n hx hb dX11_in_0 rfl (lv_at hl 0 rfl) ?_
  refine lv_iload_n hx hb dX11_in_1 rfl (lv_at hl 1 rfl) ?_
  refine lv_icmp_lt (tgt := 14) hx hb dX11_in_2 (by decide) (fun c2 => ?_) (fun c2 => ?_)
  · have c2 : p0.toInt < p1.toInt := z1 rfl rfl c2
    refine lv_iconst (v := 0) hx hb dX11_in_14 (by decide) ?_
    have zr0 : (0 : Int32).toInt = 0 := by decide
    rw [hQ]
    exact W.zret (v := 0) (ty := .boolean) hx hb hr rfl (fun t ht hW => ⟨⟨0, (), rfl, ⟨by (try dsimp only); omega, by (try dsimp only); omega, by (try dsimp only); omega, by (try dsimp only); omega⟩, trivial⟩, hS.F ht⟩) hS.2.2 dX11_in_15
  · have c2 : p1.toInt ≤ p0.toInt := z2 rfl rfl c2
    refine lv_iload_n hx hb dX11_in_5 rfl (lv_at hl 0 rfl) ?_
    refine lv_iload_n hx hb dX11_in_6 rfl (lv_at hl 2 rfl) ?_
    refine lv_icmp_gt (tgt := 14) hx hb dX11_in_7 (by decide) (fun c7 => ?_) (fun c7 => ?_)
    · have c7 : p2.toInt < p0.toInt := z1 rfl rfl c7
      refine lv_iconst (v := 0) hx hb dX11_in_14 (by decide) ?_
      have zr0 : (0 : Int32).toInt = 0 := by decide
      rw [hQ]
      exact W.zret (v := 0) (ty := .boolean) hx hb hr rfl (fun t ht hW => ⟨⟨0, (), rfl, ⟨by (try dsimp only); omega, by (try dsimp only); omega, by (try dsimp only); omega, by (try dsimp only); omega⟩, trivial⟩, hS.F ht⟩) hS.2.2 dX11_in_15
    · have c7 : p0.toInt ≤ p2.toInt := z2 rfl rfl c7
      refine lv_iconst (v := 1) hx hb dX11_in_10 (by decide) ?_
      refine lv_goto (tgt := 15) hx hb dX11_in_11 (by decide) ?_
      have zr0 : (1 : Int32).toInt = 1 := by decide
      rw [hQ]
      exact W.zret (v := 1) (ty := .boolean) hx hb hr rfl (fun t ht hW => ⟨⟨1, (), rfl, ⟨by (try dsimp only); omega, by (try dsimp only); omega, by (try dsimp only); omega, by (try dsimp only); omega⟩, trivial⟩, hS.F ht⟩) hS.2.2 dX11_in_15
set_option maxHeartbeats 4000000 in
set_option maxRecDepth 100000 in
theorem g_X11_has (l : Launch) (dC : Nat → ClassId) (dI : Nat → Nat → Nat) (cI cJ : ClassId) (p0 : Int32) (p1 : Int32) (sz : Nat)     : Met l yX11_has (.code yX11_has cX11_has 2 (some .boolean) :: wA) ({ frames := 0, cells := 0, slots := 0, locals := 0 }) (zP (dC, dI) [(cI, .int), (cJ, .long)] [.int p0, .int p1] sz []) (va_Qi (fun (r : Int32) (u : Unit) => (0 ≤ r.toInt) ∧ (r.toInt ≤ 1) ∧ (r.toInt = ((p0 >>> (p1 &&& 31)) &&& 1).toInt) ∧ (r.toInt = (cBt p0 p1).toInt)) (fun (_ : Unit) (_ : State) => True) (va_A [] sz)) 0 0 (va_A [] sz) := by
  refine Met.ofW (cc := cX11_has) (maxL := 2) (ret := (some .boolean)) (by decide) rfl ?_
  intro p e s m args below meth c s₁ B hml hv
  obtain ⟨hargs, hsz, hP, hK, hT⟩ := hv
  have hx := B.exec
  have hb := B.bytes
  have hr := B.returns
  have hts : ∀ w ∈ wA, w.before args s = true := fun w h => atoms_spec (ws := .code yX11_has cX11_has 2 (some .boolean) :: wA) B.pre w (List.mem_cons_of_mem _ h)
  have hown : s.vm.findClass RX11 = some m.cls := findClass_of_methodNamed B.named
  have hlocks := B.notSynchronized
  subst hsz
  have hD : va_D (va_A [] s.heap.size) [] := zD0
  generalize hAe : va_A [] s.heap.size = A at hD ⊢
  have hA : ∀ q : Nat, s.heap.size ≤ q → A q := fun q h => by rw [← hAe]; exact Or.inr h
  have hl := lv_entry ([.int p0, .int p1]) (n := 2) (Nat.le_of_ble_eq_true rfl)
  rw [show entryFrame m args 2 = entryFrame m ([.int p0, .int p1] : List Value).toArray 2 by rw [hargs], lg_entry_eq]
  generalize (lg_sl ([.int p0, .int p1]) ++ List.replicate (2 - (lg_sl ([.int p0, .int p1])).length) Slot.unset).toArray = ls at hl ⊢
  have hl : lv_has ls 2 [(0, .int p0), (1, .int p1)] := hl
  refine zstart (fun H hH => ?_)
  rw [← hH] at hP
  have hS : va_S A s.heap H [] := by rw [hH]; exact va_S.rf
  generalize ([] : List Loc) = locs at hS ⊢
  refine zgen (fun R Q hR hQ => ?_)
  refine lv_iload_n hx hb dX11_has_0 rfl (lv_at hl 0 rfl) ?_
  refine lv_iload_n hx hb dX11_has_1 rfl (lv_at hl 1 rfl) ?_
  refine lv_ishr hx hb dX11_has_2 ?_
  refine lv_topi (fun v2 e2 => ?_)
  refine lv_iconst (v := 1) hx hb dX11_has_3 (by decide) ?_
  refine lv_iand hx hb dX11_has_4 ?_
  refine lv_topi (fun v4 e4 => ?_)
  have i4 : v4.toInt = ((p0 >>> (p1 &&& 31)) &&& 1).toInt ∧ 0 ≤ v4.toInt ∧ v4.toInt ≤ 1 := ⟨by rw [e4, e2], zandr e4 (by decide) (by decide)⟩
  refine lv_iconst (v := 1) hx hb dX11_has_5 (by decide) ?_
  refine lv_icmp_ne (tgt := 13) hx hb dX11_has_6 (by decide) (fun c6 => ?_) (fun c6 => ?_)
  · have c6 : ¬ v4.toInt = 1 := z6 rfl (by decide) c6
    refine lv_iconst (v := 0) hx hb dX11_has_13 (by decide) ?_
    have zr0 : (0 : Int32).toInt = 0 := by decide
    rw [hQ]
    exact W.zret (v := 0) (ty := .boolean) hx hb hr rfl (fun t ht hW => ⟨⟨0, (), rfl, ⟨by (try dsimp only); omega, by (try dsimp only); omega, by (try dsimp only); omega, by (try dsimp only); show _ = ((p0 >>> (p1 &&& 31)) &&& 1).toInt; omega⟩, trivial⟩, hS.F ht⟩) hS.2.2 dX11_has_14
  · have c6 : v4.toInt = 1 := z5 rfl (by decide) c6
    refine lv_iconst (v := 1) hx hb dX11_has_9 (by decide) ?_
    refine lv_goto (tgt := 14) hx hb dX11_has_10 (by decide) ?_
    have zr0 : (1 : Int32).toInt = 1 := by decide
    rw [hQ]
    exact W.zret (v := 1) (ty := .boolean) hx hb hr rfl (fun t ht hW => ⟨⟨1, (), rfl, ⟨by (try dsimp only); omega, by (try dsimp only); omega, by (try dsimp only); omega, by (try dsimp only); show _ = ((p0 >>> (p1 &&& 31)) &&& 1).toInt; omega⟩, trivial⟩, hS.F ht⟩) hS.2.2 dX11_has_14
set_option maxHeartbeats 4000000 in
set_option maxRecDepth 100000 in
theorem g_X11_isDigit (l : Launch) (dC : Nat → ClassId) (dI : Nat → Nat → Nat) (cI cJ : ClassId) (p0 : Int32) (sz : Nat)     : Met l yX11_isDigit (.code yX11_isDigit cX11_isDigit 1 (some .boolean) :: wA) ({ frames := 0, cells := 0, slots := 0, locals := 0 }) (zP (dC, dI) [(cI, .int), (cJ, .long)] [.int p0] sz []) (va_Qi (fun (r : Int32) (u : Unit) => (0 ≤ r.toInt) ∧ (r.toInt ≤ 1) ∧ (¬ r.toInt = 0 → (48 ≤ p0.toInt ∧ p0.toInt ≤ 57)) ∧ (zIs (oG p0.toInt) r)) (fun (_ : Unit) (_ : State) => True) (va_A [] sz)) 0 0 (va_A [] sz) := by
  refine Met.ofW (cc := cX11_isDigit) (maxL := 1) (ret := (some .boolean)) (by decide) rfl ?_
  intro p e s m args below meth c s₁ B hml hv
  obtain ⟨hargs, hsz, hP, hK, hT⟩ := hv
  have hx := B.exec
  have hb := B.bytes
  have hr := B.returns
  have hts : ∀ w ∈ wA, w.before args s = true := fun w h => atoms_spec (ws := .code yX11_isDigit cX11_isDigit 1 (some .boolean) :: wA) B.pre w (List.mem_cons_of_mem _ h)
  have hown : s.vm.findClass RX11 = some m.cls := findClass_of_methodNamed B.named
  have hlocks := B.notSynchronized
  subst hsz
  have hD : va_D (va_A [] s.heap.size) [] := zD0
  generalize hAe : va_A [] s.heap.size = A at hD ⊢
  have hA : ∀ q : Nat, s.heap.size ≤ q → A q := fun q h => by rw [← hAe]; exact Or.inr h
  have hl := lv_entry ([.int p0]) (n := 1) (Nat.le_of_ble_eq_true rfl)
  rw [show entryFrame m args 1 = entryFrame m ([.int p0] : List Value).toArray 1 by rw [hargs], lg_entry_eq]
  generalize (lg_sl ([.int p0]) ++ List.replicate (1 - (lg_sl ([.int p0])).length) Slot.unset).toArray = ls at hl ⊢
  have hl : lv_has ls 1 [(0, .int p0)] := hl
  refine zstart (fun H hH => ?_)
  rw [← hH] at hP
  have hS : va_S A s.heap H [] := by rw [hH]; exact va_S.rf
  generalize ([] : List Loc) = locs at hS ⊢
  refine zgen (fun R Q hR hQ => ?_)
  refine lv_iload_n hx hb dX11_isDigit_0 rfl (lv_at hl 0 rfl) ?_
  refine lv_bipush (v := 48) hx hb dX11_isDigit_1 (by decide) ?_
  refine lv_icmp_lt (tgt := 16) hx hb dX11_isDigit_3 (by decide) (fun c3 => ?_) (fun c3 => ?_)
  · have c3 : p0.toInt < 48 := z1 rfl (by decide) c3
    refine lv_iconst (v := 0) hx hb dX11_isDigit_16 (by decide) ?_
    have zr0 : (0 : Int32).toInt = 0 := by decide
    rw [hQ]
    exact W.zret (v := 0) (ty := .boolean) hx hb hr rfl (fun t ht hW => ⟨⟨0, (), rfl, ⟨by (try dsimp only); omega, by (try dsimp only); omega, by (try dsimp only); omega, by (try dsimp only); exact zIsN (fun q => by have := oG_iff.mp q; omega)⟩, trivial⟩, hS.F ht⟩) hS.2.2 dX11_isDigit_17
  · have c3 : 48 ≤ p0.toInt := z2 rfl (by decide) c3
    refine lv_iload_n hx hb dX11_isDigit_6 rfl (lv_at hl 0 rfl) ?_
    refine lv_bipush (v := 57) hx hb dX11_isDigit_7 (by decide) ?_
    refine lv_icmp_gt (tgt := 16) hx hb dX11_isDigit_9 (by decide) (fun c9 => ?_) (fun c9 => ?_)
    · have c9 : 57 < p0.toInt := z1 (by decide) rfl c9
      refine lv_iconst (v := 0) hx hb dX11_isDigit_16 (by decide) ?_
      have zr0 : (0 : Int32).toInt = 0 := by decide
      rw [hQ]
      exact W.zret (v := 0) (ty := .boolean) hx hb hr rfl (fun t ht hW => ⟨⟨0, (), rfl, ⟨by (try dsimp only); omega, by (try dsimp only); omega, by (try dsimp only); omega, by (try dsimp only); exact zIsN (fun q => by have := oG_iff.mp q; omega)⟩, trivial⟩, hS.F ht⟩) hS.2.2 dX11_isDigit_17
    · have c9 : p0.toInt ≤ 57 := z2 (by decide) rfl c9
      refine lv_iconst (v := 1) hx hb dX11_isDigit_12 (by decide) ?_
      refine lv_goto (tgt := 17) hx hb dX11_isDigit_13 (by decide) ?_
      have zr0 : (1 : Int32).toInt = 1 := by decide
      rw [hQ]
      exact W.zret (v := 1) (ty := .boolean) hx hb hr rfl (fun t ht hW => ⟨⟨1, (), rfl, ⟨by (try dsimp only); omega, by (try dsimp only); omega, by (try dsimp only); omega, by (try dsimp only); exact zIsT (oG_iff.mpr (by omega))⟩, trivial⟩, hS.F ht⟩) hS.2.2 dX11_isDigit_17
set_option maxHeartbeats 4000000 in
set_option maxRecDepth 100000 in
theorem g_X11_byteOf (l : Launch) (dC : Nat → ClassId) (dI : Nat → Nat → Nat) (cI cJ : ClassId) (p0 : Int32) (p1 : Int32) (p2 : Int32) (p3 : Int32) (p4 : Int32) (p5 : Int32) (sz : Nat)     : Met l yX11_byteOf (.code yX11_byteOf cX11_byteOf 7 (some .int) :: wA) ({ frames := 0, cells := 0, slots := 0, locals := 0 }) (zP (dC, dI) [(cI, .int), (cJ, .long)] [.int p0, .int p1, .int p2, .int p3, .int p4, .int p5] sz []) (va_Qi (fun (r : Int32) (u : Unit) => (0 ≤ r.toInt) ∧ (r.toInt ≤ 255) ∧ (r = zBy p0 p1 p2 p3 p4 p5)) (fun (_ : Unit) (_ : State) => True) (va_A [] sz)) 0 0 (va_A [] sz) := by
  refine Met.ofW (cc := cX11_byteOf) (maxL := 7) (ret := (some .int)) (by decide) rfl ?_
  intro p e s m args below meth c s₁ B hml hv
  obtain ⟨hargs, hsz, hP, hK, hT⟩ := hv
  have hx := B.exec
  have hb := B.bytes
  have hr := B.returns
  have hts : ∀ w ∈ wA, w.before args s = true := fun w h => atoms_spec (ws := .code yX11_byteOf cX11_byteOf 7 (some .int) :: wA) B.pre w (List.mem_cons_of_mem _ h)
  have hown : s.vm.findClass RX11 = some m.cls := findClass_of_methodNamed B.named
  have hlocks := B.notSynchronized
  subst hsz
  have hD : va_D (va_A [] s.heap.size) [] := zD0
  generalize hAe : va_A [] s.heap.size = A at hD ⊢
  have hA : ∀ q : Nat, s.heap.size ≤ q → A q := fun q h => by rw [← hAe]; exact Or.inr h
  have hl := lv_entry ([.int p0, .int p1, .int p2, .int p3, .int p4, .int p5]) (n := 7) (Nat.le_of_ble_eq_true rfl)
  rw [show entryFrame m args 7 = entryFrame m ([.int p0, .int p1, .int p2, .int p3, .int p4, .int p5] : List Value).toArray 7 by rw [hargs], lg_entry_eq]
  generalize (lg_sl ([.int p0, .int p1, .int p2, .int p3, .int p4, .int p5]) ++ List.replicate (7 - (lg_sl ([.int p0, .int p1, .int p2, .int p3, .int p4, .int p5])).length) Slot.unset).toArray = ls at hl ⊢
  have hl : lv_has ls 7 [(0, .int p0), (1, .int p1), (2, .int p2), (3, .int p3), (4, .int p4), (5, .int p5)] := hl
  refine zstart (fun H hH => ?_)
  rw [← hH] at hP
  have hS : va_S A s.heap H [] := by rw [hH]; exact va_S.rf
  generalize ([] : List Loc) = locs at hS ⊢
  refine zgen (fun R Q hR hQ => ?_)
  refine lv_iload hx hb dX11_byteOf_0 (lv_at hl 5 rfl) ?_
  refine lv_iconst (v := 4) hx hb dX11_byteOf_2 (by decide) ?_
  refine lv_icmp_ge (tgt := 10) hx hb dX11_byteOf_3 (by decide) (fun c3 => ?_) (fun c3 => ?_)
  · have c3 : 4 ≤ p5.toInt := z3 (by decide) rfl c3
    refine lv_iload hx hb dX11_byteOf_10 (lv_at hl 5 rfl) ?_
    refine lv_bipush (v := 8) hx hb dX11_byteOf_12 (by decide) ?_
    refine lv_icmp_ge (tgt := 21) hx hb dX11_byteOf_14 (by decide) (fun c14 => ?_) (fun c14 => ?_)
    · have c14 : 8 ≤ p5.toInt := z3 (by decide) rfl c14
      refine lv_iload hx hb dX11_byteOf_21 (lv_at hl 5 rfl) ?_
      refine lv_bipush (v := 12) hx hb dX11_byteOf_23 (by decide) ?_
      refine lv_icmp_ge (tgt := 32) hx hb dX11_byteOf_25 (by decide) (fun c25 => ?_) (fun c25 => ?_)
      · have c25 : 12 ≤ p5.toInt := z3 (by decide) rfl c25
        refine lv_iload hx hb dX11_byteOf_32 (lv_at hl 5 rfl) ?_
        refine lv_bipush (v := 16) hx hb dX11_byteOf_34 (by decide) ?_
        refine lv_icmp_ge (tgt := 43) hx hb dX11_byteOf_36 (by decide) (fun c36 => ?_) (fun c36 => ?_)
        · have c36 : 16 ≤ p5.toInt := z3 (by decide) rfl c36
          refine lv_iload hx hb dX11_byteOf_43 (lv_at hl 4 rfl) ?_
          refine lv_istore (lv' := [(6, .int p4), (0, .int p0), (1, .int p1), (2, .int p2), (3, .int p3), (4, .int p4), (5, .int p5)]) hx hb dX11_byteOf_45 hl (by decide) rfl (fun ls hl => ?_)
          refine lv_iload hx hb dX11_byteOf_47 (lv_at hl 0 rfl) ?_
          refine lv_bipush (v := 24) hx hb dX11_byteOf_49 (by decide) ?_
          refine lv_bipush (v := 8) hx hb dX11_byteOf_51 (by decide) ?_
          refine lv_iload hx hb dX11_byteOf_53 (lv_at hl 6 rfl) ?_
          refine lv_iconst (v := 4) hx hb dX11_byteOf_55 (by decide) ?_
          refine lv_irem hx hb dX11_byteOf_56 (by decide) ?_
          refine lv_topi (fun v56 e56 => ?_)
          have i56 : v56.toInt = p5.toInt % 4 := zrem e56 rfl (by decide) (by omega) (by omega)
          refine lv_imul hx hb dX11_byteOf_57 ?_
          refine lv_topi (fun v57 e57 => ?_)
          have i57 : v57.toInt = 8 * v56.toInt := zmul e57 (by decide) rfl (by omega) (by omega)
          refine lv_isub hx hb dX11_byteOf_58 ?_
          refine lv_topi (fun v58 e58 => ?_)
          have i58 : v58.toInt = 24 - v57.toInt := zsub e58 (by decide) rfl (by omega) (by omega)
          refine lv_ishr hx hb dX11_byteOf_59 ?_
          refine lv_topi (fun v59 e59 => ?_)
          refine lv_sipush (v := 255) hx hb dX11_byteOf_60 (by decide) ?_
          refine lv_iand hx hb dX11_byteOf_63 ?_
          refine lv_topi (fun v63 e63 => ?_)
          have i63 : 0 ≤ v63.toInt ∧ v63.toInt ≤ 255 := zandr e63 (by decide) (by decide)
          rw [hQ]
          exact W.iret (v := v63) hx hb hr (fun t ht hW => ⟨⟨v63, (), rfl, ⟨by (try dsimp only); omega, by (try dsimp only); omega, by unfold zBy; rw [e63, e59, e58, e57, e56]; first | rw [if_pos (by omega)] | rw [if_neg (by omega), if_pos (by omega)] | rw [if_neg (by omega), if_neg (by omega), if_pos (by omega)] | rw [if_neg (by omega), if_neg (by omega), if_neg (by omega), if_pos (by omega)] | rw [if_neg (by omega), if_neg (by omega), if_neg (by omega), if_neg (by omega)]⟩, trivial⟩, hS.F ht⟩) hS.2.2 dX11_byteOf_64
        · have c36 : p5.toInt < 16 := z4 (by decide) rfl c36
          refine lv_iload_n hx hb dX11_byteOf_39 rfl (lv_at hl 3 rfl) ?_
          refine lv_goto (tgt := 45) hx hb dX11_byteOf_40 (by decide) ?_
          refine lv_istore (lv' := [(6, .int p3), (0, .int p0), (1, .int p1), (2, .int p2), (3, .int p3), (4, .int p4), (5, .int p5)]) hx hb dX11_byteOf_45 hl (by decide) rfl (fun ls hl => ?_)
          refine lv_iload hx hb dX11_byteOf_47 (lv_at hl 0 rfl) ?_
          refine lv_bipush (v := 24) hx hb dX11_byteOf_49 (by decide) ?_
          refine lv_bipush (v := 8) hx hb dX11_byteOf_51 (by decide) ?_
          refine lv_iload hx hb dX11_byteOf_53 (lv_at hl 6 rfl) ?_
          refine lv_iconst (v := 4) hx hb dX11_byteOf_55 (by decide) ?_
          refine lv_irem hx hb dX11_byteOf_56 (by decide) ?_
          refine lv_topi (fun v56 e56 => ?_)
          have i56 : v56.toInt = p5.toInt % 4 := zrem e56 rfl (by decide) (by omega) (by omega)
          refine lv_imul hx hb dX11_byteOf_57 ?_
          refine lv_topi (fun v57 e57 => ?_)
          have i57 : v57.toInt = 8 * v56.toInt := zmul e57 (by decide) rfl (by omega) (by omega)
          refine lv_isub hx hb dX11_byteOf_58 ?_
          refine lv_topi (fun v58 e58 => ?_)
          have i58 : v58.toInt = 24 - v57.toInt := zsub e58 (by decide) rfl (by omega) (by omega)
          refine lv_ishr hx hb dX11_byteOf_59 ?_
          refine lv_topi (fun v59 e59 => ?_)
          refine lv_sipush (v := 255) hx hb dX11_byteOf_60 (by decide) ?_
          refine lv_iand hx hb dX11_byteOf_63 ?_
          refine lv_topi (fun v63 e63 => ?_)
          have i63 : 0 ≤ v63.toInt ∧ v63.toInt ≤ 255 := zandr e63 (by decide) (by decide)
          rw [hQ]
          exact W.iret (v := v63) hx hb hr (fun t ht hW => ⟨⟨v63, (), rfl, ⟨by (try dsimp only); omega, by (try dsimp only); omega, by unfold zBy; rw [e63, e59, e58, e57, e56]; first | rw [if_pos (by omega)] | rw [if_neg (by omega), if_pos (by omega)] | rw [if_neg (by omega), if_neg (by omega), if_pos (by omega)] | rw [if_neg (by omega), if_neg (by omega), if_neg (by omega), if_pos (by omega)] | rw [if_neg (by omega), if_neg (by omega), if_neg (by omega), if_neg (by omega)]⟩, trivial⟩, hS.F ht⟩) hS.2.2 dX11_byteOf_64
      · have c25 : p5.toInt < 12 := z4 (by decide) rfl c25
        refine lv_iload_n hx hb dX11_byteOf_28 rfl (lv_at hl 2 rfl) ?_
        refine lv_goto (tgt := 45) hx hb dX11_byteOf_29 (by decide) ?_
        refine lv_istore (lv' := [(6, .int p2), (0, .int p0), (1, .int p1), (2, .int p2), (3, .int p3), (4, .int p4), (5, .int p5)]) hx hb dX11_byteOf_45 hl (by decide) rfl (fun ls hl => ?_)
        refine lv_iload hx hb dX11_byteOf_47 (lv_at hl 0 rfl) ?_
        refine lv_bipush (v := 24) hx hb dX11_byteOf_49 (by decide) ?_
        refine lv_bipush (v := 8) hx hb dX11_byteOf_51 (by decide) ?_
        refine lv_iload hx hb dX11_byteOf_53 (lv_at hl 6 rfl) ?_
        refine lv_iconst (v := 4) hx hb dX11_byteOf_55 (by decide) ?_
        refine lv_irem hx hb dX11_byteOf_56 (by decide) ?_
        refine lv_topi (fun v56 e56 => ?_)
        have i56 : v56.toInt = p5.toInt % 4 := zrem e56 rfl (by decide) (by omega) (by omega)
        refine lv_imul hx hb dX11_byteOf_57 ?_
        refine lv_topi (fun v57 e57 => ?_)
        have i57 : v57.toInt = 8 * v56.toInt := zmul e57 (by decide) rfl (by omega) (by omega)
        refine lv_isub hx hb dX11_byteOf_58 ?_
        refine lv_topi (fun v58 e58 => ?_)
        have i58 : v58.toInt = 24 - v57.toInt := zsub e58 (by decide) rfl (by omega) (by omega)
        refine lv_ishr hx hb dX11_byteOf_59 ?_
        refine lv_topi (fun v59 e59 => ?_)
        refine lv_sipush (v := 255) hx hb dX11_byteOf_60 (by decide) ?_
        refine lv_iand hx hb dX11_byteOf_63 ?_
        refine lv_topi (fun v63 e63 => ?_)
        have i63 : 0 ≤ v63.toInt ∧ v63.toInt ≤ 255 := zandr e63 (by decide) (by decide)
        rw [hQ]
        exact W.iret (v := v63) hx hb hr (fun t ht hW => ⟨⟨v63, (), rfl, ⟨by (try dsimp only); omega, by (try dsimp only); omega, by unfold zBy; rw [e63, e59, e58, e57, e56]; first | rw [if_pos (by omega)] | rw [if_neg (by omega), if_pos (by omega)] | rw [if_neg (by omega), if_neg (by omega), if_pos (by omega)] | rw [if_neg (by omega), if_neg (by omega), if_neg (by omega), if_pos (by omega)] | rw [if_neg (by omega), if_neg (by omega), if_neg (by omega), if_neg (by omega)]⟩, trivial⟩, hS.F ht⟩) hS.2.2 dX11_byteOf_64
    · have c14 : p5.toInt < 8 := z4 (by decide) rfl c14
      refine lv_iload_n hx hb dX11_byteOf_17 rfl (lv_at hl 1 rfl) ?_
      refine lv_goto (tgt := 45) hx hb dX11_byteOf_18 (by decide) ?_
      refine lv_istore (lv' := [(6, .int p1), (0, .int p0), (1, .int p1), (2, .int p2), (3, .int p3), (4, .int p4), (5, .int p5)]) hx hb dX11_byteOf_45 hl (by decide) rfl (fun ls hl => ?_)
      refine lv_iload hx hb dX11_byteOf_47 (lv_at hl 0 rfl) ?_
      refine lv_bipush (v := 24) hx hb dX11_byteOf_49 (by decide) ?_
      refine lv_bipush (v := 8) hx hb dX11_byteOf_51 (by decide) ?_
      refine lv_iload hx hb dX11_byteOf_53 (lv_at hl 6 rfl) ?_
      refine lv_iconst (v := 4) hx hb dX11_byteOf_55 (by decide) ?_
      refine lv_irem hx hb dX11_byteOf_56 (by decide) ?_
      refine lv_topi (fun v56 e56 => ?_)
      have i56 : v56.toInt = p5.toInt % 4 := zrem e56 rfl (by decide) (by omega) (by omega)
      refine lv_imul hx hb dX11_byteOf_57 ?_
      refine lv_topi (fun v57 e57 => ?_)
      have i57 : v57.toInt = 8 * v56.toInt := zmul e57 (by decide) rfl (by omega) (by omega)
      refine lv_isub hx hb dX11_byteOf_58 ?_
      refine lv_topi (fun v58 e58 => ?_)
      have i58 : v58.toInt = 24 - v57.toInt := zsub e58 (by decide) rfl (by omega) (by omega)
      refine lv_ishr hx hb dX11_byteOf_59 ?_
      refine lv_topi (fun v59 e59 => ?_)
      refine lv_sipush (v := 255) hx hb dX11_byteOf_60 (by decide) ?_
      refine lv_iand hx hb dX11_byteOf_63 ?_
      refine lv_topi (fun v63 e63 => ?_)
      have i63 : 0 ≤ v63.toInt ∧ v63.toInt ≤ 255 := zandr e63 (by decide) (by decide)
      rw [hQ]
      exact W.iret (v := v63) hx hb hr (fun t ht hW => ⟨⟨v63, (), rfl, ⟨by (try dsimp only); omega, by (try dsimp only); omega, by unfold zBy; rw [e63, e59, e58, e57, e56]; first | rw [if_pos (by omega)] | rw [if_neg (by omega), if_pos (by omega)] | rw [if_neg (by omega), if_neg (by omega), if_pos (by omega)] | rw [if_neg (by omega), if_neg (by omega), if_neg (by omega), if_pos (by omega)] | rw [if_neg (by omega), if_neg (by omega), if_neg (by omega), if_neg (by omega)]⟩, trivial⟩, hS.F ht⟩) hS.2.2 dX11_byteOf_64
  · have c3 : p5.toInt < 4 := z4 (by decide) rfl c3
    refine lv_iload_n hx hb dX11_byteOf_6 rfl (lv_at hl 0 rfl) ?_
    refine lv_goto (tgt := 45) hx hb dX11_byteOf_7 (by decide) ?_
    refine lv_istore (lv' := [(6, .int p0), (0, .int p0), (1, .int p1), (2, .int p2), (3, .int p3), (4, .int p4), (5, .int p5)]) hx hb dX11_byteOf_45 hl (by decide) rfl (fun ls hl => ?_)
    refine lv_iload hx hb dX11_byteOf_47 (lv_at hl 0 rfl) ?_
    refine lv_bipush (v := 24) hx hb dX11_byteOf_49 (by decide) ?_
    refine lv_bipush (v := 8) hx hb dX11_byteOf_51 (by decide) ?_
    refine lv_iload hx hb dX11_byteOf_53 (lv_at hl 6 rfl) ?_
    refine lv_iconst (v := 4) hx hb dX11_byteOf_55 (by decide) ?_
    refine lv_irem hx hb dX11_byteOf_56 (by decide) ?_
    refine lv_topi (fun v56 e56 => ?_)
    refine lv_imul hx hb dX11_byteOf_57 ?_
    refine lv_topi (fun v57 e57 => ?_)
    refine lv_isub hx hb dX11_byteOf_58 ?_
    refine lv_topi (fun v58 e58 => ?_)
    refine lv_ishr hx hb dX11_byteOf_59 ?_
    refine lv_topi (fun v59 e59 => ?_)
    refine lv_sipush (v := 255) hx hb dX11_byteOf_60 (by decide) ?_
    refine lv_iand hx hb dX11_byteOf_63 ?_
    refine lv_topi (fun v63 e63 => ?_)
    have i63 : 0 ≤ v63.toInt ∧ v63.toInt ≤ 255 := zandr e63 (by decide) (by decide)
    rw [hQ]
    exact W.iret (v := v63) hx hb hr (fun t ht hW => ⟨⟨v63, (), rfl, ⟨by (try dsimp only); omega, by (try dsimp only); omega, by unfold zBy; rw [e63, e59, e58, e57, e56]; first | rw [if_pos (by omega)] | rw [if_neg (by omega), if_pos (by omega)] | rw [if_neg (by omega), if_neg (by omega), if_pos (by omega)] | rw [if_neg (by omega), if_neg (by omega), if_neg (by omega), if_pos (by omega)] | rw [if_neg (by omega), if_neg (by omega), if_neg (by omega), if_neg (by omega)]⟩, trivial⟩, hS.F ht⟩) hS.2.2 dX11_byteOf_64
set_option maxHeartbeats 4000000 in
set_option maxRecDepth 100000 in
theorem g_X11_end (l : Launch) (dC : Nat → ClassId) (dI : Nat → Nat → Nat) (cI cJ : ClassId) (h0 : Nat) (p0 : Int32) (th : Int32) (tB : Nat) (tsz : Int32) (tat : Int32) (wr : Int32) (dp : Int32) (rC : Nat) (rV : Nat) (rD : Nat) (rK : Nat) (rT : Nat) (rS : Nat) (rU : Nat) (lw : Int32) (tx : Int32) (rL : Nat) (rX : Nat) (qR : Nat) (qB : Nat) (qP : Nat) (qnb : Int32) (qnp : Int32) (aR : Nat) (aB : Nat) (aP : Nat) (nb : Int32) (np : Int32) (aN : Nat) (rf : Nat) (ho : Int32) (br : Int32) (aK : Nat) (ac : Int32) (dw : Int64) (aE : Nat) (sr : Int32) (sf : Int32) (aA : Nat) (aH : Nat) (aI : Nat) (hi : Int32) (sz : Nat) (n_ac : 0 ≤ ac.toInt ∧ ac.toInt ≤ 40) (n_hi : 0 ≤ hi.toInt ∧ hi.toInt ≤ 1) (n_ho : (-1) ≤ ho.toInt ∧ ho.toInt ≤ 3) (n_lw : 0 ≤ lw.toInt ∧ lw.toInt ≤ 4) (n_nb : 0 ≤ nb.toInt ∧ nb.toInt ≤ 6) (n_np : 0 ≤ np.toInt ∧ np.toInt ≤ 5) (n_qnb : 0 ≤ qnb.toInt ∧ qnb.toInt ≤ 6) (n_qnp : 0 ≤ qnp.toInt ∧ qnp.toInt ≤ 5) (n_tat : 0 ≤ tat.toInt ∧ tat.toInt ≤ 260) (n_tsz : 0 ≤ tsz.toInt ∧ tsz.toInt ≤ 240) (n_wr : (-1) ≤ wr.toInt ∧ wr.toInt ≤ 260)    : Met l yX11_end (.code yX11_end cX11_end 2 (some .boolean) :: wA) ({ frames := 0, cells := 0, slots := 0, locals := 0 }) (zP (dC, dI) [(cI, .int), (cJ, .long)] [.ref h0, .int p0] sz [(h0, .inr (11, [.int th, .ref tB, .int tsz, .int tat, .int wr, .int dp, .ref rC, .ref rV, .ref rD, .ref rK, .ref rT, .ref rS, .ref rU, .int lw, .int tx, .ref rL, .ref rX, .ref qR, .ref qB, .ref qP, .int qnb, .int qnp, .ref aR, .ref aB, .ref aP, .int nb, .int np, .ref aN, .ref rf, .int ho, .int br, .ref aK, .int ac, .long dw, .ref aE, .int sr, .int sf, .ref aA, .ref aH, .ref aI, .int hi]))]) (va_Qi (fun (r : Int32) (u : Int32) => (0 ≤ r.toInt) ∧ (r.toInt ≤ 1) ∧ (0 ≤ u.toInt) ∧ (u.toInt ≤ 240) ∧ ((r.toInt = 1 ∧ 0 ≤ p0.toInt ∧ p0.toInt ≤ tsz.toInt ∧ u.toInt = p0.toInt) ∨ (r.toInt = 0 ∧ ¬ (0 ≤ p0.toInt ∧ p0.toInt ≤ tsz.toInt) ∧ u.toInt = tsz.toInt))) (fun (u : Int32) (t : State) => va_P (dC, dI) vwCl [(h0, .inr (11, [.int th, .ref tB, .int u, .int tat, .int wr, .int dp, .ref rC, .ref rV, .ref rD, .ref rK, .ref rT, .ref rS, .ref rU, .int lw, .int tx, .ref rL, .ref rX, .ref qR, .ref qB, .ref qP, .int qnb, .int qnp, .ref aR, .ref aB, .ref aP, .int nb, .int np, .ref aN, .ref rf, .int ho, .int br, .ref aK, .int ac, .long dw, .ref aE, .int sr, .int sf, .ref aA, .ref aH, .ref aI, .int hi]))] t.heap ∧ va_D (va_A [(h0, .inr (11, [.int th, .ref tB, .int tsz, .int tat, .int wr, .int dp, .ref rC, .ref rV, .ref rD, .ref rK, .ref rT, .ref rS, .ref rU, .int lw, .int tx, .ref rL, .ref rX, .ref qR, .ref qB, .ref qP, .int qnb, .int qnp, .ref aR, .ref aB, .ref aP, .int nb, .int np, .ref aN, .ref rf, .int ho, .int br, .ref aK, .int ac, .long dw, .ref aE, .int sr, .int sf, .ref aA, .ref aH, .ref aI, .int hi]))] sz) [(h0, .inr (11, [.int th, .ref tB, .int u, .int tat, .int wr, .int dp, .ref rC, .ref rV, .ref rD, .ref rK, .ref rT, .ref rS, .ref rU, .int lw, .int tx, .ref rL, .ref rX, .ref qR, .ref qB, .ref qP, .int qnb, .int qnp, .ref aR, .ref aB, .ref aP, .int nb, .int np, .ref aN, .ref rf, .int ho, .int br, .ref aK, .int ac, .long dw, .ref aE, .int sr, .int sf, .ref aA, .ref aH, .ref aI, .int hi]))]) (va_A [(h0, .inr (11, [.int th, .ref tB, .int tsz, .int tat, .int wr, .int dp, .ref rC, .ref rV, .ref rD, .ref rK, .ref rT, .ref rS, .ref rU, .int lw, .int tx, .ref rL, .ref rX, .ref qR, .ref qB, .ref qP, .int qnb, .int qnp, .ref aR, .ref aB, .ref aP, .int nb, .int np, .ref aN, .ref rf, .int ho, .int br, .ref aK, .int ac, .long dw, .ref aE, .int sr, .int sf, .ref aA, .ref aH, .ref aI, .int hi]))] sz)) 0 0 (va_A [(h0, .inr (11, [.int th, .ref tB, .int tsz, .int tat, .int wr, .int dp, .ref rC, .ref rV, .ref rD, .ref rK, .ref rT, .ref rS, .ref rU, .int lw, .int tx, .ref rL, .ref rX, .ref qR, .ref qB, .ref qP, .int qnb, .int qnp, .ref aR, .ref aB, .ref aP, .int nb, .int np, .ref aN, .ref rf, .int ho, .int br, .ref aK, .int ac, .long dw, .ref aE, .int sr, .int sf, .ref aA, .ref aH, .ref aI, .int hi]))] sz) := by
  refine Met.ofW (cc := cX11_end) (maxL := 2) (ret := (some .boolean)) (by decide) rfl ?_
  intro p e s m args below meth c s₁ B hml hv
  have y_ac : zHid (0 ≤ ac.toInt ∧ ac.toInt ≤ 40) := n_ac
  have y_hi : zHid (0 ≤ hi.toInt ∧ hi.toInt ≤ 1) := n_hi
  have y_ho : zHid ((-1) ≤ ho.toInt ∧ ho.toInt ≤ 3) := n_ho
  have y_lw : zHid (0 ≤ lw.toInt ∧ lw.toInt ≤ 4) := n_lw
  have y_nb : zHid (0 ≤ nb.toInt ∧ nb.toInt ≤ 6) := n_nb
  have y_np : zHid (0 ≤ np.toInt ∧ np.toInt ≤ 5) := n_np
  have y_qnb : zHid (0 ≤ qnb.toInt ∧ qnb.toInt ≤ 6) := n_qnb
  have y_qnp : zHid (0 ≤ qnp.toInt ∧ qnp.toInt ≤ 5) := n_qnp
  have y_tat : zHid (0 ≤ tat.toInt ∧ tat.toInt ≤ 260) := n_tat
  have y_wr : zHid ((-1) ≤ wr.toInt ∧ wr.toInt ≤ 260) := n_wr
  clear n_ac n_hi n_ho n_lw n_nb n_np n_qnb n_qnp n_tat n_wr
  obtain ⟨hargs, hsz, hP, hK, hT⟩ := hv
  have hx := B.exec
  have hb := B.bytes
  have hr := B.returns
  have hts : ∀ w ∈ wA, w.before args s = true := fun w h => atoms_spec (ws := .code yX11_end cX11_end 2 (some .boolean) :: wA) B.pre w (List.mem_cons_of_mem _ h)
  have hown : s.vm.findClass RX11 = some m.cls := findClass_of_methodNamed B.named
  have hlocks := B.notSynchronized
  subst hsz
  have hD := hT.self (sz := s.heap.size)
  generalize hAe : va_A [(h0, .inr (11, [.int th, .ref tB, .int tsz, .int tat, .int wr, .int dp, .ref rC, .ref rV, .ref rD, .ref rK, .ref rT, .ref rS, .ref rU, .int lw, .int tx, .ref rL, .ref rX, .ref qR, .ref qB, .ref qP, .int qnb, .int qnp, .ref aR, .ref aB, .ref aP, .int nb, .int np, .ref aN, .ref rf, .int ho, .int br, .ref aK, .int ac, .long dw, .ref aE, .int sr, .int sf, .ref aA, .ref aH, .ref aI, .int hi]))] s.heap.size = A at hD ⊢
  have hA : ∀ q : Nat, s.heap.size ≤ q → A q := fun q h => by rw [← hAe]; exact Or.inr h
  have hl := lv_entry ([.ref h0, .int p0]) (n := 2) (Nat.le_of_ble_eq_true rfl)
  rw [show entryFrame m args 2 = entryFrame m ([.ref h0, .int p0] : List Value).toArray 2 by rw [hargs], lg_entry_eq]
  generalize (lg_sl ([.ref h0, .int p0]) ++ List.replicate (2 - (lg_sl ([.ref h0, .int p0])).length) Slot.unset).toArray = ls at hl ⊢
  have hl : lv_has ls 2 [(0, .ref h0), (1, .int p0)] := hl
  refine zstart (fun H hH => ?_)
  rw [← hH] at hP
  have hS : va_S A s.heap H [] := by rw [hH]; exact va_S.rf
  generalize ([] : List Loc) = locs at hS ⊢
  refine zgen (fun R Q hR hQ => ?_)
  refine lv_iload_n hx hb dX11_end_0 rfl (lv_at hl 1 rfl) ?_
  refine lv_if_lt (tgt := 12) hx hb dX11_end_1 (by decide) (fun c1 => ?_) (fun c1 => ?_)
  · have c1 : p0.toInt < 0 := z1 rfl (by decide) c1
    refine lv_iconst (v := 0) hx hb dX11_end_12 (by decide) ?_
    have zr0 : (0 : Int32).toInt = 0 := by decide
    rw [hQ]
    exact W.zret (v := 0) (ty := .boolean) hx hb hr rfl (fun t ht hW => ⟨⟨0, tsz, rfl, ⟨by (try dsimp only); omega, by (try dsimp only); omega, by (try dsimp only); omega, by (try dsimp only); omega, by (try dsimp only); omega⟩, ⟨by rw [ht]; exact hP, hD⟩⟩, hS.F ht⟩) hS.2.2 dX11_end_13
  · have c1 : 0 ≤ p0.toInt := z2 rfl (by decide) c1
    refine lv_iload_n hx hb dX11_end_4 rfl (lv_at hl 1 rfl) ?_
    refine lv_aload_n hx hb dX11_end_5 rfl (lv_at hl 0 rfl) ?_
    refine va_get (D := (dC, dI)) (ci := 11) (v := .int tsz) (C := RX11) (T := TX11) (N := 41) hx hb hts iX11 hown hK hP 0 rfl rfl 2 (by decide) (hts _ qw1129) (fun _ h9 => h9) rfl dX11_end_6 ?_
    refine lv_icmp_le (tgt := 14) hx hb dX11_end_9 (by decide) (fun c9 => ?_) (fun c9 => ?_)
    · have c9 : p0.toInt ≤ tsz.toInt := z3 rfl rfl c9
      refine lv_aload_n hx hb dX11_end_14 rfl (lv_at hl 0 rfl) ?_
      refine lv_iload_n hx hb dX11_end_15 rfl (lv_at hl 1 rfl) ?_
      refine va_put (D := (dC, dI)) (ci := 11) (v := .int p0) (ty := .int) (C := RX11) (T := TX11) (N := 41) hx hb hts iX11 tyX11 tyX11_ok nmX11 hown hK hP hD hS 0 rfl rfl 2 (by decide) (hts _ qw1129) (fun _ h9 => h9) rfl (by decide +kernel) rfl rfl (Nat.le_of_ble_eq_true rfl) dX11_end_16 (fun H locs hP9 hD9 hS9 => ?_)
      clear hP hD hS
      obtain ⟨hP, hD⟩ := zst (wX := [(h0, .inr (11, [.int th, .ref tB, .int p0, .int tat, .int wr, .int dp, .ref rC, .ref rV, .ref rD, .ref rK, .ref rT, .ref rS, .ref rU, .int lw, .int tx, .ref rL, .ref rX, .ref qR, .ref qB, .ref qP, .int qnb, .int qnp, .ref aR, .ref aB, .ref aP, .int nb, .int np, .ref aN, .ref rf, .int ho, .int br, .ref aK, .int ac, .long dw, .ref aE, .int sr, .int sf, .ref aA, .ref aH, .ref aI, .int hi]))]) hP9 hD9 rfl
      have hS := hS9
      clear hP9 hD9 hS9
      refine lv_iconst (v := 1) hx hb dX11_end_19 (by decide) ?_
      have zr0 : (1 : Int32).toInt = 1 := by decide
      rw [hQ]
      exact W.zret (v := 1) (ty := .boolean) hx hb hr rfl (fun t ht hW => ⟨⟨1, p0, rfl, ⟨by (try dsimp only); omega, by (try dsimp only); omega, by (try dsimp only); omega, by (try dsimp only); omega, by (try dsimp only); omega⟩, ⟨by rw [ht]; exact hP, hD⟩⟩, hS.F ht⟩) hS.2.2 dX11_end_20
    · have c9 : tsz.toInt < p0.toInt := z4 rfl rfl c9
      refine lv_iconst (v := 0) hx hb dX11_end_12 (by decide) ?_
      have zr0 : (0 : Int32).toInt = 0 := by decide
      rw [hQ]
      exact W.zret (v := 0) (ty := .boolean) hx hb hr rfl (fun t ht hW => ⟨⟨0, tsz, rfl, ⟨by (try dsimp only); omega, by (try dsimp only); omega, by (try dsimp only); omega, by (try dsimp only); omega, by (try dsimp only); omega⟩, ⟨by rw [ht]; exact hP, hD⟩⟩, hS.F ht⟩) hS.2.2 dX11_end_13
set_option maxHeartbeats 4000000 in
set_option maxRecDepth 100000 in
theorem g_X11_here (l : Launch) (dC : Nat → ClassId) (dI : Nat → Nat → Nat) (cI cJ : ClassId) (h0 : Nat) (th : Int32) (tB : Nat) (tsz : Int32) (tat : Int32) (wr : Int32) (dp : Int32) (rC : Nat) (rV : Nat) (rD : Nat) (rK : Nat) (rT : Nat) (rS : Nat) (rU : Nat) (lw : Int32) (tx : Int32) (rL : Nat) (rX : Nat) (qR : Nat) (qB : Nat) (qP : Nat) (qnb : Int32) (qnp : Int32) (aR : Nat) (aB : Nat) (aP : Nat) (nb : Int32) (np : Int32) (aN : Nat) (rf : Nat) (ho : Int32) (br : Int32) (aK : Nat) (ac : Int32) (dw : Int64) (aE : Nat) (sr : Int32) (sf : Int32) (aA : Nat) (aH : Nat) (aI : Nat) (hi : Int32) (fB : Nat → Int32) (sz : Nat) (n_ac : 0 ≤ ac.toInt ∧ ac.toInt ≤ 40) (n_hi : 0 ≤ hi.toInt ∧ hi.toInt ≤ 1) (n_ho : (-1) ≤ ho.toInt ∧ ho.toInt ≤ 3) (n_lw : 0 ≤ lw.toInt ∧ lw.toInt ≤ 4) (n_nb : 0 ≤ nb.toInt ∧ nb.toInt ≤ 6) (n_np : 0 ≤ np.toInt ∧ np.toInt ≤ 5) (n_qnb : 0 ≤ qnb.toInt ∧ qnb.toInt ≤ 6) (n_qnp : 0 ≤ qnp.toInt ∧ qnp.toInt ≤ 5) (n_tat : 0 ≤ tat.toInt ∧ tat.toInt ≤ 260) (n_tsz : 0 ≤ tsz.toInt ∧ tsz.toInt ≤ 240) (n_wr : (-1) ≤ wr.toInt ∧ wr.toInt ≤ 260)    : Met l yX11_here (.code yX11_here cX11_here 1 (some .int) :: wA) ({ frames := 0, cells := 0, slots := 0, locals := 0 }) (zP (dC, dI) [(cI, .int), (cJ, .long)] [.ref h0] sz [(h0, .inr (11, [.int th, .ref tB, .int tsz, .int tat, .int wr, .int dp, .ref rC, .ref rV, .ref rD, .ref rK, .ref rT, .ref rS, .ref rU, .int lw, .int tx, .ref rL, .ref rX, .ref qR, .ref qB, .ref qP, .int qnb, .int qnp, .ref aR, .ref aB, .ref aP, .int nb, .int np, .ref aN, .ref rf, .int ho, .int br, .ref aK, .int ac, .long dw, .ref aE, .int sr, .int sf, .ref aA, .ref aH, .ref aI, .int hi])), (tB, .inl (cI, 240, .inl fB))]) (va_Qi (fun (r : Int32) (u : Unit) => (¬ r.toInt = -1 → tat.toInt < tsz.toInt) ∧ (r.toInt = sB fB tsz.toInt tat.toInt)) (fun (_ : Unit) (_ : State) => True) (va_A [] sz)) 0 0 (va_A [] sz) := by
  refine Met.ofW (cc := cX11_here) (maxL := 1) (ret := (some .int)) (by decide) rfl ?_
  intro p e s m args below meth c s₁ B hml hv
  have y_ac : zHid (0 ≤ ac.toInt ∧ ac.toInt ≤ 40) := n_ac
  have y_hi : zHid (0 ≤ hi.toInt ∧ hi.toInt ≤ 1) := n_hi
  have y_ho : zHid ((-1) ≤ ho.toInt ∧ ho.toInt ≤ 3) := n_ho
  have y_lw : zHid (0 ≤ lw.toInt ∧ lw.toInt ≤ 4) := n_lw
  have y_nb : zHid (0 ≤ nb.toInt ∧ nb.toInt ≤ 6) := n_nb
  have y_np : zHid (0 ≤ np.toInt ∧ np.toInt ≤ 5) := n_np
  have y_qnb : zHid (0 ≤ qnb.toInt ∧ qnb.toInt ≤ 6) := n_qnb
  have y_qnp : zHid (0 ≤ qnp.toInt ∧ qnp.toInt ≤ 5) := n_qnp
  have y_wr : zHid ((-1) ≤ wr.toInt ∧ wr.toInt ≤ 260) := n_wr
  clear n_ac n_hi n_ho n_lw n_nb n_np n_qnb n_qnp n_wr
  obtain ⟨hargs, hsz, hP, hK, hT⟩ := hv
  have hx := B.exec
  have hb := B.bytes
  have hr := B.returns
  have hts : ∀ w ∈ wA, w.before args s = true := fun w h => atoms_spec (ws := .code yX11_here cX11_here 1 (some .int) :: wA) B.pre w (List.mem_cons_of_mem _ h)
  have hown : s.vm.findClass RX11 = some m.cls := findClass_of_methodNamed B.named
  have hlocks := B.notSynchronized
  subst hsz
  have hD : va_D (va_A [] s.heap.size) [] := zD0
  generalize hAe : va_A [] s.heap.size = A at hD ⊢
  have hA : ∀ q : Nat, s.heap.size ≤ q → A q := fun q h => by rw [← hAe]; exact Or.inr h
  have hl := lv_entry ([.ref h0]) (n := 1) (Nat.le_of_ble_eq_true rfl)
  rw [show entryFrame m args 1 = entryFrame m ([.ref h0] : List Value).toArray 1 by rw [hargs], lg_entry_eq]
  generalize (lg_sl ([.ref h0]) ++ List.replicate (1 - (lg_sl ([.ref h0])).length) Slot.unset).toArray = ls at hl ⊢
  have hl : lv_has ls 1 [(0, .ref h0)] := hl
  refine zstart (fun H hH => ?_)
  rw [← hH] at hP
  have hS : va_S A s.heap H [] := by rw [hH]; exact va_S.rf
  generalize ([] : List Loc) = locs at hS ⊢
  refine zgen (fun R Q hR hQ => ?_)
  refine lv_aload_n hx hb dX11_here_0 rfl (lv_at hl 0 rfl) ?_
  refine va_get (D := (dC, dI)) (ci := 11) (v := .int tat) (C := RX11) (T := TX11) (N := 41) hx hb hts iX11 hown hK hP 0 rfl rfl 3 (by decide) (hts _ qw1130) (fun _ h9 => h9) rfl dX11_here_1 ?_
  refine lv_aload_n hx hb dX11_here_4 rfl (lv_at hl 0 rfl) ?_
  refine va_get (D := (dC, dI)) (ci := 11) (v := .int tsz) (C := RX11) (T := TX11) (N := 41) hx hb hts iX11 hown hK hP 0 rfl rfl 2 (by decide) (hts _ qw1129) (fun _ h9 => h9) rfl dX11_here_5 ?_
  refine lv_icmp_ge (tgt := 23) hx hb dX11_here_8 (by decide) (fun c8 => ?_) (fun c8 => ?_)
  · have c8 : tsz.toInt ≤ tat.toInt := z3 rfl rfl c8
    refine lv_iconst (v := (-1)) hx hb dX11_here_23 (by decide) ?_
    have zr0 : ((-1) : Int32).toInt = (-1) := by decide
    rw [hQ]
    exact W.iret (v := ((-1))) hx hb hr (fun t ht hW => ⟨⟨(-1), (), rfl, ⟨by (try dsimp only); omega, by (try dsimp only); rw [sB_end (by omega)]; decide⟩, trivial⟩, hS.F ht⟩) hS.2.2 dX11_here_24
  · have c8 : tat.toInt < tsz.toInt := z4 rfl rfl c8
    refine lv_aload_n hx hb dX11_here_11 rfl (lv_at hl 0 rfl) ?_
    refine va_get (D := (dC, dI)) (ci := 11) (v := .ref tB) (C := RX11) (T := TX11) (N := 41) hx hb hts iX11 hown hK hP 0 rfl rfl 1 (by decide) (hts _ qw1128) (fun _ h9 => h9) rfl dX11_here_12 ?_
    refine lv_aload_n hx hb dX11_here_15 rfl (lv_at hl 0 rfl) ?_
    refine va_get (D := (dC, dI)) (ci := 11) (v := .int tat) (C := RX11) (T := TX11) (N := 41) hx hb hts iX11 hown hK hP 0 rfl rfl 3 (by decide) (hts _ qw1130) (fun _ h9 => h9) rfl dX11_here_16 ?_
    refine va_iald hx hb hK hP 1 0 rfl rfl (vp_in_iff.mpr ⟨by omega, by omega⟩) dX11_here_19 ?_
    refine lv_topi (fun v19 e19 => ?_)
    refine lv_goto (tgt := 24) hx hb dX11_here_20 (by decide) ?_
    rw [hQ]
    exact W.iret (v := v19) hx hb hr (fun t ht hW => ⟨⟨v19, (), rfl, ⟨by (try dsimp only); omega, by (try dsimp only); exact (sB_at e19 (by omega) (by omega)).symm⟩, trivial⟩, hS.F ht⟩) hS.2.2 dX11_here_24
set_option maxHeartbeats 4000000 in
set_option maxRecDepth 100000 in
theorem g_X11_look (l : Launch) (dC : Nat → ClassId) (dI : Nat → Nat → Nat) (cI cJ : ClassId) (h0 : Nat) (th : Int32) (tB : Nat) (tsz : Int32) (tat : Int32) (wr : Int32) (dp : Int32) (rC : Nat) (rV : Nat) (rD : Nat) (rK : Nat) (rT : Nat) (rS : Nat) (rU : Nat) (lw : Int32) (tx : Int32) (rL : Nat) (rX : Nat) (qR : Nat) (qB : Nat) (qP : Nat) (qnb : Int32) (qnp : Int32) (aR : Nat) (aB : Nat) (aP : Nat) (nb : Int32) (np : Int32) (aN : Nat) (rf : Nat) (ho : Int32) (br : Int32) (aK : Nat) (ac : Int32) (dw : Int64) (aE : Nat) (sr : Int32) (sf : Int32) (aA : Nat) (aH : Nat) (aI : Nat) (hi : Int32) (fB : Nat → Int32) (sz : Nat) (n_ac : 0 ≤ ac.toInt ∧ ac.toInt ≤ 40) (n_hi : 0 ≤ hi.toInt ∧ hi.toInt ≤ 1) (n_ho : (-1) ≤ ho.toInt ∧ ho.toInt ≤ 3) (n_lw : 0 ≤ lw.toInt ∧ lw.toInt ≤ 4) (n_nb : 0 ≤ nb.toInt ∧ nb.toInt ≤ 6) (n_np : 0 ≤ np.toInt ∧ np.toInt ≤ 5) (n_qnb : 0 ≤ qnb.toInt ∧ qnb.toInt ≤ 6) (n_qnp : 0 ≤ qnp.toInt ∧ qnp.toInt ≤ 5) (n_tat : 0 ≤ tat.toInt ∧ tat.toInt ≤ 260) (n_tsz : 0 ≤ tsz.toInt ∧ tsz.toInt ≤ 240) (n_wr : (-1) ≤ wr.toInt ∧ wr.toInt ≤ 260)    : Met l yX11_look (.code yX11_look cX11_look 1 (some .int) :: wA) ({ frames := 1, cells := 0, slots := 0, locals := 20 }) (zP (dC, dI) [(cI, .int), (cJ, .long)] [.ref h0] sz [(h0, .inr (11, [.int th, .ref tB, .int tsz, .int tat, .int wr, .int dp, .ref rC, .ref rV, .ref rD, .ref rK, .ref rT, .ref rS, .ref rU, .int lw, .int tx, .ref rL, .ref rX, .ref qR, .ref qB, .ref qP, .int qnb, .int qnp, .ref aR, .ref aB, .ref aP, .int nb, .int np, .ref aN, .ref rf, .int ho, .int br, .ref aK, .int ac, .long dw, .ref aE, .int sr, .int sf, .ref aA, .ref aH, .ref aI, .int hi])), (tB, .inl (cI, 240, .inl fB))]) (va_Qi (fun (r : Int32) (u : Int32) => (0 ≤ u.toInt) ∧ (u.toInt ≤ 260) ∧ (¬ r.toInt = -1 → u.toInt < tsz.toInt) ∧ (tat.toInt ≤ u.toInt) ∧ (u.toInt ≤ tsz.toInt ∨ u.toInt = tat.toInt) ∧ (zLk fB tsz tat r u)) (fun (u : Int32) (t : State) => va_P (dC, dI) vwCl [(h0, .inr (11, [.int th, .ref tB, .int tsz, .int u, .int wr, .int dp, .ref rC, .ref rV, .ref rD, .ref rK, .ref rT, .ref rS, .ref rU, .int lw, .int tx, .ref rL, .ref rX, .ref qR, .ref qB, .ref qP, .int qnb, .int qnp, .ref aR, .ref aB, .ref aP, .int nb, .int np, .ref aN, .ref rf, .int ho, .int br, .ref aK, .int ac, .long dw, .ref aE, .int sr, .int sf, .ref aA, .ref aH, .ref aI, .int hi])), (tB, .inl (cI, 240, .inl fB))] t.heap ∧ va_D (va_A [(h0, .inr (11, [.int th, .ref tB, .int tsz, .int tat, .int wr, .int dp, .ref rC, .ref rV, .ref rD, .ref rK, .ref rT, .ref rS, .ref rU, .int lw, .int tx, .ref rL, .ref rX, .ref qR, .ref qB, .ref qP, .int qnb, .int qnp, .ref aR, .ref aB, .ref aP, .int nb, .int np, .ref aN, .ref rf, .int ho, .int br, .ref aK, .int ac, .long dw, .ref aE, .int sr, .int sf, .ref aA, .ref aH, .ref aI, .int hi])), (tB, .inl (cI, 240, .inl fB))] sz) [(h0, .inr (11, [.int th, .ref tB, .int tsz, .int u, .int wr, .int dp, .ref rC, .ref rV, .ref rD, .ref rK, .ref rT, .ref rS, .ref rU, .int lw, .int tx, .ref rL, .ref rX, .ref qR, .ref qB, .ref qP, .int qnb, .int qnp, .ref aR, .ref aB, .ref aP, .int nb, .int np, .ref aN, .ref rf, .int ho, .int br, .ref aK, .int ac, .long dw, .ref aE, .int sr, .int sf, .ref aA, .ref aH, .ref aI, .int hi])), (tB, .inl (cI, 240, .inl fB))]) (va_A [(h0, .inr (11, [.int th, .ref tB, .int tsz, .int tat, .int wr, .int dp, .ref rC, .ref rV, .ref rD, .ref rK, .ref rT, .ref rS, .ref rU, .int lw, .int tx, .ref rL, .ref rX, .ref qR, .ref qB, .ref qP, .int qnb, .int qnp, .ref aR, .ref aB, .ref aP, .int nb, .int np, .ref aN, .ref rf, .int ho, .int br, .ref aK, .int ac, .long dw, .ref aE, .int sr, .int sf, .ref aA, .ref aH, .ref aI, .int hi])), (tB, .inl (cI, 240, .inl fB))] sz)) 0 0 (va_A [(h0, .inr (11, [.int th, .ref tB, .int tsz, .int tat, .int wr, .int dp, .ref rC, .ref rV, .ref rD, .ref rK, .ref rT, .ref rS, .ref rU, .int lw, .int tx, .ref rL, .ref rX, .ref qR, .ref qB, .ref qP, .int qnb, .int qnp, .ref aR, .ref aB, .ref aP, .int nb, .int np, .ref aN, .ref rf, .int ho, .int br, .ref aK, .int ac, .long dw, .ref aE, .int sr, .int sf, .ref aA, .ref aH, .ref aI, .int hi])), (tB, .inl (cI, 240, .inl fB))] sz) := by
  refine Met.ofW (cc := cX11_look) (maxL := 1) (ret := (some .int)) (by decide) rfl ?_
  intro p e s m args below meth c s₁ B hml hv
  have y_ac : zHid (0 ≤ ac.toInt ∧ ac.toInt ≤ 40) := n_ac
  have y_hi : zHid (0 ≤ hi.toInt ∧ hi.toInt ≤ 1) := n_hi
  have y_ho : zHid ((-1) ≤ ho.toInt ∧ ho.toInt ≤ 3) := n_ho
  have y_lw : zHid (0 ≤ lw.toInt ∧ lw.toInt ≤ 4) := n_lw
  have y_nb : zHid (0 ≤ nb.toInt ∧ nb.toInt ≤ 6) := n_nb
  have y_np : zHid (0 ≤ np.toInt ∧ np.toInt ≤ 5) := n_np
  have y_qnb : zHid (0 ≤ qnb.toInt ∧ qnb.toInt ≤ 6) := n_qnb
  have y_qnp : zHid (0 ≤ qnp.toInt ∧ qnp.toInt ≤ 5) := n_qnp
  have y_wr : zHid ((-1) ≤ wr.toInt ∧ wr.toInt ≤ 260) := n_wr
  clear n_ac n_hi n_ho n_lw n_nb n_np n_qnb n_qnp n_wr
  obtain ⟨hargs, hsz, hP, hK, hT⟩ := hv
  have hx := B.exec
  have hb := B.bytes
  have hr := B.returns
  have hts : ∀ w ∈ wA, w.before args s = true := fun w h => atoms_spec (ws := .code yX11_look cX11_look 1 (some .int) :: wA) B.pre w (List.mem_cons_of_mem _ h)
  have hown : s.vm.findClass RX11 = some m.cls := findClass_of_methodNamed B.named
  have hlocks := B.notSynchronized
  subst hsz
  have hD := hT.self (sz := s.heap.size)
  generalize hAe : va_A [(h0, .inr (11, [.int th, .ref tB, .int tsz, .int tat, .int wr, .int dp, .ref rC, .ref rV, .ref rD, .ref rK, .ref rT, .ref rS, .ref rU, .int lw, .int tx, .ref rL, .ref rX, .ref qR, .ref qB, .ref qP, .int qnb, .int qnp, .ref aR, .ref aB, .ref aP, .int nb, .int np, .ref aN, .ref rf, .int ho, .int br, .ref aK, .int ac, .long dw, .ref aE, .int sr, .int sf, .ref aA, .ref aH, .ref aI, .int hi])), (tB, .inl (cI, 240, .inl fB))] s.heap.size = A at hD ⊢
  have hA : ∀ q : Nat, s.heap.size ≤ q → A q := fun q h => by rw [← hAe]; exact Or.inr h
  have hl := lv_entry ([.ref h0]) (n := 1) (Nat.le_of_ble_eq_true rfl)
  rw [show entryFrame m args 1 = entryFrame m ([.ref h0] : List Value).toArray 1 by rw [hargs], lg_entry_eq]
  generalize (lg_sl ([.ref h0]) ++ List.replicate (1 - (lg_sl ([.ref h0])).length) Slot.unset).toArray = ls at hl ⊢
  have hl : lv_has ls 1 [(0, .ref h0)] := hl
  refine zstart (fun H hH => ?_)
  rw [← hH] at hP
  have hS : va_S A s.heap H [] := by rw [hH]; exact va_S.rf
  generalize ([] : List Loc) = locs at hS ⊢
  refine zgen (fun R Q hR hQ => ?_)
  have J0 : ∀ (n : Nat) (m0_F_h0_3 : Int32), (0 ≤ m0_F_h0_3.toInt ∧ m0_F_h0_3.toInt ≤ 260) → (tat.toInt ≤ m0_F_h0_3.toInt ∧ (m0_F_h0_3.toInt ≤ tsz.toInt ∨ m0_F_h0_3.toInt = tat.toInt)) → (sk (sB fB tsz.toInt) tsz.toInt tat.toInt = sk (sB fB tsz.toInt) tsz.toInt m0_F_h0_3.toInt) → (261 - m0_F_h0_3.toInt).toNat = n → ∀ (H : Heap) (locs : List Loc) (ls : Array Slot), va_P (dC, dI) vwCl [(h0, .inr (11, [.int th, .ref tB, .int tsz, .int m0_F_h0_3, .int wr, .int dp, .ref rC, .ref rV, .ref rD, .ref rK, .ref rT, .ref rS, .ref rU, .int lw, .int tx, .ref rL, .ref rX, .ref qR, .ref qB, .ref qP, .int qnb, .int qnp, .ref aR, .ref aB, .ref aP, .int nb, .int np, .ref aN, .ref rf, .int ho, .int br, .ref aK, .int ac, .long dw, .ref aE, .int sr, .int sf, .ref aA, .ref aH, .ref aI, .int hi])), (tB, .inl (cI, 240, .inl fB))] H → va_D A [(h0, .inr (11, [.int th, .ref tB, .int tsz, .int m0_F_h0_3, .int wr, .int dp, .ref rC, .ref rV, .ref rD, .ref rK, .ref rT, .ref rS, .ref rU, .int lw, .int tx, .ref rL, .ref rX, .ref qR, .ref qB, .ref qP, .int qnb, .int qnp, .ref aR, .ref aB, .ref aP, .int nb, .int np, .ref aN, .ref rf, .int ho, .int br, .ref aK, .int ac, .long dw, .ref aE, .int sr, .int sf, .ref aA, .ref aH, .ref aI, .int hi])), (tB, .inl (cI, 240, .inl fB))] → va_S A s.heap H locs → lv_has ls 1 [(0, .ref h0)] → W p l e R s m args below meth c H locs 0 0 Q (F0 m 0 ls []) := by
    intro n0
    induction n0 using Nat.strongRecOn with
    | _ n0 ih0 =>
      intro m0_F_h0_3 jf0_0 jf0_1 jv0_0 hmu0 H locs ls hP hD hS hl
      refine lv_aload_n hx hb dX11_look_0 rfl (lv_at hl 0 rfl) ?_
      obtain ⟨hPc, hDc⟩ := zc2 (wc := [(h0, .inr (11, [.int th, .ref tB, .int tsz, .int m0_F_h0_3, .int wr, .int dp, .ref rC, .ref rV, .ref rD, .ref rK, .ref rT, .ref rS, .ref rU, .int lw, .int tx, .ref rL, .ref rX, .ref qR, .ref qB, .ref qP, .int qnb, .int qnp, .ref aR, .ref aB, .ref aP, .int nb, .int np, .ref aN, .ref rf, .int ho, .int br, .ref aK, .int ac, .long dw, .ref aE, .int sr, .int sf, .ref aA, .ref aH, .ref aI, .int hi])), (tB, .inl (cI, 240, .inl fB))]) hP hD [0, 1] (by decide +kernel) rfl
      have hFc := zfr hS hA
      refine va_calli (va_runV (As := []) (rest := []) ⟨hx, hb, hml, hown, hts⟩ (g_X11_here l dC dI cI cJ h0 th tB tsz m0_F_h0_3 wr dp rC rV rD rK rT rS rU lw tx rL rX qR qB qP qnb qnp aR aB aP nb np aN rf ho br aK ac dw aE sr sf aA aH aI hi fB H.size y_ac y_hi y_ho y_lw y_nb y_np y_qnb y_qnp jf0_0 n_tsz y_wr) (cwV 0 hts (zgV qw1277 qw1279 qw33 qw108 qw1280) rfl rfl rfl hd_X11_here ⟨by rw [hR]; exact Nat.le_of_ble_eq_true rfl, by rw [hR]; exact Nat.le_of_ble_eq_true rfl⟩) (zPV hPc hK hDc (va_recv (q := (RX11, TX11, 41)) hK hP (ci := 11) (q0 := 0) rfl rfl)) rfl rfl hl.1 rfl (lv_room (Nat.le_of_ble_eq_true rfl)) dX11_look_1 ⟨Nat.zero_le _, Nat.zero_le _⟩) hS (fun q _ h => hFc q h) hFc (fun v1 u1 t H locs ht hvm hw hB hz1 hk1 hS9 => ?_)
      replace hP := zkeep hP hk1
      replace hS := hS9
      clear hPc hDc hFc hk1 hz1 hvm hS9
      obtain ⟨f1_0, f1_1⟩ : (¬ v1.toInt = -1 → m0_F_h0_3.toInt < tsz.toInt) ∧ (v1.toInt = sB fB tsz.toInt m0_F_h0_3.toInt) := hw
      have F1 := f1_1
      refine lv_bipush (v := 32) hx hb dX11_look_4 (by decide) ?_
      refine lv_icmp_ne (tgt := 22) hx hb dX11_look_6 (by decide) (fun c6 => ?_) (fun c6 => ?_)
      · have c6 : ¬ v1.toInt = 32 := z6 rfl (by decide) c6
        refine lv_aload_n hx hb dX11_look_22 rfl (lv_at hl 0 rfl) ?_
        obtain ⟨hPc, hDc⟩ := zc2 (wc := [(h0, .inr (11, [.int th, .ref tB, .int tsz, .int m0_F_h0_3, .int wr, .int dp, .ref rC, .ref rV, .ref rD, .ref rK, .ref rT, .ref rS, .ref rU, .int lw, .int tx, .ref rL, .ref rX, .ref qR, .ref qB, .ref qP, .int qnb, .int qnp, .ref aR, .ref aB, .ref aP, .int nb, .int np, .ref aN, .ref rf, .int ho, .int br, .ref aK, .int ac, .long dw, .ref aE, .int sr, .int sf, .ref aA, .ref aH, .ref aI, .int hi])), (tB, .inl (cI, 240, .inl fB))]) hP hD [0, 1] (by decide +kernel) rfl
        have hFc := zfr hS hA
        refine va_calli (va_runV (As := []) (rest := []) ⟨hx, hb, hml, hown, hts⟩ (g_X11_here l dC dI cI cJ h0 th tB tsz m0_F_h0_3 wr dp rC rV rD rK rT rS rU lw tx rL rX qR qB qP qnb qnp aR aB aP nb np aN rf ho br aK ac dw aE sr sf aA aH aI hi fB H.size y_ac y_hi y_ho y_lw y_nb y_np y_qnb y_qnp jf0_0 n_tsz y_wr) (cwV 0 hts (zgV qw1277 qw1279 qw33 qw108 qw1280) rfl rfl rfl hd_X11_here ⟨by rw [hR]; exact Nat.le_of_ble_eq_true rfl, by rw [hR]; exact Nat.le_of_ble_eq_true rfl⟩) (zPV hPc hK hDc (va_recv (q := (RX11, TX11, 41)) hK hP (ci := 11) (q0 := 0) rfl rfl)) rfl rfl hl.1 rfl (lv_room (Nat.le_of_ble_eq_true rfl)) dX11_look_23 ⟨Nat.zero_le _, Nat.zero_le _⟩) hS (fun q _ h => hFc q h) hFc (fun v23 u23 t H locs ht hvm hw hB hz1 hk1 hS9 => ?_)
        replace hP := zkeep hP hk1
        replace hS := hS9
        clear hPc hDc hFc hk1 hz1 hvm hS9
        obtain ⟨f23_0, f23_1⟩ : (¬ v23.toInt = -1 → m0_F_h0_3.toInt < tsz.toInt) ∧ (v23.toInt = sB fB tsz.toInt m0_F_h0_3.toInt) := hw
        have F23 := f23_1
        rw [hQ]
        exact W.iret (v := v23) hx hb hr (fun t ht hW => ⟨⟨v23, m0_F_h0_3, rfl, ⟨by (try dsimp only); omega, by (try dsimp only); omega, by (try dsimp only); omega, by (try dsimp only); omega, by (try dsimp only); omega, by (try dsimp only); exact zlkE jv0_0 F1 (by omega) F23⟩, ⟨by rw [ht]; exact hP, hD⟩⟩, hS.F ht⟩) hS.2.2 dX11_look_26
      · have c6 : v1.toInt = 32 := z5 rfl (by decide) c6
        refine lv_aload_n hx hb dX11_look_9 rfl (lv_at hl 0 rfl) ?_
        refine lv_dup hx hb dX11_look_10 rfl ?_
        refine va_get (D := (dC, dI)) (ci := 11) (v := .int m0_F_h0_3) (C := RX11) (T := TX11) (N := 41) hx hb hts iX11 hown hK hP 0 rfl rfl 3 (by decide) (hts _ qw1130) (fun _ h9 => h9) rfl dX11_look_11 ?_
        refine lv_iconst (v := 1) hx hb dX11_look_14 (by decide) ?_
        refine lv_iadd hx hb dX11_look_15 ?_
        refine lv_topi (fun v15 e15 => ?_)
        have i15 : v15.toInt = m0_F_h0_3.toInt + 1 := zadd e15 rfl (by decide) (by omega) (by omega)
        refine va_put (D := (dC, dI)) (ci := 11) (v := .int v15) (ty := .int) (C := RX11) (T := TX11) (N := 41) hx hb hts iX11 tyX11 tyX11_ok nmX11 hown hK hP hD hS 0 rfl rfl 3 (by decide) (hts _ qw1130) (fun _ h9 => h9) rfl (by decide +kernel) rfl rfl (Nat.le_of_ble_eq_true rfl) dX11_look_16 (fun H locs hP9 hD9 hS9 => ?_)
        clear hP hD hS
        obtain ⟨hP, hD⟩ := zst (wX := [(h0, .inr (11, [.int th, .ref tB, .int tsz, .int v15, .int wr, .int dp, .ref rC, .ref rV, .ref rD, .ref rK, .ref rT, .ref rS, .ref rU, .int lw, .int tx, .ref rL, .ref rX, .ref qR, .ref qB, .ref qP, .int qnb, .int qnp, .ref aR, .ref aB, .ref aP, .int nb, .int np, .ref aN, .ref rf, .int ho, .int br, .ref aK, .int ac, .long dw, .ref aE, .int sr, .int sf, .ref aA, .ref aH, .ref aI, .int hi])), (tB, .inl (cI, 240, .inl fB))]) hP9 hD9 rfl
        have hS := hS9
        clear hP9 hD9 hS9
        refine lv_goto (tgt := 0) hx hb dX11_look_19 (by decide) ?_
        exact ih0 _ (by omega) v15 (by omega) (by omega) (zlkS jv0_0 F1 (by omega) i15) rfl H locs ls hP hD hS (lv_sub hl [0] rfl)
  exact J0 _ tat n_tat (by omega) (rfl) rfl H locs ls hP hD hS (lv_sub hl [0] rfl)
set_option maxHeartbeats 4000000 in
set_option maxRecDepth 100000 in
theorem g_X11_bad (l : Launch) (dC : Nat → ClassId) (dI : Nat → Nat → Nat) (cI cJ : ClassId) (h0 : Nat) (th : Int32) (tB : Nat) (tsz : Int32) (tat : Int32) (wr : Int32) (dp : Int32) (rC : Nat) (rV : Nat) (rD : Nat) (rK : Nat) (rT : Nat) (rS : Nat) (rU : Nat) (lw : Int32) (tx : Int32) (rL : Nat) (rX : Nat) (qR : Nat) (qB : Nat) (qP : Nat) (qnb : Int32) (qnp : Int32) (aR : Nat) (aB : Nat) (aP : Nat) (nb : Int32) (np : Int32) (aN : Nat) (rf : Nat) (ho : Int32) (br : Int32) (aK : Nat) (ac : Int32) (dw : Int64) (aE : Nat) (sr : Int32) (sf : Int32) (aA : Nat) (aH : Nat) (aI : Nat) (hi : Int32) (sz : Nat) (n_ac : 0 ≤ ac.toInt ∧ ac.toInt ≤ 40) (n_hi : 0 ≤ hi.toInt ∧ hi.toInt ≤ 1) (n_ho : (-1) ≤ ho.toInt ∧ ho.toInt ≤ 3) (n_lw : 0 ≤ lw.toInt ∧ lw.toInt ≤ 4) (n_nb : 0 ≤ nb.toInt ∧ nb.toInt ≤ 6) (n_np : 0 ≤ np.toInt ∧ np.toInt ≤ 5) (n_qnb : 0 ≤ qnb.toInt ∧ qnb.toInt ≤ 6) (n_qnp : 0 ≤ qnp.toInt ∧ qnp.toInt ≤ 5) (n_tat : 0 ≤ tat.toInt ∧ tat.toInt ≤ 260) (n_tsz : 0 ≤ tsz.toInt ∧ tsz.toInt ≤ 240) (n_wr : (-1) ≤ wr.toInt ∧ wr.toInt ≤ 260)    : Met l yX11_bad (.code yX11_bad cX11_bad 1 none :: wA) ({ frames := 0, cells := 0, slots := 0, locals := 0 }) (zP (dC, dI) [(cI, .int), (cJ, .long)] [.ref h0] sz [(h0, .inr (11, [.int th, .ref tB, .int tsz, .int tat, .int wr, .int dp, .ref rC, .ref rV, .ref rD, .ref rK, .ref rT, .ref rS, .ref rU, .int lw, .int tx, .ref rL, .ref rX, .ref qR, .ref qB, .ref qP, .int qnb, .int qnp, .ref aR, .ref aB, .ref aP, .int nb, .int np, .ref aN, .ref rf, .int ho, .int br, .ref aK, .int ac, .long dw, .ref aE, .int sr, .int sf, .ref aA, .ref aH, .ref aI, .int hi]))]) (va_Qv (fun (u : Int32) => (0 ≤ u.toInt) ∧ (u.toInt ≤ 260) ∧ (wr.toInt = -1 → u.toInt = tat.toInt) ∧ (¬ wr.toInt = -1 → u.toInt = wr.toInt)) (fun (u : Int32) (t : State) => va_P (dC, dI) vwCl [(h0, .inr (11, [.int th, .ref tB, .int tsz, .int tat, .int u, .int dp, .ref rC, .ref rV, .ref rD, .ref rK, .ref rT, .ref rS, .ref rU, .int lw, .int tx, .ref rL, .ref rX, .ref qR, .ref qB, .ref qP, .int qnb, .int qnp, .ref aR, .ref aB, .ref aP, .int nb, .int np, .ref aN, .ref rf, .int ho, .int br, .ref aK, .int ac, .long dw, .ref aE, .int sr, .int sf, .ref aA, .ref aH, .ref aI, .int hi]))] t.heap ∧ va_D (va_A [(h0, .inr (11, [.int th, .ref tB, .int tsz, .int tat, .int wr, .int dp, .ref rC, .ref rV, .ref rD, .ref rK, .ref rT, .ref rS, .ref rU, .int lw, .int tx, .ref rL, .ref rX, .ref qR, .ref qB, .ref qP, .int qnb, .int qnp, .ref aR, .ref aB, .ref aP, .int nb, .int np, .ref aN, .ref rf, .int ho, .int br, .ref aK, .int ac, .long dw, .ref aE, .int sr, .int sf, .ref aA, .ref aH, .ref aI, .int hi]))] sz) [(h0, .inr (11, [.int th, .ref tB, .int tsz, .int tat, .int u, .int dp, .ref rC, .ref rV, .ref rD, .ref rK, .ref rT, .ref rS, .ref rU, .int lw, .int tx, .ref rL, .ref rX, .ref qR, .ref qB, .ref qP, .int qnb, .int qnp, .ref aR, .ref aB, .ref aP, .int nb, .int np, .ref aN, .ref rf, .int ho, .int br, .ref aK, .int ac, .long dw, .ref aE, .int sr, .int sf, .ref aA, .ref aH, .ref aI, .int hi]))]) (va_A [(h0, .inr (11, [.int th, .ref tB, .int tsz, .int tat, .int wr, .int dp, .ref rC, .ref rV, .ref rD, .ref rK, .ref rT, .ref rS, .ref rU, .int lw, .int tx, .ref rL, .ref rX, .ref qR, .ref qB, .ref qP, .int qnb, .int qnp, .ref aR, .ref aB, .ref aP, .int nb, .int np, .ref aN, .ref rf, .int ho, .int br, .ref aK, .int ac, .long dw, .ref aE, .int sr, .int sf, .ref aA, .ref aH, .ref aI, .int hi]))] sz)) 0 0 (va_A [(h0, .inr (11, [.int th, .ref tB, .int tsz, .int tat, .int wr, .int dp, .ref rC, .ref rV, .ref rD, .ref rK, .ref rT, .ref rS, .ref rU, .int lw, .int tx, .ref rL, .ref rX, .ref qR, .ref qB, .ref qP, .int qnb, .int qnp, .ref aR, .ref aB, .ref aP, .int nb, .int np, .ref aN, .ref rf, .int ho, .int br, .ref aK, .int ac, .long dw, .ref aE, .int sr, .int sf, .ref aA, .ref aH, .ref aI, .int hi]))] sz) := by
  refine Met.ofW (cc := cX11_bad) (maxL := 1) (ret := none) (by decide) rfl ?_
  intro p e s m args below meth c s₁ B hml hv
  have y_ac : zHid (0 ≤ ac.toInt ∧ ac.toInt ≤ 40) := n_ac
  have y_hi : zHid (0 ≤ hi.toInt ∧ hi.toInt ≤ 1) := n_hi
  have y_ho : zHid ((-1) ≤ ho.toInt ∧ ho.toInt ≤ 3) := n_ho
  have y_lw : zHid (0 ≤ lw.toInt ∧ lw.toInt ≤ 4) := n_lw
  have y_nb : zHid (0 ≤ nb.toInt ∧ nb.toInt ≤ 6) := n_nb
  have y_np : zHid (0 ≤ np.toInt ∧ np.toInt ≤ 5) := n_np
  have y_qnb : zHid (0 ≤ qnb.toInt ∧ qnb.toInt ≤ 6) := n_qnb
  have y_qnp : zHid (0 ≤ qnp.toInt ∧ qnp.toInt ≤ 5) := n_qnp
  have y_tsz : zHid (0 ≤ tsz.toInt ∧ tsz.toInt ≤ 240) := n_tsz
  clear n_ac n_hi n_ho n_lw n_nb n_np n_qnb n_qnp n_tsz
  obtain ⟨hargs, hsz, hP, hK, hT⟩ := hv
  have hx := B.exec
  have hb := B.bytes
  have hr := B.returns
  have hts : ∀ w ∈ wA, w.before args s = true := fun w h => atoms_spec (ws := .code yX11_bad cX11_bad 1 none :: wA) B.pre w (List.mem_cons_of_mem _ h)
  have hown : s.vm.findClass RX11 = some m.cls := findClass_of_methodNamed B.named
  have hlocks := B.notSynchronized
  subst hsz
  have hD := hT.self (sz := s.heap.size)
  generalize hAe : va_A [(h0, .inr (11, [.int th, .ref tB, .int tsz, .int tat, .int wr, .int dp, .ref rC, .ref rV, .ref rD, .ref rK, .ref rT, .ref rS, .ref rU, .int lw, .int tx, .ref rL, .ref rX, .ref qR, .ref qB, .ref qP, .int qnb, .int qnp, .ref aR, .ref aB, .ref aP, .int nb, .int np, .ref aN, .ref rf, .int ho, .int br, .ref aK, .int ac, .long dw, .ref aE, .int sr, .int sf, .ref aA, .ref aH, .ref aI, .int hi]))] s.heap.size = A at hD ⊢
  have hA : ∀ q : Nat, s.heap.size ≤ q → A q := fun q h => by rw [← hAe]; exact Or.inr h
  have hl := lv_entry ([.ref h0]) (n := 1) (Nat.le_of_ble_eq_true rfl)
  rw [show entryFrame m args 1 = entryFrame m ([.ref h0] : List Value).toArray 1 by rw [hargs], lg_entry_eq]
  generalize (lg_sl ([.ref h0]) ++ List.replicate (1 - (lg_sl ([.ref h0])).length) Slot.unset).toArray = ls at hl ⊢
  have hl : lv_has ls 1 [(0, .ref h0)] := hl
  refine zstart (fun H hH => ?_)
  rw [← hH] at hP
  have hS : va_S A s.heap H [] := by rw [hH]; exact va_S.rf
  generalize ([] : List Loc) = locs at hS ⊢
  refine zgen (fun R Q hR hQ => ?_)
  refine lv_aload_n hx hb dX11_bad_0 rfl (lv_at hl 0 rfl) ?_
  refine lv_aload_n hx hb dX11_bad_1 rfl (lv_at hl 0 rfl) ?_
  refine va_get (D := (dC, dI)) (ci := 11) (v := .int wr) (C := RX11) (T := TX11) (N := 41) hx hb hts iX11 hown hK hP 0 rfl rfl 4 (by decide) (hts _ qw1131) (fun _ h9 => h9) rfl dX11_bad_2 ?_
  refine lv_iconst (v := (-1)) hx hb dX11_bad_5 (by decide) ?_
  refine lv_icmp_ne (tgt := 16) hx hb dX11_bad_6 (by decide) (fun c6 => ?_) (fun c6 => ?_)
  · have c6 : ¬ wr.toInt = (-1) := z6 rfl (by decide) c6
    refine lv_aload_n hx hb dX11_bad_16 rfl (lv_at hl 0 rfl) ?_
    refine va_get (D := (dC, dI)) (ci := 11) (v := .int wr) (C := RX11) (T := TX11) (N := 41) hx hb hts iX11 hown hK hP 0 rfl rfl 4 (by decide) (hts _ qw1131) (fun _ h9 => h9) rfl dX11_bad_17 ?_
    refine va_put (D := (dC, dI)) (ci := 11) (v := .int wr) (ty := .int) (C := RX11) (T := TX11) (N := 41) hx hb hts iX11 tyX11 tyX11_ok nmX11 hown hK hP hD hS 0 rfl rfl 4 (by decide) (hts _ qw1131) (fun _ h9 => h9) rfl (by decide +kernel) rfl rfl (Nat.le_of_ble_eq_true rfl) dX11_bad_20 (fun H locs hP9 hD9 hS9 => ?_)
    clear hP hD hS
    obtain ⟨hP, hD⟩ := zst (wX := [(h0, .inr (11, [.int th, .ref tB, .int tsz, .int tat, .int wr, .int dp, .ref rC, .ref rV, .ref rD, .ref rK, .ref rT, .ref rS, .ref rU, .int lw, .int tx, .ref rL, .ref rX, .ref qR, .ref qB, .ref qP, .int qnb, .int qnp, .ref aR, .ref aB, .ref aP, .int nb, .int np, .ref aN, .ref rf, .int ho, .int br, .ref aK, .int ac, .long dw, .ref aE, .int sr, .int sf, .ref aA, .ref aH, .ref aI, .int hi]))]) hP9 hD9 rfl
    have hS := hS9
    clear hP9 hD9 hS9
    rw [hQ]
    exact W.vret hx hb hr (fun t ht hW => ⟨⟨wr, rfl, ⟨by (try dsimp only); omega, by (try dsimp only); omega, by (try dsimp only); omega, by (try dsimp only); omega⟩, ⟨by rw [ht]; exact hP, hD⟩⟩, hS.F ht⟩) hS.2.2 dX11_bad_23
  · have c6 : wr.toInt = (-1) := z5 rfl (by decide) c6
    refine lv_aload_n hx hb dX11_bad_9 rfl (lv_at hl 0 rfl) ?_
    refine va_get (D := (dC, dI)) (ci := 11) (v := .int tat) (C := RX11) (T := TX11) (N := 41) hx hb hts iX11 hown hK hP 0 rfl rfl 3 (by decide) (hts _ qw1130) (fun _ h9 => h9) rfl dX11_bad_10 ?_
    refine lv_goto (tgt := 20) hx hb dX11_bad_13 (by decide) ?_
    refine va_put (D := (dC, dI)) (ci := 11) (v := .int tat) (ty := .int) (C := RX11) (T := TX11) (N := 41) hx hb hts iX11 tyX11 tyX11_ok nmX11 hown hK hP hD hS 0 rfl rfl 4 (by decide) (hts _ qw1131) (fun _ h9 => h9) rfl (by decide +kernel) rfl rfl (Nat.le_of_ble_eq_true rfl) dX11_bad_20 (fun H locs hP9 hD9 hS9 => ?_)
    clear hP hD hS
    obtain ⟨hP, hD⟩ := zst (wX := [(h0, .inr (11, [.int th, .ref tB, .int tsz, .int tat, .int tat, .int dp, .ref rC, .ref rV, .ref rD, .ref rK, .ref rT, .ref rS, .ref rU, .int lw, .int tx, .ref rL, .ref rX, .ref qR, .ref qB, .ref qP, .int qnb, .int qnp, .ref aR, .ref aB, .ref aP, .int nb, .int np, .ref aN, .ref rf, .int ho, .int br, .ref aK, .int ac, .long dw, .ref aE, .int sr, .int sf, .ref aA, .ref aH, .ref aI, .int hi]))]) hP9 hD9 rfl
    have hS := hS9
    clear hP9 hD9 hS9
    rw [hQ]
    exact W.vret hx hb hr (fun t ht hW => ⟨⟨tat, rfl, ⟨by (try dsimp only); omega, by (try dsimp only); omega, by (try dsimp only); omega, by (try dsimp only); omega⟩, ⟨by rw [ht]; exact hP, hD⟩⟩, hS.F ht⟩) hS.2.2 dX11_bad_23
set_option maxHeartbeats 4000000 in
set_option maxRecDepth 100000 in
theorem g_X11_bad_m (l : Launch) (dC : Nat → ClassId) (dI : Nat → Nat → Nat) (cI cJ : ClassId) (h0 : Nat) (th : Int32) (tB : Nat) (tsz : Int32) (tat : Int32) (dp : Int32) (rC : Nat) (rV : Nat) (rD : Nat) (rK : Nat) (rT : Nat) (rS : Nat) (rU : Nat) (lw : Int32) (tx : Int32) (rL : Nat) (rX : Nat) (qR : Nat) (qB : Nat) (qP : Nat) (qnb : Int32) (qnp : Int32) (aR : Nat) (aB : Nat) (aP : Nat) (nb : Int32) (np : Int32) (aN : Nat) (rf : Nat) (ho : Int32) (br : Int32) (aK : Nat) (ac : Int32) (dw : Int64) (aE : Nat) (sr : Int32) (sf : Int32) (aA : Nat) (aH : Nat) (aI : Nat) (hi : Int32) (sz : Nat) (n_ac : 0 ≤ ac.toInt ∧ ac.toInt ≤ 40) (n_hi : 0 ≤ hi.toInt ∧ hi.toInt ≤ 1) (n_ho : (-1) ≤ ho.toInt ∧ ho.toInt ≤ 3) (n_lw : 0 ≤ lw.toInt ∧ lw.toInt ≤ 4) (n_nb : 0 ≤ nb.toInt ∧ nb.toInt ≤ 6) (n_np : 0 ≤ np.toInt ∧ np.toInt ≤ 5) (n_qnb : 0 ≤ qnb.toInt ∧ qnb.toInt ≤ 6) (n_qnp : 0 ≤ qnp.toInt ∧ qnp.toInt ≤ 5) (n_tat : 0 ≤ tat.toInt ∧ tat.toInt ≤ 260) (n_tsz : 0 ≤ tsz.toInt ∧ tsz.toInt ≤ 240)    : Met l yX11_bad (.code yX11_bad cX11_bad 1 none :: wA) ({ frames := 0, cells := 0, slots := 0, locals := 0 }) (zP (dC, dI) [(cI, .int), (cJ, .long)] [.ref h0] sz [(h0, .inr (11, [.int th, .ref tB, .int tsz, .int tat, .int (-1), .int dp, .ref rC, .ref rV, .ref rD, .ref rK, .ref rT, .ref rS, .ref rU, .int lw, .int tx, .ref rL, .ref rX, .ref qR, .ref qB, .ref qP, .int qnb, .int qnp, .ref aR, .ref aB, .ref aP, .int nb, .int np, .ref aN, .ref rf, .int ho, .int br, .ref aK, .int ac, .long dw, .ref aE, .int sr, .int sf, .ref aA, .ref aH, .ref aI, .int hi]))]) (va_Qv (fun (u : Unit) => True) (fun (u : Unit) (t : State) => va_P (dC, dI) vwCl [(h0, .inr (11, [.int th, .ref tB, .int tsz, .int tat, .int tat, .int dp, .ref rC, .ref rV, .ref rD, .ref rK, .ref rT, .ref rS, .ref rU, .int lw, .int tx, .ref rL, .ref rX, .ref qR, .ref qB, .ref qP, .int qnb, .int qnp, .ref aR, .ref aB, .ref aP, .int nb, .int np, .ref aN, .ref rf, .int ho, .int br, .ref aK, .int ac, .long dw, .ref aE, .int sr, .int sf, .ref aA, .ref aH, .ref aI, .int hi]))] t.heap ∧ va_D (va_A [(h0, .inr (11, [.int th, .ref tB, .int tsz, .int tat, .int (-1), .int dp, .ref rC, .ref rV, .ref rD, .ref rK, .ref rT, .ref rS, .ref rU, .int lw, .int tx, .ref rL, .ref rX, .ref qR, .ref qB, .ref qP, .int qnb, .int qnp, .ref aR, .ref aB, .ref aP, .int nb, .int np, .ref aN, .ref rf, .int ho, .int br, .ref aK, .int ac, .long dw, .ref aE, .int sr, .int sf, .ref aA, .ref aH, .ref aI, .int hi]))] sz) [(h0, .inr (11, [.int th, .ref tB, .int tsz, .int tat, .int tat, .int dp, .ref rC, .ref rV, .ref rD, .ref rK, .ref rT, .ref rS, .ref rU, .int lw, .int tx, .ref rL, .ref rX, .ref qR, .ref qB, .ref qP, .int qnb, .int qnp, .ref aR, .ref aB, .ref aP, .int nb, .int np, .ref aN, .ref rf, .int ho, .int br, .ref aK, .int ac, .long dw, .ref aE, .int sr, .int sf, .ref aA, .ref aH, .ref aI, .int hi]))]) (va_A [(h0, .inr (11, [.int th, .ref tB, .int tsz, .int tat, .int (-1), .int dp, .ref rC, .ref rV, .ref rD, .ref rK, .ref rT, .ref rS, .ref rU, .int lw, .int tx, .ref rL, .ref rX, .ref qR, .ref qB, .ref qP, .int qnb, .int qnp, .ref aR, .ref aB, .ref aP, .int nb, .int np, .ref aN, .ref rf, .int ho, .int br, .ref aK, .int ac, .long dw, .ref aE, .int sr, .int sf, .ref aA, .ref aH, .ref aI, .int hi]))] sz)) 0 0 (va_A [(h0, .inr (11, [.int th, .ref tB, .int tsz, .int tat, .int (-1), .int dp, .ref rC, .ref rV, .ref rD, .ref rK, .ref rT, .ref rS, .ref rU, .int lw, .int tx, .ref rL, .ref rX, .ref qR, .ref qB, .ref qP, .int qnb, .int qnp, .ref aR, .ref aB, .ref aP, .int nb, .int np, .ref aN, .ref rf, .int ho, .int br, .ref aK, .int ac, .long dw, .ref aE, .int sr, .int sf, .ref aA, .ref aH, .ref aI, .int hi]))] sz) := by
  refine Met.ofW (cc := cX11_bad) (maxL := 1) (ret := none) (by decide) rfl ?_
  intro p e s m args below meth c s₁ B hml hv
  have y_ac : zHid (0 ≤ ac.toInt ∧ ac.toInt ≤ 40) := n_ac
  have y_hi : zHid (0 ≤ hi.toInt ∧ hi.toInt ≤ 1) := n_hi
  have y_ho : zHid ((-1) ≤ ho.toInt ∧ ho.toInt ≤ 3) := n_ho
  have y_lw : zHid (0 ≤ lw.toInt ∧ lw.toInt ≤ 4) := n_lw
  have y_nb : zHid (0 ≤ nb.toInt ∧ nb.toInt ≤ 6) := n_nb
  have y_np : zHid (0 ≤ np.toInt ∧ np.toInt ≤ 5) := n_np
  have y_qnb : zHid (0 ≤ qnb.toInt ∧ qnb.toInt ≤ 6) := n_qnb
  have y_qnp : zHid (0 ≤ qnp.toInt ∧ qnp.toInt ≤ 5) := n_qnp
  have y_tsz : zHid (0 ≤ tsz.toInt ∧ tsz.toInt ≤ 240) := n_tsz
  clear n_ac n_hi n_ho n_lw n_nb n_np n_qnb n_qnp n_tsz
  obtain ⟨hargs, hsz, hP, hK, hT⟩ := hv
  have hx := B.exec
  have hb := B.bytes
  have hr := B.returns
  have hts : ∀ w ∈ wA, w.before args s = true := fun w h => atoms_spec (ws := .code yX11_bad cX11_bad 1 none :: wA) B.pre w (List.mem_cons_of_mem _ h)
  have hown : s.vm.findClass RX11 = some m.cls := findClass_of_methodNamed B.named
  have hlocks := B.notSynchronized
  subst hsz
  have hD := hT.self (sz := s.heap.size)
  generalize hAe : va_A [(h0, .inr (11, [.int th, .ref tB, .int tsz, .int tat, .int (-1), .int dp, .ref rC, .ref rV, .ref rD, .ref rK, .ref rT, .ref rS, .ref rU, .int lw, .int tx, .ref rL, .ref rX, .ref qR, .ref qB, .ref qP, .int qnb, .int qnp, .ref aR, .ref aB, .ref aP, .int nb, .int np, .ref aN, .ref rf, .int ho, .int br, .ref aK, .int ac, .long dw, .ref aE, .int sr, .int sf, .ref aA, .ref aH, .ref aI, .int hi]))] s.heap.size = A at hD ⊢
  have hA : ∀ q : Nat, s.heap.size ≤ q → A q := fun q h => by rw [← hAe]; exact Or.inr h
  have hl := lv_entry ([.ref h0]) (n := 1) (Nat.le_of_ble_eq_true rfl)
  rw [show entryFrame m args 1 = entryFrame m ([.ref h0] : List Value).toArray 1 by rw [hargs], lg_entry_eq]
  generalize (lg_sl ([.ref h0]) ++ List.replicate (1 - (lg_sl ([.ref h0])).length) Slot.unset).toArray = ls at hl ⊢
  have hl : lv_has ls 1 [(0, .ref h0)] := hl
  refine zstart (fun H hH => ?_)
  rw [← hH] at hP
  have hS : va_S A s.heap H [] := by rw [hH]; exact va_S.rf
  generalize ([] : List Loc) = locs at hS ⊢
  refine zgen (fun R Q hR hQ => ?_)
  refine lv_aload_n hx hb dX11_bad_0 rfl (lv_at hl 0 rfl) ?_
  refine lv_aload_n hx hb dX11_bad_1 rfl (lv_at hl 0 rfl) ?_
  refine va_get (D := (dC, dI)) (ci := 11) (v := .int (-1)) (C := RX11) (T := TX11) (N := 41) hx hb hts iX11 hown hK hP 0 rfl rfl 4 (by decide) (hts _ qw1131) (fun _ h9 => h9) rfl dX11_bad_2 ?_
  refine lv_iconst (v := (-1)) hx hb dX11_bad_5 (by decide) ?_
  refine lv_icmp_ne (tgt := 16) hx hb dX11_bad_6 (by decide) (fun c => absurd (by decide) c) (fun _ => ?_)
  refine lv_aload_n hx hb dX11_bad_9 rfl (lv_at hl 0 rfl) ?_
  refine va_get (D := (dC, dI)) (ci := 11) (v := .int tat) (C := RX11) (T := TX11) (N := 41) hx hb hts iX11 hown hK hP 0 rfl rfl 3 (by decide) (hts _ qw1130) (fun _ h9 => h9) rfl dX11_bad_10 ?_
  refine lv_goto (tgt := 20) hx hb dX11_bad_13 (by decide) ?_
  refine va_put (D := (dC, dI)) (ci := 11) (v := .int tat) (ty := .int) (C := RX11) (T := TX11) (N := 41) hx hb hts iX11 tyX11 tyX11_ok nmX11 hown hK hP hD hS 0 rfl rfl 4 (by decide) (hts _ qw1131) (fun _ h9 => h9) rfl (by decide +kernel) rfl rfl (Nat.le_of_ble_eq_true rfl) dX11_bad_20 (fun H locs hP9 hD9 hS9 => ?_)
  clear hP hD hS
  obtain ⟨hP, hD⟩ := zst (wX := [(h0, .inr (11, [.int th, .ref tB, .int tsz, .int tat, .int tat, .int dp, .ref rC, .ref rV, .ref rD, .ref rK, .ref rT, .ref rS, .ref rU, .int lw, .int tx, .ref rL, .ref rX, .ref qR, .ref qB, .ref qP, .int qnb, .int qnp, .ref aR, .ref aB, .ref aP, .int nb, .int np, .ref aN, .ref rf, .int ho, .int br, .ref aK, .int ac, .long dw, .ref aE, .int sr, .int sf, .ref aA, .ref aH, .ref aI, .int hi]))]) hP9 hD9 rfl
  have hS := hS9
  clear hP9 hD9 hS9
  rw [hQ]
  exact W.vret hx hb hr (fun t ht hW => ⟨⟨(), rfl, trivial, ⟨by rw [ht]; exact hP, hD⟩⟩, hS.F ht⟩) hS.2.2 dX11_bad_23
set_option maxHeartbeats 4000000 in
set_option maxRecDepth 100000 in
theorem g_X11_letterOf (l : Launch) (dC : Nat → ClassId) (dI : Nat → Nat → Nat) (cI cJ : ClassId) (p0 : Int32) (sz : Nat)     : Met l yX11_letterOf (.code yX11_letterOf cX11_letterOf 1 (some .int) :: wA) ({ frames := 0, cells := 0, slots := 0, locals := 0 }) (zP (dC, dI) [(cI, .int), (cJ, .long)] [.int p0] sz []) (va_Qi (fun (r : Int32) (u : Unit) => ((-1) ≤ r.toInt) ∧ (r.toInt ≤ 5) ∧ (0 ≤ r.toInt → 97 ≤ p0.toInt)) (fun (_ : Unit) (_ : State) => True) (va_A [] sz)) 0 0 (va_A [] sz) := by
  refine Met.ofW (cc := cX11_letterOf) (maxL := 1) (ret := (some .int)) (by decide) rfl ?_
  intro p e s m args below meth c s₁ B hml hv
  obtain ⟨hargs, hsz, hP, hK, hT⟩ := hv
  have hx := B.exec
  have hb := B.bytes
  have hr := B.returns
  have hts : ∀ w ∈ wA, w.before args s = true := fun w h => atoms_spec (ws := .code yX11_letterOf cX11_letterOf 1 (some .int) :: wA) B.pre w (List.mem_cons_of_mem _ h)
  have hown : s.vm.findClass RX11 = some m.cls := findClass_of_methodNamed B.named
  have hlocks := B.notSynchronized
  subst hsz
  have hD : va_D (va_A [] s.heap.size) [] := zD0
  generalize hAe : va_A [] s.heap.size = A at hD ⊢
  have hA : ∀ q : Nat, s.heap.size ≤ q → A q := fun q h => by rw [← hAe]; exact Or.inr h
  have hl := lv_entry ([.int p0]) (n := 1) (Nat.le_of_ble_eq_true rfl)
  rw [show entryFrame m args 1 = entryFrame m ([.int p0] : List Value).toArray 1 by rw [hargs], lg_entry_eq]
  generalize (lg_sl ([.int p0]) ++ List.replicate (1 - (lg_sl ([.int p0])).length) Slot.unset).toArray = ls at hl ⊢
  have hl : lv_has ls 1 [(0, .int p0)] := hl
  refine zstart (fun H hH => ?_)
  rw [← hH] at hP
  have hS : va_S A s.heap H [] := by rw [hH]; exact va_S.rf
  generalize ([] : List Loc) = locs at hS ⊢
  refine zgen (fun R Q hR hQ => ?_)
  refine lv_iload_n hx hb dX11_letterOf_0 rfl (lv_at hl 0 rfl) ?_
  refine lv_bipush (v := 102) hx hb dX11_letterOf_1 (by decide) ?_
  refine lv_icmp_ne (tgt := 10) hx hb dX11_letterOf_3 (by decide) (fun c3 => ?_) (fun c3 => ?_)
  · have c3 : ¬ p0.toInt = 102 := z6 rfl (by decide) c3
    refine lv_iload_n hx hb dX11_letterOf_10 rfl (lv_at hl 0 rfl) ?_
    refine lv_bipush (v := 119) hx hb dX11_letterOf_11 (by decide) ?_
    refine lv_icmp_ne (tgt := 20) hx hb dX11_letterOf_13 (by decide) (fun c13 => ?_) (fun c13 => ?_)
    · have c13 : ¬ p0.toInt = 119 := z6 rfl (by decide) c13
      refine lv_iload_n hx hb dX11_letterOf_20 rfl (lv_at hl 0 rfl) ?_
      refine lv_bipush (v := 121) hx hb dX11_letterOf_21 (by decide) ?_
      refine lv_icmp_ne (tgt := 30) hx hb dX11_letterOf_23 (by decide) (fun c23 => ?_) (fun c23 => ?_)
      · have c23 : ¬ p0.toInt = 121 := z6 rfl (by decide) c23
        refine lv_iload_n hx hb dX11_letterOf_30 rfl (lv_at hl 0 rfl) ?_
        refine lv_bipush (v := 115) hx hb dX11_letterOf_31 (by decide) ?_
        refine lv_icmp_ne (tgt := 40) hx hb dX11_letterOf_33 (by decide) (fun c33 => ?_) (fun c33 => ?_)
        · have c33 : ¬ p0.toInt = 115 := z6 rfl (by decide) c33
          refine lv_iload_n hx hb dX11_letterOf_40 rfl (lv_at hl 0 rfl) ?_
          refine lv_bipush (v := 97) hx hb dX11_letterOf_41 (by decide) ?_
          refine lv_icmp_ne (tgt := 50) hx hb dX11_letterOf_43 (by decide) (fun c43 => ?_) (fun c43 => ?_)
          · have c43 : ¬ p0.toInt = 97 := z6 rfl (by decide) c43
            refine lv_iload_n hx hb dX11_letterOf_50 rfl (lv_at hl 0 rfl) ?_
            refine lv_bipush (v := 109) hx hb dX11_letterOf_51 (by decide) ?_
            refine lv_icmp_ne (tgt := 60) hx hb dX11_letterOf_53 (by decide) (fun c53 => ?_) (fun c53 => ?_)
            · have c53 : ¬ p0.toInt = 109 := z6 rfl (by decide) c53
              refine lv_iconst (v := (-1)) hx hb dX11_letterOf_60 (by decide) ?_
              have zr0 : ((-1) : Int32).toInt = (-1) := by decide
              rw [hQ]
              exact W.iret (v := ((-1))) hx hb hr (fun t ht hW => ⟨⟨(-1), (), rfl, ⟨by (try dsimp only); omega, by (try dsimp only); omega, by (try dsimp only); omega⟩, trivial⟩, hS.F ht⟩) hS.2.2 dX11_letterOf_61
            · have c53 : p0.toInt = 109 := z5 rfl (by decide) c53
              refine lv_iconst (v := 5) hx hb dX11_letterOf_56 (by decide) ?_
              refine lv_goto (tgt := 61) hx hb dX11_letterOf_57 (by decide) ?_
              have zr0 : (5 : Int32).toInt = 5 := by decide
              rw [hQ]
              exact W.iret (v := 5) hx hb hr (fun t ht hW => ⟨⟨5, (), rfl, ⟨by (try dsimp only); omega, by (try dsimp only); omega, by (try dsimp only); omega⟩, trivial⟩, hS.F ht⟩) hS.2.2 dX11_letterOf_61
          · have c43 : p0.toInt = 97 := z5 rfl (by decide) c43
            refine lv_iconst (v := 4) hx hb dX11_letterOf_46 (by decide) ?_
            refine lv_goto (tgt := 61) hx hb dX11_letterOf_47 (by decide) ?_
            have zr0 : (4 : Int32).toInt = 4 := by decide
            rw [hQ]
            exact W.iret (v := 4) hx hb hr (fun t ht hW => ⟨⟨4, (), rfl, ⟨by (try dsimp only); omega, by (try dsimp only); omega, by (try dsimp only); omega⟩, trivial⟩, hS.F ht⟩) hS.2.2 dX11_letterOf_61
        · have c33 : p0.toInt = 115 := z5 rfl (by decide) c33
          refine lv_iconst (v := 3) hx hb dX11_letterOf_36 (by decide) ?_
          refine lv_goto (tgt := 61) hx hb dX11_letterOf_37 (by decide) ?_
          have zr0 : (3 : Int32).toInt = 3 := by decide
          rw [hQ]
          exact W.iret (v := 3) hx hb hr (fun t ht hW => ⟨⟨3, (), rfl, ⟨by (try dsimp only); omega, by (try dsimp only); omega, by (try dsimp only); omega⟩, trivial⟩, hS.F ht⟩) hS.2.2 dX11_letterOf_61
      · have c23 : p0.toInt = 121 := z5 rfl (by decide) c23
        refine lv_iconst (v := 2) hx hb dX11_letterOf_26 (by decide) ?_
        refine lv_goto (tgt := 61) hx hb dX11_letterOf_27 (by decide) ?_
        have zr0 : (2 : Int32).toInt = 2 := by decide
        rw [hQ]
        exact W.iret (v := 2) hx hb hr (fun t ht hW => ⟨⟨2, (), rfl, ⟨by (try dsimp only); omega, by (try dsimp only); omega, by (try dsimp only); omega⟩, trivial⟩, hS.F ht⟩) hS.2.2 dX11_letterOf_61
    · have c13 : p0.toInt = 119 := z5 rfl (by decide) c13
      refine lv_iconst (v := 1) hx hb dX11_letterOf_16 (by decide) ?_
      refine lv_goto (tgt := 61) hx hb dX11_letterOf_17 (by decide) ?_
      have zr0 : (1 : Int32).toInt = 1 := by decide
      rw [hQ]
      exact W.iret (v := 1) hx hb hr (fun t ht hW => ⟨⟨1, (), rfl, ⟨by (try dsimp only); omega, by (try dsimp only); omega, by (try dsimp only); omega⟩, trivial⟩, hS.F ht⟩) hS.2.2 dX11_letterOf_61
  · have c3 : p0.toInt = 102 := z5 rfl (by decide) c3
    refine lv_iconst (v := 0) hx hb dX11_letterOf_6 (by decide) ?_
    refine lv_goto (tgt := 61) hx hb dX11_letterOf_7 (by decide) ?_
    have zr0 : (0 : Int32).toInt = 0 := by decide
    rw [hQ]
    exact W.iret (v := 0) hx hb hr (fun t ht hW => ⟨⟨0, (), rfl, ⟨by (try dsimp only); omega, by (try dsimp only); omega, by (try dsimp only); omega⟩, trivial⟩, hS.F ht⟩) hS.2.2 dX11_letterOf_61
set_option maxHeartbeats 4000000 in
set_option maxRecDepth 100000 in
theorem g_X11_isSign (l : Launch) (dC : Nat → ClassId) (dI : Nat → Nat → Nat) (cI cJ : ClassId) (p0 : Int32) (sz : Nat)     : Met l yX11_isSign (.code yX11_isSign cX11_isSign 1 (some .boolean) :: wA) ({ frames := 0, cells := 0, slots := 0, locals := 0 }) (zP (dC, dI) [(cI, .int), (cJ, .long)] [.int p0] sz []) (va_Qi (fun (r : Int32) (u : Unit) => (0 ≤ r.toInt) ∧ (r.toInt ≤ 1) ∧ (¬ r.toInt = 0 → (60 ≤ p0.toInt ∧ p0.toInt ≤ 62)) ∧ (zIs (oQ p0.toInt) r)) (fun (_ : Unit) (_ : State) => True) (va_A [] sz)) 0 0 (va_A [] sz) := by
  refine Met.ofW (cc := cX11_isSign) (maxL := 1) (ret := (some .boolean)) (by decide) rfl ?_
  intro p e s m args below meth c s₁ B hml hv
  obtain ⟨hargs, hsz, hP, hK, hT⟩ := hv
  have hx := B.exec
  have hb := B.bytes
  have hr := B.returns
  have hts : ∀ w ∈ wA, w.before args s = true := fun w h => atoms_spec (ws := .code yX11_isSign cX11_isSign 1 (some .boolean) :: wA) B.pre w (List.mem_cons_of_mem _ h)
  have hown : s.vm.findClass RX11 = some m.cls := findClass_of_methodNamed B.named
  have hlocks := B.notSynchronized
  subst hsz
  have hD : va_D (va_A [] s.heap.size) [] := zD0
  generalize hAe : va_A [] s.heap.size = A at hD ⊢
  have hA : ∀ q : Nat, s.heap.size ≤ q → A q := fun q h => by rw [← hAe]; exact Or.inr h
  have hl := lv_entry ([.int p0]) (n := 1) (Nat.le_of_ble_eq_true rfl)
  rw [show entryFrame m args 1 = entryFrame m ([.int p0] : List Value).toArray 1 by rw [hargs], lg_entry_eq]
  generalize (lg_sl ([.int p0]) ++ List.replicate (1 - (lg_sl ([.int p0])).length) Slot.unset).toArray = ls at hl ⊢
  have hl : lv_has ls 1 [(0, .int p0)] := hl
  refine zstart (fun H hH => ?_)
  rw [← hH] at hP
  have hS : va_S A s.heap H [] := by rw [hH]; exact va_S.rf
  generalize ([] : List Loc) = locs at hS ⊢
  refine zgen (fun R Q hR hQ => ?_)
  refine lv_iload_n hx hb dX11_isSign_0 rfl (lv_at hl 0 rfl) ?_
  refine lv_bipush (v := 61) hx hb dX11_isSign_1 (by decide) ?_
  refine lv_icmp_eq (tgt := 18) hx hb dX11_isSign_3 (by decide) (fun c3 => ?_) (fun c3 => ?_)
  · have c3 : p0.toInt = 61 := z5 rfl (by decide) c3
    refine lv_iconst (v := 1) hx hb dX11_isSign_18 (by decide) ?_
    refine lv_goto (tgt := 23) hx hb dX11_isSign_19 (by decide) ?_
    have zr0 : (1 : Int32).toInt = 1 := by decide
    rw [hQ]
    exact W.zret (v := 1) (ty := .boolean) hx hb hr rfl (fun t ht hW => ⟨⟨1, (), rfl, ⟨by (try dsimp only); omega, by (try dsimp only); omega, by (try dsimp only); omega, by (try dsimp only); exact zIsT (oQ_iff.mpr (by omega))⟩, trivial⟩, hS.F ht⟩) hS.2.2 dX11_isSign_23
  · have c3 : ¬ p0.toInt = 61 := z6 rfl (by decide) c3
    refine lv_iload_n hx hb dX11_isSign_6 rfl (lv_at hl 0 rfl) ?_
    refine lv_bipush (v := 60) hx hb dX11_isSign_7 (by decide) ?_
    refine lv_icmp_eq (tgt := 18) hx hb dX11_isSign_9 (by decide) (fun c9 => ?_) (fun c9 => ?_)
    · have c9 : p0.toInt = 60 := z5 rfl (by decide) c9
      refine lv_iconst (v := 1) hx hb dX11_isSign_18 (by decide) ?_
      refine lv_goto (tgt := 23) hx hb dX11_isSign_19 (by decide) ?_
      have zr0 : (1 : Int32).toInt = 1 := by decide
      rw [hQ]
      exact W.zret (v := 1) (ty := .boolean) hx hb hr rfl (fun t ht hW => ⟨⟨1, (), rfl, ⟨by (try dsimp only); omega, by (try dsimp only); omega, by (try dsimp only); omega, by (try dsimp only); exact zIsT (oQ_iff.mpr (by omega))⟩, trivial⟩, hS.F ht⟩) hS.2.2 dX11_isSign_23
    · have c9 : ¬ p0.toInt = 60 := z6 rfl (by decide) c9
      refine lv_iload_n hx hb dX11_isSign_12 rfl (lv_at hl 0 rfl) ?_
      refine lv_bipush (v := 62) hx hb dX11_isSign_13 (by decide) ?_
      refine lv_icmp_ne (tgt := 22) hx hb dX11_isSign_15 (by decide) (fun c15 => ?_) (fun c15 => ?_)
      · have c15 : ¬ p0.toInt = 62 := z6 rfl (by decide) c15
        refine lv_iconst (v := 0) hx hb dX11_isSign_22 (by decide) ?_
        have zr0 : (0 : Int32).toInt = 0 := by decide
        rw [hQ]
        exact W.zret (v := 0) (ty := .boolean) hx hb hr rfl (fun t ht hW => ⟨⟨0, (), rfl, ⟨by (try dsimp only); omega, by (try dsimp only); omega, by (try dsimp only); omega, by (try dsimp only); exact zIsN (fun q => by have := oQ_iff.mp q; omega)⟩, trivial⟩, hS.F ht⟩) hS.2.2 dX11_isSign_23
      · have c15 : p0.toInt = 62 := z5 rfl (by decide) c15
        refine lv_iconst (v := 1) hx hb dX11_isSign_18 (by decide) ?_
        refine lv_goto (tgt := 23) hx hb dX11_isSign_19 (by decide) ?_
        have zr0 : (1 : Int32).toInt = 1 := by decide
        rw [hQ]
        exact W.zret (v := 1) (ty := .boolean) hx hb hr rfl (fun t ht hW => ⟨⟨1, (), rfl, ⟨by (try dsimp only); omega, by (try dsimp only); omega, by (try dsimp only); omega, by (try dsimp only); exact zIsT (oQ_iff.mpr (by omega))⟩, trivial⟩, hS.F ht⟩) hS.2.2 dX11_isSign_23
set_option maxHeartbeats 4000000 in
set_option maxRecDepth 100000 in
theorem g_X11_of (l : Launch) (dC : Nat → ClassId) (dI : Nat → Nat → Nat) (cI cJ : ClassId) (h0 : Nat) (p0 : Int32) (p1 : Int32) (th : Int32) (tB : Nat) (tsz : Int32) (tat : Int32) (wr : Int32) (dp : Int32) (rC : Nat) (rV : Nat) (rD : Nat) (rK : Nat) (rT : Nat) (rS : Nat) (rU : Nat) (lw : Int32) (tx : Int32) (rL : Nat) (rX : Nat) (qR : Nat) (qB : Nat) (qP : Nat) (qnb : Int32) (qnp : Int32) (aR : Nat) (aB : Nat) (aP : Nat) (nb : Int32) (np : Int32) (aN : Nat) (rf : Nat) (ho : Int32) (br : Int32) (aK : Nat) (ac : Int32) (dw : Int64) (aE : Nat) (sr : Int32) (sf : Int32) (aA : Nat) (aH : Nat) (aI : Nat) (hi : Int32) (fBr : Nat → Int32) (sz : Nat) (n_ac : 0 ≤ ac.toInt ∧ ac.toInt ≤ 40) (n_hi : 0 ≤ hi.toInt ∧ hi.toInt ≤ 1) (n_ho : (-1) ≤ ho.toInt ∧ ho.toInt ≤ 3) (n_lw : 0 ≤ lw.toInt ∧ lw.toInt ≤ 4) (n_nb : 0 ≤ nb.toInt ∧ nb.toInt ≤ 6) (n_np : 0 ≤ np.toInt ∧ np.toInt ≤ 5) (n_p0 : 0 ≤ p0.toInt ∧ p0.toInt ≤ 5) (n_p1 : 0 ≤ p1.toInt ∧ p1.toInt ≤ 3) (n_qnb : 0 ≤ qnb.toInt ∧ qnb.toInt ≤ 6) (n_qnp : 0 ≤ qnp.toInt ∧ qnp.toInt ≤ 5) (n_tat : 0 ≤ tat.toInt ∧ tat.toInt ≤ 260) (n_tsz : 0 ≤ tsz.toInt ∧ tsz.toInt ≤ 240) (n_wr : (-1) ≤ wr.toInt ∧ wr.toInt ≤ 260)    : Met l yX11_of (.code yX11_of cX11_of 3 (some .int) :: wA) ({ frames := 0, cells := 0, slots := 0, locals := 0 }) (zP (dC, dI) [(cI, .int), (cJ, .long)] [.ref h0, .int p0, .int p1] sz [(h0, .inr (11, [.int th, .ref tB, .int tsz, .int tat, .int wr, .int dp, .ref rC, .ref rV, .ref rD, .ref rK, .ref rT, .ref rS, .ref rU, .int lw, .int tx, .ref rL, .ref rX, .ref qR, .ref qB, .ref qP, .int qnb, .int qnp, .ref aR, .ref aB, .ref aP, .int nb, .int np, .ref aN, .ref rf, .int ho, .int br, .ref aK, .int ac, .long dw, .ref aE, .int sr, .int sf, .ref aA, .ref aH, .ref aI, .int hi])), (aB, .inl (cI, 24, .inl fBr))]) (va_Qi (fun (r : Int32) (u : Unit) => (r = fBr (4 * p0.toInt.toNat + p1.toInt.toNat))) (fun (_ : Unit) (_ : State) => True) (va_A [] sz)) 0 0 (va_A [] sz) := by
  refine Met.ofW (cc := cX11_of) (maxL := 3) (ret := (some .int)) (by decide) rfl ?_
  intro p e s m args below meth c s₁ B hml hv
  have y_ac : zHid (0 ≤ ac.toInt ∧ ac.toInt ≤ 40) := n_ac
  have y_hi : zHid (0 ≤ hi.toInt ∧ hi.toInt ≤ 1) := n_hi
  have y_ho : zHid ((-1) ≤ ho.toInt ∧ ho.toInt ≤ 3) := n_ho
  have y_lw : zHid (0 ≤ lw.toInt ∧ lw.toInt ≤ 4) := n_lw
  have y_nb : zHid (0 ≤ nb.toInt ∧ nb.toInt ≤ 6) := n_nb
  have y_np : zHid (0 ≤ np.toInt ∧ np.toInt ≤ 5) := n_np
  have y_qnb : zHid (0 ≤ qnb.toInt ∧ qnb.toInt ≤ 6) := n_qnb
  have y_qnp : zHid (0 ≤ qnp.toInt ∧ qnp.toInt ≤ 5) := n_qnp
  have y_tat : zHid (0 ≤ tat.toInt ∧ tat.toInt ≤ 260) := n_tat
  have y_tsz : zHid (0 ≤ tsz.toInt ∧ tsz.toInt ≤ 240) := n_tsz
  have y_wr : zHid ((-1) ≤ wr.toInt ∧ wr.toInt ≤ 260) := n_wr
  clear n_ac n_hi n_ho n_lw n_nb n_np n_qnb n_qnp n_tat n_tsz n_wr
  obtain ⟨hargs, hsz, hP, hK, hT⟩ := hv
  have hx := B.exec
  have hb := B.bytes
  have hr := B.returns
  have hts : ∀ w ∈ wA, w.before args s = true := fun w h => atoms_spec (ws := .code yX11_of cX11_of 3 (some .int) :: wA) B.pre w (List.mem_cons_of_mem _ h)
  have hown : s.vm.findClass RX11 = some m.cls := findClass_of_methodNamed B.named
  have hlocks := B.notSynchronized
  subst hsz
  have hD : va_D (va_A [] s.heap.size) [] := zD0
  generalize hAe : va_A [] s.heap.size = A at hD ⊢
  have hA : ∀ q : Nat, s.heap.size ≤ q → A q := fun q h => by rw [← hAe]; exact Or.inr h
  have hl := lv_entry ([.ref h0, .int p0, .int p1]) (n := 3) (Nat.le_of_ble_eq_true rfl)
  rw [show entryFrame m args 3 = entryFrame m ([.ref h0, .int p0, .int p1] : List Value).toArray 3 by rw [hargs], lg_entry_eq]
  generalize (lg_sl ([.ref h0, .int p0, .int p1]) ++ List.replicate (3 - (lg_sl ([.ref h0, .int p0, .int p1])).length) Slot.unset).toArray = ls at hl ⊢
  have hl : lv_has ls 3 [(0, .ref h0), (1, .int p0), (2, .int p1)] := hl
  refine zstart (fun H hH => ?_)
  rw [← hH] at hP
  have hS : va_S A s.heap H [] := by rw [hH]; exact va_S.rf
  generalize ([] : List Loc) = locs at hS ⊢
  refine zgen (fun R Q hR hQ => ?_)
  refine lv_aload_n hx hb dX11_of_0 rfl (lv_at hl 0 rfl) ?_
  refine va_get (D := (dC, dI)) (ci := 11) (v := .ref aB) (C := RX11) (T := TX11) (N := 41) hx hb hts iX11 hown hK hP 0 rfl rfl 23 (by decide) (hts _ qw1150) (fun _ h9 => h9) rfl dX11_of_1 ?_
  refine lv_iconst (v := 4) hx hb dX11_of_4 (by decide) ?_
  refine lv_iload_n hx hb dX11_of_5 rfl (lv_at hl 1 rfl) ?_
  refine lv_imul hx hb dX11_of_6 ?_
  refine lv_topi (fun v6 e6 => ?_)
  have i6 : v6.toInt = 4 * p0.toInt := zmul e6 (by decide) rfl (by omega) (by omega)
  refine lv_iload_n hx hb dX11_of_7 rfl (lv_at hl 2 rfl) ?_
  refine lv_iadd hx hb dX11_of_8 ?_
  refine lv_topi (fun v8 e8 => ?_)
  have i8 : v8.toInt = v6.toInt + p1.toInt := zadd e8 rfl rfl (by omega) (by omega)
  refine va_iald hx hb hK hP 1 0 rfl rfl (vp_in_iff.mpr ⟨by omega, by omega⟩) dX11_of_9 ?_
  refine lv_topi (fun v9 e9 => ?_)
  rw [hQ]
  exact W.iret (v := v9) hx hb hr (fun t ht hW => ⟨⟨v9, (), rfl, (by (try dsimp only); exact zIxN e9 (by omega)), trivial⟩, hS.F ht⟩) hS.2.2 dX11_of_10
set_option maxHeartbeats 4000000 in
set_option maxRecDepth 100000 in
theorem g_X11_by (l : Launch) (dC : Nat → ClassId) (dI : Nat → Nat → Nat) (cI cJ : ClassId) (h0 : Nat) (p0 : Int32) (p1 : Int32) (th : Int32) (tB : Nat) (tsz : Int32) (tat : Int32) (wr : Int32) (dp : Int32) (rC : Nat) (rV : Nat) (rD : Nat) (rK : Nat) (rT : Nat) (rS : Nat) (rU : Nat) (lw : Int32) (tx : Int32) (rL : Nat) (rX : Nat) (qR : Nat) (qB : Nat) (qP : Nat) (qnb : Int32) (qnp : Int32) (aR : Nat) (aB : Nat) (aP : Nat) (nb : Int32) (np : Int32) (aN : Nat) (rf : Nat) (ho : Int32) (br : Int32) (aK : Nat) (ac : Int32) (dw : Int64) (aE : Nat) (sr : Int32) (sf : Int32) (aA : Nat) (aH : Nat) (aI : Nat) (hi : Int32) (fPa : Nat → Int32) (sz : Nat) (n_ac : 0 ≤ ac.toInt ∧ ac.toInt ≤ 40) (n_hi : 0 ≤ hi.toInt ∧ hi.toInt ≤ 1) (n_ho : (-1) ≤ ho.toInt ∧ ho.toInt ≤ 3) (n_lw : 0 ≤ lw.toInt ∧ lw.toInt ≤ 4) (n_nb : 0 ≤ nb.toInt ∧ nb.toInt ≤ 6) (n_np : 0 ≤ np.toInt ∧ np.toInt ≤ 5) (n_p0 : 0 ≤ p0.toInt ∧ p0.toInt ≤ 4) (n_p1 : 0 ≤ p1.toInt ∧ p1.toInt ≤ 3) (n_qnb : 0 ≤ qnb.toInt ∧ qnb.toInt ≤ 6) (n_qnp : 0 ≤ qnp.toInt ∧ qnp.toInt ≤ 5) (n_tat : 0 ≤ tat.toInt ∧ tat.toInt ≤ 260) (n_tsz : 0 ≤ tsz.toInt ∧ tsz.toInt ≤ 240) (n_wr : (-1) ≤ wr.toInt ∧ wr.toInt ≤ 260)    : Met l yX11_by (.code yX11_by cX11_by 3 (some .int) :: wA) ({ frames := 0, cells := 0, slots := 0, locals := 0 }) (zP (dC, dI) [(cI, .int), (cJ, .long)] [.ref h0, .int p0, .int p1] sz [(h0, .inr (11, [.int th, .ref tB, .int tsz, .int tat, .int wr, .int dp, .ref rC, .ref rV, .ref rD, .ref rK, .ref rT, .ref rS, .ref rU, .int lw, .int tx, .ref rL, .ref rX, .ref qR, .ref qB, .ref qP, .int qnb, .int qnp, .ref aR, .ref aB, .ref aP, .int nb, .int np, .ref aN, .ref rf, .int ho, .int br, .ref aK, .int ac, .long dw, .ref aE, .int sr, .int sf, .ref aA, .ref aH, .ref aI, .int hi])), (aP, .inl (cI, 20, .inl fPa))]) (va_Qi (fun (r : Int32) (u : Unit) => (r = fPa (4 * p0.toInt.toNat + p1.toInt.toNat))) (fun (_ : Unit) (_ : State) => True) (va_A [] sz)) 0 0 (va_A [] sz) := by
  refine Met.ofW (cc := cX11_by) (maxL := 3) (ret := (some .int)) (by decide) rfl ?_
  intro p e s m args below meth c s₁ B hml hv
  have y_ac : zHid (0 ≤ ac.toInt ∧ ac.toInt ≤ 40) := n_ac
  have y_hi : zHid (0 ≤ hi.toInt ∧ hi.toInt ≤ 1) := n_hi
  have y_ho : zHid ((-1) ≤ ho.toInt ∧ ho.toInt ≤ 3) := n_ho
  have y_lw : zHid (0 ≤ lw.toInt ∧ lw.toInt ≤ 4) := n_lw
  have y_nb : zHid (0 ≤ nb.toInt ∧ nb.toInt ≤ 6) := n_nb
  have y_np : zHid (0 ≤ np.toInt ∧ np.toInt ≤ 5) := n_np
  have y_qnb : zHid (0 ≤ qnb.toInt ∧ qnb.toInt ≤ 6) := n_qnb
  have y_qnp : zHid (0 ≤ qnp.toInt ∧ qnp.toInt ≤ 5) := n_qnp
  have y_tat : zHid (0 ≤ tat.toInt ∧ tat.toInt ≤ 260) := n_tat
  have y_tsz : zHid (0 ≤ tsz.toInt ∧ tsz.toInt ≤ 240) := n_tsz
  have y_wr : zHid ((-1) ≤ wr.toInt ∧ wr.toInt ≤ 260) := n_wr
  clear n_ac n_hi n_ho n_lw n_nb n_np n_qnb n_qnp n_tat n_tsz n_wr
  obtain ⟨hargs, hsz, hP, hK, hT⟩ := hv
  have hx := B.exec
  have hb := B.bytes
  have hr := B.returns
  have hts : ∀ w ∈ wA, w.before args s = true := fun w h => atoms_spec (ws := .code yX11_by cX11_by 3 (some .int) :: wA) B.pre w (List.mem_cons_of_mem _ h)
  have hown : s.vm.findClass RX11 = some m.cls := findClass_of_methodNamed B.named
  have hlocks := B.notSynchronized
  subst hsz
  have hD : va_D (va_A [] s.heap.size) [] := zD0
  generalize hAe : va_A [] s.heap.size = A at hD ⊢
  have hA : ∀ q : Nat, s.heap.size ≤ q → A q := fun q h => by rw [← hAe]; exact Or.inr h
  have hl := lv_entry ([.ref h0, .int p0, .int p1]) (n := 3) (Nat.le_of_ble_eq_true rfl)
  rw [show entryFrame m args 3 = entryFrame m ([.ref h0, .int p0, .int p1] : List Value).toArray 3 by rw [hargs], lg_entry_eq]
  generalize (lg_sl ([.ref h0, .int p0, .int p1]) ++ List.replicate (3 - (lg_sl ([.ref h0, .int p0, .int p1])).length) Slot.unset).toArray = ls at hl ⊢
  have hl : lv_has ls 3 [(0, .ref h0), (1, .int p0), (2, .int p1)] := hl
  refine zstart (fun H hH => ?_)
  rw [← hH] at hP
  have hS : va_S A s.heap H [] := by rw [hH]; exact va_S.rf
  generalize ([] : List Loc) = locs at hS ⊢
  refine zgen (fun R Q hR hQ => ?_)
  refine lv_aload_n hx hb dX11_by_0 rfl (lv_at hl 0 rfl) ?_
  refine va_get (D := (dC, dI)) (ci := 11) (v := .ref aP) (C := RX11) (T := TX11) (N := 41) hx hb hts iX11 hown hK hP 0 rfl rfl 24 (by decide) (hts _ qw1151) (fun _ h9 => h9) rfl dX11_by_1 ?_
  refine lv_iconst (v := 4) hx hb dX11_by_4 (by decide) ?_
  refine lv_iload_n hx hb dX11_by_5 rfl (lv_at hl 1 rfl) ?_
  refine lv_imul hx hb dX11_by_6 ?_
  refine lv_topi (fun v6 e6 => ?_)
  have i6 : v6.toInt = 4 * p0.toInt := zmul e6 (by decide) rfl (by omega) (by omega)
  refine lv_iload_n hx hb dX11_by_7 rfl (lv_at hl 2 rfl) ?_
  refine lv_iadd hx hb dX11_by_8 ?_
  refine lv_topi (fun v8 e8 => ?_)
  have i8 : v8.toInt = v6.toInt + p1.toInt := zadd e8 rfl rfl (by omega) (by omega)
  refine va_iald hx hb hK hP 1 0 rfl rfl (vp_in_iff.mpr ⟨by omega, by omega⟩) dX11_by_9 ?_
  refine lv_topi (fun v9 e9 => ?_)
  rw [hQ]
  exact W.iret (v := v9) hx hb hr (fun t ht hW => ⟨⟨v9, (), rfl, (by (try dsimp only); exact zIxN e9 (by omega)), trivial⟩, hS.F ht⟩) hS.2.2 dX11_by_10
set_option maxHeartbeats 4000000 in
set_option maxRecDepth 100000 in
theorem g_X11_of_0 (l : Launch) (dC : Nat → ClassId) (dI : Nat → Nat → Nat) (cI cJ : ClassId) (h0 : Nat) (p0 : Int32) (th : Int32) (tB : Nat) (tsz : Int32) (tat : Int32) (wr : Int32) (dp : Int32) (rC : Nat) (rV : Nat) (rD : Nat) (rK : Nat) (rT : Nat) (rS : Nat) (rU : Nat) (lw : Int32) (tx : Int32) (rL : Nat) (rX : Nat) (qR : Nat) (qB : Nat) (qP : Nat) (qnb : Int32) (qnp : Int32) (aR : Nat) (aB : Nat) (aP : Nat) (nb : Int32) (np : Int32) (aN : Nat) (rf : Nat) (ho : Int32) (br : Int32) (aK : Nat) (ac : Int32) (dw : Int64) (aE : Nat) (sr : Int32) (sf : Int32) (aA : Nat) (aH : Nat) (aI : Nat) (hi : Int32) (fBr : Nat → Int32) (sz : Nat) (n_ac : 0 ≤ ac.toInt ∧ ac.toInt ≤ 40) (n_hi : 0 ≤ hi.toInt ∧ hi.toInt ≤ 1) (n_ho : (-1) ≤ ho.toInt ∧ ho.toInt ≤ 3) (n_lw : 0 ≤ lw.toInt ∧ lw.toInt ≤ 4) (n_nb : 0 ≤ nb.toInt ∧ nb.toInt ≤ 6) (n_np : 0 ≤ np.toInt ∧ np.toInt ≤ 5) (n_p0 : 0 ≤ p0.toInt ∧ p0.toInt ≤ 5) (n_qnb : 0 ≤ qnb.toInt ∧ qnb.toInt ≤ 6) (n_qnp : 0 ≤ qnp.toInt ∧ qnp.toInt ≤ 5) (n_tat : 0 ≤ tat.toInt ∧ tat.toInt ≤ 260) (n_tsz : 0 ≤ tsz.toInt ∧ tsz.toInt ≤ 240) (n_wr : (-1) ≤ wr.toInt ∧ wr.toInt ≤ 260) (hbn : p0.toInt < nb.toInt) (ci_fBr_zBr_nb : zBr nb fBr)  : Met l yX11_of (.code yX11_of cX11_of 3 (some .int) :: wA) ({ frames := 0, cells := 0, slots := 0, locals := 0 }) (zP (dC, dI) [(cI, .int), (cJ, .long)] [.ref h0, .int p0, .int 0] sz [(h0, .inr (11, [.int th, .ref tB, .int tsz, .int tat, .int wr, .int dp, .ref rC, .ref rV, .ref rD, .ref rK, .ref rT, .ref rS, .ref rU, .int lw, .int tx, .ref rL, .ref rX, .ref qR, .ref qB, .ref qP, .int qnb, .int qnp, .ref aR, .ref aB, .ref aP, .int nb, .int np, .ref aN, .ref rf, .int ho, .int br, .ref aK, .int ac, .long dw, .ref aE, .int sr, .int sf, .ref aA, .ref aH, .ref aI, .int hi])), (aB, .inl (cI, 24, .inl fBr))]) (va_Qi (fun (r : Int32) (u : Unit) => (0 ≤ r.toInt) ∧ (r.toInt ≤ 9) ∧ (r.toInt = (fBr (4 * p0.toInt.toNat)).toInt)) (fun (_ : Unit) (_ : State) => True) (va_A [] sz)) 0 0 (va_A [] sz) := by
  refine Met.ofW (cc := cX11_of) (maxL := 3) (ret := (some .int)) (by decide) rfl ?_
  intro p e s m args below meth c s₁ B hml hv
  have y_ac : zHid (0 ≤ ac.toInt ∧ ac.toInt ≤ 40) := n_ac
  have y_hi : zHid (0 ≤ hi.toInt ∧ hi.toInt ≤ 1) := n_hi
  have y_ho : zHid ((-1) ≤ ho.toInt ∧ ho.toInt ≤ 3) := n_ho
  have y_lw : zHid (0 ≤ lw.toInt ∧ lw.toInt ≤ 4) := n_lw
  have y_np : zHid (0 ≤ np.toInt ∧ np.toInt ≤ 5) := n_np
  have y_qnb : zHid (0 ≤ qnb.toInt ∧ qnb.toInt ≤ 6) := n_qnb
  have y_qnp : zHid (0 ≤ qnp.toInt ∧ qnp.toInt ≤ 5) := n_qnp
  have y_tat : zHid (0 ≤ tat.toInt ∧ tat.toInt ≤ 260) := n_tat
  have y_tsz : zHid (0 ≤ tsz.toInt ∧ tsz.toInt ≤ 240) := n_tsz
  have y_wr : zHid ((-1) ≤ wr.toInt ∧ wr.toInt ≤ 260) := n_wr
  clear n_ac n_hi n_ho n_lw n_np n_qnb n_qnp n_tat n_tsz n_wr
  obtain ⟨hargs, hsz, hP, hK, hT⟩ := hv
  have hx := B.exec
  have hb := B.bytes
  have hr := B.returns
  have hts : ∀ w ∈ wA, w.before args s = true := fun w h => atoms_spec (ws := .code yX11_of cX11_of 3 (some .int) :: wA) B.pre w (List.mem_cons_of_mem _ h)
  have hown : s.vm.findClass RX11 = some m.cls := findClass_of_methodNamed B.named
  have hlocks := B.notSynchronized
  subst hsz
  have hD : va_D (va_A [] s.heap.size) [] := zD0
  generalize hAe : va_A [] s.heap.size = A at hD ⊢
  have hA : ∀ q : Nat, s.heap.size ≤ q → A q := fun q h => by rw [← hAe]; exact Or.inr h
  have hl := lv_entry ([.ref h0, .int p0, .int 0]) (n := 3) (Nat.le_of_ble_eq_true rfl)
  rw [show entryFrame m args 3 = entryFrame m ([.ref h0, .int p0, .int 0] : List Value).toArray 3 by rw [hargs], lg_entry_eq]
  generalize (lg_sl ([.ref h0, .int p0, .int 0]) ++ List.replicate (3 - (lg_sl ([.ref h0, .int p0, .int 0])).length) Slot.unset).toArray = ls at hl ⊢
  have hl : lv_has ls 3 [(0, .ref h0), (1, .int p0), (2, .int 0)] := hl
  refine zstart (fun H hH => ?_)
  rw [← hH] at hP
  have hS : va_S A s.heap H [] := by rw [hH]; exact va_S.rf
  generalize ([] : List Loc) = locs at hS ⊢
  refine zgen (fun R Q hR hQ => ?_)
  refine lv_aload_n hx hb dX11_of_0 rfl (lv_at hl 0 rfl) ?_
  refine va_get (D := (dC, dI)) (ci := 11) (v := .ref aB) (C := RX11) (T := TX11) (N := 41) hx hb hts iX11 hown hK hP 0 rfl rfl 23 (by decide) (hts _ qw1150) (fun _ h9 => h9) rfl dX11_of_1 ?_
  refine lv_iconst (v := 4) hx hb dX11_of_4 (by decide) ?_
  refine lv_iload_n hx hb dX11_of_5 rfl (lv_at hl 1 rfl) ?_
  refine lv_imul hx hb dX11_of_6 ?_
  refine lv_topi (fun v6 e6 => ?_)
  have i6 : v6.toInt = 4 * p0.toInt := zmul e6 (by decide) rfl (by omega) (by omega)
  refine lv_iload_n hx hb dX11_of_7 rfl (lv_at hl 2 rfl) ?_
  refine lv_iadd hx hb dX11_of_8 ?_
  refine lv_topi (fun v8 e8 => ?_)
  have i8 : v8.toInt = v6.toInt + 0 := zadd e8 rfl (by decide) (by omega) (by omega)
  refine va_iald hx hb hK hP 1 0 rfl rfl (vp_in_iff.mpr ⟨by omega, by omega⟩) dX11_of_9 ?_
  refine lv_topi (fun v9 e9 => ?_)
  have i9 : v9.toInt = (fBr (4 * p0.toInt.toNat)).toInt ∧ 0 ≤ v9.toInt ∧ v9.toInt ≤ 9 := zBr_g ci_fBr_zBr_nb e9 (k := p0.toInt) (by omega) (by omega) hbn
  rw [hQ]
  exact W.iret (v := v9) hx hb hr (fun t ht hW => ⟨⟨v9, (), rfl, ⟨by (try dsimp only); omega, by (try dsimp only); omega, by (try dsimp only); omega⟩, trivial⟩, hS.F ht⟩) hS.2.2 dX11_of_10
set_option maxHeartbeats 4000000 in
set_option maxRecDepth 100000 in
theorem g_X11_by_0 (l : Launch) (dC : Nat → ClassId) (dI : Nat → Nat → Nat) (cI cJ : ClassId) (h0 : Nat) (p0 : Int32) (th : Int32) (tB : Nat) (tsz : Int32) (tat : Int32) (wr : Int32) (dp : Int32) (rC : Nat) (rV : Nat) (rD : Nat) (rK : Nat) (rT : Nat) (rS : Nat) (rU : Nat) (lw : Int32) (tx : Int32) (rL : Nat) (rX : Nat) (qR : Nat) (qB : Nat) (qP : Nat) (qnb : Int32) (qnp : Int32) (aR : Nat) (aB : Nat) (aP : Nat) (nb : Int32) (np : Int32) (aN : Nat) (rf : Nat) (ho : Int32) (br : Int32) (aK : Nat) (ac : Int32) (dw : Int64) (aE : Nat) (sr : Int32) (sf : Int32) (aA : Nat) (aH : Nat) (aI : Nat) (hi : Int32) (fPa : Nat → Int32) (sz : Nat) (n_ac : 0 ≤ ac.toInt ∧ ac.toInt ≤ 40) (n_hi : 0 ≤ hi.toInt ∧ hi.toInt ≤ 1) (n_ho : (-1) ≤ ho.toInt ∧ ho.toInt ≤ 3) (n_lw : 0 ≤ lw.toInt ∧ lw.toInt ≤ 4) (n_nb : 0 ≤ nb.toInt ∧ nb.toInt ≤ 6) (n_np : 0 ≤ np.toInt ∧ np.toInt ≤ 5) (n_p0 : 0 ≤ p0.toInt ∧ p0.toInt ≤ 4) (n_qnb : 0 ≤ qnb.toInt ∧ qnb.toInt ≤ 6) (n_qnp : 0 ≤ qnp.toInt ∧ qnp.toInt ≤ 5) (n_tat : 0 ≤ tat.toInt ∧ tat.toInt ≤ 260) (n_tsz : 0 ≤ tsz.toInt ∧ tsz.toInt ≤ 240) (n_wr : (-1) ≤ wr.toInt ∧ wr.toInt ≤ 260) (hbn : p0.toInt < np.toInt) (ci_fPa_zBr_np : zBr np fPa)  : Met l yX11_by (.code yX11_by cX11_by 3 (some .int) :: wA) ({ frames := 0, cells := 0, slots := 0, locals := 0 }) (zP (dC, dI) [(cI, .int), (cJ, .long)] [.ref h0, .int p0, .int 0] sz [(h0, .inr (11, [.int th, .ref tB, .int tsz, .int tat, .int wr, .int dp, .ref rC, .ref rV, .ref rD, .ref rK, .ref rT, .ref rS, .ref rU, .int lw, .int tx, .ref rL, .ref rX, .ref qR, .ref qB, .ref qP, .int qnb, .int qnp, .ref aR, .ref aB, .ref aP, .int nb, .int np, .ref aN, .ref rf, .int ho, .int br, .ref aK, .int ac, .long dw, .ref aE, .int sr, .int sf, .ref aA, .ref aH, .ref aI, .int hi])), (aP, .inl (cI, 20, .inl fPa))]) (va_Qi (fun (r : Int32) (u : Unit) => (0 ≤ r.toInt) ∧ (r.toInt ≤ 9) ∧ (r = fPa (4 * p0.toInt.toNat))) (fun (_ : Unit) (_ : State) => True) (va_A [] sz)) 0 0 (va_A [] sz) := by
  refine Met.ofW (cc := cX11_by) (maxL := 3) (ret := (some .int)) (by decide) rfl ?_
  intro p e s m args below meth c s₁ B hml hv
  have y_ac : zHid (0 ≤ ac.toInt ∧ ac.toInt ≤ 40) := n_ac
  have y_hi : zHid (0 ≤ hi.toInt ∧ hi.toInt ≤ 1) := n_hi
  have y_ho : zHid ((-1) ≤ ho.toInt ∧ ho.toInt ≤ 3) := n_ho
  have y_lw : zHid (0 ≤ lw.toInt ∧ lw.toInt ≤ 4) := n_lw
  have y_nb : zHid (0 ≤ nb.toInt ∧ nb.toInt ≤ 6) := n_nb
  have y_qnb : zHid (0 ≤ qnb.toInt ∧ qnb.toInt ≤ 6) := n_qnb
  have y_qnp : zHid (0 ≤ qnp.toInt ∧ qnp.toInt ≤ 5) := n_qnp
  have y_tat : zHid (0 ≤ tat.toInt ∧ tat.toInt ≤ 260) := n_tat
  have y_tsz : zHid (0 ≤ tsz.toInt ∧ tsz.toInt ≤ 240) := n_tsz
  have y_wr : zHid ((-1) ≤ wr.toInt ∧ wr.toInt ≤ 260) := n_wr
  clear n_ac n_hi n_ho n_lw n_nb n_qnb n_qnp n_tat n_tsz n_wr
  obtain ⟨hargs, hsz, hP, hK, hT⟩ := hv
  have hx := B.exec
  have hb := B.bytes
  have hr := B.returns
  have hts : ∀ w ∈ wA, w.before args s = true := fun w h => atoms_spec (ws := .code yX11_by cX11_by 3 (some .int) :: wA) B.pre w (List.mem_cons_of_mem _ h)
  have hown : s.vm.findClass RX11 = some m.cls := findClass_of_methodNamed B.named
  have hlocks := B.notSynchronized
  subst hsz
  have hD : va_D (va_A [] s.heap.size) [] := zD0
  generalize hAe : va_A [] s.heap.size = A at hD ⊢
  have hA : ∀ q : Nat, s.heap.size ≤ q → A q := fun q h => by rw [← hAe]; exact Or.inr h
  have hl := lv_entry ([.ref h0, .int p0, .int 0]) (n := 3) (Nat.le_of_ble_eq_true rfl)
  rw [show entryFrame m args 3 = entryFrame m ([.ref h0, .int p0, .int 0] : List Value).toArray 3 by rw [hargs], lg_entry_eq]
  generalize (lg_sl ([.ref h0, .int p0, .int 0]) ++ List.replicate (3 - (lg_sl ([.ref h0, .int p0, .int 0])).length) Slot.unset).toArray = ls at hl ⊢
  have hl : lv_has ls 3 [(0, .ref h0), (1, .int p0), (2, .int 0)] := hl
  refine zstart (fun H hH => ?_)
  rw [← hH] at hP
  have hS : va_S A s.heap H [] := by rw [hH]; exact va_S.rf
  generalize ([] : List Loc) = locs at hS ⊢
  refine zgen (fun R Q hR hQ => ?_)
  refine lv_aload_n hx hb dX11_by_0 rfl (lv_at hl 0 rfl) ?_
  refine va_get (D := (dC, dI)) (ci := 11) (v := .ref aP) (C := RX11) (T := TX11) (N := 41) hx hb hts iX11 hown hK hP 0 rfl rfl 24 (by decide) (hts _ qw1151) (fun _ h9 => h9) rfl dX11_by_1 ?_
  refine lv_iconst (v := 4) hx hb dX11_by_4 (by decide) ?_
  refine lv_iload_n hx hb dX11_by_5 rfl (lv_at hl 1 rfl) ?_
  refine lv_imul hx hb dX11_by_6 ?_
  refine lv_topi (fun v6 e6 => ?_)
  have i6 : v6.toInt = 4 * p0.toInt := zmul e6 (by decide) rfl (by omega) (by omega)
  refine lv_iload_n hx hb dX11_by_7 rfl (lv_at hl 2 rfl) ?_
  refine lv_iadd hx hb dX11_by_8 ?_
  refine lv_topi (fun v8 e8 => ?_)
  have i8 : v8.toInt = v6.toInt + 0 := zadd e8 rfl (by decide) (by omega) (by omega)
  refine va_iald hx hb hK hP 1 0 rfl rfl (vp_in_iff.mpr ⟨by omega, by omega⟩) dX11_by_9 ?_
  refine lv_topi (fun v9 e9 => ?_)
  have i9 : v9.toInt = (fPa (4 * p0.toInt.toNat)).toInt ∧ 0 ≤ v9.toInt ∧ v9.toInt ≤ 9 := zBr_g ci_fPa_zBr_np e9 (k := p0.toInt) (by omega) (by omega) hbn
  rw [hQ]
  exact W.iret (v := v9) hx hb hr (fun t ht hW => ⟨⟨v9, (), rfl, ⟨by (try dsimp only); omega, by (try dsimp only); omega, by (try dsimp only); exact zIxN e9 (by omega)⟩, trivial⟩, hS.F ht⟩) hS.2.2 dX11_by_10
set_option maxHeartbeats 4000000 in
set_option maxRecDepth 100000 in
theorem g_X11_by_1 (l : Launch) (dC : Nat → ClassId) (dI : Nat → Nat → Nat) (cI cJ : ClassId) (h0 : Nat) (p0 : Int32) (th : Int32) (tB : Nat) (tsz : Int32) (tat : Int32) (wr : Int32) (dp : Int32) (rC : Nat) (rV : Nat) (rD : Nat) (rK : Nat) (rT : Nat) (rS : Nat) (rU : Nat) (lw : Int32) (tx : Int32) (rL : Nat) (rX : Nat) (qR : Nat) (qB : Nat) (qP : Nat) (qnb : Int32) (qnp : Int32) (aR : Nat) (aB : Nat) (aP : Nat) (nb : Int32) (np : Int32) (aN : Nat) (rf : Nat) (ho : Int32) (br : Int32) (aK : Nat) (ac : Int32) (dw : Int64) (aE : Nat) (sr : Int32) (sf : Int32) (aA : Nat) (aH : Nat) (aI : Nat) (hi : Int32) (fPa : Nat → Int32) (sz : Nat) (n_ac : 0 ≤ ac.toInt ∧ ac.toInt ≤ 40) (n_hi : 0 ≤ hi.toInt ∧ hi.toInt ≤ 1) (n_ho : (-1) ≤ ho.toInt ∧ ho.toInt ≤ 3) (n_lw : 0 ≤ lw.toInt ∧ lw.toInt ≤ 4) (n_nb : 0 ≤ nb.toInt ∧ nb.toInt ≤ 6) (n_np : 0 ≤ np.toInt ∧ np.toInt ≤ 5) (n_p0 : 0 ≤ p0.toInt ∧ p0.toInt ≤ 4) (n_qnb : 0 ≤ qnb.toInt ∧ qnb.toInt ≤ 6) (n_qnp : 0 ≤ qnp.toInt ∧ qnp.toInt ≤ 5) (n_tat : 0 ≤ tat.toInt ∧ tat.toInt ≤ 260) (n_tsz : 0 ≤ tsz.toInt ∧ tsz.toInt ≤ 240) (n_wr : (-1) ≤ wr.toInt ∧ wr.toInt ≤ 260)    : Met l yX11_by (.code yX11_by cX11_by 3 (some .int) :: wA) ({ frames := 0, cells := 0, slots := 0, locals := 0 }) (zP (dC, dI) [(cI, .int), (cJ, .long)] [.ref h0, .int p0, .int 1] sz [(h0, .inr (11, [.int th, .ref tB, .int tsz, .int tat, .int wr, .int dp, .ref rC, .ref rV, .ref rD, .ref rK, .ref rT, .ref rS, .ref rU, .int lw, .int tx, .ref rL, .ref rX, .ref qR, .ref qB, .ref qP, .int qnb, .int qnp, .ref aR, .ref aB, .ref aP, .int nb, .int np, .ref aN, .ref rf, .int ho, .int br, .ref aK, .int ac, .long dw, .ref aE, .int sr, .int sf, .ref aA, .ref aH, .ref aI, .int hi])), (aP, .inl (cI, 20, .inl fPa))]) (va_Qi (fun (r : Int32) (u : Unit) => (r.toInt = (fPa (4 * p0.toInt.toNat + 1)).toInt) ∧ (r = fPa (4 * p0.toInt.toNat + 1))) (fun (_ : Unit) (_ : State) => True) (va_A [] sz)) 0 0 (va_A [] sz) := by
  refine Met.ofW (cc := cX11_by) (maxL := 3) (ret := (some .int)) (by decide) rfl ?_
  intro p e s m args below meth c s₁ B hml hv
  have y_ac : zHid (0 ≤ ac.toInt ∧ ac.toInt ≤ 40) := n_ac
  have y_hi : zHid (0 ≤ hi.toInt ∧ hi.toInt ≤ 1) := n_hi
  have y_ho : zHid ((-1) ≤ ho.toInt ∧ ho.toInt ≤ 3) := n_ho
  have y_lw : zHid (0 ≤ lw.toInt ∧ lw.toInt ≤ 4) := n_lw
  have y_nb : zHid (0 ≤ nb.toInt ∧ nb.toInt ≤ 6) := n_nb
  have y_np : zHid (0 ≤ np.toInt ∧ np.toInt ≤ 5) := n_np
  have y_qnb : zHid (0 ≤ qnb.toInt ∧ qnb.toInt ≤ 6) := n_qnb
  have y_qnp : zHid (0 ≤ qnp.toInt ∧ qnp.toInt ≤ 5) := n_qnp
  have y_tat : zHid (0 ≤ tat.toInt ∧ tat.toInt ≤ 260) := n_tat
  have y_tsz : zHid (0 ≤ tsz.toInt ∧ tsz.toInt ≤ 240) := n_tsz
  have y_wr : zHid ((-1) ≤ wr.toInt ∧ wr.toInt ≤ 260) := n_wr
  clear n_ac n_hi n_ho n_lw n_nb n_np n_qnb n_qnp n_tat n_tsz n_wr
  obtain ⟨hargs, hsz, hP, hK, hT⟩ := hv
  have hx := B.exec
  have hb := B.bytes
  have hr := B.returns
  have hts : ∀ w ∈ wA, w.before args s = true := fun w h => atoms_spec (ws := .code yX11_by cX11_by 3 (some .int) :: wA) B.pre w (List.mem_cons_of_mem _ h)
  have hown : s.vm.findClass RX11 = some m.cls := findClass_of_methodNamed B.named
  have hlocks := B.notSynchronized
  subst hsz
  have hD : va_D (va_A [] s.heap.size) [] := zD0
  generalize hAe : va_A [] s.heap.size = A at hD ⊢
  have hA : ∀ q : Nat, s.heap.size ≤ q → A q := fun q h => by rw [← hAe]; exact Or.inr h
  have hl := lv_entry ([.ref h0, .int p0, .int 1]) (n := 3) (Nat.le_of_ble_eq_true rfl)
  rw [show entryFrame m args 3 = entryFrame m ([.ref h0, .int p0, .int 1] : List Value).toArray 3 by rw [hargs], lg_entry_eq]
  generalize (lg_sl ([.ref h0, .int p0, .int 1]) ++ List.replicate (3 - (lg_sl ([.ref h0, .int p0, .int 1])).length) Slot.unset).toArray = ls at hl ⊢
  have hl : lv_has ls 3 [(0, .ref h0), (1, .int p0), (2, .int 1)] := hl
  refine zstart (fun H hH => ?_)
  rw [← hH] at hP
  have hS : va_S A s.heap H [] := by rw [hH]; exact va_S.rf
  generalize ([] : List Loc) = locs at hS ⊢
  refine zgen (fun R Q hR hQ => ?_)
  refine lv_aload_n hx hb dX11_by_0 rfl (lv_at hl 0 rfl) ?_
  refine va_get (D := (dC, dI)) (ci := 11) (v := .ref aP) (C := RX11) (T := TX11) (N := 41) hx hb hts iX11 hown hK hP 0 rfl rfl 24 (by decide) (hts _ qw1151) (fun _ h9 => h9) rfl dX11_by_1 ?_
  refine lv_iconst (v := 4) hx hb dX11_by_4 (by decide) ?_
  refine lv_iload_n hx hb dX11_by_5 rfl (lv_at hl 1 rfl) ?_
  refine lv_imul hx hb dX11_by_6 ?_
  refine lv_topi (fun v6 e6 => ?_)
  have i6 : v6.toInt = 4 * p0.toInt := zmul e6 (by decide) rfl (by omega) (by omega)
  refine lv_iload_n hx hb dX11_by_7 rfl (lv_at hl 2 rfl) ?_
  refine lv_iadd hx hb dX11_by_8 ?_
  refine lv_topi (fun v8 e8 => ?_)
  have i8 : v8.toInt = v6.toInt + 1 := zadd e8 rfl (by decide) (by omega) (by omega)
  refine va_iald hx hb hK hP 1 0 rfl rfl (vp_in_iff.mpr ⟨by omega, by omega⟩) dX11_by_9 ?_
  refine lv_topi (fun v9 e9 => ?_)
  have i9 : v9.toInt = (fPa (4 * p0.toInt.toNat + 1)).toInt := zIx e9 (by omega)
  rw [hQ]
  exact W.iret (v := v9) hx hb hr (fun t ht hW => ⟨⟨v9, (), rfl, ⟨by (try dsimp only); omega, by (try dsimp only); exact zIxN e9 (by omega)⟩, trivial⟩, hS.F ht⟩) hS.2.2 dX11_by_10
set_option maxHeartbeats 4000000 in
set_option maxRecDepth 100000 in
theorem g_X11_shot (l : Launch) (dC : Nat → ClassId) (dI : Nat → Nat → Nat) (cI cJ : ClassId) (h0 : Nat) (p0 : Int32) (p1 : Int32) (th : Int32) (tB : Nat) (tsz : Int32) (tat : Int32) (wr : Int32) (dp : Int32) (rC : Nat) (rV : Nat) (rD : Nat) (rK : Nat) (rT : Nat) (rS : Nat) (rU : Nat) (lw : Int32) (tx : Int32) (rL : Nat) (rX : Nat) (qR : Nat) (qB : Nat) (qP : Nat) (qnb : Int32) (qnp : Int32) (aR : Nat) (aB : Nat) (aP : Nat) (nb : Int32) (np : Int32) (aN : Nat) (rf : Nat) (ho : Int32) (br : Int32) (aK : Nat) (ac : Int32) (dw : Int64) (aE : Nat) (sr : Int32) (sf : Int32) (aA : Nat) (aH : Nat) (aI : Nat) (hi : Int32) (fN : Nat → Int32) (sz : Nat) (n_ac : 0 ≤ ac.toInt ∧ ac.toInt ≤ 40) (n_hi : 0 ≤ hi.toInt ∧ hi.toInt ≤ 1) (n_ho : (-1) ≤ ho.toInt ∧ ho.toInt ≤ 3) (n_lw : 0 ≤ lw.toInt ∧ lw.toInt ≤ 4) (n_nb : 0 ≤ nb.toInt ∧ nb.toInt ≤ 6) (n_np : 0 ≤ np.toInt ∧ np.toInt ≤ 5) (n_p0 : 0 ≤ p0.toInt ∧ p0.toInt ≤ 19) (n_p1 : 0 ≤ p1.toInt ∧ p1.toInt ≤ 3) (n_qnb : 0 ≤ qnb.toInt ∧ qnb.toInt ≤ 6) (n_qnp : 0 ≤ qnp.toInt ∧ qnp.toInt ≤ 5) (n_tat : 0 ≤ tat.toInt ∧ tat.toInt ≤ 260) (n_tsz : 0 ≤ tsz.toInt ∧ tsz.toInt ≤ 240) (n_wr : (-1) ≤ wr.toInt ∧ wr.toInt ≤ 260)    : Met l yX11_shot (.code yX11_shot cX11_shot 3 (some .int) :: wA) ({ frames := 0, cells := 0, slots := 0, locals := 0 }) (zP (dC, dI) [(cI, .int), (cJ, .long)] [.ref h0, .int p0, .int p1] sz [(h0, .inr (11, [.int th, .ref tB, .int tsz, .int tat, .int wr, .int dp, .ref rC, .ref rV, .ref rD, .ref rK, .ref rT, .ref rS, .ref rU, .int lw, .int tx, .ref rL, .ref rX, .ref qR, .ref qB, .ref qP, .int qnb, .int qnp, .ref aR, .ref aB, .ref aP, .int nb, .int np, .ref aN, .ref rf, .int ho, .int br, .ref aK, .int ac, .long dw, .ref aE, .int sr, .int sf, .ref aA, .ref aH, .ref aI, .int hi])), (aN, .inl (cI, 97, .inl fN))]) (va_Qi (fun (r : Int32) (u : Unit) => (r = fN (17 + (4 * p0.toInt.toNat + p1.toInt.toNat)))) (fun (_ : Unit) (_ : State) => True) (va_A [] sz)) 0 0 (va_A [] sz) := by
  refine Met.ofW (cc := cX11_shot) (maxL := 3) (ret := (some .int)) (by decide) rfl ?_
  intro p e s m args below meth c s₁ B hml hv
  have y_ac : zHid (0 ≤ ac.toInt ∧ ac.toInt ≤ 40) := n_ac
  have y_hi : zHid (0 ≤ hi.toInt ∧ hi.toInt ≤ 1) := n_hi
  have y_ho : zHid ((-1) ≤ ho.toInt ∧ ho.toInt ≤ 3) := n_ho
  have y_lw : zHid (0 ≤ lw.toInt ∧ lw.toInt ≤ 4) := n_lw
  have y_nb : zHid (0 ≤ nb.toInt ∧ nb.toInt ≤ 6) := n_nb
  have y_np : zHid (0 ≤ np.toInt ∧ np.toInt ≤ 5) := n_np
  have y_qnb : zHid (0 ≤ qnb.toInt ∧ qnb.toInt ≤ 6) := n_qnb
  have y_qnp : zHid (0 ≤ qnp.toInt ∧ qnp.toInt ≤ 5) := n_qnp
  have y_tat : zHid (0 ≤ tat.toInt ∧ tat.toInt ≤ 260) := n_tat
  have y_tsz : zHid (0 ≤ tsz.toInt ∧ tsz.toInt ≤ 240) := n_tsz
  have y_wr : zHid ((-1) ≤ wr.toInt ∧ wr.toInt ≤ 260) := n_wr
  clear n_ac n_hi n_ho n_lw n_nb n_np n_qnb n_qnp n_tat n_tsz n_wr
  obtain ⟨hargs, hsz, hP, hK, hT⟩ := hv
  have hx := B.exec
  have hb := B.bytes
  have hr := B.returns
  have hts : ∀ w ∈ wA, w.before args s = true := fun w h => atoms_spec (ws := .code yX11_shot cX11_shot 3 (some .int) :: wA) B.pre w (List.mem_cons_of_mem _ h)
  have hown : s.vm.findClass RX11 = some m.cls := findClass_of_methodNamed B.named
  have hlocks := B.notSynchronized
  subst hsz
  have hD : va_D (va_A [] s.heap.size) [] := zD0
  generalize hAe : va_A [] s.heap.size = A at hD ⊢
  have hA : ∀ q : Nat, s.heap.size ≤ q → A q := fun q h => by rw [← hAe]; exact Or.inr h
  have hl := lv_entry ([.ref h0, .int p0, .int p1]) (n := 3) (Nat.le_of_ble_eq_true rfl)
  rw [show entryFrame m args 3 = entryFrame m ([.ref h0, .int p0, .int p1] : List Value).toArray 3 by rw [hargs], lg_entry_eq]
  generalize (lg_sl ([.ref h0, .int p0, .int p1]) ++ List.replicate (3 - (lg_sl ([.ref h0, .int p0, .int p1])).length) Slot.unset).toArray = ls at hl ⊢
  have hl : lv_has ls 3 [(0, .ref h0), (1, .int p0), (2, .int p1)] := hl
  refine zstart (fun H hH => ?_)
  rw [← hH] at hP
  have hS : va_S A s.heap H [] := by rw [hH]; exact va_S.rf
  generalize ([] : List Loc) = locs at hS ⊢
  refine zgen (fun R Q hR hQ => ?_)
  refine lv_aload_n hx hb dX11_shot_0 rfl (lv_at hl 0 rfl) ?_
  refine va_get (D := (dC, dI)) (ci := 11) (v := .ref aN) (C := RX11) (T := TX11) (N := 41) hx hb hts iX11 hown hK hP 0 rfl rfl 27 (by decide) (hts _ qw1154) (fun _ h9 => h9) rfl dX11_shot_1 ?_
  refine lv_bipush (v := 17) hx hb dX11_shot_4 (by decide) ?_
  refine lv_iconst (v := 4) hx hb dX11_shot_6 (by decide) ?_
  refine lv_iload_n hx hb dX11_shot_7 rfl (lv_at hl 1 rfl) ?_
  refine lv_imul hx hb dX11_shot_8 ?_
  refine lv_topi (fun v8 e8 => ?_)
  have i8 : v8.toInt = 4 * p0.toInt := zmul e8 (by decide) rfl (by omega) (by omega)
  refine lv_iadd hx hb dX11_shot_9 ?_
  refine lv_topi (fun v9 e9 => ?_)
  have i9 : v9.toInt = 17 + v8.toInt := zadd e9 (by decide) rfl (by omega) (by omega)
  refine lv_iload_n hx hb dX11_shot_10 rfl (lv_at hl 2 rfl) ?_
  refine lv_iadd hx hb dX11_shot_11 ?_
  refine lv_topi (fun v11 e11 => ?_)
  have i11 : v11.toInt = v9.toInt + p1.toInt := zadd e11 rfl rfl (by omega) (by omega)
  refine va_iald hx hb hK hP 1 0 rfl rfl (vp_in_iff.mpr ⟨by omega, by omega⟩) dX11_shot_12 ?_
  refine lv_topi (fun v12 e12 => ?_)
  rw [hQ]
  exact W.iret (v := v12) hx hb hr (fun t ht hW => ⟨⟨v12, (), rfl, (by (try dsimp only); exact zIxN e12 (by omega)), trivial⟩, hS.F ht⟩) hS.2.2 dX11_shot_13
set_option maxHeartbeats 4000000 in
set_option maxRecDepth 100000 in
theorem g_X11_shot_0 (l : Launch) (dC : Nat → ClassId) (dI : Nat → Nat → Nat) (cI cJ : ClassId) (h0 : Nat) (p0 : Int32) (th : Int32) (tB : Nat) (tsz : Int32) (tat : Int32) (wr : Int32) (dp : Int32) (rC : Nat) (rV : Nat) (rD : Nat) (rK : Nat) (rT : Nat) (rS : Nat) (rU : Nat) (lw : Int32) (tx : Int32) (rL : Nat) (rX : Nat) (qR : Nat) (qB : Nat) (qP : Nat) (qnb : Int32) (qnp : Int32) (aR : Nat) (aB : Nat) (aP : Nat) (nb : Int32) (np : Int32) (aN : Nat) (rf : Nat) (ho : Int32) (br : Int32) (aK : Nat) (ac : Int32) (dw : Int64) (aE : Nat) (sr : Int32) (sf : Int32) (aA : Nat) (aH : Nat) (aI : Nat) (hi : Int32) (fN : Nat → Int32) (sz : Nat) (n_ac : 0 ≤ ac.toInt ∧ ac.toInt ≤ 40) (n_hi : 0 ≤ hi.toInt ∧ hi.toInt ≤ 1) (n_ho : (-1) ≤ ho.toInt ∧ ho.toInt ≤ 3) (n_lw : 0 ≤ lw.toInt ∧ lw.toInt ≤ 4) (n_nb : 0 ≤ nb.toInt ∧ nb.toInt ≤ 6) (n_np : 0 ≤ np.toInt ∧ np.toInt ≤ 5) (n_p0 : 0 ≤ p0.toInt ∧ p0.toInt ≤ 19) (n_qnb : 0 ≤ qnb.toInt ∧ qnb.toInt ≤ 6) (n_qnp : 0 ≤ qnp.toInt ∧ qnp.toInt ≤ 5) (n_tat : 0 ≤ tat.toInt ∧ tat.toInt ≤ 260) (n_tsz : 0 ≤ tsz.toInt ∧ tsz.toInt ≤ 240) (n_wr : (-1) ≤ wr.toInt ∧ wr.toInt ≤ 260) (hm : p0.toInt < (fN 16).toInt) (ci_fN_zNw_np : zNw np fN)  : Met l yX11_shot (.code yX11_shot cX11_shot 3 (some .int) :: wA) ({ frames := 0, cells := 0, slots := 0, locals := 0 }) (zP (dC, dI) [(cI, .int), (cJ, .long)] [.ref h0, .int p0, .int 0] sz [(h0, .inr (11, [.int th, .ref tB, .int tsz, .int tat, .int wr, .int dp, .ref rC, .ref rV, .ref rD, .ref rK, .ref rT, .ref rS, .ref rU, .int lw, .int tx, .ref rL, .ref rX, .ref qR, .ref qB, .ref qP, .int qnb, .int qnp, .ref aR, .ref aB, .ref aP, .int nb, .int np, .ref aN, .ref rf, .int ho, .int br, .ref aK, .int ac, .long dw, .ref aE, .int sr, .int sf, .ref aA, .ref aH, .ref aI, .int hi])), (aN, .inl (cI, 97, .inl fN))]) (va_Qi (fun (r : Int32) (u : Unit) => (0 ≤ r.toInt) ∧ (r.toInt ≤ 5) ∧ (r.toInt = (fN (17 + 4 * p0.toInt.toNat)).toInt) ∧ (r = fN (17 + 4 * p0.toInt.toNat))) (fun (_ : Unit) (_ : State) => True) (va_A [] sz)) 0 0 (va_A [] sz) := by
  refine Met.ofW (cc := cX11_shot) (maxL := 3) (ret := (some .int)) (by decide) rfl ?_
  intro p e s m args below meth c s₁ B hml hv
  have y_ac : zHid (0 ≤ ac.toInt ∧ ac.toInt ≤ 40) := n_ac
  have y_hi : zHid (0 ≤ hi.toInt ∧ hi.toInt ≤ 1) := n_hi
  have y_ho : zHid ((-1) ≤ ho.toInt ∧ ho.toInt ≤ 3) := n_ho
  have y_lw : zHid (0 ≤ lw.toInt ∧ lw.toInt ≤ 4) := n_lw
  have y_nb : zHid (0 ≤ nb.toInt ∧ nb.toInt ≤ 6) := n_nb
  have y_np : zHid (0 ≤ np.toInt ∧ np.toInt ≤ 5) := n_np
  have y_qnb : zHid (0 ≤ qnb.toInt ∧ qnb.toInt ≤ 6) := n_qnb
  have y_qnp : zHid (0 ≤ qnp.toInt ∧ qnp.toInt ≤ 5) := n_qnp
  have y_tat : zHid (0 ≤ tat.toInt ∧ tat.toInt ≤ 260) := n_tat
  have y_tsz : zHid (0 ≤ tsz.toInt ∧ tsz.toInt ≤ 240) := n_tsz
  have y_wr : zHid ((-1) ≤ wr.toInt ∧ wr.toInt ≤ 260) := n_wr
  clear n_ac n_hi n_ho n_lw n_nb n_np n_qnb n_qnp n_tat n_tsz n_wr
  obtain ⟨hargs, hsz, hP, hK, hT⟩ := hv
  have hx := B.exec
  have hb := B.bytes
  have hr := B.returns
  have hts : ∀ w ∈ wA, w.before args s = true := fun w h => atoms_spec (ws := .code yX11_shot cX11_shot 3 (some .int) :: wA) B.pre w (List.mem_cons_of_mem _ h)
  have hown : s.vm.findClass RX11 = some m.cls := findClass_of_methodNamed B.named
  have hlocks := B.notSynchronized
  subst hsz
  have hD : va_D (va_A [] s.heap.size) [] := zD0
  generalize hAe : va_A [] s.heap.size = A at hD ⊢
  have hA : ∀ q : Nat, s.heap.size ≤ q → A q := fun q h => by rw [← hAe]; exact Or.inr h
  have hl := lv_entry ([.ref h0, .int p0, .int 0]) (n := 3) (Nat.le_of_ble_eq_true rfl)
  rw [show entryFrame m args 3 = entryFrame m ([.ref h0, .int p0, .int 0] : List Value).toArray 3 by rw [hargs], lg_entry_eq]
  generalize (lg_sl ([.ref h0, .int p0, .int 0]) ++ List.replicate (3 - (lg_sl ([.ref h0, .int p0, .int 0])).length) Slot.unset).toArray = ls at hl ⊢
  have hl : lv_has ls 3 [(0, .ref h0), (1, .int p0), (2, .int 0)] := hl
  refine zstart (fun H hH => ?_)
  rw [← hH] at hP
  have hS : va_S A s.heap H [] := by rw [hH]; exact va_S.rf
  generalize ([] : List Loc) = locs at hS ⊢
  refine zgen (fun R Q hR hQ => ?_)
  refine lv_aload_n hx hb dX11_shot_0 rfl (lv_at hl 0 rfl) ?_
  refine va_get (D := (dC, dI)) (ci := 11) (v := .ref aN) (C := RX11) (T := TX11) (N := 41) hx hb hts iX11 hown hK hP 0 rfl rfl 27 (by decide) (hts _ qw1154) (fun _ h9 => h9) rfl dX11_shot_1 ?_
  refine lv_bipush (v := 17) hx hb dX11_shot_4 (by decide) ?_
  refine lv_iconst (v := 4) hx hb dX11_shot_6 (by decide) ?_
  refine lv_iload_n hx hb dX11_shot_7 rfl (lv_at hl 1 rfl) ?_
  refine lv_imul hx hb dX11_shot_8 ?_
  refine lv_topi (fun v8 e8 => ?_)
  have i8 : v8.toInt = 4 * p0.toInt := zmul e8 (by decide) rfl (by omega) (by omega)
  refine lv_iadd hx hb dX11_shot_9 ?_
  refine lv_topi (fun v9 e9 => ?_)
  have i9 : v9.toInt = 17 + v8.toInt := zadd e9 (by decide) rfl (by omega) (by omega)
  refine lv_iload_n hx hb dX11_shot_10 rfl (lv_at hl 2 rfl) ?_
  refine lv_iadd hx hb dX11_shot_11 ?_
  refine lv_topi (fun v11 e11 => ?_)
  have i11 : v11.toInt = v9.toInt + 0 := zadd e11 rfl (by decide) (by omega) (by omega)
  refine va_iald hx hb hK hP 1 0 rfl rfl (vp_in_iff.mpr ⟨by omega, by omega⟩) dX11_shot_12 ?_
  refine lv_topi (fun v12 e12 => ?_)
  have i12 : v12.toInt = (fN (17 + 4 * p0.toInt.toNat)).toInt ∧ 0 ≤ v12.toInt ∧ v12.toInt ≤ 5 := ⟨zIx e12 (by omega), zNw_p0 ci_fN_zNw_np e12 (k := p0.toInt) (by omega) (by omega) hm⟩
  rw [hQ]
  exact W.iret (v := v12) hx hb hr (fun t ht hW => ⟨⟨v12, (), rfl, ⟨by (try dsimp only); omega, by (try dsimp only); omega, by (try dsimp only); omega, by (try dsimp only); exact zIxN e12 (by omega)⟩, trivial⟩, hS.F ht⟩) hS.2.2 dX11_shot_13
set_option maxHeartbeats 4000000 in
set_option maxRecDepth 100000 in
theorem g_X11_shot_1 (l : Launch) (dC : Nat → ClassId) (dI : Nat → Nat → Nat) (cI cJ : ClassId) (h0 : Nat) (p0 : Int32) (th : Int32) (tB : Nat) (tsz : Int32) (tat : Int32) (wr : Int32) (dp : Int32) (rC : Nat) (rV : Nat) (rD : Nat) (rK : Nat) (rT : Nat) (rS : Nat) (rU : Nat) (lw : Int32) (tx : Int32) (rL : Nat) (rX : Nat) (qR : Nat) (qB : Nat) (qP : Nat) (qnb : Int32) (qnp : Int32) (aR : Nat) (aB : Nat) (aP : Nat) (nb : Int32) (np : Int32) (aN : Nat) (rf : Nat) (ho : Int32) (br : Int32) (aK : Nat) (ac : Int32) (dw : Int64) (aE : Nat) (sr : Int32) (sf : Int32) (aA : Nat) (aH : Nat) (aI : Nat) (hi : Int32) (fN : Nat → Int32) (sz : Nat) (n_ac : 0 ≤ ac.toInt ∧ ac.toInt ≤ 40) (n_hi : 0 ≤ hi.toInt ∧ hi.toInt ≤ 1) (n_ho : (-1) ≤ ho.toInt ∧ ho.toInt ≤ 3) (n_lw : 0 ≤ lw.toInt ∧ lw.toInt ≤ 4) (n_nb : 0 ≤ nb.toInt ∧ nb.toInt ≤ 6) (n_np : 0 ≤ np.toInt ∧ np.toInt ≤ 5) (n_p0 : 0 ≤ p0.toInt ∧ p0.toInt ≤ 19) (n_qnb : 0 ≤ qnb.toInt ∧ qnb.toInt ≤ 6) (n_qnp : 0 ≤ qnp.toInt ∧ qnp.toInt ≤ 5) (n_tat : 0 ≤ tat.toInt ∧ tat.toInt ≤ 260) (n_tsz : 0 ≤ tsz.toInt ∧ tsz.toInt ≤ 240) (n_wr : (-1) ≤ wr.toInt ∧ wr.toInt ≤ 260) (hm : p0.toInt < (fN 16).toInt) (ci_fN_zNw_np : zNw np fN)  : Met l yX11_shot (.code yX11_shot cX11_shot 3 (some .int) :: wA) ({ frames := 0, cells := 0, slots := 0, locals := 0 }) (zP (dC, dI) [(cI, .int), (cJ, .long)] [.ref h0, .int p0, .int 1] sz [(h0, .inr (11, [.int th, .ref tB, .int tsz, .int tat, .int wr, .int dp, .ref rC, .ref rV, .ref rD, .ref rK, .ref rT, .ref rS, .ref rU, .int lw, .int tx, .ref rL, .ref rX, .ref qR, .ref qB, .ref qP, .int qnb, .int qnp, .ref aR, .ref aB, .ref aP, .int nb, .int np, .ref aN, .ref rf, .int ho, .int br, .ref aK, .int ac, .long dw, .ref aE, .int sr, .int sf, .ref aA, .ref aH, .ref aI, .int hi])), (aN, .inl (cI, 97, .inl fN))]) (va_Qi (fun (r : Int32) (u : Unit) => (0 ≤ r.toInt) ∧ (r.toInt ≤ 4) ∧ (r.toInt < np.toInt) ∧ (r = fN (17 + (4 * p0.toInt.toNat + 1)))) (fun (_ : Unit) (_ : State) => True) (va_A [] sz)) 0 0 (va_A [] sz) := by
  refine Met.ofW (cc := cX11_shot) (maxL := 3) (ret := (some .int)) (by decide) rfl ?_
  intro p e s m args below meth c s₁ B hml hv
  have y_ac : zHid (0 ≤ ac.toInt ∧ ac.toInt ≤ 40) := n_ac
  have y_hi : zHid (0 ≤ hi.toInt ∧ hi.toInt ≤ 1) := n_hi
  have y_ho : zHid ((-1) ≤ ho.toInt ∧ ho.toInt ≤ 3) := n_ho
  have y_lw : zHid (0 ≤ lw.toInt ∧ lw.toInt ≤ 4) := n_lw
  have y_nb : zHid (0 ≤ nb.toInt ∧ nb.toInt ≤ 6) := n_nb
  have y_qnb : zHid (0 ≤ qnb.toInt ∧ qnb.toInt ≤ 6) := n_qnb
  have y_qnp : zHid (0 ≤ qnp.toInt ∧ qnp.toInt ≤ 5) := n_qnp
  have y_tat : zHid (0 ≤ tat.toInt ∧ tat.toInt ≤ 260) := n_tat
  have y_tsz : zHid (0 ≤ tsz.toInt ∧ tsz.toInt ≤ 240) := n_tsz
  have y_wr : zHid ((-1) ≤ wr.toInt ∧ wr.toInt ≤ 260) := n_wr
  clear n_ac n_hi n_ho n_lw n_nb n_qnb n_qnp n_tat n_tsz n_wr
  obtain ⟨hargs, hsz, hP, hK, hT⟩ := hv
  have hx := B.exec
  have hb := B.bytes
  have hr := B.returns
  have hts : ∀ w ∈ wA, w.before args s = true := fun w h => atoms_spec (ws := .code yX11_shot cX11_shot 3 (some .int) :: wA) B.pre w (List.mem_cons_of_mem _ h)
  have hown : s.vm.findClass RX11 = some m.cls := findClass_of_methodNamed B.named
  have hlocks := B.notSynchronized
  subst hsz
  have hD : va_D (va_A [] s.heap.size) [] := zD0
  generalize hAe : va_A [] s.heap.size = A at hD ⊢
  have hA : ∀ q : Nat, s.heap.size ≤ q → A q := fun q h => by rw [← hAe]; exact Or.inr h
  have hl := lv_entry ([.ref h0, .int p0, .int 1]) (n := 3) (Nat.le_of_ble_eq_true rfl)
  rw [show entryFrame m args 3 = entryFrame m ([.ref h0, .int p0, .int 1] : List Value).toArray 3 by rw [hargs], lg_entry_eq]
  generalize (lg_sl ([.ref h0, .int p0, .int 1]) ++ List.replicate (3 - (lg_sl ([.ref h0, .int p0, .int 1])).length) Slot.unset).toArray = ls at hl ⊢
  have hl : lv_has ls 3 [(0, .ref h0), (1, .int p0), (2, .int 1)] := hl
  refine zstart (fun H hH => ?_)
  rw [← hH] at hP
  have hS : va_S A s.heap H [] := by rw [hH]; exact va_S.rf
  generalize ([] : List Loc) = locs at hS ⊢
  refine zgen (fun R Q hR hQ => ?_)
  refine lv_aload_n hx hb dX11_shot_0 rfl (lv_at hl 0 rfl) ?_
  refine va_get (D := (dC, dI)) (ci := 11) (v := .ref aN) (C := RX11) (T := TX11) (N := 41) hx hb hts iX11 hown hK hP 0 rfl rfl 27 (by decide) (hts _ qw1154) (fun _ h9 => h9) rfl dX11_shot_1 ?_
  refine lv_bipush (v := 17) hx hb dX11_shot_4 (by decide) ?_
  refine lv_iconst (v := 4) hx hb dX11_shot_6 (by decide) ?_
  refine lv_iload_n hx hb dX11_shot_7 rfl (lv_at hl 1 rfl) ?_
  refine lv_imul hx hb dX11_shot_8 ?_
  refine lv_topi (fun v8 e8 => ?_)
  have i8 : v8.toInt = 4 * p0.toInt := zmul e8 (by decide) rfl (by omega) (by omega)
  refine lv_iadd hx hb dX11_shot_9 ?_
  refine lv_topi (fun v9 e9 => ?_)
  have i9 : v9.toInt = 17 + v8.toInt := zadd e9 (by decide) rfl (by omega) (by omega)
  refine lv_iload_n hx hb dX11_shot_10 rfl (lv_at hl 2 rfl) ?_
  refine lv_iadd hx hb dX11_shot_11 ?_
  refine lv_topi (fun v11 e11 => ?_)
  have i11 : v11.toInt = v9.toInt + 1 := zadd e11 rfl (by decide) (by omega) (by omega)
  refine va_iald hx hb hK hP 1 0 rfl rfl (vp_in_iff.mpr ⟨by omega, by omega⟩) dX11_shot_12 ?_
  refine lv_topi (fun v12 e12 => ?_)
  have i12 : (0 ≤ v12.toInt ∧ v12.toInt ≤ 4) ∧ v12.toInt < np.toInt := zNw_p1 ci_fN_zNw_np e12 (k := p0.toInt) (by omega) (by omega) hm (by omega)
  rw [hQ]
  exact W.iret (v := v12) hx hb hr (fun t ht hW => ⟨⟨v12, (), rfl, ⟨by (try dsimp only); omega, by (try dsimp only); omega, by (try dsimp only); omega, by (try dsimp only); exact zIxN e12 (by omega)⟩, trivial⟩, hS.F ht⟩) hS.2.2 dX11_shot_13
set_option maxHeartbeats 4000000 in
set_option maxRecDepth 100000 in
theorem g_X11_shot_2 (l : Launch) (dC : Nat → ClassId) (dI : Nat → Nat → Nat) (cI cJ : ClassId) (h0 : Nat) (p0 : Int32) (th : Int32) (tB : Nat) (tsz : Int32) (tat : Int32) (wr : Int32) (dp : Int32) (rC : Nat) (rV : Nat) (rD : Nat) (rK : Nat) (rT : Nat) (rS : Nat) (rU : Nat) (lw : Int32) (tx : Int32) (rL : Nat) (rX : Nat) (qR : Nat) (qB : Nat) (qP : Nat) (qnb : Int32) (qnp : Int32) (aR : Nat) (aB : Nat) (aP : Nat) (nb : Int32) (np : Int32) (aN : Nat) (rf : Nat) (ho : Int32) (br : Int32) (aK : Nat) (ac : Int32) (dw : Int64) (aE : Nat) (sr : Int32) (sf : Int32) (aA : Nat) (aH : Nat) (aI : Nat) (hi : Int32) (fN : Nat → Int32) (sz : Nat) (n_ac : 0 ≤ ac.toInt ∧ ac.toInt ≤ 40) (n_hi : 0 ≤ hi.toInt ∧ hi.toInt ≤ 1) (n_ho : (-1) ≤ ho.toInt ∧ ho.toInt ≤ 3) (n_lw : 0 ≤ lw.toInt ∧ lw.toInt ≤ 4) (n_nb : 0 ≤ nb.toInt ∧ nb.toInt ≤ 6) (n_np : 0 ≤ np.toInt ∧ np.toInt ≤ 5) (n_p0 : 0 ≤ p0.toInt ∧ p0.toInt ≤ 19) (n_qnb : 0 ≤ qnb.toInt ∧ qnb.toInt ≤ 6) (n_qnp : 0 ≤ qnp.toInt ∧ qnp.toInt ≤ 5) (n_tat : 0 ≤ tat.toInt ∧ tat.toInt ≤ 260) (n_tsz : 0 ≤ tsz.toInt ∧ tsz.toInt ≤ 240) (n_wr : (-1) ≤ wr.toInt ∧ wr.toInt ≤ 260) (hm : p0.toInt < (fN 16).toInt) (ci_fN_zNw_np : zNw np fN)  : Met l yX11_shot (.code yX11_shot cX11_shot 3 (some .int) :: wA) ({ frames := 0, cells := 0, slots := 0, locals := 0 }) (zP (dC, dI) [(cI, .int), (cJ, .long)] [.ref h0, .int p0, .int 2] sz [(h0, .inr (11, [.int th, .ref tB, .int tsz, .int tat, .int wr, .int dp, .ref rC, .ref rV, .ref rD, .ref rK, .ref rT, .ref rS, .ref rU, .int lw, .int tx, .ref rL, .ref rX, .ref qR, .ref qB, .ref qP, .int qnb, .int qnp, .ref aR, .ref aB, .ref aP, .int nb, .int np, .ref aN, .ref rf, .int ho, .int br, .ref aK, .int ac, .long dw, .ref aE, .int sr, .int sf, .ref aA, .ref aH, .ref aI, .int hi])), (aN, .inl (cI, 97, .inl fN))]) (va_Qi (fun (r : Int32) (u : Unit) => ((-1) ≤ r.toInt) ∧ (r.toInt ≤ 9) ∧ (r = fN (17 + (4 * p0.toInt.toNat + 2)))) (fun (_ : Unit) (_ : State) => True) (va_A [] sz)) 0 0 (va_A [] sz) := by
  refine Met.ofW (cc := cX11_shot) (maxL := 3) (ret := (some .int)) (by decide) rfl ?_
  intro p e s m args below meth c s₁ B hml hv
  have y_ac : zHid (0 ≤ ac.toInt ∧ ac.toInt ≤ 40) := n_ac
  have y_hi : zHid (0 ≤ hi.toInt ∧ hi.toInt ≤ 1) := n_hi
  have y_ho : zHid ((-1) ≤ ho.toInt ∧ ho.toInt ≤ 3) := n_ho
  have y_lw : zHid (0 ≤ lw.toInt ∧ lw.toInt ≤ 4) := n_lw
  have y_nb : zHid (0 ≤ nb.toInt ∧ nb.toInt ≤ 6) := n_nb
  have y_np : zHid (0 ≤ np.toInt ∧ np.toInt ≤ 5) := n_np
  have y_qnb : zHid (0 ≤ qnb.toInt ∧ qnb.toInt ≤ 6) := n_qnb
  have y_qnp : zHid (0 ≤ qnp.toInt ∧ qnp.toInt ≤ 5) := n_qnp
  have y_tat : zHid (0 ≤ tat.toInt ∧ tat.toInt ≤ 260) := n_tat
  have y_tsz : zHid (0 ≤ tsz.toInt ∧ tsz.toInt ≤ 240) := n_tsz
  have y_wr : zHid ((-1) ≤ wr.toInt ∧ wr.toInt ≤ 260) := n_wr
  clear n_ac n_hi n_ho n_lw n_nb n_np n_qnb n_qnp n_tat n_tsz n_wr
  obtain ⟨hargs, hsz, hP, hK, hT⟩ := hv
  have hx := B.exec
  have hb := B.bytes
  have hr := B.returns
  have hts : ∀ w ∈ wA, w.before args s = true := fun w h => atoms_spec (ws := .code yX11_shot cX11_shot 3 (some .int) :: wA) B.pre w (List.mem_cons_of_mem _ h)
  have hown : s.vm.findClass RX11 = some m.cls := findClass_of_methodNamed B.named
  have hlocks := B.notSynchronized
  subst hsz
  have hD : va_D (va_A [] s.heap.size) [] := zD0
  generalize hAe : va_A [] s.heap.size = A at hD ⊢
  have hA : ∀ q : Nat, s.heap.size ≤ q → A q := fun q h => by rw [← hAe]; exact Or.inr h
  have hl := lv_entry ([.ref h0, .int p0, .int 2]) (n := 3) (Nat.le_of_ble_eq_true rfl)
  rw [show entryFrame m args 3 = entryFrame m ([.ref h0, .int p0, .int 2] : List Value).toArray 3 by rw [hargs], lg_entry_eq]
  generalize (lg_sl ([.ref h0, .int p0, .int 2]) ++ List.replicate (3 - (lg_sl ([.ref h0, .int p0, .int 2])).length) Slot.unset).toArray = ls at hl ⊢
  have hl : lv_has ls 3 [(0, .ref h0), (1, .int p0), (2, .int 2)] := hl
  refine zstart (fun H hH => ?_)
  rw [← hH] at hP
  have hS : va_S A s.heap H [] := by rw [hH]; exact va_S.rf
  generalize ([] : List Loc) = locs at hS ⊢
  refine zgen (fun R Q hR hQ => ?_)
  refine lv_aload_n hx hb dX11_shot_0 rfl (lv_at hl 0 rfl) ?_
  refine va_get (D := (dC, dI)) (ci := 11) (v := .ref aN) (C := RX11) (T := TX11) (N := 41) hx hb hts iX11 hown hK hP 0 rfl rfl 27 (by decide) (hts _ qw1154) (fun _ h9 => h9) rfl dX11_shot_1 ?_
  refine lv_bipush (v := 17) hx hb dX11_shot_4 (by decide) ?_
  refine lv_iconst (v := 4) hx hb dX11_shot_6 (by decide) ?_
  refine lv_iload_n hx hb dX11_shot_7 rfl (lv_at hl 1 rfl) ?_
  refine lv_imul hx hb dX11_shot_8 ?_
  refine lv_topi (fun v8 e8 => ?_)
  have i8 : v8.toInt = 4 * p0.toInt := zmul e8 (by decide) rfl (by omega) (by omega)
  refine lv_iadd hx hb dX11_shot_9 ?_
  refine lv_topi (fun v9 e9 => ?_)
  have i9 : v9.toInt = 17 + v8.toInt := zadd e9 (by decide) rfl (by omega) (by omega)
  refine lv_iload_n hx hb dX11_shot_10 rfl (lv_at hl 2 rfl) ?_
  refine lv_iadd hx hb dX11_shot_11 ?_
  refine lv_topi (fun v11 e11 => ?_)
  have i11 : v11.toInt = v9.toInt + 2 := zadd e11 rfl (by decide) (by omega) (by omega)
  refine va_iald hx hb hK hP 1 0 rfl rfl (vp_in_iff.mpr ⟨by omega, by omega⟩) dX11_shot_12 ?_
  refine lv_topi (fun v12 e12 => ?_)
  have i12 : -1 ≤ v12.toInt ∧ v12.toInt ≤ 9 := zNw_p2 ci_fN_zNw_np e12 (k := p0.toInt) (by omega) (by omega) hm
  rw [hQ]
  exact W.iret (v := v12) hx hb hr (fun t ht hW => ⟨⟨v12, (), rfl, ⟨by (try dsimp only); omega, by (try dsimp only); omega, by (try dsimp only); exact zIxN e12 (by omega)⟩, trivial⟩, hS.F ht⟩) hS.2.2 dX11_shot_13
set_option maxHeartbeats 4000000 in
set_option maxRecDepth 100000 in
theorem g_X11_isBride (l : Launch) (dC : Nat → ClassId) (dI : Nat → Nat → Nat) (cI cJ : ClassId) (h0 : Nat) (p0 : Int32) (th : Int32) (tB : Nat) (tsz : Int32) (tat : Int32) (wr : Int32) (dp : Int32) (rC : Nat) (rV : Nat) (rD : Nat) (rK : Nat) (rT : Nat) (rS : Nat) (rU : Nat) (lw : Int32) (tx : Int32) (rL : Nat) (rX : Nat) (qR : Nat) (qB : Nat) (qP : Nat) (qnb : Int32) (qnp : Int32) (aR : Nat) (aB : Nat) (aP : Nat) (nb : Int32) (np : Int32) (aN : Nat) (rf : Nat) (ho : Int32) (br : Int32) (aK : Nat) (ac : Int32) (dw : Int64) (aE : Nat) (sr : Int32) (sf : Int32) (aA : Nat) (aH : Nat) (aI : Nat) (hi : Int32) (sz : Nat) (n_ac : 0 ≤ ac.toInt ∧ ac.toInt ≤ 40) (n_hi : 0 ≤ hi.toInt ∧ hi.toInt ≤ 1) (n_ho : (-1) ≤ ho.toInt ∧ ho.toInt ≤ 3) (n_lw : 0 ≤ lw.toInt ∧ lw.toInt ≤ 4) (n_nb : 0 ≤ nb.toInt ∧ nb.toInt ≤ 6) (n_np : 0 ≤ np.toInt ∧ np.toInt ≤ 5) (n_qnb : 0 ≤ qnb.toInt ∧ qnb.toInt ≤ 6) (n_qnp : 0 ≤ qnp.toInt ∧ qnp.toInt ≤ 5) (n_tat : 0 ≤ tat.toInt ∧ tat.toInt ≤ 260) (n_tsz : 0 ≤ tsz.toInt ∧ tsz.toInt ≤ 240) (n_wr : (-1) ≤ wr.toInt ∧ wr.toInt ≤ 260)    : Met l yX11_isBride (.code yX11_isBride cX11_isBride 2 (some .boolean) :: wA) ({ frames := 1, cells := 0, slots := 0, locals := 22 }) (zP (dC, dI) [(cI, .int), (cJ, .long)] [.ref h0, .int p0] sz [(h0, .inr (11, [.int th, .ref tB, .int tsz, .int tat, .int wr, .int dp, .ref rC, .ref rV, .ref rD, .ref rK, .ref rT, .ref rS, .ref rU, .int lw, .int tx, .ref rL, .ref rX, .ref qR, .ref qB, .ref qP, .int qnb, .int qnp, .ref aR, .ref aB, .ref aP, .int nb, .int np, .ref aN, .ref rf, .int ho, .int br, .ref aK, .int ac, .long dw, .ref aE, .int sr, .int sf, .ref aA, .ref aH, .ref aI, .int hi]))]) (va_Qi (fun (r : Int32) (u : Unit) => (0 ≤ r.toInt) ∧ (r.toInt ≤ 1) ∧ (¬ r.toInt = 0 → (0 ≤ p0.toInt ∧ p0.toInt < nb.toInt)) ∧ (r.toInt = 0 → ¬ (0 ≤ p0.toInt ∧ p0.toInt < nb.toInt))) (fun (_ : Unit) (_ : State) => True) (va_A [] sz)) 0 0 (va_A [] sz) := by
  refine Met.ofW (cc := cX11_isBride) (maxL := 2) (ret := (some .boolean)) (by decide) rfl ?_
  intro p e s m args below meth c s₁ B hml hv
  have y_ac : zHid (0 ≤ ac.toInt ∧ ac.toInt ≤ 40) := n_ac
  have y_hi : zHid (0 ≤ hi.toInt ∧ hi.toInt ≤ 1) := n_hi
  have y_ho : zHid ((-1) ≤ ho.toInt ∧ ho.toInt ≤ 3) := n_ho
  have y_lw : zHid (0 ≤ lw.toInt ∧ lw.toInt ≤ 4) := n_lw
  have y_np : zHid (0 ≤ np.toInt ∧ np.toInt ≤ 5) := n_np
  have y_qnb : zHid (0 ≤ qnb.toInt ∧ qnb.toInt ≤ 6) := n_qnb
  have y_qnp : zHid (0 ≤ qnp.toInt ∧ qnp.toInt ≤ 5) := n_qnp
  have y_tat : zHid (0 ≤ tat.toInt ∧ tat.toInt ≤ 260) := n_tat
  have y_tsz : zHid (0 ≤ tsz.toInt ∧ tsz.toInt ≤ 240) := n_tsz
  have y_wr : zHid ((-1) ≤ wr.toInt ∧ wr.toInt ≤ 260) := n_wr
  clear n_ac n_hi n_ho n_lw n_np n_qnb n_qnp n_tat n_tsz n_wr
  obtain ⟨hargs, hsz, hP, hK, hT⟩ := hv
  have hx := B.exec
  have hb := B.bytes
  have hr := B.returns
  have hts : ∀ w ∈ wA, w.before args s = true := fun w h => atoms_spec (ws := .code yX11_isBride cX11_isBride 2 (some .boolean) :: wA) B.pre w (List.mem_cons_of_mem _ h)
  have hown : s.vm.findClass RX11 = some m.cls := findClass_of_methodNamed B.named
  have hlocks := B.notSynchronized
  subst hsz
  have hD : va_D (va_A [] s.heap.size) [] := zD0
  generalize hAe : va_A [] s.heap.size = A at hD ⊢
  have hA : ∀ q : Nat, s.heap.size ≤ q → A q := fun q h => by rw [← hAe]; exact Or.inr h
  have hl := lv_entry ([.ref h0, .int p0]) (n := 2) (Nat.le_of_ble_eq_true rfl)
  rw [show entryFrame m args 2 = entryFrame m ([.ref h0, .int p0] : List Value).toArray 2 by rw [hargs], lg_entry_eq]
  generalize (lg_sl ([.ref h0, .int p0]) ++ List.replicate (2 - (lg_sl ([.ref h0, .int p0])).length) Slot.unset).toArray = ls at hl ⊢
  have hl : lv_has ls 2 [(0, .ref h0), (1, .int p0)] := hl
  refine zstart (fun H hH => ?_)
  rw [← hH] at hP
  have hS : va_S A s.heap H [] := by rw [hH]; exact va_S.rf
  generalize ([] : List Loc) = locs at hS ⊢
  refine zgen (fun R Q hR hQ => ?_)
  refine lv_iload_n hx hb dX11_isBride_0 rfl (lv_at hl 1 rfl) ?_
  refine lv_iconst (v := 0) hx hb dX11_isBride_1 (by decide) ?_
  refine lv_aload_n hx hb dX11_isBride_2 rfl (lv_at hl 0 rfl) ?_
  refine va_get (D := (dC, dI)) (ci := 11) (v := .int nb) (C := RX11) (T := TX11) (N := 41) hx hb hts iX11 hown hK hP 0 rfl rfl 25 (by decide) (hts _ qw1152) (fun _ h9 => h9) rfl dX11_isBride_3 ?_
  refine lv_iconst (v := 1) hx hb dX11_isBride_6 (by decide) ?_
  refine lv_isub hx hb dX11_isBride_7 ?_
  refine lv_topi (fun v7 e7 => ?_)
  have i7 : v7.toInt = nb.toInt - 1 := zsub e7 rfl (by decide) (by omega) (by omega)
  have hPc : va_P (dC, dI) vwCl [] H := zP0
  have hDc : va_D (fun _ => True) [] := zD0
  have hFc := zfr hS hA
  refine va_calli (va_runS (As := [.int p0, .int 0, .int v7]) (rest := []) ⟨hx, hb, hml, hown, hts⟩ (g_X11_in l dC dI cI cJ p0 0 v7 H.size) (cwS 3 hts (zgS qw1305 qw1306 qw108 qw1307) rfl rfl rfl hd_X11_in ⟨by rw [hR]; exact Nat.le_of_ble_eq_true rfl, by rw [hR]; exact Nat.le_of_ble_eq_true rfl⟩) (zPS hPc hK hDc) rfl rfl hl.1 rfl (lv_room (Nat.le_of_ble_eq_true rfl)) dX11_isBride_8 ⟨Nat.zero_le _, Nat.zero_le _⟩) hS (fun q _ h => hFc q h) hFc (fun v8 u8 t H locs ht hvm hw hB hz1 hk1 hS9 => ?_)
  replace hP := zkeep hP hk1
  replace hS := hS9
  clear hPc hDc hFc hk1 hz1 hvm hS9
  have zn8_0 : (0 : Int32).toInt = 0 := by decide
  obtain ⟨f8_0, f8_1, f8_2, f8_3⟩ : (0 ≤ v8.toInt) ∧ (v8.toInt ≤ 1) ∧ (¬ v8.toInt = 0 → ((0 : Int32).toInt ≤ p0.toInt ∧ p0.toInt ≤ v7.toInt)) ∧ (v8.toInt = 0 → (p0.toInt < (0 : Int32).toInt ∨ v7.toInt < p0.toInt)) := hw
  rw [hQ]
  exact W.zret (v := v8) (ty := .boolean) hx hb hr (znb (by omega) (by omega)) (fun t ht hW => ⟨⟨v8, (), rfl, ⟨by (try dsimp only); omega, by (try dsimp only); omega, by (try dsimp only); omega, by (try dsimp only); omega⟩, trivial⟩, hS.F ht⟩) hS.2.2 dX11_isBride_11
set_option maxHeartbeats 4000000 in
set_option maxRecDepth 100000 in
theorem g_X11_isPainter (l : Launch) (dC : Nat → ClassId) (dI : Nat → Nat → Nat) (cI cJ : ClassId) (h0 : Nat) (p0 : Int32) (th : Int32) (tB : Nat) (tsz : Int32) (tat : Int32) (wr : Int32) (dp : Int32) (rC : Nat) (rV : Nat) (rD : Nat) (rK : Nat) (rT : Nat) (rS : Nat) (rU : Nat) (lw : Int32) (tx : Int32) (rL : Nat) (rX : Nat) (qR : Nat) (qB : Nat) (qP : Nat) (qnb : Int32) (qnp : Int32) (aR : Nat) (aB : Nat) (aP : Nat) (nb : Int32) (np : Int32) (aN : Nat) (rf : Nat) (ho : Int32) (br : Int32) (aK : Nat) (ac : Int32) (dw : Int64) (aE : Nat) (sr : Int32) (sf : Int32) (aA : Nat) (aH : Nat) (aI : Nat) (hi : Int32) (sz : Nat) (n_ac : 0 ≤ ac.toInt ∧ ac.toInt ≤ 40) (n_hi : 0 ≤ hi.toInt ∧ hi.toInt ≤ 1) (n_ho : (-1) ≤ ho.toInt ∧ ho.toInt ≤ 3) (n_lw : 0 ≤ lw.toInt ∧ lw.toInt ≤ 4) (n_nb : 0 ≤ nb.toInt ∧ nb.toInt ≤ 6) (n_np : 0 ≤ np.toInt ∧ np.toInt ≤ 5) (n_qnb : 0 ≤ qnb.toInt ∧ qnb.toInt ≤ 6) (n_qnp : 0 ≤ qnp.toInt ∧ qnp.toInt ≤ 5) (n_tat : 0 ≤ tat.toInt ∧ tat.toInt ≤ 260) (n_tsz : 0 ≤ tsz.toInt ∧ tsz.toInt ≤ 240) (n_wr : (-1) ≤ wr.toInt ∧ wr.toInt ≤ 260)    : Met l yX11_isPainter (.code yX11_isPainter cX11_isPainter 2 (some .boolean) :: wA) ({ frames := 1, cells := 0, slots := 0, locals := 22 }) (zP (dC, dI) [(cI, .int), (cJ, .long)] [.ref h0, .int p0] sz [(h0, .inr (11, [.int th, .ref tB, .int tsz, .int tat, .int wr, .int dp, .ref rC, .ref rV, .ref rD, .ref rK, .ref rT, .ref rS, .ref rU, .int lw, .int tx, .ref rL, .ref rX, .ref qR, .ref qB, .ref qP, .int qnb, .int qnp, .ref aR, .ref aB, .ref aP, .int nb, .int np, .ref aN, .ref rf, .int ho, .int br, .ref aK, .int ac, .long dw, .ref aE, .int sr, .int sf, .ref aA, .ref aH, .ref aI, .int hi]))]) (va_Qi (fun (r : Int32) (u : Unit) => (0 ≤ r.toInt) ∧ (r.toInt ≤ 1) ∧ (¬ r.toInt = 0 → (0 ≤ p0.toInt ∧ p0.toInt < np.toInt)) ∧ (r.toInt = 0 → ¬ (0 ≤ p0.toInt ∧ p0.toInt < np.toInt))) (fun (_ : Unit) (_ : State) => True) (va_A [] sz)) 0 0 (va_A [] sz) := by
  refine Met.ofW (cc := cX11_isPainter) (maxL := 2) (ret := (some .boolean)) (by decide) rfl ?_
  intro p e s m args below meth c s₁ B hml hv
  have y_ac : zHid (0 ≤ ac.toInt ∧ ac.toInt ≤ 40) := n_ac
  have y_hi : zHid (0 ≤ hi.toInt ∧ hi.toInt ≤ 1) := n_hi
  have y_ho : zHid ((-1) ≤ ho.toInt ∧ ho.toInt ≤ 3) := n_ho
  have y_lw : zHid (0 ≤ lw.toInt ∧ lw.toInt ≤ 4) := n_lw
  have y_nb : zHid (0 ≤ nb.toInt ∧ nb.toInt ≤ 6) := n_nb
  have y_qnb : zHid (0 ≤ qnb.toInt ∧ qnb.toInt ≤ 6) := n_qnb
  have y_qnp : zHid (0 ≤ qnp.toInt ∧ qnp.toInt ≤ 5) := n_qnp
  have y_tat : zHid (0 ≤ tat.toInt ∧ tat.toInt ≤ 260) := n_tat
  have y_tsz : zHid (0 ≤ tsz.toInt ∧ tsz.toInt ≤ 240) := n_tsz
  have y_wr : zHid ((-1) ≤ wr.toInt ∧ wr.toInt ≤ 260) := n_wr
  clear n_ac n_hi n_ho n_lw n_nb n_qnb n_qnp n_tat n_tsz n_wr
  obtain ⟨hargs, hsz, hP, hK, hT⟩ := hv
  have hx := B.exec
  have hb := B.bytes
  have hr := B.returns
  have hts : ∀ w ∈ wA, w.before args s = true := fun w h => atoms_spec (ws := .code yX11_isPainter cX11_isPainter 2 (some .boolean) :: wA) B.pre w (List.mem_cons_of_mem _ h)
  have hown : s.vm.findClass RX11 = some m.cls := findClass_of_methodNamed B.named
  have hlocks := B.notSynchronized
  subst hsz
  have hD : va_D (va_A [] s.heap.size) [] := zD0
  generalize hAe : va_A [] s.heap.size = A at hD ⊢
  have hA : ∀ q : Nat, s.heap.size ≤ q → A q := fun q h => by rw [← hAe]; exact Or.inr h
  have hl := lv_entry ([.ref h0, .int p0]) (n := 2) (Nat.le_of_ble_eq_true rfl)
  rw [show entryFrame m args 2 = entryFrame m ([.ref h0, .int p0] : List Value).toArray 2 by rw [hargs], lg_entry_eq]
  generalize (lg_sl ([.ref h0, .int p0]) ++ List.replicate (2 - (lg_sl ([.ref h0, .int p0])).length) Slot.unset).toArray = ls at hl ⊢
  have hl : lv_has ls 2 [(0, .ref h0), (1, .int p0)] := hl
  refine zstart (fun H hH => ?_)
  rw [← hH] at hP
  have hS : va_S A s.heap H [] := by rw [hH]; exact va_S.rf
  generalize ([] : List Loc) = locs at hS ⊢
  refine zgen (fun R Q hR hQ => ?_)
  refine lv_iload_n hx hb dX11_isPainter_0 rfl (lv_at hl 1 rfl) ?_
  refine lv_iconst (v := 0) hx hb dX11_isPainter_1 (by decide) ?_
  refine lv_aload_n hx hb dX11_isPainter_2 rfl (lv_at hl 0 rfl) ?_
  refine va_get (D := (dC, dI)) (ci := 11) (v := .int np) (C := RX11) (T := TX11) (N := 41) hx hb hts iX11 hown hK hP 0 rfl rfl 26 (by decide) (hts _ qw1153) (fun _ h9 => h9) rfl dX11_isPainter_3 ?_
  refine lv_iconst (v := 1) hx hb dX11_isPainter_6 (by decide) ?_
  refine lv_isub hx hb dX11_isPainter_7 ?_
  refine lv_topi (fun v7 e7 => ?_)
  have i7 : v7.toInt = np.toInt - 1 := zsub e7 rfl (by decide) (by omega) (by omega)
  have hPc : va_P (dC, dI) vwCl [] H := zP0
  have hDc : va_D (fun _ => True) [] := zD0
  have hFc := zfr hS hA
  refine va_calli (va_runS (As := [.int p0, .int 0, .int v7]) (rest := []) ⟨hx, hb, hml, hown, hts⟩ (g_X11_in l dC dI cI cJ p0 0 v7 H.size) (cwS 3 hts (zgS qw1305 qw1306 qw108 qw1307) rfl rfl rfl hd_X11_in ⟨by rw [hR]; exact Nat.le_of_ble_eq_true rfl, by rw [hR]; exact Nat.le_of_ble_eq_true rfl⟩) (zPS hPc hK hDc) rfl rfl hl.1 rfl (lv_room (Nat.le_of_ble_eq_true rfl)) dX11_isPainter_8 ⟨Nat.zero_le _, Nat.zero_le _⟩) hS (fun q _ h => hFc q h) hFc (fun v8 u8 t H locs ht hvm hw hB hz1 hk1 hS9 => ?_)
  replace hP := zkeep hP hk1
  replace hS := hS9
  clear hPc hDc hFc hk1 hz1 hvm hS9
  have zn8_0 : (0 : Int32).toInt = 0 := by decide
  obtain ⟨f8_0, f8_1, f8_2, f8_3⟩ : (0 ≤ v8.toInt) ∧ (v8.toInt ≤ 1) ∧ (¬ v8.toInt = 0 → ((0 : Int32).toInt ≤ p0.toInt ∧ p0.toInt ≤ v7.toInt)) ∧ (v8.toInt = 0 → (p0.toInt < (0 : Int32).toInt ∨ v7.toInt < p0.toInt)) := hw
  rw [hQ]
  exact W.zret (v := v8) (ty := .boolean) hx hb hr (znb (by omega) (by omega)) (fun t ht hW => ⟨⟨v8, (), rfl, ⟨by (try dsimp only); omega, by (try dsimp only); omega, by (try dsimp only); omega, by (try dsimp only); omega⟩, trivial⟩, hS.F ht⟩) hS.2.2 dX11_isPainter_11
set_option maxHeartbeats 4000000 in
set_option maxRecDepth 100000 in
theorem g_X11_areBoth (l : Launch) (dC : Nat → ClassId) (dI : Nat → Nat → Nat) (cI cJ : ClassId) (h0 : Nat) (p0 : Int32) (p1 : Int32) (th : Int32) (tB : Nat) (tsz : Int32) (tat : Int32) (wr : Int32) (dp : Int32) (rC : Nat) (rV : Nat) (rD : Nat) (rK : Nat) (rT : Nat) (rS : Nat) (rU : Nat) (lw : Int32) (tx : Int32) (rL : Nat) (rX : Nat) (qR : Nat) (qB : Nat) (qP : Nat) (qnb : Int32) (qnp : Int32) (aR : Nat) (aB : Nat) (aP : Nat) (nb : Int32) (np : Int32) (aN : Nat) (rf : Nat) (ho : Int32) (br : Int32) (aK : Nat) (ac : Int32) (dw : Int64) (aE : Nat) (sr : Int32) (sf : Int32) (aA : Nat) (aH : Nat) (aI : Nat) (hi : Int32) (sz : Nat) (n_ac : 0 ≤ ac.toInt ∧ ac.toInt ≤ 40) (n_hi : 0 ≤ hi.toInt ∧ hi.toInt ≤ 1) (n_ho : (-1) ≤ ho.toInt ∧ ho.toInt ≤ 3) (n_lw : 0 ≤ lw.toInt ∧ lw.toInt ≤ 4) (n_nb : 0 ≤ nb.toInt ∧ nb.toInt ≤ 6) (n_np : 0 ≤ np.toInt ∧ np.toInt ≤ 5) (n_qnb : 0 ≤ qnb.toInt ∧ qnb.toInt ≤ 6) (n_qnp : 0 ≤ qnp.toInt ∧ qnp.toInt ≤ 5) (n_tat : 0 ≤ tat.toInt ∧ tat.toInt ≤ 260) (n_tsz : 0 ≤ tsz.toInt ∧ tsz.toInt ≤ 240) (n_wr : (-1) ≤ wr.toInt ∧ wr.toInt ≤ 260)    : Met l yX11_areBoth (.code yX11_areBoth cX11_areBoth 3 (some .boolean) :: wA) ({ frames := 2, cells := 0, slots := 0, locals := 43 }) (zP (dC, dI) [(cI, .int), (cJ, .long)] [.ref h0, .int p0, .int p1] sz [(h0, .inr (11, [.int th, .ref tB, .int tsz, .int tat, .int wr, .int dp, .ref rC, .ref rV, .ref rD, .ref rK, .ref rT, .ref rS, .ref rU, .int lw, .int tx, .ref rL, .ref rX, .ref qR, .ref qB, .ref qP, .int qnb, .int qnp, .ref aR, .ref aB, .ref aP, .int nb, .int np, .ref aN, .ref rf, .int ho, .int br, .ref aK, .int ac, .long dw, .ref aE, .int sr, .int sf, .ref aA, .ref aH, .ref aI, .int hi]))]) (va_Qi (fun (r : Int32) (u : Unit) => (0 ≤ r.toInt) ∧ (r.toInt ≤ 1) ∧ (¬ r.toInt = 0 → (0 ≤ p0.toInt ∧ p0.toInt < np.toInt ∧ 0 ≤ p1.toInt ∧ p1.toInt < nb.toInt)) ∧ (r.toInt = 0 → ¬ ((0 ≤ p0.toInt ∧ p0.toInt < np.toInt) ∧ 0 ≤ p1.toInt ∧ p1.toInt < nb.toInt))) (fun (_ : Unit) (_ : State) => True) (va_A [] sz)) 0 0 (va_A [] sz) := by
  refine Met.ofW (cc := cX11_areBoth) (maxL := 3) (ret := (some .boolean)) (by decide) rfl ?_
  intro p e s m args below meth c s₁ B hml hv
  have y_ac : zHid (0 ≤ ac.toInt ∧ ac.toInt ≤ 40) := n_ac
  have y_hi : zHid (0 ≤ hi.toInt ∧ hi.toInt ≤ 1) := n_hi
  have y_ho : zHid ((-1) ≤ ho.toInt ∧ ho.toInt ≤ 3) := n_ho
  have y_lw : zHid (0 ≤ lw.toInt ∧ lw.toInt ≤ 4) := n_lw
  have y_qnb : zHid (0 ≤ qnb.toInt ∧ qnb.toInt ≤ 6) := n_qnb
  have y_qnp : zHid (0 ≤ qnp.toInt ∧ qnp.toInt ≤ 5) := n_qnp
  have y_tat : zHid (0 ≤ tat.toInt ∧ tat.toInt ≤ 260) := n_tat
  have y_tsz : zHid (0 ≤ tsz.toInt ∧ tsz.toInt ≤ 240) := n_tsz
  have y_wr : zHid ((-1) ≤ wr.toInt ∧ wr.toInt ≤ 260) := n_wr
  clear n_ac n_hi n_ho n_lw n_qnb n_qnp n_tat n_tsz n_wr
  obtain ⟨hargs, hsz, hP, hK, hT⟩ := hv
  have hx := B.exec
  have hb := B.bytes
  have hr := B.returns
  have hts : ∀ w ∈ wA, w.before args s = true := fun w h => atoms_spec (ws := .code yX11_areBoth cX11_areBoth 3 (some .boolean) :: wA) B.pre w (List.mem_cons_of_mem _ h)
  have hown : s.vm.findClass RX11 = some m.cls := findClass_of_methodNamed B.named
  have hlocks := B.notSynchronized
  subst hsz
  have hD : va_D (va_A [] s.heap.size) [] := zD0
  generalize hAe : va_A [] s.heap.size = A at hD ⊢
  have hA : ∀ q : Nat, s.heap.size ≤ q → A q := fun q h => by rw [← hAe]; exact Or.inr h
  have hl := lv_entry ([.ref h0, .int p0, .int p1]) (n := 3) (Nat.le_of_ble_eq_true rfl)
  rw [show entryFrame m args 3 = entryFrame m ([.ref h0, .int p0, .int p1] : List Value).toArray 3 by rw [hargs], lg_entry_eq]
  generalize (lg_sl ([.ref h0, .int p0, .int p1]) ++ List.replicate (3 - (lg_sl ([.ref h0, .int p0, .int p1])).length) Slot.unset).toArray = ls at hl ⊢
  have hl : lv_has ls 3 [(0, .ref h0), (1, .int p0), (2, .int p1)] := hl
  refine zstart (fun H hH => ?_)
  rw [← hH] at hP
  have hS : va_S A s.heap H [] := by rw [hH]; exact va_S.rf
  generalize ([] : List Loc) = locs at hS ⊢
  refine zgen (fun R Q hR hQ => ?_)
  refine lv_aload_n hx hb dX11_areBoth_0 rfl (lv_at hl 0 rfl) ?_
  refine lv_iload_n hx hb dX11_areBoth_1 rfl (lv_at hl 1 rfl) ?_
  obtain ⟨hPc, hDc⟩ := zc2 (wc := [(h0, .inr (11, [.int th, .ref tB, .int tsz, .int tat, .int wr, .int dp, .ref rC, .ref rV, .ref rD, .ref rK, .ref rT, .ref rS, .ref rU, .int lw, .int tx, .ref rL, .ref rX, .ref qR, .ref qB, .ref qP, .int qnb, .int qnp, .ref aR, .ref aB, .ref aP, .int nb, .int np, .ref aN, .ref rf, .int ho, .int br, .ref aK, .int ac, .long dw, .ref aE, .int sr, .int sf, .ref aA, .ref aH, .ref aI, .int hi]))]) hP hT [0] (by decide +kernel) rfl
  have hFc := zfr hS hA
  refine va_calli (va_runV (As := [.int p0]) (rest := []) ⟨hx, hb, hml, hown, hts⟩ (g_X11_isPainter l dC dI cI cJ h0 p0 th tB tsz tat wr dp rC rV rD rK rT rS rU lw tx rL rX qR qB qP qnb qnp aR aB aP nb np aN rf ho br aK ac dw aE sr sf aA aH aI hi H.size y_ac y_hi y_ho y_lw n_nb n_np y_qnb y_qnp y_tat y_tsz y_wr) (cwV 1 hts (zgV qw1410 qw1412 qw57 qw108 qw1413) rfl rfl rfl hd_X11_isPainter ⟨by rw [hR]; exact Nat.le_of_ble_eq_true rfl, by rw [hR]; exact Nat.le_of_ble_eq_true rfl⟩) (zPV hPc hK hDc (va_recv (q := (RX11, TX11, 41)) hK hP (ci := 11) (q0 := 0) rfl rfl)) rfl rfl hl.1 rfl (lv_room (Nat.le_of_ble_eq_true rfl)) dX11_areBoth_2 ⟨Nat.zero_le _, Nat.zero_le _⟩) hS (fun q _ h => hFc q h) hFc (fun v2 u2 t H locs ht hvm hw hB hz1 hk1 hS9 => ?_)
  replace hP := zkeep hP hk1
  replace hS := hS9
  clear hPc hDc hFc hk1 hz1 hvm hS9
  obtain ⟨f2_0, f2_1, f2_2, f2_3⟩ : (0 ≤ v2.toInt) ∧ (v2.toInt ≤ 1) ∧ (¬ v2.toInt = 0 → (0 ≤ p0.toInt ∧ p0.toInt < np.toInt)) ∧ (v2.toInt = 0 → ¬ (0 ≤ p0.toInt ∧ p0.toInt < np.toInt)) := hw
  refine lv_if_eq (tgt := 20) hx hb dX11_areBoth_5 (by decide) (fun c5 => ?_) (fun c5 => ?_)
  · have c5 : v2.toInt = 0 := z5 rfl (by decide) c5
    refine lv_iconst (v := 0) hx hb dX11_areBoth_20 (by decide) ?_
    have zr0 : (0 : Int32).toInt = 0 := by decide
    rw [hQ]
    exact W.zret (v := 0) (ty := .boolean) hx hb hr rfl (fun t ht hW => ⟨⟨0, (), rfl, ⟨by (try dsimp only); omega, by (try dsimp only); omega, by (try dsimp only); omega, by (try dsimp only); omega⟩, trivial⟩, hS.F ht⟩) hS.2.2 dX11_areBoth_21
  · have c5 : ¬ v2.toInt = 0 := z6 rfl (by decide) c5
    refine lv_aload_n hx hb dX11_areBoth_8 rfl (lv_at hl 0 rfl) ?_
    refine lv_iload_n hx hb dX11_areBoth_9 rfl (lv_at hl 2 rfl) ?_
    obtain ⟨hPc, hDc⟩ := zc2 (wc := [(h0, .inr (11, [.int th, .ref tB, .int tsz, .int tat, .int wr, .int dp, .ref rC, .ref rV, .ref rD, .ref rK, .ref rT, .ref rS, .ref rU, .int lw, .int tx, .ref rL, .ref rX, .ref qR, .ref qB, .ref qP, .int qnb, .int qnp, .ref aR, .ref aB, .ref aP, .int nb, .int np, .ref aN, .ref rf, .int ho, .int br, .ref aK, .int ac, .long dw, .ref aE, .int sr, .int sf, .ref aA, .ref aH, .ref aI, .int hi]))]) hP hT [0] (by decide +kernel) rfl
    have hFc := zfr hS hA
    refine va_calli (va_runV (As := [.int p1]) (rest := []) ⟨hx, hb, hml, hown, hts⟩ (g_X11_isBride l dC dI cI cJ h0 p1 th tB tsz tat wr dp rC rV rD rK rT rS rU lw tx rL rX qR qB qP qnb qnp aR aB aP nb np aN rf ho br aK ac dw aE sr sf aA aH aI hi H.size y_ac y_hi y_ho y_lw n_nb n_np y_qnb y_qnp y_tat y_tsz y_wr) (cwV 1 hts (zgV qw1402 qw1404 qw56 qw108 qw1405) rfl rfl rfl hd_X11_isBride ⟨by rw [hR]; exact Nat.le_of_ble_eq_true rfl, by rw [hR]; exact Nat.le_of_ble_eq_true rfl⟩) (zPV hPc hK hDc (va_recv (q := (RX11, TX11, 41)) hK hP (ci := 11) (q0 := 0) rfl rfl)) rfl rfl hl.1 rfl (lv_room (Nat.le_of_ble_eq_true rfl)) dX11_areBoth_10 ⟨Nat.zero_le _, Nat.zero_le _⟩) hS (fun q _ h => hFc q h) hFc (fun v10 u10 t H locs ht hvm hw hB hz1 hk1 hS9 => ?_)
    replace hP := zkeep hP hk1
    replace hS := hS9
    clear hPc hDc hFc hk1 hz1 hvm hS9
    obtain ⟨f10_0, f10_1, f10_2, f10_3⟩ : (0 ≤ v10.toInt) ∧ (v10.toInt ≤ 1) ∧ (¬ v10.toInt = 0 → (0 ≤ p1.toInt ∧ p1.toInt < nb.toInt)) ∧ (v10.toInt = 0 → ¬ (0 ≤ p1.toInt ∧ p1.toInt < nb.toInt)) := hw
    refine lv_if_eq (tgt := 20) hx hb dX11_areBoth_13 (by decide) (fun c13 => ?_) (fun c13 => ?_)
    · have c13 : v10.toInt = 0 := z5 rfl (by decide) c13
      refine lv_iconst (v := 0) hx hb dX11_areBoth_20 (by decide) ?_
      have zr0 : (0 : Int32).toInt = 0 := by decide
      rw [hQ]
      exact W.zret (v := 0) (ty := .boolean) hx hb hr rfl (fun t ht hW => ⟨⟨0, (), rfl, ⟨by (try dsimp only); omega, by (try dsimp only); omega, by (try dsimp only); omega, by (try dsimp only); omega⟩, trivial⟩, hS.F ht⟩) hS.2.2 dX11_areBoth_21
    · have c13 : ¬ v10.toInt = 0 := z6 rfl (by decide) c13
      refine lv_iconst (v := 1) hx hb dX11_areBoth_16 (by decide) ?_
      refine lv_goto (tgt := 21) hx hb dX11_areBoth_17 (by decide) ?_
      have zr0 : (1 : Int32).toInt = 1 := by decide
      rw [hQ]
      exact W.zret (v := 1) (ty := .boolean) hx hb hr rfl (fun t ht hW => ⟨⟨1, (), rfl, ⟨by (try dsimp only); omega, by (try dsimp only); omega, by (try dsimp only); omega, by (try dsimp only); omega⟩, trivial⟩, hS.F ht⟩) hS.2.2 dX11_areBoth_21
set_option maxHeartbeats 4000000 in
set_option maxRecDepth 100000 in
theorem g_X11_isFace (l : Launch) (dC : Nat → ClassId) (dI : Nat → Nat → Nat) (cI cJ : ClassId) (p0 : Int32) (sz : Nat)     : Met l yX11_isFace (.code yX11_isFace cX11_isFace 1 (some .boolean) :: wA) ({ frames := 1, cells := 0, slots := 0, locals := 22 }) (zP (dC, dI) [(cI, .int), (cJ, .long)] [.int p0] sz []) (va_Qi (fun (r : Int32) (u : Unit) => (0 ≤ r.toInt) ∧ (r.toInt ≤ 1) ∧ (¬ r.toInt = 0 → (0 ≤ p0.toInt ∧ p0.toInt ≤ 9)) ∧ (r.toInt = 0 → ¬ (0 ≤ p0.toInt ∧ p0.toInt ≤ 9))) (fun (_ : Unit) (_ : State) => True) (va_A [] sz)) 0 0 (va_A [] sz) := by
  refine Met.ofW (cc := cX11_isFace) (maxL := 1) (ret := (some .boolean)) (by decide) rfl ?_
  intro p e s m args below meth c s₁ B hml hv
  obtain ⟨hargs, hsz, hP, hK, hT⟩ := hv
  have hx := B.exec
  have hb := B.bytes
  have hr := B.returns
  have hts : ∀ w ∈ wA, w.before args s = true := fun w h => atoms_spec (ws := .code yX11_isFace cX11_isFace 1 (some .boolean) :: wA) B.pre w (List.mem_cons_of_mem _ h)
  have hown : s.vm.findClass RX11 = some m.cls := findClass_of_methodNamed B.named
  have hlocks := B.notSynchronized
  subst hsz
  have hD : va_D (va_A [] s.heap.size) [] := zD0
  generalize hAe : va_A [] s.heap.size = A at hD ⊢
  have hA : ∀ q : Nat, s.heap.size ≤ q → A q := fun q h => by rw [← hAe]; exact Or.inr h
  have hl := lv_entry ([.int p0]) (n := 1) (Nat.le_of_ble_eq_true rfl)
  rw [show entryFrame m args 1 = entryFrame m ([.int p0] : List Value).toArray 1 by rw [hargs], lg_entry_eq]
  generalize (lg_sl ([.int p0]) ++ List.replicate (1 - (lg_sl ([.int p0])).length) Slot.unset).toArray = ls at hl ⊢
  have hl : lv_has ls 1 [(0, .int p0)] := hl
  refine zstart (fun H hH => ?_)
  rw [← hH] at hP
  have hS : va_S A s.heap H [] := by rw [hH]; exact va_S.rf
  generalize ([] : List Loc) = locs at hS ⊢
  refine zgen (fun R Q hR hQ => ?_)
  refine lv_iload_n hx hb dX11_isFace_0 rfl (lv_at hl 0 rfl) ?_
  refine lv_iconst (v := 0) hx hb dX11_isFace_1 (by decide) ?_
  refine lv_bipush (v := 9) hx hb dX11_isFace_2 (by decide) ?_
  have hPc : va_P (dC, dI) vwCl [] H := zP0
  have hDc : va_D (fun _ => True) [] := zD0
  have hFc := zfr hS hA
  refine va_calli (va_runS (As := [.int p0, .int 0, .int 9]) (rest := []) ⟨hx, hb, hml, hown, hts⟩ (g_X11_in l dC dI cI cJ p0 0 9 H.size) (cwS 3 hts (zgS qw1305 qw1306 qw108 qw1307) rfl rfl rfl hd_X11_in ⟨by rw [hR]; exact Nat.le_of_ble_eq_true rfl, by rw [hR]; exact Nat.le_of_ble_eq_true rfl⟩) (zPS hPc hK hDc) rfl rfl hl.1 rfl (lv_room (Nat.le_of_ble_eq_true rfl)) dX11_isFace_4 ⟨Nat.zero_le _, Nat.zero_le _⟩) hS (fun q _ h => hFc q h) hFc (fun v4 u4 t H locs ht hvm hw hB hz1 hk1 hS9 => ?_)
  replace hP := zkeep hP hk1
  replace hS := hS9
  clear hPc hDc hFc hk1 hz1 hvm hS9
  have zn4_0 : (0 : Int32).toInt = 0 := by decide
  have zn4_9 : (9 : Int32).toInt = 9 := by decide
  obtain ⟨f4_0, f4_1, f4_2, f4_3⟩ : (0 ≤ v4.toInt) ∧ (v4.toInt ≤ 1) ∧ (¬ v4.toInt = 0 → ((0 : Int32).toInt ≤ p0.toInt ∧ p0.toInt ≤ (9 : Int32).toInt)) ∧ (v4.toInt = 0 → (p0.toInt < (0 : Int32).toInt ∨ (9 : Int32).toInt < p0.toInt)) := hw
  rw [hQ]
  exact W.zret (v := v4) (ty := .boolean) hx hb hr (znb (by omega) (by omega)) (fun t ht hW => ⟨⟨v4, (), rfl, ⟨by (try dsimp only); omega, by (try dsimp only); omega, by (try dsimp only); omega, by (try dsimp only); omega⟩, trivial⟩, hS.F ht⟩) hS.2.2 dX11_isFace_7
set_option maxHeartbeats 4000000 in
set_option maxRecDepth 100000 in
theorem g_X11_flatteryBy (l : Launch) (dC : Nat → ClassId) (dI : Nat → Nat → Nat) (cI cJ : ClassId) (h0 : Nat) (p0 : Int32) (p1 : Int32) (th : Int32) (tB : Nat) (tsz : Int32) (tat : Int32) (wr : Int32) (dp : Int32) (rC : Nat) (rV : Nat) (rD : Nat) (rK : Nat) (rT : Nat) (rS : Nat) (rU : Nat) (lw : Int32) (tx : Int32) (rL : Nat) (rX : Nat) (qR : Nat) (qB : Nat) (qP : Nat) (qnb : Int32) (qnp : Int32) (aR : Nat) (aB : Nat) (aP : Nat) (nb : Int32) (np : Int32) (aN : Nat) (rf : Nat) (ho : Int32) (br : Int32) (aK : Nat) (ac : Int32) (dw : Int64) (aE : Nat) (sr : Int32) (sf : Int32) (aA : Nat) (aH : Nat) (aI : Nat) (hi : Int32) (fN : Nat → Int32) (sz : Nat) (n_ac : 0 ≤ ac.toInt ∧ ac.toInt ≤ 40) (n_hi : 0 ≤ hi.toInt ∧ hi.toInt ≤ 1) (n_ho : (-1) ≤ ho.toInt ∧ ho.toInt ≤ 3) (n_lw : 0 ≤ lw.toInt ∧ lw.toInt ≤ 4) (n_nb : 0 ≤ nb.toInt ∧ nb.toInt ≤ 6) (n_np : 0 ≤ np.toInt ∧ np.toInt ≤ 5) (n_p0 : 0 ≤ p0.toInt ∧ p0.toInt ≤ 4) (n_qnb : 0 ≤ qnb.toInt ∧ qnb.toInt ≤ 6) (n_qnp : 0 ≤ qnp.toInt ∧ qnp.toInt ≤ 5) (n_tat : 0 ≤ tat.toInt ∧ tat.toInt ≤ 260) (n_tsz : 0 ≤ tsz.toInt ∧ tsz.toInt ≤ 240) (n_wr : (-1) ≤ wr.toInt ∧ wr.toInt ≤ 260)    : Met l yX11_flatteryBy (.code yX11_flatteryBy cX11_flatteryBy 3 (some .int) :: wA) ({ frames := 1, cells := 0, slots := 0, locals := 30 }) (zP (dC, dI) [(cI, .int), (cJ, .long)] [.ref h0, .int p0, .int p1] sz [(h0, .inr (11, [.int th, .ref tB, .int tsz, .int tat, .int wr, .int dp, .ref rC, .ref rV, .ref rD, .ref rK, .ref rT, .ref rS, .ref rU, .int lw, .int tx, .ref rL, .ref rX, .ref qR, .ref qB, .ref qP, .int qnb, .int qnp, .ref aR, .ref aB, .ref aP, .int nb, .int np, .ref aN, .ref rf, .int ho, .int br, .ref aK, .int ac, .long dw, .ref aE, .int sr, .int sf, .ref aA, .ref aH, .ref aI, .int hi])), (aN, .inl (cI, 97, .inl fN))]) (va_Qi (fun (r : Int32) (u : Unit) => (0 ≤ r.toInt) ∧ (r = zFl (fN (6 + p0.toInt.toNat)) p1)) (fun (_ : Unit) (_ : State) => True) (va_A [] sz)) 0 0 (va_A [] sz) := by
  refine Met.ofW (cc := cX11_flatteryBy) (maxL := 3) (ret := (some .int)) (by decide) rfl ?_
  intro p e s m args below meth c s₁ B hml hv
  have y_ac : zHid (0 ≤ ac.toInt ∧ ac.toInt ≤ 40) := n_ac
  have y_hi : zHid (0 ≤ hi.toInt ∧ hi.toInt ≤ 1) := n_hi
  have y_ho : zHid ((-1) ≤ ho.toInt ∧ ho.toInt ≤ 3) := n_ho
  have y_lw : zHid (0 ≤ lw.toInt ∧ lw.toInt ≤ 4) := n_lw
  have y_nb : zHid (0 ≤ nb.toInt ∧ nb.toInt ≤ 6) := n_nb
  have y_np : zHid (0 ≤ np.toInt ∧ np.toInt ≤ 5) := n_np
  have y_qnb : zHid (0 ≤ qnb.toInt ∧ qnb.toInt ≤ 6) := n_qnb
  have y_qnp : zHid (0 ≤ qnp.toInt ∧ qnp.toInt ≤ 5) := n_qnp
  have y_tat : zHid (0 ≤ tat.toInt ∧ tat.toInt ≤ 260) := n_tat
  have y_tsz : zHid (0 ≤ tsz.toInt ∧ tsz.toInt ≤ 240) := n_tsz
  have y_wr : zHid ((-1) ≤ wr.toInt ∧ wr.toInt ≤ 260) := n_wr
  clear n_ac n_hi n_ho n_lw n_nb n_np n_qnb n_qnp n_tat n_tsz n_wr
  obtain ⟨hargs, hsz, hP, hK, hT⟩ := hv
  have hx := B.exec
  have hb := B.bytes
  have hr := B.returns
  have hts : ∀ w ∈ wA, w.before args s = true := fun w h => atoms_spec (ws := .code yX11_flatteryBy cX11_flatteryBy 3 (some .int) :: wA) B.pre w (List.mem_cons_of_mem _ h)
  have hown : s.vm.findClass RX11 = some m.cls := findClass_of_methodNamed B.named
  have hlocks := B.notSynchronized
  subst hsz
  have hD : va_D (va_A [] s.heap.size) [] := zD0
  generalize hAe : va_A [] s.heap.size = A at hD ⊢
  have hA : ∀ q : Nat, s.heap.size ≤ q → A q := fun q h => by rw [← hAe]; exact Or.inr h
  have hl := lv_entry ([.ref h0, .int p0, .int p1]) (n := 3) (Nat.le_of_ble_eq_true rfl)
  rw [show entryFrame m args 3 = entryFrame m ([.ref h0, .int p0, .int p1] : List Value).toArray 3 by rw [hargs], lg_entry_eq]
  generalize (lg_sl ([.ref h0, .int p0, .int p1]) ++ List.replicate (3 - (lg_sl ([.ref h0, .int p0, .int p1])).length) Slot.unset).toArray = ls at hl ⊢
  have hl : lv_has ls 3 [(0, .ref h0), (1, .int p0), (2, .int p1)] := hl
  refine zstart (fun H hH => ?_)
  rw [← hH] at hP
  have hS : va_S A s.heap H [] := by rw [hH]; exact va_S.rf
  generalize ([] : List Loc) = locs at hS ⊢
  refine zgen (fun R Q hR hQ => ?_)
  refine lv_iconst (v := 0) hx hb dX11_flatteryBy_0 (by decide) ?_
  refine lv_iload_n hx hb dX11_flatteryBy_1 rfl (lv_at hl 2 rfl) ?_
  refine lv_aload_n hx hb dX11_flatteryBy_2 rfl (lv_at hl 0 rfl) ?_
  refine va_get (D := (dC, dI)) (ci := 11) (v := .ref aN) (C := RX11) (T := TX11) (N := 41) hx hb hts iX11 hown hK hP 0 rfl rfl 27 (by decide) (hts _ qw1154) (fun _ h9 => h9) rfl dX11_flatteryBy_3 ?_
  refine lv_bipush (v := 6) hx hb dX11_flatteryBy_6 (by decide) ?_
  refine lv_iload_n hx hb dX11_flatteryBy_8 rfl (lv_at hl 1 rfl) ?_
  refine lv_iadd hx hb dX11_flatteryBy_9 ?_
  refine lv_topi (fun v9 e9 => ?_)
  have i9 : v9.toInt = 6 + p0.toInt := zadd e9 (by decide) rfl (by omega) (by omega)
  refine va_iald hx hb hK hP 1 0 rfl rfl (vp_in_iff.mpr ⟨by omega, by omega⟩) dX11_flatteryBy_10 ?_
  refine lv_topi (fun v10 e10 => ?_)
  refine lv_iconst (v := 3) hx hb dX11_flatteryBy_11 (by decide) ?_
  refine lv_idiv hx hb dX11_flatteryBy_12 (by decide) ?_
  refine lv_topi (fun v12 e12 => ?_)
  refine lv_isub hx hb dX11_flatteryBy_13 ?_
  refine lv_topi (fun v13 e13 => ?_)
  refine va_mmax hx hb (by rw [hml]; exact hl.1.symm) hown (hts _ qw1430) (hts _ qw634) (hts _ qw112) (hts _ qw635) (by rw [hR]; exact Nat.le_of_ble_eq_true rfl) (by rw [hR]; exact Nat.le_of_ble_eq_true rfl) (Nat.zero_le _) (Nat.zero_le _) dX11_flatteryBy_14 ?_
  refine lv_topi (fun v14 e14 => ?_)
  have zc14_0 : (0 : Int32).toInt = 0 := by decide
  have i14 := zmmax e14
  rw [hQ]
  exact W.iret (v := v14) hx hb hr (fun t ht hW => ⟨⟨v14, (), rfl, ⟨by (try dsimp only); omega, by (try dsimp only); exact zFl_mk e14 e13 e12 (zIxN e10 (by omega))⟩, trivial⟩, hS.F ht⟩) hS.2.2 dX11_flatteryBy_17
set_option maxHeartbeats 4000000 in
set_option maxRecDepth 100000 in
theorem g_X11_latestOf (l : Launch) (dC : Nat → ClassId) (dI : Nat → Nat → Nat) (cI cJ : ClassId) (h0 : Nat) (p0 : Int32) (th : Int32) (tB : Nat) (tsz : Int32) (tat : Int32) (wr : Int32) (dp : Int32) (rC : Nat) (rV : Nat) (rD : Nat) (rK : Nat) (rT : Nat) (rS : Nat) (rU : Nat) (lw : Int32) (tx : Int32) (rL : Nat) (rX : Nat) (qR : Nat) (qB : Nat) (qP : Nat) (qnb : Int32) (qnp : Int32) (aR : Nat) (aB : Nat) (aP : Nat) (nb : Int32) (np : Int32) (aN : Nat) (rf : Nat) (ho : Int32) (br : Int32) (aK : Nat) (ac : Int32) (dw : Int64) (aE : Nat) (sr : Int32) (sf : Int32) (aA : Nat) (aH : Nat) (aI : Nat) (hi : Int32) (fN : Nat → Int32) (sz : Nat) (n_ac : 0 ≤ ac.toInt ∧ ac.toInt ≤ 40) (n_hi : 0 ≤ hi.toInt ∧ hi.toInt ≤ 1) (n_ho : (-1) ≤ ho.toInt ∧ ho.toInt ≤ 3) (n_lw : 0 ≤ lw.toInt ∧ lw.toInt ≤ 4) (n_nb : 0 ≤ nb.toInt ∧ nb.toInt ≤ 6) (n_np : 0 ≤ np.toInt ∧ np.toInt ≤ 5) (n_qnb : 0 ≤ qnb.toInt ∧ qnb.toInt ≤ 6) (n_qnp : 0 ≤ qnp.toInt ∧ qnp.toInt ≤ 5) (n_tat : 0 ≤ tat.toInt ∧ tat.toInt ≤ 260) (n_tsz : 0 ≤ tsz.toInt ∧ tsz.toInt ≤ 240) (n_wr : (-1) ≤ wr.toInt ∧ wr.toInt ≤ 260)  (ci_fN_zNw_np : zNw np fN)  : Met l yX11_latestOf (.code yX11_latestOf cX11_latestOf 3 (some .int) :: wA) ({ frames := 1, cells := 0, slots := 0, locals := 22 }) (zP (dC, dI) [(cI, .int), (cJ, .long)] [.ref h0, .int p0] sz [(h0, .inr (11, [.int th, .ref tB, .int tsz, .int tat, .int wr, .int dp, .ref rC, .ref rV, .ref rD, .ref rK, .ref rT, .ref rS, .ref rU, .int lw, .int tx, .ref rL, .ref rX, .ref qR, .ref qB, .ref qP, .int qnb, .int qnp, .ref aR, .ref aB, .ref aP, .int nb, .int np, .ref aN, .ref rf, .int ho, .int br, .ref aK, .int ac, .long dw, .ref aE, .int sr, .int sf, .ref aA, .ref aH, .ref aI, .int hi])), (aN, .inl (cI, 97, .inl fN))]) (va_Qi (fun (r : Int32) (u : Unit) => ((-1) ≤ r.toInt) ∧ (r.toInt ≤ 9) ∧ (r = zLat (fun i => fN (17 + i)) p0 (fN 16).toInt.toNat)) (fun (_ : Unit) (_ : State) => True) (va_A [] sz)) 0 0 (va_A [] sz) := by
  refine Met.ofW (cc := cX11_latestOf) (maxL := 3) (ret := (some .int)) (by decide) rfl ?_
  intro p e s m args below meth c s₁ B hml hv
  have y_ac : zHid (0 ≤ ac.toInt ∧ ac.toInt ≤ 40) := n_ac
  have y_hi : zHid (0 ≤ hi.toInt ∧ hi.toInt ≤ 1) := n_hi
  have y_ho : zHid ((-1) ≤ ho.toInt ∧ ho.toInt ≤ 3) := n_ho
  have y_lw : zHid (0 ≤ lw.toInt ∧ lw.toInt ≤ 4) := n_lw
  have y_nb : zHid (0 ≤ nb.toInt ∧ nb.toInt ≤ 6) := n_nb
  have y_qnb : zHid (0 ≤ qnb.toInt ∧ qnb.toInt ≤ 6) := n_qnb
  have y_qnp : zHid (0 ≤ qnp.toInt ∧ qnp.toInt ≤ 5) := n_qnp
  have y_tat : zHid (0 ≤ tat.toInt ∧ tat.toInt ≤ 260) := n_tat
  have y_tsz : zHid (0 ≤ tsz.toInt ∧ tsz.toInt ≤ 240) := n_tsz
  have y_wr : zHid ((-1) ≤ wr.toInt ∧ wr.toInt ≤ 260) := n_wr
  clear n_ac n_hi n_ho n_lw n_nb n_qnb n_qnp n_tat n_tsz n_wr
  obtain ⟨hargs, hsz, hP, hK, hT⟩ := hv
  have hx := B.exec
  have hb := B.bytes
  have hr := B.returns
  have hts : ∀ w ∈ wA, w.before args s = true := fun w h => atoms_spec (ws := .code yX11_latestOf cX11_latestOf 3 (some .int) :: wA) B.pre w (List.mem_cons_of_mem _ h)
  have hown : s.vm.findClass RX11 = some m.cls := findClass_of_methodNamed B.named
  have hlocks := B.notSynchronized
  subst hsz
  have hD : va_D (va_A [] s.heap.size) [] := zD0
  generalize hAe : va_A [] s.heap.size = A at hD ⊢
  have hA : ∀ q : Nat, s.heap.size ≤ q → A q := fun q h => by rw [← hAe]; exact Or.inr h
  have hl := lv_entry ([.ref h0, .int p0]) (n := 3) (Nat.le_of_ble_eq_true rfl)
  rw [show entryFrame m args 3 = entryFrame m ([.ref h0, .int p0] : List Value).toArray 3 by rw [hargs], lg_entry_eq]
  generalize (lg_sl ([.ref h0, .int p0]) ++ List.replicate (3 - (lg_sl ([.ref h0, .int p0])).length) Slot.unset).toArray = ls at hl ⊢
  have hl : lv_has ls 3 [(0, .ref h0), (1, .int p0)] := hl
  refine zstart (fun H hH => ?_)
  rw [← hH] at hP
  have hS : va_S A s.heap H [] := by rw [hH]; exact va_S.rf
  generalize ([] : List Loc) = locs at hS ⊢
  refine zgen (fun R Q hR hQ => ?_)
  refine lv_aload_n hx hb dX11_latestOf_0 rfl (lv_at hl 0 rfl) ?_
  refine va_get (D := (dC, dI)) (ci := 11) (v := .ref aN) (C := RX11) (T := TX11) (N := 41) hx hb hts iX11 hown hK hP 0 rfl rfl 27 (by decide) (hts _ qw1154) (fun _ h9 => h9) rfl dX11_latestOf_1 ?_
  refine lv_bipush (v := 16) hx hb dX11_latestOf_4 (by decide) ?_
  refine va_iald hx hb hK hP 1 0 rfl rfl (by unfold vp_in; decide) dX11_latestOf_6 ?_
  refine lv_topi (fun v6 e6 => ?_)
  have i6 : v6.toInt = (fN 16).toInt ∧ 0 ≤ v6.toInt ∧ v6.toInt ≤ 20 := zNw_16 ci_fN_zNw_np e6
  refine lv_iconst (v := 1) hx hb dX11_latestOf_7 (by decide) ?_
  refine lv_isub hx hb dX11_latestOf_8 ?_
  refine lv_topi (fun v8 e8 => ?_)
  have i8 : v8.toInt = v6.toInt - 1 := zsub e8 rfl (by decide) (by omega) (by omega)
  have J10 : ∀ (n : Nat) (m10_L_2 : Int32), ((-1) ≤ m10_L_2.toInt ∧ m10_L_2.toInt ≤ 19) → (m10_L_2.toInt < (fN 16).toInt) → (zLat (fun i => fN (17 + i)) p0 (fN 16).toInt.toNat = zLat (fun i => fN (17 + i)) p0 (m10_L_2.toInt + 1).toNat) → (m10_L_2.toInt - (-2)).toNat = n → ∀ (H : Heap) (locs : List Loc) (ls : Array Slot), va_P (dC, dI) vwCl [(h0, .inr (11, [.int th, .ref tB, .int tsz, .int tat, .int wr, .int dp, .ref rC, .ref rV, .ref rD, .ref rK, .ref rT, .ref rS, .ref rU, .int lw, .int tx, .ref rL, .ref rX, .ref qR, .ref qB, .ref qP, .int qnb, .int qnp, .ref aR, .ref aB, .ref aP, .int nb, .int np, .ref aN, .ref rf, .int ho, .int br, .ref aK, .int ac, .long dw, .ref aE, .int sr, .int sf, .ref aA, .ref aH, .ref aI, .int hi])), (aN, .inl (cI, 97, .inl fN))] H → va_S A s.heap H locs → lv_has ls 3 [(2, .int m10_L_2), (0, .ref h0), (1, .int p0)] → W p l e R s m args below meth c H locs 0 0 Q (F0 m 10 ls []) := by
    intro n10
    induction n10 using Nat.strongRecOn with
    | _ n10 ih10 =>
      intro m10_L_2 jf10_0 jf10_1 jv10_0 hmu10 H locs ls hP hS hl
      refine lv_iload_n hx hb dX11_latestOf_10 rfl (lv_at hl 0 rfl) ?_
      refine lv_if_lt (tgt := 37) hx hb dX11_latestOf_11 (by decide) (fun c11 => ?_) (fun c11 => ?_)
      · have c11 : m10_L_2.toInt < 0 := z1 rfl (by decide) c11
        refine lv_iconst (v := (-1)) hx hb dX11_latestOf_37 (by decide) ?_
        have zr0 : ((-1) : Int32).toInt = (-1) := by decide
        rw [hQ]
        exact W.iret (v := ((-1))) hx hb hr (fun t ht hW => ⟨⟨(-1), (), rfl, ⟨by (try dsimp only); omega, by (try dsimp only); omega, by (try dsimp only); exact (zLat_e jv10_0 (by omega)).symm⟩, trivial⟩, hS.F ht⟩) hS.2.2 dX11_latestOf_38
      · have c11 : 0 ≤ m10_L_2.toInt := z2 rfl (by decide) c11
        refine lv_aload_n hx hb dX11_latestOf_14 rfl (lv_at hl 1 rfl) ?_
        refine lv_iload_n hx hb dX11_latestOf_15 rfl (lv_at hl 0 rfl) ?_
        refine lv_iconst (v := 1) hx hb dX11_latestOf_16 (by decide) ?_
        obtain ⟨hPc, hDc⟩ := zc2 (wc := [(h0, .inr (11, [.int th, .ref tB, .int tsz, .int tat, .int wr, .int dp, .ref rC, .ref rV, .ref rD, .ref rK, .ref rT, .ref rS, .ref rU, .int lw, .int tx, .ref rL, .ref rX, .ref qR, .ref qB, .ref qP, .int qnb, .int qnp, .ref aR, .ref aB, .ref aP, .int nb, .int np, .ref aN, .ref rf, .int ho, .int br, .ref aK, .int ac, .long dw, .ref aE, .int sr, .int sf, .ref aA, .ref aH, .ref aI, .int hi])), (aN, .inl (cI, 97, .inl fN))]) hP hT [0, 1] (by decide +kernel) rfl
        have hFc := zfr hS hA
        refine va_calli (va_runV (As := [.int m10_L_2, .int 1]) (rest := []) ⟨hx, hb, hml, hown, hts⟩ (g_X11_shot_1 l dC dI cI cJ h0 m10_L_2 th tB tsz tat wr dp rC rV rD rK rT rS rU lw tx rL rX qR qB qP qnb qnp aR aB aP nb np aN rf ho br aK ac dw aE sr sf aA aH aI hi fN H.size y_ac y_hi y_ho y_lw y_nb n_np (by omega) y_qnb y_qnp y_tat y_tsz y_wr (by omega) ci_fN_zNw_np) (cwV 2 hts (zgV qw1473 qw1475 qw65 qw108 qw1476) rfl rfl rfl hd_X11_shot ⟨by rw [hR]; exact Nat.le_of_ble_eq_true rfl, by rw [hR]; exact Nat.le_of_ble_eq_true rfl⟩) (zPV hPc hK hDc (va_recv (q := (RX11, TX11, 41)) hK hP (ci := 11) (q0 := 0) rfl rfl)) rfl rfl hl.1 rfl (lv_room (Nat.le_of_ble_eq_true rfl)) dX11_latestOf_17 ⟨Nat.zero_le _, Nat.zero_le _⟩) hS (fun q _ h => hFc q h) hFc (fun v17 u17 t H locs ht hvm hw hB hz1 hk1 hS9 => ?_)
        replace hP := zkeep hP hk1
        replace hS := hS9
        clear hPc hDc hFc hk1 hz1 hvm hS9
        obtain ⟨f17_0, f17_1, f17_2, f17_3⟩ : (0 ≤ v17.toInt) ∧ (v17.toInt ≤ 4) ∧ (v17.toInt < np.toInt) ∧ (v17 = fN (17 + (4 * m10_L_2.toInt.toNat + 1))) := hw
        have F17 := f17_3
        refine lv_iload_n hx hb dX11_latestOf_20 rfl (lv_at hl 2 rfl) ?_
        refine lv_icmp_ne (tgt := 31) hx hb dX11_latestOf_21 (by decide) (fun c21 => ?_) (fun c21 => ?_)
        · have c21 : ¬ v17.toInt = p0.toInt := z6 rfl rfl c21
          obtain ⟨v31, e31⟩ : ∃ y : Int32, y = m10_L_2 + Int32.ofInt (-1) := ⟨_, rfl⟩
          refine lv_iinc (v := v31) (lv' := [(2, .int v31), (0, .ref h0), (1, .int p0)]) hx hb dX11_latestOf_31 hl (k := 0) rfl e31.symm (by decide) rfl (fun ls hl => ?_)
          have i31 : v31.toInt = m10_L_2.toInt + (-1) := zaddI e31 (by decide) (by omega) (by omega)
          refine lv_goto (tgt := 10) hx hb dX11_latestOf_34 (by decide) ?_
          exact ih10 _ (by omega) v31 (by omega) (by omega) (zLat_s (P := fun i => fN (17 + i)) jv10_0 (by omega) F17 (by omega) _ (by omega)) rfl H locs ls hP hS (lv_sub hl [0, 1, 2] rfl)
        · have c21 : v17.toInt = p0.toInt := z5 rfl rfl c21
          refine lv_aload_n hx hb dX11_latestOf_24 rfl (lv_at hl 1 rfl) ?_
          refine lv_iload_n hx hb dX11_latestOf_25 rfl (lv_at hl 0 rfl) ?_
          refine lv_iconst (v := 2) hx hb dX11_latestOf_26 (by decide) ?_
          obtain ⟨hPc, hDc⟩ := zc2 (wc := [(h0, .inr (11, [.int th, .ref tB, .int tsz, .int tat, .int wr, .int dp, .ref rC, .ref rV, .ref rD, .ref rK, .ref rT, .ref rS, .ref rU, .int lw, .int tx, .ref rL, .ref rX, .ref qR, .ref qB, .ref qP, .int qnb, .int qnp, .ref aR, .ref aB, .ref aP, .int nb, .int np, .ref aN, .ref rf, .int ho, .int br, .ref aK, .int ac, .long dw, .ref aE, .int sr, .int sf, .ref aA, .ref aH, .ref aI, .int hi])), (aN, .inl (cI, 97, .inl fN))]) hP hT [0, 1] (by decide +kernel) rfl
          have hFc := zfr hS hA
          refine va_calli (va_runV (As := [.int m10_L_2, .int 2]) (rest := []) ⟨hx, hb, hml, hown, hts⟩ (g_X11_shot_2 l dC dI cI cJ h0 m10_L_2 th tB tsz tat wr dp rC rV rD rK rT rS rU lw tx rL rX qR qB qP qnb qnp aR aB aP nb np aN rf ho br aK ac dw aE sr sf aA aH aI hi fN H.size y_ac y_hi y_ho y_lw y_nb n_np (by omega) y_qnb y_qnp y_tat y_tsz y_wr (by omega) ci_fN_zNw_np) (cwV 2 hts (zgV qw1473 qw1475 qw65 qw108 qw1476) rfl rfl rfl hd_X11_shot ⟨by rw [hR]; exact Nat.le_of_ble_eq_true rfl, by rw [hR]; exact Nat.le_of_ble_eq_true rfl⟩) (zPV hPc hK hDc (va_recv (q := (RX11, TX11, 41)) hK hP (ci := 11) (q0 := 0) rfl rfl)) rfl rfl hl.1 rfl (lv_room (Nat.le_of_ble_eq_true rfl)) dX11_latestOf_27 ⟨Nat.zero_le _, Nat.zero_le _⟩) hS (fun q _ h => hFc q h) hFc (fun v27 u27 t H locs ht hvm hw hB hz1 hk1 hS9 => ?_)
          replace hP := zkeep hP hk1
          replace hS := hS9
          clear hPc hDc hFc hk1 hz1 hvm hS9
          obtain ⟨f27_0, f27_1, f27_2⟩ : ((-1) ≤ v27.toInt) ∧ (v27.toInt ≤ 9) ∧ (v27 = fN (17 + (4 * m10_L_2.toInt.toNat + 2))) := hw
          have F27 := f27_2
          rw [hQ]
          exact W.iret (v := v27) hx hb hr (fun t ht hW => ⟨⟨v27, (), rfl, ⟨by (try dsimp only); omega, by (try dsimp only); omega, by (try dsimp only); exact F27.trans (zLat_y (P := fun i => fN (17 + i)) jv10_0 (by omega) F17 (by omega)).symm⟩, trivial⟩, hS.F ht⟩) hS.2.2 dX11_latestOf_30
  refine lv_istore_n (lv' := [(2, .int v8), (0, .ref h0), (1, .int p0)]) hx hb dX11_latestOf_9 rfl hl (by decide) rfl (fun ls hl => ?_)
  exact J10 _ v8 (by omega) (by omega) (by rw [show (v8.toInt + 1).toNat = (fN 16).toInt.toNat by omega]) rfl H locs ls hP hS (lv_sub hl [0, 1, 2] rfl)
set_option maxHeartbeats 4000000 in
set_option maxRecDepth 100000 in
theorem g_X11_seenOf (l : Launch) (dC : Nat → ClassId) (dI : Nat → Nat → Nat) (cI cJ : ClassId) (h0 : Nat) (p0 : Int32) (th : Int32) (tB : Nat) (tsz : Int32) (tat : Int32) (wr : Int32) (dp : Int32) (rC : Nat) (rV : Nat) (rD : Nat) (rK : Nat) (rT : Nat) (rS : Nat) (rU : Nat) (lw : Int32) (tx : Int32) (rL : Nat) (rX : Nat) (qR : Nat) (qB : Nat) (qP : Nat) (qnb : Int32) (qnp : Int32) (aR : Nat) (aB : Nat) (aP : Nat) (nb : Int32) (np : Int32) (aN : Nat) (rf : Nat) (ho : Int32) (br : Int32) (aK : Nat) (ac : Int32) (dw : Int64) (aE : Nat) (sr : Int32) (sf : Int32) (aA : Nat) (aH : Nat) (aI : Nat) (hi : Int32) (fN : Nat → Int32) (sz : Nat) (n_ac : 0 ≤ ac.toInt ∧ ac.toInt ≤ 40) (n_hi : 0 ≤ hi.toInt ∧ hi.toInt ≤ 1) (n_ho : (-1) ≤ ho.toInt ∧ ho.toInt ≤ 3) (n_lw : 0 ≤ lw.toInt ∧ lw.toInt ≤ 4) (n_nb : 0 ≤ nb.toInt ∧ nb.toInt ≤ 6) (n_np : 0 ≤ np.toInt ∧ np.toInt ≤ 5) (n_qnb : 0 ≤ qnb.toInt ∧ qnb.toInt ≤ 6) (n_qnp : 0 ≤ qnp.toInt ∧ qnp.toInt ≤ 5) (n_tat : 0 ≤ tat.toInt ∧ tat.toInt ≤ 260) (n_tsz : 0 ≤ tsz.toInt ∧ tsz.toInt ≤ 240) (n_wr : (-1) ≤ wr.toInt ∧ wr.toInt ≤ 260)  (ci_fN_zNw_np : zNw np fN)  : Met l yX11_seenOf (.code yX11_seenOf cX11_seenOf 4 (some .int) :: wA) ({ frames := 1, cells := 0, slots := 0, locals := 22 }) (zP (dC, dI) [(cI, .int), (cJ, .long)] [.ref h0, .int p0] sz [(h0, .inr (11, [.int th, .ref tB, .int tsz, .int tat, .int wr, .int dp, .ref rC, .ref rV, .ref rD, .ref rK, .ref rT, .ref rS, .ref rU, .int lw, .int tx, .ref rL, .ref rX, .ref qR, .ref qB, .ref qP, .int qnb, .int qnp, .ref aR, .ref aB, .ref aP, .int nb, .int np, .ref aN, .ref rf, .int ho, .int br, .ref aK, .int ac, .long dw, .ref aE, .int sr, .int sf, .ref aA, .ref aH, .ref aI, .int hi])), (aN, .inl (cI, 97, .inl fN))]) (va_Qi (fun (r : Int32) (u : Unit) => (0 ≤ r.toInt) ∧ (r.toInt ≤ 20) ∧ (r.toInt = (zCt fN p0 (fN 16).toInt.toNat : Int)) ∧ (r = zCnt (fun i => fN (17 + i)) p0 (fN 16).toInt.toNat)) (fun (_ : Unit) (_ : State) => True) (va_A [] sz)) 0 0 (va_A [] sz) := by
  refine Met.ofW (cc := cX11_seenOf) (maxL := 4) (ret := (some .int)) (by decide) rfl ?_
  intro p e s m args below meth c s₁ B hml hv
  have y_ac : zHid (0 ≤ ac.toInt ∧ ac.toInt ≤ 40) := n_ac
  have y_hi : zHid (0 ≤ hi.toInt ∧ hi.toInt ≤ 1) := n_hi
  have y_ho : zHid ((-1) ≤ ho.toInt ∧ ho.toInt ≤ 3) := n_ho
  have y_lw : zHid (0 ≤ lw.toInt ∧ lw.toInt ≤ 4) := n_lw
  have y_nb : zHid (0 ≤ nb.toInt ∧ nb.toInt ≤ 6) := n_nb
  have y_np : zHid (0 ≤ np.toInt ∧ np.toInt ≤ 5) := n_np
  have y_qnb : zHid (0 ≤ qnb.toInt ∧ qnb.toInt ≤ 6) := n_qnb
  have y_qnp : zHid (0 ≤ qnp.toInt ∧ qnp.toInt ≤ 5) := n_qnp
  have y_tat : zHid (0 ≤ tat.toInt ∧ tat.toInt ≤ 260) := n_tat
  have y_tsz : zHid (0 ≤ tsz.toInt ∧ tsz.toInt ≤ 240) := n_tsz
  have y_wr : zHid ((-1) ≤ wr.toInt ∧ wr.toInt ≤ 260) := n_wr
  clear n_ac n_hi n_ho n_lw n_nb n_np n_qnb n_qnp n_tat n_tsz n_wr
  obtain ⟨hargs, hsz, hP, hK, hT⟩ := hv
  have hx := B.exec
  have hb := B.bytes
  have hr := B.returns
  have hts : ∀ w ∈ wA, w.before args s = true := fun w h => atoms_spec (ws := .code yX11_seenOf cX11_seenOf 4 (some .int) :: wA) B.pre w (List.mem_cons_of_mem _ h)
  have hown : s.vm.findClass RX11 = some m.cls := findClass_of_methodNamed B.named
  have hlocks := B.notSynchronized
  subst hsz
  have hD : va_D (va_A [] s.heap.size) [] := zD0
  generalize hAe : va_A [] s.heap.size = A at hD ⊢
  have hA : ∀ q : Nat, s.heap.size ≤ q → A q := fun q h => by rw [← hAe]; exact Or.inr h
  have hl := lv_entry ([.ref h0, .int p0]) (n := 4) (Nat.le_of_ble_eq_true rfl)
  rw [show entryFrame m args 4 = entryFrame m ([.ref h0, .int p0] : List Value).toArray 4 by rw [hargs], lg_entry_eq]
  generalize (lg_sl ([.ref h0, .int p0]) ++ List.replicate (4 - (lg_sl ([.ref h0, .int p0])).length) Slot.unset).toArray = ls at hl ⊢
  have hl : lv_has ls 4 [(0, .ref h0), (1, .int p0)] := hl
  refine zstart (fun H hH => ?_)
  rw [← hH] at hP
  have hS : va_S A s.heap H [] := by rw [hH]; exact va_S.rf
  generalize ([] : List Loc) = locs at hS ⊢
  refine zgen (fun R Q hR hQ => ?_)
  have q0 : zCt fN p0 (0 : Int32).toInt.toNat = 0 := rfl
  have q0b := ci_fN_zNw_np.2.1
  refine lv_iconst (v := 0) hx hb dX11_seenOf_0 (by decide) ?_
  refine lv_istore_n (lv' := [(2, .int 0), (0, .ref h0), (1, .int p0)]) hx hb dX11_seenOf_1 rfl hl (by decide) rfl (fun ls hl => ?_)
  refine lv_iconst (v := 0) hx hb dX11_seenOf_2 (by decide) ?_
  have J4 : ∀ (n : Nat) (m4_L_2 : Int32) (m4_L_3 : Int32), (0 ≤ m4_L_2.toInt ∧ m4_L_2.toInt ≤ 20) → (0 ≤ m4_L_3.toInt ∧ m4_L_3.toInt ≤ 20) → (m4_L_2.toInt = (zCt fN p0 m4_L_3.toInt.toNat : Int) ∧ m4_L_2.toInt ≤ m4_L_3.toInt ∧ 0 ≤ m4_L_2.toInt ∧ m4_L_3.toInt ≤ (fN 16).toInt) → (m4_L_2 = zCnt (fun i => fN (17 + i)) p0 m4_L_3.toInt.toNat) → (21 - m4_L_3.toInt).toNat = n → ∀ (H : Heap) (locs : List Loc) (ls : Array Slot), va_P (dC, dI) vwCl [(h0, .inr (11, [.int th, .ref tB, .int tsz, .int tat, .int wr, .int dp, .ref rC, .ref rV, .ref rD, .ref rK, .ref rT, .ref rS, .ref rU, .int lw, .int tx, .ref rL, .ref rX, .ref qR, .ref qB, .ref qP, .int qnb, .int qnp, .ref aR, .ref aB, .ref aP, .int nb, .int np, .ref aN, .ref rf, .int ho, .int br, .ref aK, .int ac, .long dw, .ref aE, .int sr, .int sf, .ref aA, .ref aH, .ref aI, .int hi])), (aN, .inl (cI, 97, .inl fN))] H → va_S A s.heap H locs → lv_has ls 4 [(3, .int m4_L_3), (2, .int m4_L_2), (0, .ref h0), (1, .int p0)] → W p l e R s m args below meth c H locs 0 0 Q (F0 m 4 ls []) := by
    intro n4
    induction n4 using Nat.strongRecOn with
    | _ n4 ih4 =>
      intro m4_L_2 m4_L_3 jf4_0 jf4_1 jf4_2 jv4_0 hmu4 H locs ls hP hS hl
      refine lv_iload_n hx hb dX11_seenOf_4 rfl (lv_at hl 0 rfl) ?_
      refine lv_aload_n hx hb dX11_seenOf_5 rfl (lv_at hl 2 rfl) ?_
      refine va_get (D := (dC, dI)) (ci := 11) (v := .ref aN) (C := RX11) (T := TX11) (N := 41) hx hb hts iX11 hown hK hP 0 rfl rfl 27 (by decide) (hts _ qw1154) (fun _ h9 => h9) rfl dX11_seenOf_6 ?_
      refine lv_bipush (v := 16) hx hb dX11_seenOf_9 (by decide) ?_
      refine va_iald hx hb hK hP 1 0 rfl rfl (by unfold vp_in; decide) dX11_seenOf_11 ?_
      refine lv_topi (fun v11 e11 => ?_)
      have i11 : v11.toInt = (fN 16).toInt ∧ 0 ≤ v11.toInt ∧ v11.toInt ≤ 20 := zNw_16 ci_fN_zNw_np e11
      refine lv_icmp_ge (tgt := 39) hx hb dX11_seenOf_12 (by decide) (fun c12 => ?_) (fun c12 => ?_)
      · have c12 : v11.toInt ≤ m4_L_3.toInt := z3 rfl rfl c12
        have q39b : m4_L_3.toInt.toNat = (fN 16).toInt.toNat := by omega
        have q39c : zCt fN p0 m4_L_3.toInt.toNat = zCt fN p0 (fN 16).toInt.toNat := by rw [q39b]
        have q39 : 0 ≤ m4_L_2.toInt ∧ m4_L_2.toInt ≤ 20 := by omega
        refine lv_iload_n hx hb dX11_seenOf_39 rfl (lv_at hl 1 rfl) ?_
        rw [hQ]
        exact W.iret (v := m4_L_2) hx hb hr (fun t ht hW => ⟨⟨m4_L_2, (), rfl, ⟨by (try dsimp only); omega, by (try dsimp only); omega, by (try dsimp only); omega, by (try dsimp only); rw [jv4_0, q39b]⟩, trivial⟩, hS.F ht⟩) hS.2.2 dX11_seenOf_40
      · have c12 : m4_L_3.toInt < v11.toInt := z4 rfl rfl c12
        have q15 : 0 ≤ m4_L_2.toInt ∧ m4_L_2.toInt ≤ 19 := by omega
        refine lv_iload_n hx hb dX11_seenOf_15 rfl (lv_at hl 1 rfl) ?_
        refine lv_aload_n hx hb dX11_seenOf_16 rfl (lv_at hl 2 rfl) ?_
        refine lv_iload_n hx hb dX11_seenOf_17 rfl (lv_at hl 0 rfl) ?_
        refine lv_iconst (v := 0) hx hb dX11_seenOf_18 (by decide) ?_
        obtain ⟨hPc, hDc⟩ := zc2 (wc := [(h0, .inr (11, [.int th, .ref tB, .int tsz, .int tat, .int wr, .int dp, .ref rC, .ref rV, .ref rD, .ref rK, .ref rT, .ref rS, .ref rU, .int lw, .int tx, .ref rL, .ref rX, .ref qR, .ref qB, .ref qP, .int qnb, .int qnp, .ref aR, .ref aB, .ref aP, .int nb, .int np, .ref aN, .ref rf, .int ho, .int br, .ref aK, .int ac, .long dw, .ref aE, .int sr, .int sf, .ref aA, .ref aH, .ref aI, .int hi])), (aN, .inl (cI, 97, .inl fN))]) hP hT [0, 1] (by decide +kernel) rfl
        have hFc := zfr hS hA
        refine va_calli (va_runV (As := [.int m4_L_3, .int 0]) (rest := [.int m4_L_2]) ⟨hx, hb, hml, hown, hts⟩ (g_X11_shot_0 l dC dI cI cJ h0 m4_L_3 th tB tsz tat wr dp rC rV rD rK rT rS rU lw tx rL rX qR qB qP qnb qnp aR aB aP nb np aN rf ho br aK ac dw aE sr sf aA aH aI hi fN H.size y_ac y_hi y_ho y_lw y_nb y_np (by omega) y_qnb y_qnp y_tat y_tsz y_wr (by omega) ci_fN_zNw_np) (cwV 2 hts (zgV qw1473 qw1475 qw65 qw108 qw1476) rfl rfl rfl hd_X11_shot ⟨by rw [hR]; exact Nat.le_of_ble_eq_true rfl, by rw [hR]; exact Nat.le_of_ble_eq_true rfl⟩) (zPV hPc hK hDc (va_recv (q := (RX11, TX11, 41)) hK hP (ci := 11) (q0 := 0) rfl rfl)) rfl rfl hl.1 rfl (lv_room (Nat.le_of_ble_eq_true rfl)) dX11_seenOf_19 ⟨Nat.zero_le _, Nat.zero_le _⟩) hS (fun q _ h => hFc q h) hFc (fun v19 u19 t H locs ht hvm hw hB hz1 hk1 hS9 => ?_)
        replace hP := zkeep hP hk1
        replace hS := hS9
        clear hPc hDc hFc hk1 hz1 hvm hS9
        obtain ⟨f19_0, f19_1, f19_2, f19_3⟩ : (0 ≤ v19.toInt) ∧ (v19.toInt ≤ 5) ∧ (v19.toInt = (fN (17 + 4 * m4_L_3.toInt.toNat)).toInt) ∧ (v19 = fN (17 + 4 * m4_L_3.toInt.toNat)) := hw
        have F19 := f19_3
        refine lv_iload_n hx hb dX11_seenOf_22 rfl (lv_at hl 3 rfl) ?_
        refine lv_icmp_ne (tgt := 30) hx hb dX11_seenOf_23 (by decide) (fun c23 => ?_) (fun c23 => ?_)
        · have c23 : ¬ v19.toInt = p0.toInt := z6 rfl rfl c23
          refine lv_iconst (v := 0) hx hb dX11_seenOf_30 (by decide) ?_
          refine lv_iadd hx hb dX11_seenOf_31 ?_
          refine lv_topi (fun v31 e31 => ?_)
          have i31 : v31.toInt = m4_L_2.toInt + 0 := zadd e31 rfl (by decide) (by omega) (by omega)
          refine lv_istore_n (lv' := [(2, .int v31), (3, .int m4_L_3), (0, .ref h0), (1, .int p0)]) hx hb dX11_seenOf_32 rfl hl (by decide) rfl (fun ls hl => ?_)
          obtain ⟨v33, e33⟩ : ∃ y : Int32, y = m4_L_3 + Int32.ofInt (1) := ⟨_, rfl⟩
          refine lv_iinc (v := v33) (lv' := [(3, .int v33), (2, .int v31), (0, .ref h0), (1, .int p0)]) hx hb dX11_seenOf_33 hl (k := 1) rfl e33.symm (by decide) rfl (fun ls hl => ?_)
          have i33 : v33.toInt = m4_L_3.toInt + 1 := zaddI e33 (by decide) (by omega) (by omega)
          first | have q36 := zCt_s (f := fN) (b := p0) (i := m4_L_3) (i' := v33) (v := v19) (r := 1) (by omega) (by omega) (by omega) (Or.inl ⟨by omega, by decide⟩) | have q36 := zCt_s (f := fN) (b := p0) (i := m4_L_3) (i' := v33) (v := v19) (r := 0) (by omega) (by omega) (by omega) (Or.inr ⟨by omega, by decide⟩)
          have q36a : (1 : Int32).toInt = 1 := by decide
          have q36b : (0 : Int32).toInt = 0 := by decide
          refine lv_goto (tgt := 4) hx hb dX11_seenOf_36 (by decide) ?_
          exact ih4 _ (by omega) v31 v33 (by omega) (by omega) (by omega) (by first | exact zCntY (P := fun i => fN (17 + i)) jv4_0 (by omega) i33 F19 (by omega) e31 | exact (zadd0 e31).trans (zCntN (P := fun i => fN (17 + i)) jv4_0 (by omega) i33 F19 (by omega))) rfl H locs ls hP hS (lv_sub hl [0, 1, 2, 3] rfl)
        · have c23 : v19.toInt = p0.toInt := z5 rfl rfl c23
          refine lv_iconst (v := 1) hx hb dX11_seenOf_26 (by decide) ?_
          refine lv_goto (tgt := 31) hx hb dX11_seenOf_27 (by decide) ?_
          refine lv_iadd hx hb dX11_seenOf_31 ?_
          refine lv_topi (fun v31 e31 => ?_)
          have i31 : v31.toInt = m4_L_2.toInt + 1 := zadd e31 rfl (by decide) (by omega) (by omega)
          refine lv_istore_n (lv' := [(2, .int v31), (3, .int m4_L_3), (0, .ref h0), (1, .int p0)]) hx hb dX11_seenOf_32 rfl hl (by decide) rfl (fun ls hl => ?_)
          obtain ⟨v33, e33⟩ : ∃ y : Int32, y = m4_L_3 + Int32.ofInt (1) := ⟨_, rfl⟩
          refine lv_iinc (v := v33) (lv' := [(3, .int v33), (2, .int v31), (0, .ref h0), (1, .int p0)]) hx hb dX11_seenOf_33 hl (k := 1) rfl e33.symm (by decide) rfl (fun ls hl => ?_)
          have i33 : v33.toInt = m4_L_3.toInt + 1 := zaddI e33 (by decide) (by omega) (by omega)
          first | have q36 := zCt_s (f := fN) (b := p0) (i := m4_L_3) (i' := v33) (v := v19) (r := 1) (by omega) (by omega) (by omega) (Or.inl ⟨by omega, by decide⟩) | have q36 := zCt_s (f := fN) (b := p0) (i := m4_L_3) (i' := v33) (v := v19) (r := 0) (by omega) (by omega) (by omega) (Or.inr ⟨by omega, by decide⟩)
          have q36a : (1 : Int32).toInt = 1 := by decide
          have q36b : (0 : Int32).toInt = 0 := by decide
          refine lv_goto (tgt := 4) hx hb dX11_seenOf_36 (by decide) ?_
          exact ih4 _ (by omega) v31 v33 (by omega) (by omega) (by omega) (by first | exact zCntY (P := fun i => fN (17 + i)) jv4_0 (by omega) i33 F19 (by omega) e31 | exact (zadd0 e31).trans (zCntN (P := fun i => fN (17 + i)) jv4_0 (by omega) i33 F19 (by omega))) rfl H locs ls hP hS (lv_sub hl [0, 1, 2, 3] rfl)
  refine lv_istore_n (lv' := [(3, .int 0), (2, .int 0), (0, .ref h0), (1, .int p0)]) hx hb dX11_seenOf_3 rfl hl (by decide) rfl (fun ls hl => ?_)
  have zj4_m4_L_2 : (0 : Int32).toInt = 0 := by decide
  have zj4_m4_L_3 : (0 : Int32).toInt = 0 := by decide
  exact J4 _ 0 0 (by decide) (by decide) (by omega) (rfl) rfl H locs ls hP hS (lv_sub hl [0, 1, 2, 3] rfl)
set_option maxHeartbeats 4000000 in
set_option maxRecDepth 100000 in
theorem g_X11_lookedOf (l : Launch) (dC : Nat → ClassId) (dI : Nat → Nat → Nat) (cI cJ : ClassId) (h0 : Nat) (p0 : Int32) (th : Int32) (tB : Nat) (tsz : Int32) (tat : Int32) (wr : Int32) (dp : Int32) (rC : Nat) (rV : Nat) (rD : Nat) (rK : Nat) (rT : Nat) (rS : Nat) (rU : Nat) (lw : Int32) (tx : Int32) (rL : Nat) (rX : Nat) (qR : Nat) (qB : Nat) (qP : Nat) (qnb : Int32) (qnp : Int32) (aR : Nat) (aB : Nat) (aP : Nat) (nb : Int32) (np : Int32) (aN : Nat) (rf : Nat) (ho : Int32) (br : Int32) (aK : Nat) (ac : Int32) (dw : Int64) (aE : Nat) (sr : Int32) (sf : Int32) (aA : Nat) (aH : Nat) (aI : Nat) (hi : Int32) (fN : Nat → Int32) (sz : Nat) (n_ac : 0 ≤ ac.toInt ∧ ac.toInt ≤ 40) (n_hi : 0 ≤ hi.toInt ∧ hi.toInt ≤ 1) (n_ho : (-1) ≤ ho.toInt ∧ ho.toInt ≤ 3) (n_lw : 0 ≤ lw.toInt ∧ lw.toInt ≤ 4) (n_nb : 0 ≤ nb.toInt ∧ nb.toInt ≤ 6) (n_np : 0 ≤ np.toInt ∧ np.toInt ≤ 5) (n_qnb : 0 ≤ qnb.toInt ∧ qnb.toInt ≤ 6) (n_qnp : 0 ≤ qnp.toInt ∧ qnp.toInt ≤ 5) (n_tat : 0 ≤ tat.toInt ∧ tat.toInt ≤ 260) (n_tsz : 0 ≤ tsz.toInt ∧ tsz.toInt ≤ 240) (n_wr : (-1) ≤ wr.toInt ∧ wr.toInt ≤ 260)  (ci_fN_zNw_np : zNw np fN)  : Met l yX11_lookedOf (.code yX11_lookedOf cX11_lookedOf 4 (some .int) :: wA) ({ frames := 2, cells := 0, slots := 0, locals := 45 }) (zP (dC, dI) [(cI, .int), (cJ, .long)] [.ref h0, .int p0] sz [(h0, .inr (11, [.int th, .ref tB, .int tsz, .int tat, .int wr, .int dp, .ref rC, .ref rV, .ref rD, .ref rK, .ref rT, .ref rS, .ref rU, .int lw, .int tx, .ref rL, .ref rX, .ref qR, .ref qB, .ref qP, .int qnb, .int qnp, .ref aR, .ref aB, .ref aP, .int nb, .int np, .ref aN, .ref rf, .int ho, .int br, .ref aK, .int ac, .long dw, .ref aE, .int sr, .int sf, .ref aA, .ref aH, .ref aI, .int hi])), (aN, .inl (cI, 97, .inl fN))]) (va_Qi (fun (r : Int32) (u : Unit) => (r = zLkd (fun i => fN (17 + i)) p0 (fN 16).toInt.toNat)) (fun (_ : Unit) (_ : State) => True) (va_A [] sz)) 0 0 (va_A [] sz) := by
  refine Met.ofW (cc := cX11_lookedOf) (maxL := 4) (ret := (some .int)) (by decide) rfl ?_
  intro p e s m args below meth c s₁ B hml hv
  have y_ac : zHid (0 ≤ ac.toInt ∧ ac.toInt ≤ 40) := n_ac
  have y_hi : zHid (0 ≤ hi.toInt ∧ hi.toInt ≤ 1) := n_hi
  have y_ho : zHid ((-1) ≤ ho.toInt ∧ ho.toInt ≤ 3) := n_ho
  have y_lw : zHid (0 ≤ lw.toInt ∧ lw.toInt ≤ 4) := n_lw
  have y_nb : zHid (0 ≤ nb.toInt ∧ nb.toInt ≤ 6) := n_nb
  have y_np : zHid (0 ≤ np.toInt ∧ np.toInt ≤ 5) := n_np
  have y_qnb : zHid (0 ≤ qnb.toInt ∧ qnb.toInt ≤ 6) := n_qnb
  have y_qnp : zHid (0 ≤ qnp.toInt ∧ qnp.toInt ≤ 5) := n_qnp
  have y_tat : zHid (0 ≤ tat.toInt ∧ tat.toInt ≤ 260) := n_tat
  have y_tsz : zHid (0 ≤ tsz.toInt ∧ tsz.toInt ≤ 240) := n_tsz
  have y_wr : zHid ((-1) ≤ wr.toInt ∧ wr.toInt ≤ 260) := n_wr
  clear n_ac n_hi n_ho n_lw n_nb n_np n_qnb n_qnp n_tat n_tsz n_wr
  obtain ⟨hargs, hsz, hP, hK, hT⟩ := hv
  have hx := B.exec
  have hb := B.bytes
  have hr := B.returns
  have hts : ∀ w ∈ wA, w.before args s = true := fun w h => atoms_spec (ws := .code yX11_lookedOf cX11_lookedOf 4 (some .int) :: wA) B.pre w (List.mem_cons_of_mem _ h)
  have hown : s.vm.findClass RX11 = some m.cls := findClass_of_methodNamed B.named
  have hlocks := B.notSynchronized
  subst hsz
  have hD : va_D (va_A [] s.heap.size) [] := zD0
  generalize hAe : va_A [] s.heap.size = A at hD ⊢
  have hA : ∀ q : Nat, s.heap.size ≤ q → A q := fun q h => by rw [← hAe]; exact Or.inr h
  have hl := lv_entry ([.ref h0, .int p0]) (n := 4) (Nat.le_of_ble_eq_true rfl)
  rw [show entryFrame m args 4 = entryFrame m ([.ref h0, .int p0] : List Value).toArray 4 by rw [hargs], lg_entry_eq]
  generalize (lg_sl ([.ref h0, .int p0]) ++ List.replicate (4 - (lg_sl ([.ref h0, .int p0])).length) Slot.unset).toArray = ls at hl ⊢
  have hl : lv_has ls 4 [(0, .ref h0), (1, .int p0)] := hl
  refine zstart (fun H hH => ?_)
  rw [← hH] at hP
  have hS : va_S A s.heap H [] := by rw [hH]; exact va_S.rf
  generalize ([] : List Loc) = locs at hS ⊢
  refine zgen (fun R Q hR hQ => ?_)
  have q0b := ci_fN_zNw_np.2.1
  refine lv_iconst (v := 0) hx hb dX11_lookedOf_0 (by decide) ?_
  refine lv_istore_n (lv' := [(2, .int 0), (0, .ref h0), (1, .int p0)]) hx hb dX11_lookedOf_1 rfl hl (by decide) rfl (fun ls hl => ?_)
  refine lv_iconst (v := 0) hx hb dX11_lookedOf_2 (by decide) ?_
  have J4 : ∀ (n : Nat) (m4_L_2 : Int32) (m4_L_3 : Int32), (0 ≤ m4_L_3.toInt ∧ m4_L_3.toInt ≤ 20) → (m4_L_3.toInt ≤ (fN 16).toInt) → (m4_L_2 = zSum (fun i => fN (17 + i)) p0 m4_L_3.toInt.toNat) → (21 - m4_L_3.toInt).toNat = n → ∀ (H : Heap) (locs : List Loc) (ls : Array Slot), va_P (dC, dI) vwCl [(h0, .inr (11, [.int th, .ref tB, .int tsz, .int tat, .int wr, .int dp, .ref rC, .ref rV, .ref rD, .ref rK, .ref rT, .ref rS, .ref rU, .int lw, .int tx, .ref rL, .ref rX, .ref qR, .ref qB, .ref qP, .int qnb, .int qnp, .ref aR, .ref aB, .ref aP, .int nb, .int np, .ref aN, .ref rf, .int ho, .int br, .ref aK, .int ac, .long dw, .ref aE, .int sr, .int sf, .ref aA, .ref aH, .ref aI, .int hi])), (aN, .inl (cI, 97, .inl fN))] H → va_S A s.heap H locs → lv_has ls 4 [(3, .int m4_L_3), (2, .int m4_L_2), (0, .ref h0), (1, .int p0)] → W p l e R s m args below meth c H locs 0 0 Q (F0 m 4 ls []) := by
    intro n4
    induction n4 using Nat.strongRecOn with
    | _ n4 ih4 =>
      intro m4_L_2 m4_L_3 jf4_0 jf4_1 jv4_0 hmu4 H locs ls hP hS hl
      refine lv_iload_n hx hb dX11_lookedOf_4 rfl (lv_at hl 0 rfl) ?_
      refine lv_aload_n hx hb dX11_lookedOf_5 rfl (lv_at hl 2 rfl) ?_
      refine va_get (D := (dC, dI)) (ci := 11) (v := .ref aN) (C := RX11) (T := TX11) (N := 41) hx hb hts iX11 hown hK hP 0 rfl rfl 27 (by decide) (hts _ qw1154) (fun _ h9 => h9) rfl dX11_lookedOf_6 ?_
      refine lv_bipush (v := 16) hx hb dX11_lookedOf_9 (by decide) ?_
      refine va_iald hx hb hK hP 1 0 rfl rfl (by unfold vp_in; decide) dX11_lookedOf_11 ?_
      refine lv_topi (fun v11 e11 => ?_)
      have i11 : v11.toInt = (fN 16).toInt ∧ 0 ≤ v11.toInt ∧ v11.toInt ≤ 20 := zNw_16 ci_fN_zNw_np e11
      refine lv_icmp_ge (tgt := 44) hx hb dX11_lookedOf_12 (by decide) (fun c12 => ?_) (fun c12 => ?_)
      · have c12 : v11.toInt ≤ m4_L_3.toInt := z3 rfl rfl c12
        have q44 : m4_L_3.toInt.toNat = (fN 16).toInt.toNat := by omega
        refine lv_aload_n hx hb dX11_lookedOf_44 rfl (lv_at hl 2 rfl) ?_
        refine lv_iload_n hx hb dX11_lookedOf_45 rfl (lv_at hl 3 rfl) ?_
        obtain ⟨hPc, hDc⟩ := zc2 (wc := [(h0, .inr (11, [.int th, .ref tB, .int tsz, .int tat, .int wr, .int dp, .ref rC, .ref rV, .ref rD, .ref rK, .ref rT, .ref rS, .ref rU, .int lw, .int tx, .ref rL, .ref rX, .ref qR, .ref qB, .ref qP, .int qnb, .int qnp, .ref aR, .ref aB, .ref aP, .int nb, .int np, .ref aN, .ref rf, .int ho, .int br, .ref aK, .int ac, .long dw, .ref aE, .int sr, .int sf, .ref aA, .ref aH, .ref aI, .int hi])), (aN, .inl (cI, 97, .inl fN))]) hP hT [0, 1] (by decide +kernel) rfl
        have hFc := zfr hS hA
        refine va_calli (va_runV (As := [.int p0]) (rest := []) ⟨hx, hb, hml, hown, hts⟩ (g_X11_seenOf l dC dI cI cJ h0 p0 th tB tsz tat wr dp rC rV rD rK rT rS rU lw tx rL rX qR qB qP qnb qnp aR aB aP nb np aN rf ho br aK ac dw aE sr sf aA aH aI hi fN H.size y_ac y_hi y_ho y_lw y_nb y_np y_qnb y_qnp y_tat y_tsz y_wr ci_fN_zNw_np) (cwV 1 hts (zgV qw1525 qw1527 qw71 qw108 qw1528) rfl rfl rfl hd_X11_seenOf ⟨by rw [hR]; exact Nat.le_of_ble_eq_true rfl, by rw [hR]; exact Nat.le_of_ble_eq_true rfl⟩) (zPV hPc hK hDc (va_recv (q := (RX11, TX11, 41)) hK hP (ci := 11) (q0 := 0) rfl rfl)) rfl rfl hl.1 rfl (lv_room (Nat.le_of_ble_eq_true rfl)) dX11_lookedOf_46 ⟨Nat.zero_le _, Nat.zero_le _⟩) hS (fun q _ h => hFc q h) hFc (fun v46 u46 t H locs ht hvm hw hB hz1 hk1 hS9 => ?_)
        replace hP := zkeep hP hk1
        replace hS := hS9
        clear hPc hDc hFc hk1 hz1 hvm hS9
        obtain ⟨f46_0, f46_1, f46_2, f46_3⟩ : (0 ≤ v46.toInt) ∧ (v46.toInt ≤ 20) ∧ (v46.toInt = (zCt fN p0 (fN 16).toInt.toNat : Int)) ∧ (v46 = zCnt (fun i => fN (17 + i)) p0 (fN 16).toInt.toNat) := hw
        have F46 := f46_3
        refine lv_if_ne (tgt := 56) hx hb dX11_lookedOf_49 (by decide) (fun c49 => ?_) (fun c49 => ?_)
        · have c49 : ¬ v46.toInt = 0 := z6 rfl (by decide) c49
          refine lv_iload_n hx hb dX11_lookedOf_56 rfl (lv_at hl 1 rfl) ?_
          refine lv_aload_n hx hb dX11_lookedOf_57 rfl (lv_at hl 2 rfl) ?_
          refine lv_iload_n hx hb dX11_lookedOf_58 rfl (lv_at hl 3 rfl) ?_
          obtain ⟨hPc, hDc⟩ := zc2 (wc := [(h0, .inr (11, [.int th, .ref tB, .int tsz, .int tat, .int wr, .int dp, .ref rC, .ref rV, .ref rD, .ref rK, .ref rT, .ref rS, .ref rU, .int lw, .int tx, .ref rL, .ref rX, .ref qR, .ref qB, .ref qP, .int qnb, .int qnp, .ref aR, .ref aB, .ref aP, .int nb, .int np, .ref aN, .ref rf, .int ho, .int br, .ref aK, .int ac, .long dw, .ref aE, .int sr, .int sf, .ref aA, .ref aH, .ref aI, .int hi])), (aN, .inl (cI, 97, .inl fN))]) hP hT [0, 1] (by decide +kernel) rfl
          have hFc := zfr hS hA
          refine va_calli (va_runV (As := [.int p0]) (rest := [.int m4_L_2]) ⟨hx, hb, hml, hown, hts⟩ (g_X11_seenOf l dC dI cI cJ h0 p0 th tB tsz tat wr dp rC rV rD rK rT rS rU lw tx rL rX qR qB qP qnb qnp aR aB aP nb np aN rf ho br aK ac dw aE sr sf aA aH aI hi fN H.size y_ac y_hi y_ho y_lw y_nb y_np y_qnb y_qnp y_tat y_tsz y_wr ci_fN_zNw_np) (cwV 1 hts (zgV qw1525 qw1527 qw71 qw108 qw1528) rfl rfl rfl hd_X11_seenOf ⟨by rw [hR]; exact Nat.le_of_ble_eq_true rfl, by rw [hR]; exact Nat.le_of_ble_eq_true rfl⟩) (zPV hPc hK hDc (va_recv (q := (RX11, TX11, 41)) hK hP (ci := 11) (q0 := 0) rfl rfl)) rfl rfl hl.1 rfl (lv_room (Nat.le_of_ble_eq_true rfl)) dX11_lookedOf_59 ⟨Nat.zero_le _, Nat.zero_le _⟩) hS (fun q _ h => hFc q h) hFc (fun v59 u59 t H locs ht hvm hw hB hz1 hk1 hS9 => ?_)
          replace hP := zkeep hP hk1
          replace hS := hS9
          clear hPc hDc hFc hk1 hz1 hvm hS9
          obtain ⟨f59_0, f59_1, f59_2, f59_3⟩ : (0 ≤ v59.toInt) ∧ (v59.toInt ≤ 20) ∧ (v59.toInt = (zCt fN p0 (fN 16).toInt.toNat : Int)) ∧ (v59 = zCnt (fun i => fN (17 + i)) p0 (fN 16).toInt.toNat) := hw
          have F59 := f59_3
          have q62 : ¬ v59.toInt = 0 := by omega
          refine lv_idiv hx hb dX11_lookedOf_62 (z0 (by omega)) ?_
          refine lv_topi (fun v62 e62 => ?_)
          rw [hQ]
          exact W.iret (v := v62) hx hb hr (fun t ht hW => ⟨⟨v62, (), rfl, (by (try dsimp only); unfold zLkd; rw [← F46, ← q44, ← jv4_0]; exact (e62.trans (by rw [F59, ← F46])).trans (if_neg (by omega)).symm), trivial⟩, hS.F ht⟩) hS.2.2 dX11_lookedOf_63
        · have c49 : v46.toInt = 0 := z5 rfl (by decide) c49
          refine lv_iconst (v := 0) hx hb dX11_lookedOf_52 (by decide) ?_
          refine lv_goto (tgt := 63) hx hb dX11_lookedOf_53 (by decide) ?_
          have zr0 : (0 : Int32).toInt = 0 := by decide
          rw [hQ]
          exact W.iret (v := 0) hx hb hr (fun t ht hW => ⟨⟨0, (), rfl, (by (try dsimp only); unfold zLkd; rw [← F46]; exact (if_pos (by omega)).symm), trivial⟩, hS.F ht⟩) hS.2.2 dX11_lookedOf_63
      · have c12 : m4_L_3.toInt < v11.toInt := z4 rfl rfl c12
        refine lv_iload_n hx hb dX11_lookedOf_15 rfl (lv_at hl 1 rfl) ?_
        refine lv_aload_n hx hb dX11_lookedOf_16 rfl (lv_at hl 2 rfl) ?_
        refine lv_iload_n hx hb dX11_lookedOf_17 rfl (lv_at hl 0 rfl) ?_
        refine lv_iconst (v := 0) hx hb dX11_lookedOf_18 (by decide) ?_
        obtain ⟨hPc, hDc⟩ := zc2 (wc := [(h0, .inr (11, [.int th, .ref tB, .int tsz, .int tat, .int wr, .int dp, .ref rC, .ref rV, .ref rD, .ref rK, .ref rT, .ref rS, .ref rU, .int lw, .int tx, .ref rL, .ref rX, .ref qR, .ref qB, .ref qP, .int qnb, .int qnp, .ref aR, .ref aB, .ref aP, .int nb, .int np, .ref aN, .ref rf, .int ho, .int br, .ref aK, .int ac, .long dw, .ref aE, .int sr, .int sf, .ref aA, .ref aH, .ref aI, .int hi])), (aN, .inl (cI, 97, .inl fN))]) hP hT [0, 1] (by decide +kernel) rfl
        have hFc := zfr hS hA
        refine va_calli (va_runV (As := [.int m4_L_3, .int 0]) (rest := [.int m4_L_2]) ⟨hx, hb, hml, hown, hts⟩ (g_X11_shot_0 l dC dI cI cJ h0 m4_L_3 th tB tsz tat wr dp rC rV rD rK rT rS rU lw tx rL rX qR qB qP qnb qnp aR aB aP nb np aN rf ho br aK ac dw aE sr sf aA aH aI hi fN H.size y_ac y_hi y_ho y_lw y_nb y_np (by omega) y_qnb y_qnp y_tat y_tsz y_wr (by omega) ci_fN_zNw_np) (cwV 2 hts (zgV qw1473 qw1475 qw65 qw108 qw1476) rfl rfl rfl hd_X11_shot ⟨by rw [hR]; exact Nat.le_of_ble_eq_true rfl, by rw [hR]; exact Nat.le_of_ble_eq_true rfl⟩) (zPV hPc hK hDc (va_recv (q := (RX11, TX11, 41)) hK hP (ci := 11) (q0 := 0) rfl rfl)) rfl rfl hl.1 rfl (lv_room (Nat.le_of_ble_eq_true rfl)) dX11_lookedOf_19 ⟨Nat.zero_le _, Nat.zero_le _⟩) hS (fun q _ h => hFc q h) hFc (fun v19 u19 t H locs ht hvm hw hB hz1 hk1 hS9 => ?_)
        replace hP := zkeep hP hk1
        replace hS := hS9
        clear hPc hDc hFc hk1 hz1 hvm hS9
        obtain ⟨f19_0, f19_1, f19_2, f19_3⟩ : (0 ≤ v19.toInt) ∧ (v19.toInt ≤ 5) ∧ (v19.toInt = (fN (17 + 4 * m4_L_3.toInt.toNat)).toInt) ∧ (v19 = fN (17 + 4 * m4_L_3.toInt.toNat)) := hw
        have F19 := f19_3
        refine lv_iload_n hx hb dX11_lookedOf_22 rfl (lv_at hl 3 rfl) ?_
        refine lv_icmp_ne (tgt := 35) hx hb dX11_lookedOf_23 (by decide) (fun c23 => ?_) (fun c23 => ?_)
        · have c23 : ¬ v19.toInt = p0.toInt := z6 rfl rfl c23
          refine lv_iconst (v := 0) hx hb dX11_lookedOf_35 (by decide) ?_
          refine lv_iadd hx hb dX11_lookedOf_36 ?_
          refine lv_topi (fun v36 e36 => ?_)
          refine lv_istore_n (lv' := [(2, .int v36), (3, .int m4_L_3), (0, .ref h0), (1, .int p0)]) hx hb dX11_lookedOf_37 rfl hl (by decide) rfl (fun ls hl => ?_)
          obtain ⟨v38, e38⟩ : ∃ y : Int32, y = m4_L_3 + Int32.ofInt (1) := ⟨_, rfl⟩
          refine lv_iinc (v := v38) (lv' := [(3, .int v38), (2, .int v36), (0, .ref h0), (1, .int p0)]) hx hb dX11_lookedOf_38 hl (k := 1) rfl e38.symm (by decide) rfl (fun ls hl => ?_)
          have i38 : v38.toInt = m4_L_3.toInt + 1 := zaddI e38 (by decide) (by omega) (by omega)
          refine lv_goto (tgt := 4) hx hb dX11_lookedOf_41 (by decide) ?_
          exact ih4 _ (by omega) v36 v38 (by omega) (by omega) (by first | exact zSumY (P := fun i => fN (17 + i)) jv4_0 (by omega) i38 F19 F29 (by omega) e36 | exact (zadd0 e36).trans (zSumN (P := fun i => fN (17 + i)) jv4_0 (by omega) i38 F19 (by omega))) rfl H locs ls hP hS (lv_sub hl [0, 1, 2, 3] rfl)
        · have c23 : v19.toInt = p0.toInt := z5 rfl rfl c23
          refine lv_aload_n hx hb dX11_lookedOf_26 rfl (lv_at hl 2 rfl) ?_
          refine lv_iload_n hx hb dX11_lookedOf_27 rfl (lv_at hl 0 rfl) ?_
          refine lv_iconst (v := 2) hx hb dX11_lookedOf_28 (by decide) ?_
          obtain ⟨hPc, hDc⟩ := zc2 (wc := [(h0, .inr (11, [.int th, .ref tB, .int tsz, .int tat, .int wr, .int dp, .ref rC, .ref rV, .ref rD, .ref rK, .ref rT, .ref rS, .ref rU, .int lw, .int tx, .ref rL, .ref rX, .ref qR, .ref qB, .ref qP, .int qnb, .int qnp, .ref aR, .ref aB, .ref aP, .int nb, .int np, .ref aN, .ref rf, .int ho, .int br, .ref aK, .int ac, .long dw, .ref aE, .int sr, .int sf, .ref aA, .ref aH, .ref aI, .int hi])), (aN, .inl (cI, 97, .inl fN))]) hP hT [0, 1] (by decide +kernel) rfl
          have hFc := zfr hS hA
          refine va_calli (va_runV (As := [.int m4_L_3, .int 2]) (rest := [.int m4_L_2]) ⟨hx, hb, hml, hown, hts⟩ (g_X11_shot_2 l dC dI cI cJ h0 m4_L_3 th tB tsz tat wr dp rC rV rD rK rT rS rU lw tx rL rX qR qB qP qnb qnp aR aB aP nb np aN rf ho br aK ac dw aE sr sf aA aH aI hi fN H.size y_ac y_hi y_ho y_lw y_nb y_np (by omega) y_qnb y_qnp y_tat y_tsz y_wr (by omega) ci_fN_zNw_np) (cwV 2 hts (zgV qw1473 qw1475 qw65 qw108 qw1476) rfl rfl rfl hd_X11_shot ⟨by rw [hR]; exact Nat.le_of_ble_eq_true rfl, by rw [hR]; exact Nat.le_of_ble_eq_true rfl⟩) (zPV hPc hK hDc (va_recv (q := (RX11, TX11, 41)) hK hP (ci := 11) (q0 := 0) rfl rfl)) rfl rfl hl.1 rfl (lv_room (Nat.le_of_ble_eq_true rfl)) dX11_lookedOf_29 ⟨Nat.zero_le _, Nat.zero_le _⟩) hS (fun q _ h => hFc q h) hFc (fun v29 u29 t H locs ht hvm hw hB hz1 hk1 hS9 => ?_)
          replace hP := zkeep hP hk1
          replace hS := hS9
          clear hPc hDc hFc hk1 hz1 hvm hS9
          obtain ⟨f29_0, f29_1, f29_2⟩ : ((-1) ≤ v29.toInt) ∧ (v29.toInt ≤ 9) ∧ (v29 = fN (17 + (4 * m4_L_3.toInt.toNat + 2))) := hw
          have F29 := f29_2
          refine lv_goto (tgt := 36) hx hb dX11_lookedOf_32 (by decide) ?_
          refine lv_iadd hx hb dX11_lookedOf_36 ?_
          refine lv_topi (fun v36 e36 => ?_)
          refine lv_istore_n (lv' := [(2, .int v36), (3, .int m4_L_3), (0, .ref h0), (1, .int p0)]) hx hb dX11_lookedOf_37 rfl hl (by decide) rfl (fun ls hl => ?_)
          obtain ⟨v38, e38⟩ : ∃ y : Int32, y = m4_L_3 + Int32.ofInt (1) := ⟨_, rfl⟩
          refine lv_iinc (v := v38) (lv' := [(3, .int v38), (2, .int v36), (0, .ref h0), (1, .int p0)]) hx hb dX11_lookedOf_38 hl (k := 1) rfl e38.symm (by decide) rfl (fun ls hl => ?_)
          have i38 : v38.toInt = m4_L_3.toInt + 1 := zaddI e38 (by decide) (by omega) (by omega)
          refine lv_goto (tgt := 4) hx hb dX11_lookedOf_41 (by decide) ?_
          exact ih4 _ (by omega) v36 v38 (by omega) (by omega) (by first | exact zSumY (P := fun i => fN (17 + i)) jv4_0 (by omega) i38 F19 F29 (by omega) e36 | exact (zadd0 e36).trans (zSumN (P := fun i => fN (17 + i)) jv4_0 (by omega) i38 F19 (by omega))) rfl H locs ls hP hS (lv_sub hl [0, 1, 2, 3] rfl)
  refine lv_istore_n (lv' := [(3, .int 0), (2, .int 0), (0, .ref h0), (1, .int p0)]) hx hb dX11_lookedOf_3 rfl hl (by decide) rfl (fun ls hl => ?_)
  have zj4_m4_L_2 : (0 : Int32).toInt = 0 := by decide
  have zj4_m4_L_3 : (0 : Int32).toInt = 0 := by decide
  exact J4 _ 0 0 (by decide) (by omega) (rfl) rfl H locs ls hP hS (lv_sub hl [0, 1, 2, 3] rfl)
set_option maxHeartbeats 4000000 in
set_option maxRecDepth 100000 in
theorem g_X11_bounded (l : Launch) (dC : Nat → ClassId) (dI : Nat → Nat → Nat) (cI cJ : ClassId) (p0 : Int64) (sz : Nat)     : Met l yX11_bounded (.code yX11_bounded cX11_bounded 2 (some .int) :: wA) ({ frames := 1, cells := 0, slots := 0, locals := 30 }) (zP (dC, dI) [(cI, .int), (cJ, .long)] [.long p0] sz []) (va_Qi (fun (r : Int32) (u : Unit) => (r = zC6 p0.toInt)) (fun (_ : Unit) (_ : State) => True) (va_A [] sz)) 0 0 (va_A [] sz) := by
  refine Met.ofW (cc := cX11_bounded) (maxL := 2) (ret := (some .int)) (by decide) rfl ?_
  intro p e s m args below meth c s₁ B hml hv
  obtain ⟨hargs, hsz, hP, hK, hT⟩ := hv
  have hx := B.exec
  have hb := B.bytes
  have hr := B.returns
  have hts : ∀ w ∈ wA, w.before args s = true := fun w h => atoms_spec (ws := .code yX11_bounded cX11_bounded 2 (some .int) :: wA) B.pre w (List.mem_cons_of_mem _ h)
  have hown : s.vm.findClass RX11 = some m.cls := findClass_of_methodNamed B.named
  have hlocks := B.notSynchronized
  subst hsz
  have hD : va_D (va_A [] s.heap.size) [] := zD0
  generalize hAe : va_A [] s.heap.size = A at hD ⊢
  have hA : ∀ q : Nat, s.heap.size ≤ q → A q := fun q h => by rw [← hAe]; exact Or.inr h
  have hl := lv_entry ([.long p0]) (n := 2) (Nat.le_of_ble_eq_true rfl)
  rw [show entryFrame m args 2 = entryFrame m ([.long p0] : List Value).toArray 2 by rw [hargs], lg_entry_eq]
  generalize (lg_sl ([.long p0]) ++ List.replicate (2 - (lg_sl ([.long p0])).length) Slot.unset).toArray = ls at hl ⊢
  have hl : lv_has ls 2 [(0, .long p0)] := hl
  refine zstart (fun H hH => ?_)
  rw [← hH] at hP
  have hS : va_S A s.heap H [] := by rw [hH]; exact va_S.rf
  generalize ([] : List Loc) = locs at hS ⊢
  refine zgen (fun R Q hR hQ => ?_)
  refine lv_ldc2 (v := (-1000000)) hx hb hown (hts _ qw1460) dX11_bounded_0 ?_
  refine lv_ldc2 (v := 1000000) hx hb hown (hts _ qw1461) dX11_bounded_3 ?_
  refine lv_lload_n hx hb dX11_bounded_6 rfl (lv_at hl 0 rfl) ?_
  refine va_mmin_long hx hb (by rw [hml]; exact hl.1.symm) hown (hts _ qw1462) (hts _ qw1463) (hts _ qw112) (hts _ qw1464) (by rw [hR]; exact Nat.le_of_ble_eq_true rfl) (by rw [hR]; exact Nat.le_of_ble_eq_true rfl) (Nat.zero_le _) (Nat.zero_le _) dX11_bounded_7 ?_
  refine lv_topl (fun v7 e7 => ?_)
  refine va_mmax_long hx hb (by rw [hml]; exact hl.1.symm) hown (hts _ qw1465) (hts _ qw1466) (hts _ qw112) (hts _ qw1467) (by rw [hR]; exact Nat.le_of_ble_eq_true rfl) (by rw [hR]; exact Nat.le_of_ble_eq_true rfl) (Nat.zero_le _) (Nat.zero_le _) dX11_bounded_10 ?_
  refine lv_topl (fun v10 e10 => ?_)
  refine lv_l2i hx hb dX11_bounded_13 rfl ?_
  refine lv_topi (fun v13 e13 => ?_)
  rw [hQ]
  exact W.iret (v := v13) hx hb hr (fun t ht hW => ⟨⟨v13, (), rfl, (by (try dsimp only); exact zbnd e7 e10 e13), trivial⟩, hS.F ht⟩) hS.2.2 dX11_bounded_14
set_option maxHeartbeats 4000000 in
set_option maxRecDepth 100000 in
theorem g_X11_worked (l : Launch) (dC : Nat → ClassId) (dI : Nat → Nat → Nat) (cI cJ : ClassId) (p0 : Int32) (p1 : Int64) (p2 : Int64) (sz : Nat)     : Met l yX11_worked (.code yX11_worked cX11_worked 5 (some .int) :: wA) ({ frames := 2, cells := 0, slots := 0, locals := 51 }) (zP (dC, dI) [(cI, .int), (cJ, .long)] [.int p0, .long p1, .long p2] sz []) (va_Qi (fun (r : Int32) (u : Unit) => (zI32 p1.toInt → zI32 p2.toInt → r = zJq p0.toInt p1.toInt p2.toInt)) (fun (_ : Unit) (_ : State) => True) (va_A [] sz)) 0 0 (va_A [] sz) := by
  refine Met.ofW (cc := cX11_worked) (maxL := 5) (ret := (some .int)) (by decide) rfl ?_
  intro p e s m args below meth c s₁ B hml hv
  obtain ⟨hargs, hsz, hP, hK, hT⟩ := hv
  have hx := B.exec
  have hb := B.bytes
  have hr := B.returns
  have hts : ∀ w ∈ wA, w.before args s = true := fun w h => atoms_spec (ws := .code yX11_worked cX11_worked 5 (some .int) :: wA) B.pre w (List.mem_cons_of_mem _ h)
  have hown : s.vm.findClass RX11 = some m.cls := findClass_of_methodNamed B.named
  have hlocks := B.notSynchronized
  subst hsz
  have hD : va_D (va_A [] s.heap.size) [] := zD0
  generalize hAe : va_A [] s.heap.size = A at hD ⊢
  have hA : ∀ q : Nat, s.heap.size ≤ q → A q := fun q h => by rw [← hAe]; exact Or.inr h
  have hl := lv_entry ([.int p0, .long p1, .long p2]) (n := 5) (Nat.le_of_ble_eq_true rfl)
  rw [show entryFrame m args 5 = entryFrame m ([.int p0, .long p1, .long p2] : List Value).toArray 5 by rw [hargs], lg_entry_eq]
  generalize (lg_sl ([.int p0, .long p1, .long p2]) ++ List.replicate (5 - (lg_sl ([.int p0, .long p1, .long p2])).length) Slot.unset).toArray = ls at hl ⊢
  have hl : lv_has ls 5 [(0, .int p0), (1, .long p1), (3, .long p2)] := hl
  refine zstart (fun H hH => ?_)
  rw [← hH] at hP
  have hS : va_S A s.heap H [] := by rw [hH]; exact va_S.rf
  generalize ([] : List Loc) = locs at hS ⊢
  refine zgen (fun R Q hR hQ => ?_)
  refine lv_iload_n hx hb dX11_worked_0 rfl (lv_at hl 0 rfl) ?_
  rcases (show (p0.toInt < 2 ∨ 10 < p0.toInt) ∨ p0.toInt = 2 ∨ p0.toInt = 3 ∨ p0.toInt = 4 ∨ p0.toInt = 5 ∨ p0.toInt = 6 ∨ p0.toInt = 7 ∨ p0.toInt = 8 ∨ p0.toInt = 9 ∨ p0.toInt = 10 by omega) with c1 | c1 | c1 | c1 | c1 | c1 | c1 | c1 | c1 | c1
  · refine lv_tableOut (tgt := 144) hx hb dX11_worked_1 c1 (by decide) ?_
    refine lv_lload_n hx hb dX11_worked_144 rfl (lv_at hl 1 rfl) ?_
    refine lv_lconst (v := 0) hx hb dX11_worked_145 rfl ?_
    refine W.lcmp hx hb dX11_worked_146 ?_
    refine lv_topi (fun v146 e146 => ?_)
    refine lv_if_ne (tgt := 156) hx hb dX11_worked_147 (by decide) (fun c147 => ?_) (fun c147 => ?_)
    · have c147 : ¬ v146.toInt = 0 := z6 rfl (by decide) c147
      refine lv_iconst (v := 1) hx hb dX11_worked_156 (by decide) ?_
      refine lv_goto (tgt := 161) hx hb dX11_worked_157 (by decide) ?_
      have zr0 : (1 : Int32).toInt = 1 := by decide
      rw [hQ]
      exact W.iret (v := 1) hx hb hr (fun t ht hW => ⟨⟨1, (), rfl, (by (try dsimp only); exact fun h1 h2 => by first | exact zq11a (by omega) e146 (by omega) | exact (zq11b (by omega) e146 (by omega) e152).2 (by omega)), trivial⟩, hS.F ht⟩) hS.2.2 dX11_worked_161
    · have c147 : v146.toInt = 0 := z5 rfl (by decide) c147
      refine lv_lload_n hx hb dX11_worked_150 rfl (lv_at hl 2 rfl) ?_
      refine lv_lconst (v := 0) hx hb dX11_worked_151 rfl ?_
      refine W.lcmp hx hb dX11_worked_152 ?_
      refine lv_topi (fun v152 e152 => ?_)
      refine lv_if_eq (tgt := 160) hx hb dX11_worked_153 (by decide) (fun c153 => ?_) (fun c153 => ?_)
      · have c153 : v152.toInt = 0 := z5 rfl (by decide) c153
        refine lv_iconst (v := 0) hx hb dX11_worked_160 (by decide) ?_
        have zr0 : (0 : Int32).toInt = 0 := by decide
        rw [hQ]
        exact W.iret (v := 0) hx hb hr (fun t ht hW => ⟨⟨0, (), rfl, (by (try dsimp only); exact fun h1 h2 => (zq11b (by omega) e146 (by omega) e152).1 (by omega)), trivial⟩, hS.F ht⟩) hS.2.2 dX11_worked_161
      · have c153 : ¬ v152.toInt = 0 := z6 rfl (by decide) c153
        refine lv_iconst (v := 1) hx hb dX11_worked_156 (by decide) ?_
        refine lv_goto (tgt := 161) hx hb dX11_worked_157 (by decide) ?_
        have zr0 : (1 : Int32).toInt = 1 := by decide
        rw [hQ]
        exact W.iret (v := 1) hx hb hr (fun t ht hW => ⟨⟨1, (), rfl, (by (try dsimp only); exact fun h1 h2 => by first | exact zq11a (by omega) e146 (by omega) | exact (zq11b (by omega) e146 (by omega) e152).2 (by omega)), trivial⟩, hS.F ht⟩) hS.2.2 dX11_worked_161
  · refine lv_tableIn (off := 51) (tgt := 52) hx hb dX11_worked_1 (by omega) (by omega) (by rw [c1]; rfl) (by decide) ?_
    refine lv_lload_n hx hb dX11_worked_52 rfl (lv_at hl 1 rfl) ?_
    refine lv_lload_n hx hb dX11_worked_53 rfl (lv_at hl 2 rfl) ?_
    refine lv_ladd hx hb dX11_worked_54 ?_
    refine lv_topl (fun v54 e54 => ?_)
    have hPc : va_P (dC, dI) vwCl [] H := zP0
    have hDc : va_D (fun _ => True) [] := zD0
    have hFc := zfr hS hA
    refine va_calli (va_runS (As := [.long v54]) (rest := []) ⟨hx, hb, hml, hown, hts⟩ (g_X11_bounded l dC dI cI cJ v54 H.size) (cwS 1 hts (zgS qw1457 qw1458 qw108 qw1459) rfl rfl rfl hd_X11_bounded ⟨by rw [hR]; exact Nat.le_of_ble_eq_true rfl, by rw [hR]; exact Nat.le_of_ble_eq_true rfl⟩) (zPS hPc hK hDc) rfl rfl hl.1 rfl (lv_room (Nat.le_of_ble_eq_true rfl)) dX11_worked_55 ⟨Nat.zero_le _, Nat.zero_le _⟩) hS (fun q _ h => hFc q h) hFc (fun v55 u55 t H locs ht hvm hw hB hz1 hk1 hS9 => ?_)
    replace hP := zkeep hP hk1
    replace hS := hS9
    clear hPc hDc hFc hk1 hz1 hvm hS9
    have f55_0 : (v55 = zC6 v54.toInt) := hw
    have F55 := f55_0
    rw [hQ]
    exact W.iret (v := v55) hx hb hr (fun t ht hW => ⟨⟨v55, (), rfl, (by (try dsimp only); exact fun h1 h2 => zqA c1 e54 F55 h1 h2), trivial⟩, hS.F ht⟩) hS.2.2 dX11_worked_58
  · refine lv_tableIn (off := 58) (tgt := 59) hx hb dX11_worked_1 (by omega) (by omega) (by rw [c1]; rfl) (by decide) ?_
    refine lv_lload_n hx hb dX11_worked_59 rfl (lv_at hl 1 rfl) ?_
    refine lv_lload_n hx hb dX11_worked_60 rfl (lv_at hl 2 rfl) ?_
    refine lv_lsub hx hb dX11_worked_61 ?_
    refine lv_topl (fun v61 e61 => ?_)
    have hPc : va_P (dC, dI) vwCl [] H := zP0
    have hDc : va_D (fun _ => True) [] := zD0
    have hFc := zfr hS hA
    refine va_calli (va_runS (As := [.long v61]) (rest := []) ⟨hx, hb, hml, hown, hts⟩ (g_X11_bounded l dC dI cI cJ v61 H.size) (cwS 1 hts (zgS qw1457 qw1458 qw108 qw1459) rfl rfl rfl hd_X11_bounded ⟨by rw [hR]; exact Nat.le_of_ble_eq_true rfl, by rw [hR]; exact Nat.le_of_ble_eq_true rfl⟩) (zPS hPc hK hDc) rfl rfl hl.1 rfl (lv_room (Nat.le_of_ble_eq_true rfl)) dX11_worked_62 ⟨Nat.zero_le _, Nat.zero_le _⟩) hS (fun q _ h => hFc q h) hFc (fun v62 u62 t H locs ht hvm hw hB hz1 hk1 hS9 => ?_)
    replace hP := zkeep hP hk1
    replace hS := hS9
    clear hPc hDc hFc hk1 hz1 hvm hS9
    have f62_0 : (v62 = zC6 v61.toInt) := hw
    have F62 := f62_0
    rw [hQ]
    exact W.iret (v := v62) hx hb hr (fun t ht hW => ⟨⟨v62, (), rfl, (by (try dsimp only); exact fun h1 h2 => zqS c1 e61 F62 h1 h2), trivial⟩, hS.F ht⟩) hS.2.2 dX11_worked_65
  · refine lv_tableIn (off := 65) (tgt := 66) hx hb dX11_worked_1 (by omega) (by omega) (by rw [c1]; rfl) (by decide) ?_
    refine lv_lload_n hx hb dX11_worked_66 rfl (lv_at hl 1 rfl) ?_
    refine lv_lload_n hx hb dX11_worked_67 rfl (lv_at hl 2 rfl) ?_
    refine lv_lmul hx hb dX11_worked_68 ?_
    refine lv_topl (fun v68 e68 => ?_)
    have hPc : va_P (dC, dI) vwCl [] H := zP0
    have hDc : va_D (fun _ => True) [] := zD0
    have hFc := zfr hS hA
    refine va_calli (va_runS (As := [.long v68]) (rest := []) ⟨hx, hb, hml, hown, hts⟩ (g_X11_bounded l dC dI cI cJ v68 H.size) (cwS 1 hts (zgS qw1457 qw1458 qw108 qw1459) rfl rfl rfl hd_X11_bounded ⟨by rw [hR]; exact Nat.le_of_ble_eq_true rfl, by rw [hR]; exact Nat.le_of_ble_eq_true rfl⟩) (zPS hPc hK hDc) rfl rfl hl.1 rfl (lv_room (Nat.le_of_ble_eq_true rfl)) dX11_worked_69 ⟨Nat.zero_le _, Nat.zero_le _⟩) hS (fun q _ h => hFc q h) hFc (fun v69 u69 t H locs ht hvm hw hB hz1 hk1 hS9 => ?_)
    replace hP := zkeep hP hk1
    replace hS := hS9
    clear hPc hDc hFc hk1 hz1 hvm hS9
    have f69_0 : (v69 = zC6 v68.toInt) := hw
    have F69 := f69_0
    rw [hQ]
    exact W.iret (v := v69) hx hb hr (fun t ht hW => ⟨⟨v69, (), rfl, (by (try dsimp only); exact fun h1 h2 => zqM c1 e68 F69 h1 h2), trivial⟩, hS.F ht⟩) hS.2.2 dX11_worked_72
  · refine lv_tableIn (off := 72) (tgt := 73) hx hb dX11_worked_1 (by omega) (by omega) (by rw [c1]; rfl) (by decide) ?_
    refine lv_lload_n hx hb dX11_worked_73 rfl (lv_at hl 2 rfl) ?_
    refine lv_lconst (v := 0) hx hb dX11_worked_74 rfl ?_
    refine W.lcmp hx hb dX11_worked_75 ?_
    refine lv_topi (fun v75 e75 => ?_)
    refine lv_if_ne (tgt := 83) hx hb dX11_worked_76 (by decide) (fun c76 => ?_) (fun c76 => ?_)
    · have c76 : ¬ v75.toInt = 0 := z6 rfl (by decide) c76
      refine lv_lload_n hx hb dX11_worked_83 rfl (lv_at hl 1 rfl) ?_
      refine lv_lload_n hx hb dX11_worked_84 rfl (lv_at hl 2 rfl) ?_
      refine lv_ldiv hx hb dX11_worked_85 (zl0 e75 (by omega)) ?_
      refine lv_topl (fun v85 e85 => ?_)
      have hPc : va_P (dC, dI) vwCl [] H := zP0
      have hDc : va_D (fun _ => True) [] := zD0
      have hFc := zfr hS hA
      refine va_calli (va_runS (As := [.long v85]) (rest := []) ⟨hx, hb, hml, hown, hts⟩ (g_X11_bounded l dC dI cI cJ v85 H.size) (cwS 1 hts (zgS qw1457 qw1458 qw108 qw1459) rfl rfl rfl hd_X11_bounded ⟨by rw [hR]; exact Nat.le_of_ble_eq_true rfl, by rw [hR]; exact Nat.le_of_ble_eq_true rfl⟩) (zPS hPc hK hDc) rfl rfl hl.1 rfl (lv_room (Nat.le_of_ble_eq_true rfl)) dX11_worked_86 ⟨Nat.zero_le _, Nat.zero_le _⟩) hS (fun q _ h => hFc q h) hFc (fun v86 u86 t H locs ht hvm hw hB hz1 hk1 hS9 => ?_)
      replace hP := zkeep hP hk1
      replace hS := hS9
      clear hPc hDc hFc hk1 hz1 hvm hS9
      have f86_0 : (v86 = zC6 v85.toInt) := hw
      have F86 := f86_0
      rw [hQ]
      exact W.iret (v := v86) hx hb hr (fun t ht hW => ⟨⟨v86, (), rfl, (by (try dsimp only); exact fun h1 h2 => zqD c1 e75 (by omega) e85 F86 h1), trivial⟩, hS.F ht⟩) hS.2.2 dX11_worked_89
    · have c76 : v75.toInt = 0 := z5 rfl (by decide) c76
      refine lv_iconst (v := 0) hx hb dX11_worked_79 (by decide) ?_
      refine lv_goto (tgt := 89) hx hb dX11_worked_80 (by decide) ?_
      have zr0 : (0 : Int32).toInt = 0 := by decide
      rw [hQ]
      exact W.iret (v := 0) hx hb hr (fun t ht hW => ⟨⟨0, (), rfl, (by (try dsimp only); exact fun h1 h2 => zqD0 c1 e75 (by omega)), trivial⟩, hS.F ht⟩) hS.2.2 dX11_worked_89
  · refine lv_tableIn (off := 89) (tgt := 90) hx hb dX11_worked_1 (by omega) (by omega) (by rw [c1]; rfl) (by decide) ?_
    refine lv_lload_n hx hb dX11_worked_90 rfl (lv_at hl 1 rfl) ?_
    refine lv_lload_n hx hb dX11_worked_91 rfl (lv_at hl 2 rfl) ?_
    refine W.lcmp hx hb dX11_worked_92 ?_
    refine lv_topi (fun v92 e92 => ?_)
    refine lv_if_ne (tgt := 100) hx hb dX11_worked_93 (by decide) (fun c93 => ?_) (fun c93 => ?_)
    · have c93 : ¬ v92.toInt = 0 := z6 rfl (by decide) c93
      refine lv_iconst (v := 0) hx hb dX11_worked_100 (by decide) ?_
      have zr0 : (0 : Int32).toInt = 0 := by decide
      rw [hQ]
      exact W.iret (v := 0) hx hb hr (fun t ht hW => ⟨⟨0, (), rfl, (by (try dsimp only); exact fun h1 h2 => (zq6 c1 e92).2 (by omega)), trivial⟩, hS.F ht⟩) hS.2.2 dX11_worked_101
    · have c93 : v92.toInt = 0 := z5 rfl (by decide) c93
      refine lv_iconst (v := 1) hx hb dX11_worked_96 (by decide) ?_
      refine lv_goto (tgt := 101) hx hb dX11_worked_97 (by decide) ?_
      have zr0 : (1 : Int32).toInt = 1 := by decide
      rw [hQ]
      exact W.iret (v := 1) hx hb hr (fun t ht hW => ⟨⟨1, (), rfl, (by (try dsimp only); exact fun h1 h2 => (zq6 c1 e92).1 (by omega)), trivial⟩, hS.F ht⟩) hS.2.2 dX11_worked_101
  · refine lv_tableIn (off := 101) (tgt := 102) hx hb dX11_worked_1 (by omega) (by omega) (by rw [c1]; rfl) (by decide) ?_
    refine lv_lload_n hx hb dX11_worked_102 rfl (lv_at hl 1 rfl) ?_
    refine lv_lload_n hx hb dX11_worked_103 rfl (lv_at hl 2 rfl) ?_
    refine W.lcmp hx hb dX11_worked_104 ?_
    refine lv_topi (fun v104 e104 => ?_)
    refine lv_if_ge (tgt := 112) hx hb dX11_worked_105 (by decide) (fun c105 => ?_) (fun c105 => ?_)
    · have c105 : 0 ≤ v104.toInt := z3 (by decide) rfl c105
      refine lv_iconst (v := 0) hx hb dX11_worked_112 (by decide) ?_
      have zr0 : (0 : Int32).toInt = 0 := by decide
      rw [hQ]
      exact W.iret (v := 0) hx hb hr (fun t ht hW => ⟨⟨0, (), rfl, (by (try dsimp only); exact fun h1 h2 => (zq7 c1 e104).2 (by omega)), trivial⟩, hS.F ht⟩) hS.2.2 dX11_worked_113
    · have c105 : v104.toInt < 0 := z4 (by decide) rfl c105
      refine lv_iconst (v := 1) hx hb dX11_worked_108 (by decide) ?_
      refine lv_goto (tgt := 113) hx hb dX11_worked_109 (by decide) ?_
      have zr0 : (1 : Int32).toInt = 1 := by decide
      rw [hQ]
      exact W.iret (v := 1) hx hb hr (fun t ht hW => ⟨⟨1, (), rfl, (by (try dsimp only); exact fun h1 h2 => (zq7 c1 e104).1 (by omega)), trivial⟩, hS.F ht⟩) hS.2.2 dX11_worked_113
  · refine lv_tableIn (off := 113) (tgt := 114) hx hb dX11_worked_1 (by omega) (by omega) (by rw [c1]; rfl) (by decide) ?_
    refine lv_lload_n hx hb dX11_worked_114 rfl (lv_at hl 1 rfl) ?_
    refine lv_lload_n hx hb dX11_worked_115 rfl (lv_at hl 2 rfl) ?_
    refine W.lcmp hx hb dX11_worked_116 ?_
    refine lv_topi (fun v116 e116 => ?_)
    refine lv_if_le (tgt := 124) hx hb dX11_worked_117 (by decide) (fun c117 => ?_) (fun c117 => ?_)
    · have c117 : v116.toInt ≤ 0 := z3 rfl (by decide) c117
      refine lv_iconst (v := 0) hx hb dX11_worked_124 (by decide) ?_
      have zr0 : (0 : Int32).toInt = 0 := by decide
      rw [hQ]
      exact W.iret (v := 0) hx hb hr (fun t ht hW => ⟨⟨0, (), rfl, (by (try dsimp only); exact fun h1 h2 => (zq8 c1 e116).2 (by omega)), trivial⟩, hS.F ht⟩) hS.2.2 dX11_worked_125
    · have c117 : 0 < v116.toInt := z4 rfl (by decide) c117
      refine lv_iconst (v := 1) hx hb dX11_worked_120 (by decide) ?_
      refine lv_goto (tgt := 125) hx hb dX11_worked_121 (by decide) ?_
      have zr0 : (1 : Int32).toInt = 1 := by decide
      rw [hQ]
      exact W.iret (v := 1) hx hb hr (fun t ht hW => ⟨⟨1, (), rfl, (by (try dsimp only); exact fun h1 h2 => (zq8 c1 e116).1 (by omega)), trivial⟩, hS.F ht⟩) hS.2.2 dX11_worked_125
  · refine lv_tableIn (off := 143) (tgt := 144) hx hb dX11_worked_1 (by omega) (by omega) (by rw [c1]; rfl) (by decide) ?_
    refine lv_lload_n hx hb dX11_worked_144 rfl (lv_at hl 1 rfl) ?_
    refine lv_lconst (v := 0) hx hb dX11_worked_145 rfl ?_
    refine W.lcmp hx hb dX11_worked_146 ?_
    refine lv_topi (fun v146 e146 => ?_)
    refine lv_if_ne (tgt := 156) hx hb dX11_worked_147 (by decide) (fun c147 => ?_) (fun c147 => ?_)
    · have c147 : ¬ v146.toInt = 0 := z6 rfl (by decide) c147
      refine lv_iconst (v := 1) hx hb dX11_worked_156 (by decide) ?_
      refine lv_goto (tgt := 161) hx hb dX11_worked_157 (by decide) ?_
      have zr0 : (1 : Int32).toInt = 1 := by decide
      rw [hQ]
      exact W.iret (v := 1) hx hb hr (fun t ht hW => ⟨⟨1, (), rfl, (by (try dsimp only); exact fun h1 h2 => by first | exact zq11a (by omega) e146 (by omega) | exact (zq11b (by omega) e146 (by omega) e152).2 (by omega)), trivial⟩, hS.F ht⟩) hS.2.2 dX11_worked_161
    · have c147 : v146.toInt = 0 := z5 rfl (by decide) c147
      refine lv_lload_n hx hb dX11_worked_150 rfl (lv_at hl 2 rfl) ?_
      refine lv_lconst (v := 0) hx hb dX11_worked_151 rfl ?_
      refine W.lcmp hx hb dX11_worked_152 ?_
      refine lv_topi (fun v152 e152 => ?_)
      refine lv_if_eq (tgt := 160) hx hb dX11_worked_153 (by decide) (fun c153 => ?_) (fun c153 => ?_)
      · have c153 : v152.toInt = 0 := z5 rfl (by decide) c153
        refine lv_iconst (v := 0) hx hb dX11_worked_160 (by decide) ?_
        have zr0 : (0 : Int32).toInt = 0 := by decide
        rw [hQ]
        exact W.iret (v := 0) hx hb hr (fun t ht hW => ⟨⟨0, (), rfl, (by (try dsimp only); exact fun h1 h2 => (zq11b (by omega) e146 (by omega) e152).1 (by omega)), trivial⟩, hS.F ht⟩) hS.2.2 dX11_worked_161
      · have c153 : ¬ v152.toInt = 0 := z6 rfl (by decide) c153
        refine lv_iconst (v := 1) hx hb dX11_worked_156 (by decide) ?_
        refine lv_goto (tgt := 161) hx hb dX11_worked_157 (by decide) ?_
        have zr0 : (1 : Int32).toInt = 1 := by decide
        rw [hQ]
        exact W.iret (v := 1) hx hb hr (fun t ht hW => ⟨⟨1, (), rfl, (by (try dsimp only); exact fun h1 h2 => by first | exact zq11a (by omega) e146 (by omega) | exact (zq11b (by omega) e146 (by omega) e152).2 (by omega)), trivial⟩, hS.F ht⟩) hS.2.2 dX11_worked_161
  · refine lv_tableIn (off := 125) (tgt := 126) hx hb dX11_worked_1 (by omega) (by omega) (by rw [c1]; rfl) (by decide) ?_
    refine lv_lload_n hx hb dX11_worked_126 rfl (lv_at hl 1 rfl) ?_
    refine lv_lconst (v := 0) hx hb dX11_worked_127 rfl ?_
    refine W.lcmp hx hb dX11_worked_128 ?_
    refine lv_topi (fun v128 e128 => ?_)
    refine lv_if_eq (tgt := 142) hx hb dX11_worked_129 (by decide) (fun c129 => ?_) (fun c129 => ?_)
    · have c129 : v128.toInt = 0 := z5 rfl (by decide) c129
      refine lv_iconst (v := 0) hx hb dX11_worked_142 (by decide) ?_
      have zr0 : (0 : Int32).toInt = 0 := by decide
      rw [hQ]
      exact W.iret (v := 0) hx hb hr (fun t ht hW => ⟨⟨0, (), rfl, (by (try dsimp only); exact fun h1 h2 => by first | exact zq10a c1 e128 (by omega) | exact (zq10b c1 e128 (by omega) e134).1 (by omega)), trivial⟩, hS.F ht⟩) hS.2.2 dX11_worked_143
    · have c129 : ¬ v128.toInt = 0 := z6 rfl (by decide) c129
      refine lv_lload_n hx hb dX11_worked_132 rfl (lv_at hl 2 rfl) ?_
      refine lv_lconst (v := 0) hx hb dX11_worked_133 rfl ?_
      refine W.lcmp hx hb dX11_worked_134 ?_
      refine lv_topi (fun v134 e134 => ?_)
      refine lv_if_eq (tgt := 142) hx hb dX11_worked_135 (by decide) (fun c135 => ?_) (fun c135 => ?_)
      · have c135 : v134.toInt = 0 := z5 rfl (by decide) c135
        refine lv_iconst (v := 0) hx hb dX11_worked_142 (by decide) ?_
        have zr0 : (0 : Int32).toInt = 0 := by decide
        rw [hQ]
        exact W.iret (v := 0) hx hb hr (fun t ht hW => ⟨⟨0, (), rfl, (by (try dsimp only); exact fun h1 h2 => by first | exact zq10a c1 e128 (by omega) | exact (zq10b c1 e128 (by omega) e134).1 (by omega)), trivial⟩, hS.F ht⟩) hS.2.2 dX11_worked_143
      · have c135 : ¬ v134.toInt = 0 := z6 rfl (by decide) c135
        refine lv_iconst (v := 1) hx hb dX11_worked_138 (by decide) ?_
        refine lv_goto (tgt := 143) hx hb dX11_worked_139 (by decide) ?_
        have zr0 : (1 : Int32).toInt = 1 := by decide
        rw [hQ]
        exact W.iret (v := 1) hx hb hr (fun t ht hW => ⟨⟨1, (), rfl, (by (try dsimp only); exact fun h1 h2 => (zq10b c1 e128 (by omega) e134).2 (by omega)), trivial⟩, hS.F ht⟩) hS.2.2 dX11_worked_143
set_option maxHeartbeats 4000000 in
set_option maxRecDepth 100000 in
theorem g_X11_workOut (l : Launch) (dC : Nat → ClassId) (dI : Nat → Nat → Nat) (cI cJ : ClassId) (h0 : Nat) (p0 : Int32) (p1 : Int32) (p2 : Int32) (th : Int32) (tB : Nat) (tsz : Int32) (tat : Int32) (wr : Int32) (dp : Int32) (rC : Nat) (rV : Nat) (rD : Nat) (rK : Nat) (rT : Nat) (rS : Nat) (rU : Nat) (lw : Int32) (tx : Int32) (rL : Nat) (rX : Nat) (qR : Nat) (qB : Nat) (qP : Nat) (qnb : Int32) (qnp : Int32) (aR : Nat) (aB : Nat) (aP : Nat) (nb : Int32) (np : Int32) (aN : Nat) (rf : Nat) (ho : Int32) (br : Int32) (aK : Nat) (ac : Int32) (dw : Int64) (aE : Nat) (sr : Int32) (sf : Int32) (aA : Nat) (aH : Nat) (aI : Nat) (hi : Int32) (fC : Nat → Int32) (fV : Nat → Int32) (fL : Nat → Int32) (fX : Nat → Int32) (sz : Nat) (n_ac : 0 ≤ ac.toInt ∧ ac.toInt ≤ 40) (n_hi : 0 ≤ hi.toInt ∧ hi.toInt ≤ 1) (n_ho : (-1) ≤ ho.toInt ∧ ho.toInt ≤ 3) (n_lw : 0 ≤ lw.toInt ∧ lw.toInt ≤ 4) (n_nb : 0 ≤ nb.toInt ∧ nb.toInt ≤ 6) (n_np : 0 ≤ np.toInt ∧ np.toInt ≤ 5) (n_p0 : 0 ≤ p0.toInt ∧ p0.toInt ≤ 3) (n_p1 : 0 ≤ p1.toInt ∧ p1.toInt ≤ 519) (n_p2 : 0 ≤ p2.toInt ∧ p2.toInt ≤ 519) (n_qnb : 0 ≤ qnb.toInt ∧ qnb.toInt ≤ 6) (n_qnp : 0 ≤ qnp.toInt ∧ qnp.toInt ≤ 5) (n_tat : 0 ≤ tat.toInt ∧ tat.toInt ≤ 260) (n_tsz : 0 ≤ tsz.toInt ∧ tsz.toInt ≤ 240) (n_wr : (-1) ≤ wr.toInt ∧ wr.toInt ≤ 260) (hok : zOk fC fV (520 * p0.toInt + p1.toInt) (520 * p0.toInt + p2.toInt))   : Met l yX11_workOut (.code yX11_workOut cX11_workOut 6 (some .int) :: wA) ({ frames := 3, cells := 0, slots := 0, locals := 75 }) (zP (dC, dI) [(cI, .int), (cJ, .long)] [.ref h0, .int p0, .int p1, .int p2] sz [(h0, .inr (11, [.int th, .ref tB, .int tsz, .int tat, .int wr, .int dp, .ref rC, .ref rV, .ref rD, .ref rK, .ref rT, .ref rS, .ref rU, .int lw, .int tx, .ref rL, .ref rX, .ref qR, .ref qB, .ref qP, .int qnb, .int qnp, .ref aR, .ref aB, .ref aP, .int nb, .int np, .ref aN, .ref rf, .int ho, .int br, .ref aK, .int ac, .long dw, .ref aE, .int sr, .int sf, .ref aA, .ref aH, .ref aI, .int hi])), (rC, .inl (cI, 2600, .inl fC)), (rV, .inl (cI, 2600, .inl fV)), (rL, .inl (cI, 6, .inl fL)), (rX, .inl (cI, 80, .inl fX))]) (va_Qi (fun (r : Int32) (u : (Nat → Int32)) => (zWq fC fV fL p0 p1 p2 r)) (fun (u : (Nat → Int32)) (t : State) => va_P (dC, dI) vwCl [(h0, .inr (11, [.int th, .ref tB, .int tsz, .int tat, .int wr, .int dp, .ref rC, .ref rV, .ref rD, .ref rK, .ref rT, .ref rS, .ref rU, .int lw, .int tx, .ref rL, .ref rX, .ref qR, .ref qB, .ref qP, .int qnb, .int qnp, .ref aR, .ref aB, .ref aP, .int nb, .int np, .ref aN, .ref rf, .int ho, .int br, .ref aK, .int ac, .long dw, .ref aE, .int sr, .int sf, .ref aA, .ref aH, .ref aI, .int hi])), (rC, .inl (cI, 2600, .inl fC)), (rV, .inl (cI, 2600, .inl fV)), (rL, .inl (cI, 6, .inl fL)), (rX, .inl (cI, 80, .inl u))] t.heap ∧ va_D (va_A [(h0, .inr (11, [.int th, .ref tB, .int tsz, .int tat, .int wr, .int dp, .ref rC, .ref rV, .ref rD, .ref rK, .ref rT, .ref rS, .ref rU, .int lw, .int tx, .ref rL, .ref rX, .ref qR, .ref qB, .ref qP, .int qnb, .int qnp, .ref aR, .ref aB, .ref aP, .int nb, .int np, .ref aN, .ref rf, .int ho, .int br, .ref aK, .int ac, .long dw, .ref aE, .int sr, .int sf, .ref aA, .ref aH, .ref aI, .int hi])), (rC, .inl (cI, 2600, .inl fC)), (rV, .inl (cI, 2600, .inl fV)), (rL, .inl (cI, 6, .inl fL)), (rX, .inl (cI, 80, .inl fX))] sz) [(h0, .inr (11, [.int th, .ref tB, .int tsz, .int tat, .int wr, .int dp, .ref rC, .ref rV, .ref rD, .ref rK, .ref rT, .ref rS, .ref rU, .int lw, .int tx, .ref rL, .ref rX, .ref qR, .ref qB, .ref qP, .int qnb, .int qnp, .ref aR, .ref aB, .ref aP, .int nb, .int np, .ref aN, .ref rf, .int ho, .int br, .ref aK, .int ac, .long dw, .ref aE, .int sr, .int sf, .ref aA, .ref aH, .ref aI, .int hi])), (rC, .inl (cI, 2600, .inl fC)), (rV, .inl (cI, 2600, .inl fV)), (rL, .inl (cI, 6, .inl fL)), (rX, .inl (cI, 80, .inl u))]) (va_A [(h0, .inr (11, [.int th, .ref tB, .int tsz, .int tat, .int wr, .int dp, .ref rC, .ref rV, .ref rD, .ref rK, .ref rT, .ref rS, .ref rU, .int lw, .int tx, .ref rL, .ref rX, .ref qR, .ref qB, .ref qP, .int qnb, .int qnp, .ref aR, .ref aB, .ref aP, .int nb, .int np, .ref aN, .ref rf, .int ho, .int br, .ref aK, .int ac, .long dw, .ref aE, .int sr, .int sf, .ref aA, .ref aH, .ref aI, .int hi])), (rC, .inl (cI, 2600, .inl fC)), (rV, .inl (cI, 2600, .inl fV)), (rL, .inl (cI, 6, .inl fL)), (rX, .inl (cI, 80, .inl fX))] sz)) 0 0 (va_A [(h0, .inr (11, [.int th, .ref tB, .int tsz, .int tat, .int wr, .int dp, .ref rC, .ref rV, .ref rD, .ref rK, .ref rT, .ref rS, .ref rU, .int lw, .int tx, .ref rL, .ref rX, .ref qR, .ref qB, .ref qP, .int qnb, .int qnp, .ref aR, .ref aB, .ref aP, .int nb, .int np, .ref aN, .ref rf, .int ho, .int br, .ref aK, .int ac, .long dw, .ref aE, .int sr, .int sf, .ref aA, .ref aH, .ref aI, .int hi])), (rC, .inl (cI, 2600, .inl fC)), (rV, .inl (cI, 2600, .inl fV)), (rL, .inl (cI, 6, .inl fL)), (rX, .inl (cI, 80, .inl fX))] sz) := by
  refine Met.ofW (cc := cX11_workOut) (maxL := 6) (ret := (some .int)) (by decide) rfl ?_
  intro p e s m args below meth c s₁ B hml hv
  have y_ac : zHid (0 ≤ ac.toInt ∧ ac.toInt ≤ 40) := n_ac
  have y_hi : zHid (0 ≤ hi.toInt ∧ hi.toInt ≤ 1) := n_hi
  have y_ho : zHid ((-1) ≤ ho.toInt ∧ ho.toInt ≤ 3) := n_ho
  have y_lw : zHid (0 ≤ lw.toInt ∧ lw.toInt ≤ 4) := n_lw
  have y_nb : zHid (0 ≤ nb.toInt ∧ nb.toInt ≤ 6) := n_nb
  have y_np : zHid (0 ≤ np.toInt ∧ np.toInt ≤ 5) := n_np
  have y_qnb : zHid (0 ≤ qnb.toInt ∧ qnb.toInt ≤ 6) := n_qnb
  have y_qnp : zHid (0 ≤ qnp.toInt ∧ qnp.toInt ≤ 5) := n_qnp
  have y_tat : zHid (0 ≤ tat.toInt ∧ tat.toInt ≤ 260) := n_tat
  have y_tsz : zHid (0 ≤ tsz.toInt ∧ tsz.toInt ≤ 240) := n_tsz
  have y_wr : zHid ((-1) ≤ wr.toInt ∧ wr.toInt ≤ 260) := n_wr
  clear n_ac n_hi n_ho n_lw n_nb n_np n_qnb n_qnp n_tat n_tsz n_wr
  obtain ⟨hargs, hsz, hP, hK, hT⟩ := hv
  have hx := B.exec
  have hb := B.bytes
  have hr := B.returns
  have hts : ∀ w ∈ wA, w.before args s = true := fun w h => atoms_spec (ws := .code yX11_workOut cX11_workOut 6 (some .int) :: wA) B.pre w (List.mem_cons_of_mem _ h)
  have hown : s.vm.findClass RX11 = some m.cls := findClass_of_methodNamed B.named
  have hlocks := B.notSynchronized
  subst hsz
  have hD := hT.self (sz := s.heap.size)
  generalize hAe : va_A [(h0, .inr (11, [.int th, .ref tB, .int tsz, .int tat, .int wr, .int dp, .ref rC, .ref rV, .ref rD, .ref rK, .ref rT, .ref rS, .ref rU, .int lw, .int tx, .ref rL, .ref rX, .ref qR, .ref qB, .ref qP, .int qnb, .int qnp, .ref aR, .ref aB, .ref aP, .int nb, .int np, .ref aN, .ref rf, .int ho, .int br, .ref aK, .int ac, .long dw, .ref aE, .int sr, .int sf, .ref aA, .ref aH, .ref aI, .int hi])), (rC, .inl (cI, 2600, .inl fC)), (rV, .inl (cI, 2600, .inl fV)), (rL, .inl (cI, 6, .inl fL)), (rX, .inl (cI, 80, .inl fX))] s.heap.size = A at hD ⊢
  have hA : ∀ q : Nat, s.heap.size ≤ q → A q := fun q h => by rw [← hAe]; exact Or.inr h
  have hl := lv_entry ([.ref h0, .int p0, .int p1, .int p2]) (n := 6) (Nat.le_of_ble_eq_true rfl)
  rw [show entryFrame m args 6 = entryFrame m ([.ref h0, .int p0, .int p1, .int p2] : List Value).toArray 6 by rw [hargs], lg_entry_eq]
  generalize (lg_sl ([.ref h0, .int p0, .int p1, .int p2]) ++ List.replicate (6 - (lg_sl ([.ref h0, .int p0, .int p1, .int p2])).length) Slot.unset).toArray = ls at hl ⊢
  have hl : lv_has ls 6 [(0, .ref h0), (1, .int p0), (2, .int p1), (3, .int p2)] := hl
  refine zstart (fun H hH => ?_)
  rw [← hH] at hP
  have hS : va_S A s.heap H [] := by rw [hH]; exact va_S.rf
  generalize ([] : List Loc) = locs at hS ⊢
  refine zgen (fun R Q hR hQ => ?_)
  refine lv_iconst (v := 0) hx hb dX11_workOut_0 (by decide) ?_
  refine lv_istore (lv' := [(4, .int 0), (0, .ref h0), (1, .int p0), (2, .int p1), (3, .int p2)]) hx hb dX11_workOut_1 hl (by decide) rfl (fun ls hl => ?_)
  refine lv_sipush (v := 520) hx hb dX11_workOut_3 (by decide) ?_
  refine lv_iload_n hx hb dX11_workOut_6 rfl (lv_at hl 2 rfl) ?_
  refine lv_imul hx hb dX11_workOut_7 ?_
  refine lv_topi (fun v7 e7 => ?_)
  have i7 : v7.toInt = 520 * p0.toInt := zmul e7 (by decide) rfl (by omega) (by omega)
  refine lv_iload_n hx hb dX11_workOut_8 rfl (lv_at hl 3 rfl) ?_
  refine lv_iadd hx hb dX11_workOut_9 ?_
  refine lv_topi (fun v9 e9 => ?_)
  have i9 : v9.toInt = v7.toInt + p1.toInt := zadd e9 rfl rfl (by omega) (by omega)
  have J12 : ∀ (n : Nat) (m12_A_rX : Nat → Int32) (m12_L_4 : Int32) (m12_L_5 : Int32), (0 ≤ m12_L_4.toInt ∧ m12_L_4.toInt ≤ 80) → (0 ≤ m12_L_5.toInt ∧ m12_L_5.toInt ≤ 2079) → (zGo fC m12_L_5.toInt (520 * p0.toInt + p2.toInt) m12_L_4.toInt) → (520 * p0.toInt + p1.toInt ≤ m12_L_5.toInt) → (∀ lt : List (Int × Int), zWp fC fV (520 * p0.toInt) p1.toInt p2.toInt lt → zWk fL lt m12_A_rX m12_L_4 (m12_L_5.toInt - 520 * p0.toInt - p1.toInt)) → (2080 - m12_L_5.toInt).toNat = n → ∀ (H : Heap) (locs : List Loc) (ls : Array Slot), va_P (dC, dI) vwCl [(h0, .inr (11, [.int th, .ref tB, .int tsz, .int tat, .int wr, .int dp, .ref rC, .ref rV, .ref rD, .ref rK, .ref rT, .ref rS, .ref rU, .int lw, .int tx, .ref rL, .ref rX, .ref qR, .ref qB, .ref qP, .int qnb, .int qnp, .ref aR, .ref aB, .ref aP, .int nb, .int np, .ref aN, .ref rf, .int ho, .int br, .ref aK, .int ac, .long dw, .ref aE, .int sr, .int sf, .ref aA, .ref aH, .ref aI, .int hi])), (rC, .inl (cI, 2600, .inl fC)), (rV, .inl (cI, 2600, .inl fV)), (rL, .inl (cI, 6, .inl fL)), (rX, .inl (cI, 80, .inl m12_A_rX))] H → va_D A [(h0, .inr (11, [.int th, .ref tB, .int tsz, .int tat, .int wr, .int dp, .ref rC, .ref rV, .ref rD, .ref rK, .ref rT, .ref rS, .ref rU, .int lw, .int tx, .ref rL, .ref rX, .ref qR, .ref qB, .ref qP, .int qnb, .int qnp, .ref aR, .ref aB, .ref aP, .int nb, .int np, .ref aN, .ref rf, .int ho, .int br, .ref aK, .int ac, .long dw, .ref aE, .int sr, .int sf, .ref aA, .ref aH, .ref aI, .int hi])), (rC, .inl (cI, 2600, .inl fC)), (rV, .inl (cI, 2600, .inl fV)), (rL, .inl (cI, 6, .inl fL)), (rX, .inl (cI, 80, .inl m12_A_rX))] → va_S A s.heap H locs → lv_has ls 6 [(5, .int m12_L_5), (4, .int m12_L_4), (0, .ref h0), (1, .int p0), (2, .int p1), (3, .int p2)] → W p l e R s m args below meth c H locs 0 0 Q (F0 m 12 ls []) := by
    intro n12
    induction n12 using Nat.strongRecOn with
    | _ n12 ih12 =>
      intro m12_A_rX m12_L_4 m12_L_5 jf12_0 jf12_1 jv12_0 jf12_3 jv12_1 hmu12 H locs ls hP hD hS hl
      refine lv_iload hx hb dX11_workOut_12 (lv_at hl 0 rfl) ?_
      refine lv_sipush (v := 520) hx hb dX11_workOut_14 (by decide) ?_
      refine lv_iload_n hx hb dX11_workOut_17 rfl (lv_at hl 3 rfl) ?_
      refine lv_imul hx hb dX11_workOut_18 ?_
      refine lv_topi (fun v18 e18 => ?_)
      have i18 : v18.toInt = 520 * p0.toInt := zmul e18 (by decide) rfl (by omega) (by omega)
      refine lv_iload_n hx hb dX11_workOut_19 rfl (lv_at hl 5 rfl) ?_
      refine lv_iadd hx hb dX11_workOut_20 ?_
      refine lv_topi (fun v20 e20 => ?_)
      have i20 : v20.toInt = v18.toInt + p2.toInt := zadd e20 rfl rfl (by omega) (by omega)
      refine lv_icmp_ge (tgt := 171) hx hb dX11_workOut_21 (by decide) (fun c21 => ?_) (fun c21 => ?_)
      · have c21 : v20.toInt ≤ m12_L_5.toInt := z3 rfl rfl c21
        refine lv_aload_n hx hb dX11_workOut_171 rfl (lv_at hl 2 rfl) ?_
        refine va_get (D := (dC, dI)) (ci := 11) (v := .ref rX) (C := RX11) (T := TX11) (N := 41) hx hb hts iX11 hown hK hP 0 rfl rfl 16 (by decide) (hts _ qw1143) (fun _ h9 => h9) rfl dX11_workOut_172 ?_
        refine lv_iconst (v := 0) hx hb dX11_workOut_175 (by decide) ?_
        refine va_iald hx hb hK hP 4 0 rfl rfl (by unfold vp_in; decide) dX11_workOut_176 ?_
        refine lv_topi (fun v176 e176 => ?_)
        rw [hQ]
        exact W.iret (v := v176) hx hb hr (fun t ht hW => ⟨⟨v176, m12_A_rX, rfl, (by (try dsimp only); exact fun lt v hp hv => zWkE (k := m12_L_5) (jv12_1 lt hp) hp (by omega) (by omega) e176 hv), ⟨by rw [ht]; exact hP, hD⟩⟩, hS.F ht⟩) hS.2.2 dX11_workOut_177
      · have c21 : m12_L_5.toInt < v20.toInt := z4 rfl rfl c21
        refine lv_aload_n hx hb dX11_workOut_24 rfl (lv_at hl 2 rfl) ?_
        refine va_get (D := (dC, dI)) (ci := 11) (v := .ref rC) (C := RX11) (T := TX11) (N := 41) hx hb hts iX11 hown hK hP 0 rfl rfl 6 (by decide) (hts _ qw1133) (fun _ h9 => h9) rfl dX11_workOut_25 ?_
        refine lv_iload hx hb dX11_workOut_28 (lv_at hl 0 rfl) ?_
        refine va_iald hx hb hK hP 1 0 rfl rfl (vp_in_iff.mpr ⟨by omega, by omega⟩) dX11_workOut_30 ?_
        refine lv_topi (fun v30 e30 => ?_)
        have i30 : v30.toInt = (fC m12_L_5.toInt.toNat).toInt := zIx e30 (by omega)
        refine lv_if_eq (tgt := 45) hx hb dX11_workOut_31 (by decide) (fun c31 => ?_) (fun c31 => ?_)
        · have c31 : v30.toInt = 0 := z5 rfl (by decide) c31
          have q45 : m12_L_4.toInt ≤ 79 := (zGo_y (k' := 0) (t' := 0) jv12_0 (by omega) (by omega) (by omega)).1
          refine lv_aload_n hx hb dX11_workOut_45 rfl (lv_at hl 2 rfl) ?_
          refine va_get (D := (dC, dI)) (ci := 11) (v := .ref rX) (C := RX11) (T := TX11) (N := 41) hx hb hts iX11 hown hK hP 0 rfl rfl 16 (by decide) (hts _ qw1143) (fun _ h9 => h9) rfl dX11_workOut_46 ?_
          refine lv_iload hx hb dX11_workOut_49 (lv_at hl 1 rfl) ?_
          refine lv_aload_n hx hb dX11_workOut_51 rfl (lv_at hl 2 rfl) ?_
          refine va_get (D := (dC, dI)) (ci := 11) (v := .ref rC) (C := RX11) (T := TX11) (N := 41) hx hb hts iX11 hown hK hP 0 rfl rfl 6 (by decide) (hts _ qw1133) (fun _ h9 => h9) rfl dX11_workOut_52 ?_
          refine lv_iload hx hb dX11_workOut_55 (lv_at hl 0 rfl) ?_
          refine va_iald hx hb hK hP 1 0 rfl rfl (vp_in_iff.mpr ⟨by omega, by omega⟩) dX11_workOut_57 ?_
          refine lv_topi (fun v57 e57 => ?_)
          have i57 : v57.toInt = (fC m12_L_5.toInt.toNat).toInt := zIx e57 (by omega)
          refine lv_if_ne (tgt := 71) hx hb dX11_workOut_58 (by decide) (fun c58 => ?_) (fun c58 => ?_)
          · have c58 : ¬ v57.toInt = 0 := z6 rfl (by decide) c58
            refine lv_aload_n hx hb dX11_workOut_71 rfl (lv_at hl 2 rfl) ?_
            refine va_get (D := (dC, dI)) (ci := 11) (v := .ref rL) (C := RX11) (T := TX11) (N := 41) hx hb hts iX11 hown hK hP 0 rfl rfl 15 (by decide) (hts _ qw1142) (fun _ h9 => h9) rfl dX11_workOut_72 ?_
            refine lv_aload_n hx hb dX11_workOut_75 rfl (lv_at hl 2 rfl) ?_
            refine va_get (D := (dC, dI)) (ci := 11) (v := .ref rV) (C := RX11) (T := TX11) (N := 41) hx hb hts iX11 hown hK hP 0 rfl rfl 7 (by decide) (hts _ qw1134) (fun _ h9 => h9) rfl dX11_workOut_76 ?_
            refine lv_iload hx hb dX11_workOut_79 (lv_at hl 0 rfl) ?_
            refine va_iald hx hb hK hP 2 0 rfl rfl (vp_in_iff.mpr ⟨by omega, by omega⟩) dX11_workOut_81 ?_
            refine lv_topi (fun v81 e81 => ?_)
            have i81 : 0 ≤ v81.toInt ∧ v81.toInt ≤ 5 := zLt_g hok e81 (by omega) (by omega) (by omega) (by omega)
            refine va_iald hx hb hK hP 3 0 rfl rfl (vp_in_iff.mpr ⟨by omega, by omega⟩) dX11_workOut_82 ?_
            refine lv_topi (fun v82 e82 => ?_)
            refine va_iast hx hb hK hP hD hS 4 0 rfl rfl (vp_in_iff.mpr ⟨by omega, by omega⟩) dX11_workOut_83 (fun H locs hP9 hD9 hS9 => ?_)
            clear hP hD hS
            obtain ⟨v83_f, e83⟩ : ∃ g : Nat → Int32, g = upd m12_A_rX (m12_L_4).toNatClampNeg v82 := ⟨_, rfl⟩
            rw [← e83] at hP9 hD9
            obtain ⟨hP, hD⟩ := zst (wX := [(h0, .inr (11, [.int th, .ref tB, .int tsz, .int tat, .int wr, .int dp, .ref rC, .ref rV, .ref rD, .ref rK, .ref rT, .ref rS, .ref rU, .int lw, .int tx, .ref rL, .ref rX, .ref qR, .ref qB, .ref qP, .int qnb, .int qnp, .ref aR, .ref aB, .ref aP, .int nb, .int np, .ref aN, .ref rf, .int ho, .int br, .ref aK, .int ac, .long dw, .ref aE, .int sr, .int sf, .ref aA, .ref aH, .ref aI, .int hi])), (rC, .inl (cI, 2600, .inl fC)), (rV, .inl (cI, 2600, .inl fV)), (rL, .inl (cI, 6, .inl fL)), (rX, .inl (cI, 80, .inl v83_f))]) hP9 hD9 rfl
            have hS := hS9
            clear hP9 hD9 hS9
            obtain ⟨v84, e84⟩ : ∃ y : Int32, y = m12_L_4 + Int32.ofInt (1) := ⟨_, rfl⟩
            refine lv_iinc (v := v84) (lv' := [(4, .int v84), (5, .int m12_L_5), (0, .ref h0), (1, .int p0), (2, .int p1), (3, .int p2)]) hx hb dX11_workOut_84 hl (k := 1) rfl e84.symm (by decide) rfl (fun ls hl => ?_)
            have i84 : v84.toInt = m12_L_4.toInt + 1 := zaddI e84 (by decide) (by omega) (by omega)
            refine lv_goto (tgt := 165) hx hb dX11_workOut_87 (by decide) ?_
            obtain ⟨v165, e165⟩ : ∃ y : Int32, y = m12_L_5 + Int32.ofInt (1) := ⟨_, rfl⟩
            refine lv_iinc (v := v165) (lv' := [(5, .int v165), (4, .int v84), (0, .ref h0), (1, .int p0), (2, .int p1), (3, .int p2)]) hx hb dX11_workOut_165 hl (k := 1) rfl e165.symm (by decide) rfl (fun ls hl => ?_)
            have i165 : v165.toInt = m12_L_5.toInt + 1 := zaddI e165 (by decide) (by omega) (by omega)
            refine lv_goto (tgt := 12) hx hb dX11_workOut_168 (by decide) ?_
            exact ih12 _ (by omega) v83_f v84 v165 (by omega) (by omega) (by first | exact (zGo_y jv12_0 (by omega) (by omega) (by omega)).2 (by omega) (by omega) | exact (zGo_n jv12_0 (by omega) (by omega) (by omega)).2 (by omega) (by omega) | exact (zGo_o jv12_0 (by omega) (by omega) (by omega)).2 (by omega) (by omega)) (by omega) (by first | exact fun lt hp => zWkP (jv12_1 lt hp) hp (by omega) (by omega) e57 (by omega) e67 e83 (by omega) (by omega) | exact fun lt hp => zWkL (jv12_1 lt hp) hp (by omega) (by omega) e40 (by omega) e81 e82 e83 (by omega) (by omega) | exact fun lt hp => zWkN (jv12_1 lt hp) hp (by omega) (by omega) e96 (by omega) (by omega) (by omega) (by omega) e119 e120 e121 (by omega) | exact fun lt hp => zWkO (jv12_1 lt hp) hp (by omega) (by omega) e96 e142 ⟨by omega, by omega, by omega⟩ (by omega) (by omega) (by omega) (by omega) e151 e152 e159 e160 F161 e164 (by omega) | (exfalso; omega)) rfl H locs ls hP hD hS (lv_sub hl [0, 1, 2, 3, 4, 5] rfl)
          · have c58 : v57.toInt = 0 := z5 rfl (by decide) c58
            refine lv_aload_n hx hb dX11_workOut_61 rfl (lv_at hl 2 rfl) ?_
            refine va_get (D := (dC, dI)) (ci := 11) (v := .ref rV) (C := RX11) (T := TX11) (N := 41) hx hb hts iX11 hown hK hP 0 rfl rfl 7 (by decide) (hts _ qw1134) (fun _ h9 => h9) rfl dX11_workOut_62 ?_
            refine lv_iload hx hb dX11_workOut_65 (lv_at hl 0 rfl) ?_
            refine va_iald hx hb hK hP 2 0 rfl rfl (vp_in_iff.mpr ⟨by omega, by omega⟩) dX11_workOut_67 ?_
            refine lv_topi (fun v67 e67 => ?_)
            refine lv_goto (tgt := 83) hx hb dX11_workOut_68 (by decide) ?_
            refine va_iast hx hb hK hP hD hS 4 0 rfl rfl (vp_in_iff.mpr ⟨by omega, by omega⟩) dX11_workOut_83 (fun H locs hP9 hD9 hS9 => ?_)
            clear hP hD hS
            obtain ⟨v83_f, e83⟩ : ∃ g : Nat → Int32, g = upd m12_A_rX (m12_L_4).toNatClampNeg v67 := ⟨_, rfl⟩
            rw [← e83] at hP9 hD9
            obtain ⟨hP, hD⟩ := zst (wX := [(h0, .inr (11, [.int th, .ref tB, .int tsz, .int tat, .int wr, .int dp, .ref rC, .ref rV, .ref rD, .ref rK, .ref rT, .ref rS, .ref rU, .int lw, .int tx, .ref rL, .ref rX, .ref qR, .ref qB, .ref qP, .int qnb, .int qnp, .ref aR, .ref aB, .ref aP, .int nb, .int np, .ref aN, .ref rf, .int ho, .int br, .ref aK, .int ac, .long dw, .ref aE, .int sr, .int sf, .ref aA, .ref aH, .ref aI, .int hi])), (rC, .inl (cI, 2600, .inl fC)), (rV, .inl (cI, 2600, .inl fV)), (rL, .inl (cI, 6, .inl fL)), (rX, .inl (cI, 80, .inl v83_f))]) hP9 hD9 rfl
            have hS := hS9
            clear hP9 hD9 hS9
            obtain ⟨v84, e84⟩ : ∃ y : Int32, y = m12_L_4 + Int32.ofInt (1) := ⟨_, rfl⟩
            refine lv_iinc (v := v84) (lv' := [(4, .int v84), (5, .int m12_L_5), (0, .ref h0), (1, .int p0), (2, .int p1), (3, .int p2)]) hx hb dX11_workOut_84 hl (k := 1) rfl e84.symm (by decide) rfl (fun ls hl => ?_)
            have i84 : v84.toInt = m12_L_4.toInt + 1 := zaddI e84 (by decide) (by omega) (by omega)
            refine lv_goto (tgt := 165) hx hb dX11_workOut_87 (by decide) ?_
            obtain ⟨v165, e165⟩ : ∃ y : Int32, y = m12_L_5 + Int32.ofInt (1) := ⟨_, rfl⟩
            refine lv_iinc (v := v165) (lv' := [(5, .int v165), (4, .int v84), (0, .ref h0), (1, .int p0), (2, .int p1), (3, .int p2)]) hx hb dX11_workOut_165 hl (k := 1) rfl e165.symm (by decide) rfl (fun ls hl => ?_)
            have i165 : v165.toInt = m12_L_5.toInt + 1 := zaddI e165 (by decide) (by omega) (by omega)
            refine lv_goto (tgt := 12) hx hb dX11_workOut_168 (by decide) ?_
            exact ih12 _ (by omega) v83_f v84 v165 (by omega) (by omega) (by first | exact (zGo_y jv12_0 (by omega) (by omega) (by omega)).2 (by omega) (by omega) | exact (zGo_n jv12_0 (by omega) (by omega) (by omega)).2 (by omega) (by omega) | exact (zGo_o jv12_0 (by omega) (by omega) (by omega)).2 (by omega) (by omega)) (by omega) (by first | exact fun lt hp => zWkP (jv12_1 lt hp) hp (by omega) (by omega) e57 (by omega) e67 e83 (by omega) (by omega) | exact fun lt hp => zWkL (jv12_1 lt hp) hp (by omega) (by omega) e40 (by omega) e81 e82 e83 (by omega) (by omega) | exact fun lt hp => zWkN (jv12_1 lt hp) hp (by omega) (by omega) e96 (by omega) (by omega) (by omega) (by omega) e119 e120 e121 (by omega) | exact fun lt hp => zWkO (jv12_1 lt hp) hp (by omega) (by omega) e96 e142 ⟨by omega, by omega, by omega⟩ (by omega) (by omega) (by omega) (by omega) e151 e152 e159 e160 F161 e164 (by omega) | (exfalso; omega)) rfl H locs ls hP hD hS (lv_sub hl [0, 1, 2, 3, 4, 5] rfl)
        · have c31 : ¬ v30.toInt = 0 := z6 rfl (by decide) c31
          refine lv_aload_n hx hb dX11_workOut_34 rfl (lv_at hl 2 rfl) ?_
          refine va_get (D := (dC, dI)) (ci := 11) (v := .ref rC) (C := RX11) (T := TX11) (N := 41) hx hb hts iX11 hown hK hP 0 rfl rfl 6 (by decide) (hts _ qw1133) (fun _ h9 => h9) rfl dX11_workOut_35 ?_
          refine lv_iload hx hb dX11_workOut_38 (lv_at hl 0 rfl) ?_
          refine va_iald hx hb hK hP 1 0 rfl rfl (vp_in_iff.mpr ⟨by omega, by omega⟩) dX11_workOut_40 ?_
          refine lv_topi (fun v40 e40 => ?_)
          have i40 : v40.toInt = (fC m12_L_5.toInt.toNat).toInt := zIx e40 (by omega)
          refine lv_iconst (v := 1) hx hb dX11_workOut_41 (by decide) ?_
          refine lv_icmp_ne (tgt := 90) hx hb dX11_workOut_42 (by decide) (fun c42 => ?_) (fun c42 => ?_)
          · have c42 : ¬ v40.toInt = 1 := z6 rfl (by decide) c42
            refine lv_aload_n hx hb dX11_workOut_90 rfl (lv_at hl 2 rfl) ?_
            refine va_get (D := (dC, dI)) (ci := 11) (v := .ref rC) (C := RX11) (T := TX11) (N := 41) hx hb hts iX11 hown hK hP 0 rfl rfl 6 (by decide) (hts _ qw1133) (fun _ h9 => h9) rfl dX11_workOut_91 ?_
            refine lv_iload hx hb dX11_workOut_94 (lv_at hl 0 rfl) ?_
            refine va_iald hx hb hK hP 1 0 rfl rfl (vp_in_iff.mpr ⟨by omega, by omega⟩) dX11_workOut_96 ?_
            refine lv_topi (fun v96 e96 => ?_)
            have i96 : v96.toInt = (fC m12_L_5.toInt.toNat).toInt := zIx e96 (by omega)
            refine lv_bipush (v := 9) hx hb dX11_workOut_97 (by decide) ?_
            refine lv_icmp_ne (tgt := 125) hx hb dX11_workOut_99 (by decide) (fun c99 => ?_) (fun c99 => ?_)
            · have c99 : ¬ v96.toInt = 9 := z6 rfl (by decide) c99
              have q125 : 2 ≤ m12_L_4.toInt := (zGo_o (k' := 0) (t' := 0) jv12_0 (by omega) (by omega) (by omega)).1
              obtain ⟨v125, e125⟩ : ∃ y : Int32, y = m12_L_4 + Int32.ofInt (-1) := ⟨_, rfl⟩
              refine lv_iinc (v := v125) (lv' := [(4, .int v125), (5, .int m12_L_5), (0, .ref h0), (1, .int p0), (2, .int p1), (3, .int p2)]) hx hb dX11_workOut_125 hl (k := 1) rfl e125.symm (by decide) rfl (fun ls hl => ?_)
              have i125 : v125.toInt = m12_L_4.toInt + (-1) := zaddI e125 (by decide) (by omega) (by omega)
              refine lv_aload_n hx hb dX11_workOut_128 rfl (lv_at hl 2 rfl) ?_
              refine va_get (D := (dC, dI)) (ci := 11) (v := .ref rX) (C := RX11) (T := TX11) (N := 41) hx hb hts iX11 hown hK hP 0 rfl rfl 16 (by decide) (hts _ qw1143) (fun _ h9 => h9) rfl dX11_workOut_129 ?_
              refine lv_iload hx hb dX11_workOut_132 (lv_at hl 0 rfl) ?_
              refine lv_iconst (v := 1) hx hb dX11_workOut_134 (by decide) ?_
              refine lv_isub hx hb dX11_workOut_135 ?_
              refine lv_topi (fun v135 e135 => ?_)
              have i135 : v135.toInt = v125.toInt - 1 := zsub e135 rfl (by decide) (by omega) (by omega)
              refine lv_aload_n hx hb dX11_workOut_136 rfl (lv_at hl 2 rfl) ?_
              refine va_get (D := (dC, dI)) (ci := 11) (v := .ref rC) (C := RX11) (T := TX11) (N := 41) hx hb hts iX11 hown hK hP 0 rfl rfl 6 (by decide) (hts _ qw1133) (fun _ h9 => h9) rfl dX11_workOut_137 ?_
              refine lv_iload hx hb dX11_workOut_140 (lv_at hl 1 rfl) ?_
              refine va_iald hx hb hK hP 1 0 rfl rfl (vp_in_iff.mpr ⟨by omega, by omega⟩) dX11_workOut_142 ?_
              refine lv_topi (fun v142 e142 => ?_)
              have i142 : v142.toInt = (fC m12_L_5.toInt.toNat).toInt := zIx e142 (by omega)
              refine lv_aload_n hx hb dX11_workOut_143 rfl (lv_at hl 2 rfl) ?_
              refine va_get (D := (dC, dI)) (ci := 11) (v := .ref rX) (C := RX11) (T := TX11) (N := 41) hx hb hts iX11 hown hK hP 0 rfl rfl 16 (by decide) (hts _ qw1143) (fun _ h9 => h9) rfl dX11_workOut_144 ?_
              refine lv_iload hx hb dX11_workOut_147 (lv_at hl 0 rfl) ?_
              refine lv_iconst (v := 1) hx hb dX11_workOut_149 (by decide) ?_
              refine lv_isub hx hb dX11_workOut_150 ?_
              refine lv_topi (fun v150 e150 => ?_)
              have i150 : v150.toInt = v125.toInt - 1 := zsub e150 rfl (by decide) (by omega) (by omega)
              refine va_iald hx hb hK hP 4 0 rfl rfl (vp_in_iff.mpr ⟨by omega, by omega⟩) dX11_workOut_151 ?_
              refine lv_topi (fun v151 e151 => ?_)
              refine lv_i2l hx hb dX11_workOut_152 rfl ?_
              refine lv_topl (fun v152 e152 => ?_)
              refine lv_aload_n hx hb dX11_workOut_153 rfl (lv_at hl 2 rfl) ?_
              refine va_get (D := (dC, dI)) (ci := 11) (v := .ref rX) (C := RX11) (T := TX11) (N := 41) hx hb hts iX11 hown hK hP 0 rfl rfl 16 (by decide) (hts _ qw1143) (fun _ h9 => h9) rfl dX11_workOut_154 ?_
              refine lv_iload hx hb dX11_workOut_157 (lv_at hl 0 rfl) ?_
              refine va_iald hx hb hK hP 4 0 rfl rfl (vp_in_iff.mpr ⟨by omega, by omega⟩) dX11_workOut_159 ?_
              refine lv_topi (fun v159 e159 => ?_)
              refine lv_i2l hx hb dX11_workOut_160 rfl ?_
              refine lv_topl (fun v160 e160 => ?_)
              have hPc : va_P (dC, dI) vwCl [] H := zP0
              have hDc : va_D (fun _ => True) [] := zD0
              have hFc := zfr hS hA
              refine va_calli (va_runS (As := [.int v142, .long v152, .long v160]) (rest := [.int v135, .ref rX]) ⟨hx, hb, hml, hown, hts⟩ (g_X11_worked l dC dI cI cJ v142 v152 v160 H.size) (cwS 3 hts (zgS qw1454 qw1455 qw108 qw1456) rfl rfl rfl hd_X11_worked ⟨by rw [hR]; exact Nat.le_of_ble_eq_true rfl, by rw [hR]; exact Nat.le_of_ble_eq_true rfl⟩) (zPS hPc hK hDc) rfl rfl hl.1 rfl (lv_room (Nat.le_of_ble_eq_true rfl)) dX11_workOut_161 ⟨Nat.zero_le _, Nat.zero_le _⟩) hS (fun q _ h => hFc q h) hFc (fun v161 u161 t H locs ht hvm hw hB hz1 hk1 hS9 => ?_)
              replace hP := zkeep hP hk1
              replace hS := hS9
              clear hPc hDc hFc hk1 hz1 hvm hS9
              have f161_0 : (zI32 v152.toInt → zI32 v160.toInt → v161 = zJq v142.toInt v152.toInt v160.toInt) := hw
              have F161 := f161_0
              refine va_iast hx hb hK hP hD hS 4 0 rfl rfl (vp_in_iff.mpr ⟨by omega, by omega⟩) dX11_workOut_164 (fun H locs hP9 hD9 hS9 => ?_)
              clear hP hD hS
              obtain ⟨v164_f, e164⟩ : ∃ g : Nat → Int32, g = upd m12_A_rX (v135).toNatClampNeg v161 := ⟨_, rfl⟩
              rw [← e164] at hP9 hD9
              obtain ⟨hP, hD⟩ := zst (wX := [(h0, .inr (11, [.int th, .ref tB, .int tsz, .int tat, .int wr, .int dp, .ref rC, .ref rV, .ref rD, .ref rK, .ref rT, .ref rS, .ref rU, .int lw, .int tx, .ref rL, .ref rX, .ref qR, .ref qB, .ref qP, .int qnb, .int qnp, .ref aR, .ref aB, .ref aP, .int nb, .int np, .ref aN, .ref rf, .int ho, .int br, .ref aK, .int ac, .long dw, .ref aE, .int sr, .int sf, .ref aA, .ref aH, .ref aI, .int hi])), (rC, .inl (cI, 2600, .inl fC)), (rV, .inl (cI, 2600, .inl fV)), (rL, .inl (cI, 6, .inl fL)), (rX, .inl (cI, 80, .inl v164_f))]) hP9 hD9 rfl
              have hS := hS9
              clear hP9 hD9 hS9
              obtain ⟨v165, e165⟩ : ∃ y : Int32, y = m12_L_5 + Int32.ofInt (1) := ⟨_, rfl⟩
              refine lv_iinc (v := v165) (lv' := [(5, .int v165), (4, .int v125), (0, .ref h0), (1, .int p0), (2, .int p1), (3, .int p2)]) hx hb dX11_workOut_165 hl (k := 1) rfl e165.symm (by decide) rfl (fun ls hl => ?_)
              have i165 : v165.toInt = m12_L_5.toInt + 1 := zaddI e165 (by decide) (by omega) (by omega)
              refine lv_goto (tgt := 12) hx hb dX11_workOut_168 (by decide) ?_
              exact ih12 _ (by omega) v164_f v125 v165 (by omega) (by omega) (by first | exact (zGo_y jv12_0 (by omega) (by omega) (by omega)).2 (by omega) (by omega) | exact (zGo_n jv12_0 (by omega) (by omega) (by omega)).2 (by omega) (by omega) | exact (zGo_o jv12_0 (by omega) (by omega) (by omega)).2 (by omega) (by omega)) (by omega) (by first | exact fun lt hp => zWkP (jv12_1 lt hp) hp (by omega) (by omega) e57 (by omega) e67 e83 (by omega) (by omega) | exact fun lt hp => zWkL (jv12_1 lt hp) hp (by omega) (by omega) e40 (by omega) e81 e82 e83 (by omega) (by omega) | exact fun lt hp => zWkN (jv12_1 lt hp) hp (by omega) (by omega) e96 (by omega) (by omega) (by omega) (by omega) e119 e120 e121 (by omega) | exact fun lt hp => zWkO (jv12_1 lt hp) hp (by omega) (by omega) e96 e142 ⟨by omega, by omega, by omega⟩ (by omega) (by omega) (by omega) (by omega) e151 e152 e159 e160 F161 e164 (by omega) | (exfalso; omega)) rfl H locs ls hP hD hS (lv_sub hl [0, 1, 2, 3, 4, 5] rfl)
            · have c99 : v96.toInt = 9 := z5 rfl (by decide) c99
              have q102 : 1 ≤ m12_L_4.toInt := (zGo_n (k' := 0) (t' := 0) jv12_0 (by omega) (by omega) (by omega)).1
              refine lv_aload_n hx hb dX11_workOut_102 rfl (lv_at hl 2 rfl) ?_
              refine va_get (D := (dC, dI)) (ci := 11) (v := .ref rX) (C := RX11) (T := TX11) (N := 41) hx hb hts iX11 hown hK hP 0 rfl rfl 16 (by decide) (hts _ qw1143) (fun _ h9 => h9) rfl dX11_workOut_103 ?_
              refine lv_iload hx hb dX11_workOut_106 (lv_at hl 1 rfl) ?_
              refine lv_iconst (v := 1) hx hb dX11_workOut_108 (by decide) ?_
              refine lv_isub hx hb dX11_workOut_109 ?_
              refine lv_topi (fun v109 e109 => ?_)
              have i109 : v109.toInt = m12_L_4.toInt - 1 := zsub e109 rfl (by decide) (by omega) (by omega)
              refine lv_iconst (v := 1) hx hb dX11_workOut_110 (by decide) ?_
              refine lv_aload_n hx hb dX11_workOut_111 rfl (lv_at hl 2 rfl) ?_
              refine va_get (D := (dC, dI)) (ci := 11) (v := .ref rX) (C := RX11) (T := TX11) (N := 41) hx hb hts iX11 hown hK hP 0 rfl rfl 16 (by decide) (hts _ qw1143) (fun _ h9 => h9) rfl dX11_workOut_112 ?_
              refine lv_iload hx hb dX11_workOut_115 (lv_at hl 1 rfl) ?_
              refine lv_iconst (v := 1) hx hb dX11_workOut_117 (by decide) ?_
              refine lv_isub hx hb dX11_workOut_118 ?_
              refine lv_topi (fun v118 e118 => ?_)
              have i118 : v118.toInt = m12_L_4.toInt - 1 := zsub e118 rfl (by decide) (by omega) (by omega)
              refine va_iald hx hb hK hP 4 0 rfl rfl (vp_in_iff.mpr ⟨by omega, by omega⟩) dX11_workOut_119 ?_
              refine lv_topi (fun v119 e119 => ?_)
              refine lv_isub hx hb dX11_workOut_120 ?_
              refine lv_topi (fun v120 e120 => ?_)
              refine va_iast hx hb hK hP hD hS 4 0 rfl rfl (vp_in_iff.mpr ⟨by omega, by omega⟩) dX11_workOut_121 (fun H locs hP9 hD9 hS9 => ?_)
              clear hP hD hS
              obtain ⟨v121_f, e121⟩ : ∃ g : Nat → Int32, g = upd m12_A_rX (v109).toNatClampNeg v120 := ⟨_, rfl⟩
              rw [← e121] at hP9 hD9
              obtain ⟨hP, hD⟩ := zst (wX := [(h0, .inr (11, [.int th, .ref tB, .int tsz, .int tat, .int wr, .int dp, .ref rC, .ref rV, .ref rD, .ref rK, .ref rT, .ref rS, .ref rU, .int lw, .int tx, .ref rL, .ref rX, .ref qR, .ref qB, .ref qP, .int qnb, .int qnp, .ref aR, .ref aB, .ref aP, .int nb, .int np, .ref aN, .ref rf, .int ho, .int br, .ref aK, .int ac, .long dw, .ref aE, .int sr, .int sf, .ref aA, .ref aH, .ref aI, .int hi])), (rC, .inl (cI, 2600, .inl fC)), (rV, .inl (cI, 2600, .inl fV)), (rL, .inl (cI, 6, .inl fL)), (rX, .inl (cI, 80, .inl v121_f))]) hP9 hD9 rfl
              have hS := hS9
              clear hP9 hD9 hS9
              refine lv_goto (tgt := 165) hx hb dX11_workOut_122 (by decide) ?_
              obtain ⟨v165, e165⟩ : ∃ y : Int32, y = m12_L_5 + Int32.ofInt (1) := ⟨_, rfl⟩
              refine lv_iinc (v := v165) (lv' := [(5, .int v165), (4, .int m12_L_4), (0, .ref h0), (1, .int p0), (2, .int p1), (3, .int p2)]) hx hb dX11_workOut_165 hl (k := 0) rfl e165.symm (by decide) rfl (fun ls hl => ?_)
              have i165 : v165.toInt = m12_L_5.toInt + 1 := zaddI e165 (by decide) (by omega) (by omega)
              refine lv_goto (tgt := 12) hx hb dX11_workOut_168 (by decide) ?_
              exact ih12 _ (by omega) v121_f m12_L_4 v165 jf12_0 (by omega) (by first | exact (zGo_y jv12_0 (by omega) (by omega) (by omega)).2 (by omega) (by omega) | exact (zGo_n jv12_0 (by omega) (by omega) (by omega)).2 (by omega) (by omega) | exact (zGo_o jv12_0 (by omega) (by omega) (by omega)).2 (by omega) (by omega)) (by omega) (by first | exact fun lt hp => zWkP (jv12_1 lt hp) hp (by omega) (by omega) e57 (by omega) e67 e83 (by omega) (by omega) | exact fun lt hp => zWkL (jv12_1 lt hp) hp (by omega) (by omega) e40 (by omega) e81 e82 e83 (by omega) (by omega) | exact fun lt hp => zWkN (jv12_1 lt hp) hp (by omega) (by omega) e96 (by omega) (by omega) (by omega) (by omega) e119 e120 e121 (by omega) | exact fun lt hp => zWkO (jv12_1 lt hp) hp (by omega) (by omega) e96 e142 ⟨by omega, by omega, by omega⟩ (by omega) (by omega) (by omega) (by omega) e151 e152 e159 e160 F161 e164 (by omega) | (exfalso; omega)) rfl H locs ls hP hD hS (lv_sub hl [0, 1, 2, 3, 4, 5] rfl)
          · have c42 : v40.toInt = 1 := z5 rfl (by decide) c42
            have q45 : m12_L_4.toInt ≤ 79 := (zGo_y (k' := 0) (t' := 0) jv12_0 (by omega) (by omega) (by omega)).1
            refine lv_aload_n hx hb dX11_workOut_45 rfl (lv_at hl 2 rfl) ?_
            refine va_get (D := (dC, dI)) (ci := 11) (v := .ref rX) (C := RX11) (T := TX11) (N := 41) hx hb hts iX11 hown hK hP 0 rfl rfl 16 (by decide) (hts _ qw1143) (fun _ h9 => h9) rfl dX11_workOut_46 ?_
            refine lv_iload hx hb dX11_workOut_49 (lv_at hl 1 rfl) ?_
            refine lv_aload_n hx hb dX11_workOut_51 rfl (lv_at hl 2 rfl) ?_
            refine va_get (D := (dC, dI)) (ci := 11) (v := .ref rC) (C := RX11) (T := TX11) (N := 41) hx hb hts iX11 hown hK hP 0 rfl rfl 6 (by decide) (hts _ qw1133) (fun _ h9 => h9) rfl dX11_workOut_52 ?_
            refine lv_iload hx hb dX11_workOut_55 (lv_at hl 0 rfl) ?_
            refine va_iald hx hb hK hP 1 0 rfl rfl (vp_in_iff.mpr ⟨by omega, by omega⟩) dX11_workOut_57 ?_
            refine lv_topi (fun v57 e57 => ?_)
            have i57 : v57.toInt = (fC m12_L_5.toInt.toNat).toInt := zIx e57 (by omega)
            refine lv_if_ne (tgt := 71) hx hb dX11_workOut_58 (by decide) (fun c58 => ?_) (fun c58 => ?_)
            · have c58 : ¬ v57.toInt = 0 := z6 rfl (by decide) c58
              refine lv_aload_n hx hb dX11_workOut_71 rfl (lv_at hl 2 rfl) ?_
              refine va_get (D := (dC, dI)) (ci := 11) (v := .ref rL) (C := RX11) (T := TX11) (N := 41) hx hb hts iX11 hown hK hP 0 rfl rfl 15 (by decide) (hts _ qw1142) (fun _ h9 => h9) rfl dX11_workOut_72 ?_
              refine lv_aload_n hx hb dX11_workOut_75 rfl (lv_at hl 2 rfl) ?_
              refine va_get (D := (dC, dI)) (ci := 11) (v := .ref rV) (C := RX11) (T := TX11) (N := 41) hx hb hts iX11 hown hK hP 0 rfl rfl 7 (by decide) (hts _ qw1134) (fun _ h9 => h9) rfl dX11_workOut_76 ?_
              refine lv_iload hx hb dX11_workOut_79 (lv_at hl 0 rfl) ?_
              refine va_iald hx hb hK hP 2 0 rfl rfl (vp_in_iff.mpr ⟨by omega, by omega⟩) dX11_workOut_81 ?_
              refine lv_topi (fun v81 e81 => ?_)
              have i81 : 0 ≤ v81.toInt ∧ v81.toInt ≤ 5 := zLt_g hok e81 (by omega) (by omega) (by omega) (by omega)
              refine va_iald hx hb hK hP 3 0 rfl rfl (vp_in_iff.mpr ⟨by omega, by omega⟩) dX11_workOut_82 ?_
              refine lv_topi (fun v82 e82 => ?_)
              refine va_iast hx hb hK hP hD hS 4 0 rfl rfl (vp_in_iff.mpr ⟨by omega, by omega⟩) dX11_workOut_83 (fun H locs hP9 hD9 hS9 => ?_)
              clear hP hD hS
              obtain ⟨v83_f, e83⟩ : ∃ g : Nat → Int32, g = upd m12_A_rX (m12_L_4).toNatClampNeg v82 := ⟨_, rfl⟩
              rw [← e83] at hP9 hD9
              obtain ⟨hP, hD⟩ := zst (wX := [(h0, .inr (11, [.int th, .ref tB, .int tsz, .int tat, .int wr, .int dp, .ref rC, .ref rV, .ref rD, .ref rK, .ref rT, .ref rS, .ref rU, .int lw, .int tx, .ref rL, .ref rX, .ref qR, .ref qB, .ref qP, .int qnb, .int qnp, .ref aR, .ref aB, .ref aP, .int nb, .int np, .ref aN, .ref rf, .int ho, .int br, .ref aK, .int ac, .long dw, .ref aE, .int sr, .int sf, .ref aA, .ref aH, .ref aI, .int hi])), (rC, .inl (cI, 2600, .inl fC)), (rV, .inl (cI, 2600, .inl fV)), (rL, .inl (cI, 6, .inl fL)), (rX, .inl (cI, 80, .inl v83_f))]) hP9 hD9 rfl
              have hS := hS9
              clear hP9 hD9 hS9
              obtain ⟨v84, e84⟩ : ∃ y : Int32, y = m12_L_4 + Int32.ofInt (1) := ⟨_, rfl⟩
              refine lv_iinc (v := v84) (lv' := [(4, .int v84), (5, .int m12_L_5), (0, .ref h0), (1, .int p0), (2, .int p1), (3, .int p2)]) hx hb dX11_workOut_84 hl (k := 1) rfl e84.symm (by decide) rfl (fun ls hl => ?_)
              have i84 : v84.toInt = m12_L_4.toInt + 1 := zaddI e84 (by decide) (by omega) (by omega)
              refine lv_goto (tgt := 165) hx hb dX11_workOut_87 (by decide) ?_
              obtain ⟨v165, e165⟩ : ∃ y : Int32, y = m12_L_5 + Int32.ofInt (1) := ⟨_, rfl⟩
              refine lv_iinc (v := v165) (lv' := [(5, .int v165), (4, .int v84), (0, .ref h0), (1, .int p0), (2, .int p1), (3, .int p2)]) hx hb dX11_workOut_165 hl (k := 1) rfl e165.symm (by decide) rfl (fun ls hl => ?_)
              have i165 : v165.toInt = m12_L_5.toInt + 1 := zaddI e165 (by decide) (by omega) (by omega)
              refine lv_goto (tgt := 12) hx hb dX11_workOut_168 (by decide) ?_
              exact ih12 _ (by omega) v83_f v84 v165 (by omega) (by omega) (by first | exact (zGo_y jv12_0 (by omega) (by omega) (by omega)).2 (by omega) (by omega) | exact (zGo_n jv12_0 (by omega) (by omega) (by omega)).2 (by omega) (by omega) | exact (zGo_o jv12_0 (by omega) (by omega) (by omega)).2 (by omega) (by omega)) (by omega) (by first | exact fun lt hp => zWkP (jv12_1 lt hp) hp (by omega) (by omega) e57 (by omega) e67 e83 (by omega) (by omega) | exact fun lt hp => zWkL (jv12_1 lt hp) hp (by omega) (by omega) e40 (by omega) e81 e82 e83 (by omega) (by omega) | exact fun lt hp => zWkN (jv12_1 lt hp) hp (by omega) (by omega) e96 (by omega) (by omega) (by omega) (by omega) e119 e120 e121 (by omega) | exact fun lt hp => zWkO (jv12_1 lt hp) hp (by omega) (by omega) e96 e142 ⟨by omega, by omega, by omega⟩ (by omega) (by omega) (by omega) (by omega) e151 e152 e159 e160 F161 e164 (by omega) | (exfalso; omega)) rfl H locs ls hP hD hS (lv_sub hl [0, 1, 2, 3, 4, 5] rfl)
            · have c58 : v57.toInt = 0 := z5 rfl (by decide) c58
              refine lv_aload_n hx hb dX11_workOut_61 rfl (lv_at hl 2 rfl) ?_
              refine va_get (D := (dC, dI)) (ci := 11) (v := .ref rV) (C := RX11) (T := TX11) (N := 41) hx hb hts iX11 hown hK hP 0 rfl rfl 7 (by decide) (hts _ qw1134) (fun _ h9 => h9) rfl dX11_workOut_62 ?_
              refine lv_iload hx hb dX11_workOut_65 (lv_at hl 0 rfl) ?_
              refine va_iald hx hb hK hP 2 0 rfl rfl (vp_in_iff.mpr ⟨by omega, by omega⟩) dX11_workOut_67 ?_
              refine lv_topi (fun v67 e67 => ?_)
              refine lv_goto (tgt := 83) hx hb dX11_workOut_68 (by decide) ?_
              refine va_iast hx hb hK hP hD hS 4 0 rfl rfl (vp_in_iff.mpr ⟨by omega, by omega⟩) dX11_workOut_83 (fun H locs hP9 hD9 hS9 => ?_)
              clear hP hD hS
              obtain ⟨v83_f, e83⟩ : ∃ g : Nat → Int32, g = upd m12_A_rX (m12_L_4).toNatClampNeg v67 := ⟨_, rfl⟩
              rw [← e83] at hP9 hD9
              obtain ⟨hP, hD⟩ := zst (wX := [(h0, .inr (11, [.int th, .ref tB, .int tsz, .int tat, .int wr, .int dp, .ref rC, .ref rV, .ref rD, .ref rK, .ref rT, .ref rS, .ref rU, .int lw, .int tx, .ref rL, .ref rX, .ref qR, .ref qB, .ref qP, .int qnb, .int qnp, .ref aR, .ref aB, .ref aP, .int nb, .int np, .ref aN, .ref rf, .int ho, .int br, .ref aK, .int ac, .long dw, .ref aE, .int sr, .int sf, .ref aA, .ref aH, .ref aI, .int hi])), (rC, .inl (cI, 2600, .inl fC)), (rV, .inl (cI, 2600, .inl fV)), (rL, .inl (cI, 6, .inl fL)), (rX, .inl (cI, 80, .inl v83_f))]) hP9 hD9 rfl
              have hS := hS9
              clear hP9 hD9 hS9
              obtain ⟨v84, e84⟩ : ∃ y : Int32, y = m12_L_4 + Int32.ofInt (1) := ⟨_, rfl⟩
              refine lv_iinc (v := v84) (lv' := [(4, .int v84), (5, .int m12_L_5), (0, .ref h0), (1, .int p0), (2, .int p1), (3, .int p2)]) hx hb dX11_workOut_84 hl (k := 1) rfl e84.symm (by decide) rfl (fun ls hl => ?_)
              have i84 : v84.toInt = m12_L_4.toInt + 1 := zaddI e84 (by decide) (by omega) (by omega)
              refine lv_goto (tgt := 165) hx hb dX11_workOut_87 (by decide) ?_
              obtain ⟨v165, e165⟩ : ∃ y : Int32, y = m12_L_5 + Int32.ofInt (1) := ⟨_, rfl⟩
              refine lv_iinc (v := v165) (lv' := [(5, .int v165), (4, .int v84), (0, .ref h0), (1, .int p0), (2, .int p1), (3, .int p2)]) hx hb dX11_workOut_165 hl (k := 1) rfl e165.symm (by decide) rfl (fun ls hl => ?_)
              have i165 : v165.toInt = m12_L_5.toInt + 1 := zaddI e165 (by decide) (by omega) (by omega)
              refine lv_goto (tgt := 12) hx hb dX11_workOut_168 (by decide) ?_
              exact ih12 _ (by omega) v83_f v84 v165 (by omega) (by omega) (by first | exact (zGo_y jv12_0 (by omega) (by omega) (by omega)).2 (by omega) (by omega) | exact (zGo_n jv12_0 (by omega) (by omega) (by omega)).2 (by omega) (by omega) | exact (zGo_o jv12_0 (by omega) (by omega) (by omega)).2 (by omega) (by omega)) (by omega) (by first | exact fun lt hp => zWkP (jv12_1 lt hp) hp (by omega) (by omega) e57 (by omega) e67 e83 (by omega) (by omega) | exact fun lt hp => zWkL (jv12_1 lt hp) hp (by omega) (by omega) e40 (by omega) e81 e82 e83 (by omega) (by omega) | exact fun lt hp => zWkN (jv12_1 lt hp) hp (by omega) (by omega) e96 (by omega) (by omega) (by omega) (by omega) e119 e120 e121 (by omega) | exact fun lt hp => zWkO (jv12_1 lt hp) hp (by omega) (by omega) e96 e142 ⟨by omega, by omega, by omega⟩ (by omega) (by omega) (by omega) (by omega) e151 e152 e159 e160 F161 e164 (by omega) | (exfalso; omega)) rfl H locs ls hP hD hS (lv_sub hl [0, 1, 2, 3, 4, 5] rfl)
  refine lv_istore (lv' := [(5, .int v9), (4, .int 0), (0, .ref h0), (1, .int p0), (2, .int p1), (3, .int p2)]) hx hb dX11_workOut_10 hl (by decide) rfl (fun ls hl => ?_)
  have zj12_m12_L_4 : (0 : Int32).toInt = 0 := by decide
  exact J12 _ fX 0 v9 (by decide) (by omega) (zGo_eq hok.1 (by omega) rfl (by decide)) (by omega) (fun lt hp => zWk0 (by omega)) rfl H locs ls hP hD hS (lv_sub hl [0, 1, 2, 3, 4, 5] rfl)
set_option maxHeartbeats 4000000 in
set_option maxRecDepth 100000 in
theorem g_X11_worthOf (l : Launch) (dC : Nat → ClassId) (dI : Nat → Nat → Nat) (cI cJ : ClassId) (h0 : Nat) (p0 : Int32) (th : Int32) (tB : Nat) (tsz : Int32) (tat : Int32) (wr : Int32) (dp : Int32) (rC : Nat) (rV : Nat) (rD : Nat) (rK : Nat) (rT : Nat) (rS : Nat) (rU : Nat) (lw : Int32) (tx : Int32) (rL : Nat) (rX : Nat) (qR : Nat) (qB : Nat) (qP : Nat) (qnb : Int32) (qnp : Int32) (aR : Nat) (aB : Nat) (aP : Nat) (nb : Int32) (np : Int32) (aN : Nat) (rf : Nat) (ho : Int32) (br : Int32) (aK : Nat) (ac : Int32) (dw : Int64) (aE : Nat) (sr : Int32) (sf : Int32) (aA : Nat) (aH : Nat) (aI : Nat) (hi : Int32) (fC : Nat → Int32) (fV : Nat → Int32) (fK : Nat → Int32) (fT : Nat → Int32) (fS : Nat → Int32) (fU : Nat → Int32) (fL : Nat → Int32) (fX : Nat → Int32) (sz : Nat) (n_ac : 0 ≤ ac.toInt ∧ ac.toInt ≤ 40) (n_hi : 0 ≤ hi.toInt ∧ hi.toInt ≤ 1) (n_ho : (-1) ≤ ho.toInt ∧ ho.toInt ≤ 3) (n_lw : 0 ≤ lw.toInt ∧ lw.toInt ≤ 4) (n_nb : 0 ≤ nb.toInt ∧ nb.toInt ≤ 6) (n_np : 0 ≤ np.toInt ∧ np.toInt ≤ 5) (n_p0 : 0 ≤ p0.toInt ∧ p0.toInt ≤ 3) (n_qnb : 0 ≤ qnb.toInt ∧ qnb.toInt ≤ 6) (n_qnp : 0 ≤ qnp.toInt ∧ qnp.toInt ≤ 5) (n_tat : 0 ≤ tat.toInt ∧ tat.toInt ≤ 260) (n_tsz : 0 ≤ tsz.toInt ∧ tsz.toInt ≤ 240) (n_wr : (-1) ≤ wr.toInt ∧ wr.toInt ≤ 260) (hlw : zLw p0.toInt.toNat fC fV fK fT fS fU)   : Met l yX11_worthOf (.code yX11_worthOf cX11_worthOf 3 (some .int) :: wA) ({ frames := 4, cells := 0, slots := 0, locals := 100 }) (zP (dC, dI) [(cI, .int), (cJ, .long)] [.ref h0, .int p0] sz [(h0, .inr (11, [.int th, .ref tB, .int tsz, .int tat, .int wr, .int dp, .ref rC, .ref rV, .ref rD, .ref rK, .ref rT, .ref rS, .ref rU, .int lw, .int tx, .ref rL, .ref rX, .ref qR, .ref qB, .ref qP, .int qnb, .int qnp, .ref aR, .ref aB, .ref aP, .int nb, .int np, .ref aN, .ref rf, .int ho, .int br, .ref aK, .int ac, .long dw, .ref aE, .int sr, .int sf, .ref aA, .ref aH, .ref aI, .int hi])), (rC, .inl (cI, 2600, .inl fC)), (rV, .inl (cI, 2600, .inl fV)), (rK, .inl (cI, 5, .inl fK)), (rT, .inl (cI, 700, .inl fT)), (rS, .inl (cI, 700, .inl fS)), (rU, .inl (cI, 700, .inl fU)), (rL, .inl (cI, 6, .inl fL)), (rX, .inl (cI, 80, .inl fX))]) (va_Qi (fun (r : Int32) (u : (Nat → Int32)) => (∀ (g : Int → Int) (n : Int), zLR g n fC fV fK fT fS fU p0.toInt.toNat → (∀ i : Nat, i < 6 → zB6 (fL i)) → r = rWo fL g n (eCs g n))) (fun (u : (Nat → Int32)) (t : State) => va_P (dC, dI) vwCl [(h0, .inr (11, [.int th, .ref tB, .int tsz, .int tat, .int wr, .int dp, .ref rC, .ref rV, .ref rD, .ref rK, .ref rT, .ref rS, .ref rU, .int lw, .int tx, .ref rL, .ref rX, .ref qR, .ref qB, .ref qP, .int qnb, .int qnp, .ref aR, .ref aB, .ref aP, .int nb, .int np, .ref aN, .ref rf, .int ho, .int br, .ref aK, .int ac, .long dw, .ref aE, .int sr, .int sf, .ref aA, .ref aH, .ref aI, .int hi])), (rC, .inl (cI, 2600, .inl fC)), (rV, .inl (cI, 2600, .inl fV)), (rK, .inl (cI, 5, .inl fK)), (rT, .inl (cI, 700, .inl fT)), (rS, .inl (cI, 700, .inl fS)), (rU, .inl (cI, 700, .inl fU)), (rL, .inl (cI, 6, .inl fL)), (rX, .inl (cI, 80, .inl u))] t.heap ∧ va_D (va_A [(h0, .inr (11, [.int th, .ref tB, .int tsz, .int tat, .int wr, .int dp, .ref rC, .ref rV, .ref rD, .ref rK, .ref rT, .ref rS, .ref rU, .int lw, .int tx, .ref rL, .ref rX, .ref qR, .ref qB, .ref qP, .int qnb, .int qnp, .ref aR, .ref aB, .ref aP, .int nb, .int np, .ref aN, .ref rf, .int ho, .int br, .ref aK, .int ac, .long dw, .ref aE, .int sr, .int sf, .ref aA, .ref aH, .ref aI, .int hi])), (rC, .inl (cI, 2600, .inl fC)), (rV, .inl (cI, 2600, .inl fV)), (rK, .inl (cI, 5, .inl fK)), (rT, .inl (cI, 700, .inl fT)), (rS, .inl (cI, 700, .inl fS)), (rU, .inl (cI, 700, .inl fU)), (rL, .inl (cI, 6, .inl fL)), (rX, .inl (cI, 80, .inl fX))] sz) [(h0, .inr (11, [.int th, .ref tB, .int tsz, .int tat, .int wr, .int dp, .ref rC, .ref rV, .ref rD, .ref rK, .ref rT, .ref rS, .ref rU, .int lw, .int tx, .ref rL, .ref rX, .ref qR, .ref qB, .ref qP, .int qnb, .int qnp, .ref aR, .ref aB, .ref aP, .int nb, .int np, .ref aN, .ref rf, .int ho, .int br, .ref aK, .int ac, .long dw, .ref aE, .int sr, .int sf, .ref aA, .ref aH, .ref aI, .int hi])), (rC, .inl (cI, 2600, .inl fC)), (rV, .inl (cI, 2600, .inl fV)), (rK, .inl (cI, 5, .inl fK)), (rT, .inl (cI, 700, .inl fT)), (rS, .inl (cI, 700, .inl fS)), (rU, .inl (cI, 700, .inl fU)), (rL, .inl (cI, 6, .inl fL)), (rX, .inl (cI, 80, .inl u))]) (va_A [(h0, .inr (11, [.int th, .ref tB, .int tsz, .int tat, .int wr, .int dp, .ref rC, .ref rV, .ref rD, .ref rK, .ref rT, .ref rS, .ref rU, .int lw, .int tx, .ref rL, .ref rX, .ref qR, .ref qB, .ref qP, .int qnb, .int qnp, .ref aR, .ref aB, .ref aP, .int nb, .int np, .ref aN, .ref rf, .int ho, .int br, .ref aK, .int ac, .long dw, .ref aE, .int sr, .int sf, .ref aA, .ref aH, .ref aI, .int hi])), (rC, .inl (cI, 2600, .inl fC)), (rV, .inl (cI, 2600, .inl fV)), (rK, .inl (cI, 5, .inl fK)), (rT, .inl (cI, 700, .inl fT)), (rS, .inl (cI, 700, .inl fS)), (rU, .inl (cI, 700, .inl fU)), (rL, .inl (cI, 6, .inl fL)), (rX, .inl (cI, 80, .inl fX))] sz)) 0 0 (va_A [(h0, .inr (11, [.int th, .ref tB, .int tsz, .int tat, .int wr, .int dp, .ref rC, .ref rV, .ref rD, .ref rK, .ref rT, .ref rS, .ref rU, .int lw, .int tx, .ref rL, .ref rX, .ref qR, .ref qB, .ref qP, .int qnb, .int qnp, .ref aR, .ref aB, .ref aP, .int nb, .int np, .ref aN, .ref rf, .int ho, .int br, .ref aK, .int ac, .long dw, .ref aE, .int sr, .int sf, .ref aA, .ref aH, .ref aI, .int hi])), (rC, .inl (cI, 2600, .inl fC)), (rV, .inl (cI, 2600, .inl fV)), (rK, .inl (cI, 5, .inl fK)), (rT, .inl (cI, 700, .inl fT)), (rS, .inl (cI, 700, .inl fS)), (rU, .inl (cI, 700, .inl fU)), (rL, .inl (cI, 6, .inl fL)), (rX, .inl (cI, 80, .inl fX))] sz) := by
  refine Met.ofW (cc := cX11_worthOf) (maxL := 3) (ret := (some .int)) (by decide) rfl ?_
  intro p e s m args below meth c s₁ B hml hv
  have y_ac : zHid (0 ≤ ac.toInt ∧ ac.toInt ≤ 40) := n_ac
  have y_hi : zHid (0 ≤ hi.toInt ∧ hi.toInt ≤ 1) := n_hi
  have y_ho : zHid ((-1) ≤ ho.toInt ∧ ho.toInt ≤ 3) := n_ho
  have y_lw : zHid (0 ≤ lw.toInt ∧ lw.toInt ≤ 4) := n_lw
  have y_nb : zHid (0 ≤ nb.toInt ∧ nb.toInt ≤ 6) := n_nb
  have y_np : zHid (0 ≤ np.toInt ∧ np.toInt ≤ 5) := n_np
  have y_qnb : zHid (0 ≤ qnb.toInt ∧ qnb.toInt ≤ 6) := n_qnb
  have y_qnp : zHid (0 ≤ qnp.toInt ∧ qnp.toInt ≤ 5) := n_qnp
  have y_tat : zHid (0 ≤ tat.toInt ∧ tat.toInt ≤ 260) := n_tat
  have y_tsz : zHid (0 ≤ tsz.toInt ∧ tsz.toInt ≤ 240) := n_tsz
  have y_wr : zHid ((-1) ≤ wr.toInt ∧ wr.toInt ≤ 260) := n_wr
  clear n_ac n_hi n_ho n_lw n_nb n_np n_qnb n_qnp n_tat n_tsz n_wr
  obtain ⟨hargs, hsz, hP, hK, hT⟩ := hv
  have hx := B.exec
  have hb := B.bytes
  have hr := B.returns
  have hts : ∀ w ∈ wA, w.before args s = true := fun w h => atoms_spec (ws := .code yX11_worthOf cX11_worthOf 3 (some .int) :: wA) B.pre w (List.mem_cons_of_mem _ h)
  have hown : s.vm.findClass RX11 = some m.cls := findClass_of_methodNamed B.named
  have hlocks := B.notSynchronized
  subst hsz
  have hD := hT.self (sz := s.heap.size)
  generalize hAe : va_A [(h0, .inr (11, [.int th, .ref tB, .int tsz, .int tat, .int wr, .int dp, .ref rC, .ref rV, .ref rD, .ref rK, .ref rT, .ref rS, .ref rU, .int lw, .int tx, .ref rL, .ref rX, .ref qR, .ref qB, .ref qP, .int qnb, .int qnp, .ref aR, .ref aB, .ref aP, .int nb, .int np, .ref aN, .ref rf, .int ho, .int br, .ref aK, .int ac, .long dw, .ref aE, .int sr, .int sf, .ref aA, .ref aH, .ref aI, .int hi])), (rC, .inl (cI, 2600, .inl fC)), (rV, .inl (cI, 2600, .inl fV)), (rK, .inl (cI, 5, .inl fK)), (rT, .inl (cI, 700, .inl fT)), (rS, .inl (cI, 700, .inl fS)), (rU, .inl (cI, 700, .inl fU)), (rL, .inl (cI, 6, .inl fL)), (rX, .inl (cI, 80, .inl fX))] s.heap.size = A at hD ⊢
  have hA : ∀ q : Nat, s.heap.size ≤ q → A q := fun q h => by rw [← hAe]; exact Or.inr h
  have hl := lv_entry ([.ref h0, .int p0]) (n := 3) (Nat.le_of_ble_eq_true rfl)
  rw [show entryFrame m args 3 = entryFrame m ([.ref h0, .int p0] : List Value).toArray 3 by rw [hargs], lg_entry_eq]
  generalize (lg_sl ([.ref h0, .int p0]) ++ List.replicate (3 - (lg_sl ([.ref h0, .int p0])).length) Slot.unset).toArray = ls at hl ⊢
  have hl : lv_has ls 3 [(0, .ref h0), (1, .int p0)] := hl
  refine zstart (fun H hH => ?_)
  rw [← hH] at hP
  have hS : va_S A s.heap H [] := by rw [hH]; exact va_S.rf
  generalize ([] : List Loc) = locs at hS ⊢
  refine zgen (fun R Q hR hQ => ?_)
  refine lv_sipush (v := 140) hx hb dX11_worthOf_0 (by decide) ?_
  refine lv_iload_n hx hb dX11_worthOf_3 rfl (lv_at hl 1 rfl) ?_
  refine lv_imul hx hb dX11_worthOf_4 ?_
  refine lv_topi (fun v4 e4 => ?_)
  have i4 : v4.toInt = 140 * p0.toInt := zmul e4 (by decide) rfl (by omega) (by omega)
  have J6 : ∀ (n : Nat) (m6_A_rX : Nat → Int32) (m6_L_2 : Int32), (0 ≤ m6_L_2.toInt ∧ m6_L_2.toInt ≤ 680) → (140 * p0.toInt ≤ m6_L_2.toInt) → (∀ (g : Int → Int) (n : Int), zLR g n fC fV fK fT fS fU p0.toInt.toNat → (∀ i : Nat, i < 6 → zB6 (fL i)) → zWv fL g n (m6_L_2.toInt - 140 * p0.toInt)) → (681 - m6_L_2.toInt).toNat = n → ∀ (H : Heap) (locs : List Loc) (ls : Array Slot), va_P (dC, dI) vwCl [(h0, .inr (11, [.int th, .ref tB, .int tsz, .int tat, .int wr, .int dp, .ref rC, .ref rV, .ref rD, .ref rK, .ref rT, .ref rS, .ref rU, .int lw, .int tx, .ref rL, .ref rX, .ref qR, .ref qB, .ref qP, .int qnb, .int qnp, .ref aR, .ref aB, .ref aP, .int nb, .int np, .ref aN, .ref rf, .int ho, .int br, .ref aK, .int ac, .long dw, .ref aE, .int sr, .int sf, .ref aA, .ref aH, .ref aI, .int hi])), (rC, .inl (cI, 2600, .inl fC)), (rV, .inl (cI, 2600, .inl fV)), (rK, .inl (cI, 5, .inl fK)), (rT, .inl (cI, 700, .inl fT)), (rS, .inl (cI, 700, .inl fS)), (rU, .inl (cI, 700, .inl fU)), (rL, .inl (cI, 6, .inl fL)), (rX, .inl (cI, 80, .inl m6_A_rX))] H → va_D A [(h0, .inr (11, [.int th, .ref tB, .int tsz, .int tat, .int wr, .int dp, .ref rC, .ref rV, .ref rD, .ref rK, .ref rT, .ref rS, .ref rU, .int lw, .int tx, .ref rL, .ref rX, .ref qR, .ref qB, .ref qP, .int qnb, .int qnp, .ref aR, .ref aB, .ref aP, .int nb, .int np, .ref aN, .ref rf, .int ho, .int br, .ref aK, .int ac, .long dw, .ref aE, .int sr, .int sf, .ref aA, .ref aH, .ref aI, .int hi])), (rC, .inl (cI, 2600, .inl fC)), (rV, .inl (cI, 2600, .inl fV)), (rK, .inl (cI, 5, .inl fK)), (rT, .inl (cI, 700, .inl fT)), (rS, .inl (cI, 700, .inl fS)), (rU, .inl (cI, 700, .inl fU)), (rL, .inl (cI, 6, .inl fL)), (rX, .inl (cI, 80, .inl m6_A_rX))] → va_S A s.heap H locs → lv_has ls 3 [(2, .int m6_L_2), (0, .ref h0), (1, .int p0)] → W p l e R s m args below meth c H locs 0 0 Q (F0 m 6 ls []) := by
    intro n6
    induction n6 using Nat.strongRecOn with
    | _ n6 ih6 =>
      intro m6_A_rX m6_L_2 jf6_0 jf6_1 jv6_0 hmu6 H locs ls hP hD hS hl
      refine lv_iload_n hx hb dX11_worthOf_6 rfl (lv_at hl 0 rfl) ?_
      refine lv_sipush (v := 140) hx hb dX11_worthOf_7 (by decide) ?_
      refine lv_iload_n hx hb dX11_worthOf_10 rfl (lv_at hl 2 rfl) ?_
      refine lv_imul hx hb dX11_worthOf_11 ?_
      refine lv_topi (fun v11 e11 => ?_)
      have i11 : v11.toInt = 140 * p0.toInt := zmul e11 (by decide) rfl (by omega) (by omega)
      refine lv_aload_n hx hb dX11_worthOf_12 rfl (lv_at hl 1 rfl) ?_
      refine va_get (D := (dC, dI)) (ci := 11) (v := .ref rK) (C := RX11) (T := TX11) (N := 41) hx hb hts iX11 hown hK hP 0 rfl rfl 9 (by decide) (hts _ qw1136) (fun _ h9 => h9) rfl dX11_worthOf_13 ?_
      refine lv_iload_n hx hb dX11_worthOf_16 rfl (lv_at hl 2 rfl) ?_
      refine va_iald hx hb hK hP 3 0 rfl rfl (vp_in_iff.mpr ⟨by omega, by omega⟩) dX11_worthOf_17 ?_
      refine lv_topi (fun v17 e17 => ?_)
      have i17 : v17.toInt = (fK p0.toInt.toNat).toInt ∧ 0 ≤ v17.toInt ∧ v17.toInt ≤ 139 := by have := hlw.1; have := zIx (n := p0.toInt.toNat) e17 (by omega); omega
      refine lv_iadd hx hb dX11_worthOf_18 ?_
      refine lv_topi (fun v18 e18 => ?_)
      have i18 : v18.toInt = v11.toInt + v17.toInt := zadd e18 rfl rfl (by omega) (by omega)
      refine lv_icmp_ge (tgt := 81) hx hb dX11_worthOf_19 (by decide) (fun c19 => ?_) (fun c19 => ?_)
      · have c19 : v18.toInt ≤ m6_L_2.toInt := z3 rfl rfl c19
        refine lv_iconst (v := 0) hx hb dX11_worthOf_81 (by decide) ?_
        have zr0 : (0 : Int32).toInt = 0 := by decide
        rw [hQ]
        exact W.iret (v := 0) hx hb hr (fun t ht hW => ⟨⟨0, m6_A_rX, rfl, (by (try dsimp only); exact fun g n hg hL => zWvE (p := p0) (jv6_0 g n hg hL) hg (by omega)), ⟨by rw [ht]; exact hP, hD⟩⟩, hS.F ht⟩) hS.2.2 dX11_worthOf_82
      · have c19 : m6_L_2.toInt < v18.toInt := z4 rfl rfl c19
        have q22 := zCl_g hlw (by omega) (by omega) (m := v17.toInt) (c := m6_L_2) (by omega) (by omega) (by omega)
        refine lv_aload_n hx hb dX11_worthOf_22 rfl (lv_at hl 1 rfl) ?_
        refine va_get (D := (dC, dI)) (ci := 11) (v := .ref rT) (C := RX11) (T := TX11) (N := 41) hx hb hts iX11 hown hK hP 0 rfl rfl 10 (by decide) (hts _ qw1137) (fun _ h9 => h9) rfl dX11_worthOf_23 ?_
        refine lv_iload_n hx hb dX11_worthOf_26 rfl (lv_at hl 0 rfl) ?_
        refine va_iald hx hb hK hP 4 0 rfl rfl (vp_in_iff.mpr ⟨by omega, by omega⟩) dX11_worthOf_27 ?_
        refine lv_topi (fun v27 e27 => ?_)
        have i27 : v27.toInt = (fT m6_L_2.toNatClampNeg).toInt ∧ 0 ≤ v27.toInt ∧ v27.toInt ≤ 519 := by have := q22.1; rw [e27]; omega
        refine lv_aload_n hx hb dX11_worthOf_28 rfl (lv_at hl 1 rfl) ?_
        refine va_get (D := (dC, dI)) (ci := 11) (v := .ref rS) (C := RX11) (T := TX11) (N := 41) hx hb hts iX11 hown hK hP 0 rfl rfl 11 (by decide) (hts _ qw1138) (fun _ h9 => h9) rfl dX11_worthOf_29 ?_
        refine lv_iload_n hx hb dX11_worthOf_32 rfl (lv_at hl 0 rfl) ?_
        refine va_iald hx hb hK hP 5 0 rfl rfl (vp_in_iff.mpr ⟨by omega, by omega⟩) dX11_worthOf_33 ?_
        refine lv_topi (fun v33 e33 => ?_)
        have i33 : v33.toInt = (fS m6_L_2.toNatClampNeg).toInt ∧ 0 ≤ v33.toInt ∧ v33.toInt ≤ 519 := by have := q22.1; rw [e33]; omega
        refine lv_icmp_eq (tgt := 57) hx hb dX11_worthOf_34 (by decide) (fun c34 => ?_) (fun c34 => ?_)
        · have c34 : v27.toInt = v33.toInt := z5 rfl rfl c34
          refine lv_aload_n hx hb dX11_worthOf_57 rfl (lv_at hl 1 rfl) ?_
          refine lv_iload_n hx hb dX11_worthOf_58 rfl (lv_at hl 2 rfl) ?_
          refine lv_aload_n hx hb dX11_worthOf_59 rfl (lv_at hl 1 rfl) ?_
          refine va_get (D := (dC, dI)) (ci := 11) (v := .ref rS) (C := RX11) (T := TX11) (N := 41) hx hb hts iX11 hown hK hP 0 rfl rfl 11 (by decide) (hts _ qw1138) (fun _ h9 => h9) rfl dX11_worthOf_60 ?_
          refine lv_iload_n hx hb dX11_worthOf_63 rfl (lv_at hl 0 rfl) ?_
          refine va_iald hx hb hK hP 5 0 rfl rfl (vp_in_iff.mpr ⟨by omega, by omega⟩) dX11_worthOf_64 ?_
          refine lv_topi (fun v64 e64 => ?_)
          have i64 : v64.toInt = (fS m6_L_2.toNatClampNeg).toInt ∧ 0 ≤ v64.toInt ∧ v64.toInt ≤ 519 := by have := q22.1; rw [e64]; omega
          refine lv_aload_n hx hb dX11_worthOf_65 rfl (lv_at hl 1 rfl) ?_
          refine va_get (D := (dC, dI)) (ci := 11) (v := .ref rU) (C := RX11) (T := TX11) (N := 41) hx hb hts iX11 hown hK hP 0 rfl rfl 12 (by decide) (hts _ qw1139) (fun _ h9 => h9) rfl dX11_worthOf_66 ?_
          refine lv_iload_n hx hb dX11_worthOf_69 rfl (lv_at hl 0 rfl) ?_
          refine va_iald hx hb hK hP 6 0 rfl rfl (vp_in_iff.mpr ⟨by omega, by omega⟩) dX11_worthOf_70 ?_
          refine lv_topi (fun v70 e70 => ?_)
          have i70 : v70.toInt = (fU m6_L_2.toNatClampNeg).toInt ∧ 0 ≤ v70.toInt ∧ v70.toInt ≤ 519 := by have := q22.1; rw [e70]; omega
          obtain ⟨hPc, hDc, hFc⟩ := zc3 (wc := [(h0, .inr (11, [.int th, .ref tB, .int tsz, .int tat, .int wr, .int dp, .ref rC, .ref rV, .ref rD, .ref rK, .ref rT, .ref rS, .ref rU, .int lw, .int tx, .ref rL, .ref rX, .ref qR, .ref qB, .ref qP, .int qnb, .int qnp, .ref aR, .ref aB, .ref aP, .int nb, .int np, .ref aN, .ref rf, .int ho, .int br, .ref aK, .int ac, .long dw, .ref aE, .int sr, .int sf, .ref aA, .ref aH, .ref aI, .int hi])), (rC, .inl (cI, 2600, .inl fC)), (rV, .inl (cI, 2600, .inl fV)), (rL, .inl (cI, 6, .inl fL)), (rX, .inl (cI, 80, .inl m6_A_rX))]) hP hD hS hA [0, 1, 2, 7, 8] (by decide +kernel) rfl
          refine va_calli (va_runV (As := [.int p0, .int v64, .int v70]) (rest := []) ⟨hx, hb, hml, hown, hts⟩ (g_X11_workOut l dC dI cI cJ h0 p0 v64 v70 th tB tsz tat wr dp rC rV rD rK rT rS rU lw tx rL rX qR qB qP qnb qnp aR aB aP nb np aN rf ho br aK ac dw aE sr sf aA aH aI hi fC fV fL m6_A_rX H.size y_ac y_hi y_ho y_lw y_nb y_np n_p0 (by omega) (by omega) y_qnb y_qnp y_tat y_tsz y_wr (by have w := q22.2.2; rw [i64.1, i70.1]; exact w)) (cwV 3 hts (zgV qw1450 qw1452 qw63 qw108 qw1453) rfl rfl rfl hd_X11_workOut ⟨by rw [hR]; exact Nat.le_of_ble_eq_true rfl, by rw [hR]; exact Nat.le_of_ble_eq_true rfl⟩) (zPV hPc hK hDc (va_recv (q := (RX11, TX11, 41)) hK hP (ci := 11) (q0 := 0) rfl rfl)) rfl rfl hl.1 rfl (lv_room (Nat.le_of_ble_eq_true rfl)) dX11_worthOf_71 ⟨Nat.zero_le _, Nat.zero_le _⟩) hS (fun q _ h => hFc q h) hFc (fun v71 u71 t H locs ht hvm hw hB hz1 hk1 hS9 => ?_)
          obtain ⟨u71_0, rfl⟩ : ∃ z, z = u71 := ⟨_, rfl⟩
          obtain ⟨hP9, hD9⟩ := zj2 (wX := [(h0, .inr (11, [.int th, .ref tB, .int tsz, .int tat, .int wr, .int dp, .ref rC, .ref rV, .ref rD, .ref rK, .ref rT, .ref rS, .ref rU, .int lw, .int tx, .ref rL, .ref rX, .ref qR, .ref qB, .ref qP, .int qnb, .int qnp, .ref aR, .ref aB, .ref aP, .int nb, .int np, .ref aN, .ref rf, .int ho, .int br, .ref aK, .int ac, .long dw, .ref aE, .int sr, .int sf, .ref aA, .ref aH, .ref aI, .int hi])), (rC, .inl (cI, 2600, .inl fC)), (rV, .inl (cI, 2600, .inl fV)), (rK, .inl (cI, 5, .inl fK)), (rT, .inl (cI, 700, .inl fT)), (rS, .inl (cI, 700, .inl fS)), (rU, .inl (cI, 700, .inl fU)), (rL, .inl (cI, 6, .inl fL)), (rX, .inl (cI, 80, .inl u71_0))]) hP hD hk1 hFc ht hB [0, 1, 2, 7, 8] [(true, 0), (true, 1), (true, 2), (false, 3), (false, 4), (false, 5), (false, 6), (true, 3), (true, 4)] rfl (by decide +kernel) (by decide +kernel) rfl
          clear hP hD hS hPc hDc hFc hB hk1 hz1 hvm
          have hP := hP9
          have hD := hD9
          have hS := hS9
          clear hP9 hD9 hS9
          have f71_0 : (zWq fC fV fL p0 v64 v70 v71) := hw
          have F71 := f71_0
          rw [hQ]
          exact W.iret (v := v71) hx hb hr (fun t ht hW => ⟨⟨v71, u71_0, rfl, (by (try dsimp only); exact fun g n hg hL => zWvY (p := p0) (c := m6_L_2) (a := 0) (jv6_0 g n hg hL) hg hL (by omega) (by omega) (by omega) (zWvY1 e27 e33 (by omega)) e64 e70 F71), ⟨by rw [ht]; exact hP, hD⟩⟩, hS.F ht⟩) hS.2.2 dX11_worthOf_74
        · have c34 : ¬ v27.toInt = v33.toInt := z6 rfl rfl c34
          refine lv_aload_n hx hb dX11_worthOf_37 rfl (lv_at hl 1 rfl) ?_
          refine lv_iload_n hx hb dX11_worthOf_38 rfl (lv_at hl 2 rfl) ?_
          refine lv_aload_n hx hb dX11_worthOf_39 rfl (lv_at hl 1 rfl) ?_
          refine va_get (D := (dC, dI)) (ci := 11) (v := .ref rT) (C := RX11) (T := TX11) (N := 41) hx hb hts iX11 hown hK hP 0 rfl rfl 10 (by decide) (hts _ qw1137) (fun _ h9 => h9) rfl dX11_worthOf_40 ?_
          refine lv_iload_n hx hb dX11_worthOf_43 rfl (lv_at hl 0 rfl) ?_
          refine va_iald hx hb hK hP 4 0 rfl rfl (vp_in_iff.mpr ⟨by omega, by omega⟩) dX11_worthOf_44 ?_
          refine lv_topi (fun v44 e44 => ?_)
          have i44 : v44.toInt = (fT m6_L_2.toNatClampNeg).toInt ∧ 0 ≤ v44.toInt ∧ v44.toInt ≤ 519 := by have := q22.1; rw [e44]; omega
          refine lv_aload_n hx hb dX11_worthOf_45 rfl (lv_at hl 1 rfl) ?_
          refine va_get (D := (dC, dI)) (ci := 11) (v := .ref rS) (C := RX11) (T := TX11) (N := 41) hx hb hts iX11 hown hK hP 0 rfl rfl 11 (by decide) (hts _ qw1138) (fun _ h9 => h9) rfl dX11_worthOf_46 ?_
          refine lv_iload_n hx hb dX11_worthOf_49 rfl (lv_at hl 0 rfl) ?_
          refine va_iald hx hb hK hP 5 0 rfl rfl (vp_in_iff.mpr ⟨by omega, by omega⟩) dX11_worthOf_50 ?_
          refine lv_topi (fun v50 e50 => ?_)
          have i50 : v50.toInt = (fS m6_L_2.toNatClampNeg).toInt ∧ 0 ≤ v50.toInt ∧ v50.toInt ≤ 519 := by have := q22.1; rw [e50]; omega
          obtain ⟨hPc, hDc, hFc⟩ := zc3 (wc := [(h0, .inr (11, [.int th, .ref tB, .int tsz, .int tat, .int wr, .int dp, .ref rC, .ref rV, .ref rD, .ref rK, .ref rT, .ref rS, .ref rU, .int lw, .int tx, .ref rL, .ref rX, .ref qR, .ref qB, .ref qP, .int qnb, .int qnp, .ref aR, .ref aB, .ref aP, .int nb, .int np, .ref aN, .ref rf, .int ho, .int br, .ref aK, .int ac, .long dw, .ref aE, .int sr, .int sf, .ref aA, .ref aH, .ref aI, .int hi])), (rC, .inl (cI, 2600, .inl fC)), (rV, .inl (cI, 2600, .inl fV)), (rL, .inl (cI, 6, .inl fL)), (rX, .inl (cI, 80, .inl m6_A_rX))]) hP hD hS hA [0, 1, 2, 7, 8] (by decide +kernel) rfl
          refine va_calli (va_runV (As := [.int p0, .int v44, .int v50]) (rest := []) ⟨hx, hb, hml, hown, hts⟩ (g_X11_workOut l dC dI cI cJ h0 p0 v44 v50 th tB tsz tat wr dp rC rV rD rK rT rS rU lw tx rL rX qR qB qP qnb qnp aR aB aP nb np aN rf ho br aK ac dw aE sr sf aA aH aI hi fC fV fL m6_A_rX H.size y_ac y_hi y_ho y_lw y_nb y_np n_p0 (by omega) (by omega) y_qnb y_qnp y_tat y_tsz y_wr (by have w := q22.2.1.resolve_left (by omega); rw [i44.1, i50.1]; exact w)) (cwV 3 hts (zgV qw1450 qw1452 qw63 qw108 qw1453) rfl rfl rfl hd_X11_workOut ⟨by rw [hR]; exact Nat.le_of_ble_eq_true rfl, by rw [hR]; exact Nat.le_of_ble_eq_true rfl⟩) (zPV hPc hK hDc (va_recv (q := (RX11, TX11, 41)) hK hP (ci := 11) (q0 := 0) rfl rfl)) rfl rfl hl.1 rfl (lv_room (Nat.le_of_ble_eq_true rfl)) dX11_worthOf_51 ⟨Nat.zero_le _, Nat.zero_le _⟩) hS (fun q _ h => hFc q h) hFc (fun v51 u51 t H locs ht hvm hw hB hz1 hk1 hS9 => ?_)
          obtain ⟨u51_0, rfl⟩ : ∃ z, z = u51 := ⟨_, rfl⟩
          obtain ⟨hP9, hD9⟩ := zj2 (wX := [(h0, .inr (11, [.int th, .ref tB, .int tsz, .int tat, .int wr, .int dp, .ref rC, .ref rV, .ref rD, .ref rK, .ref rT, .ref rS, .ref rU, .int lw, .int tx, .ref rL, .ref rX, .ref qR, .ref qB, .ref qP, .int qnb, .int qnp, .ref aR, .ref aB, .ref aP, .int nb, .int np, .ref aN, .ref rf, .int ho, .int br, .ref aK, .int ac, .long dw, .ref aE, .int sr, .int sf, .ref aA, .ref aH, .ref aI, .int hi])), (rC, .inl (cI, 2600, .inl fC)), (rV, .inl (cI, 2600, .inl fV)), (rK, .inl (cI, 5, .inl fK)), (rT, .inl (cI, 700, .inl fT)), (rS, .inl (cI, 700, .inl fS)), (rU, .inl (cI, 700, .inl fU)), (rL, .inl (cI, 6, .inl fL)), (rX, .inl (cI, 80, .inl u51_0))]) hP hD hk1 hFc ht hB [0, 1, 2, 7, 8] [(true, 0), (true, 1), (true, 2), (false, 3), (false, 4), (false, 5), (false, 6), (true, 3), (true, 4)] rfl (by decide +kernel) (by decide +kernel) rfl
          clear hP hD hS hPc hDc hFc hB hk1 hz1 hvm
          have hP := hP9
          have hD := hD9
          have hS := hS9
          clear hP9 hD9 hS9
          have f51_0 : (zWq fC fV fL p0 v44 v50 v51) := hw
          have F51 := f51_0
          refine lv_if_eq (tgt := 75) hx hb dX11_worthOf_54 (by decide) (fun c54 => ?_) (fun c54 => ?_)
          · have c54 : v51.toInt = 0 := z5 rfl (by decide) c54
            obtain ⟨v75, e75⟩ : ∃ y : Int32, y = m6_L_2 + Int32.ofInt (1) := ⟨_, rfl⟩
            refine lv_iinc (v := v75) (lv' := [(2, .int v75), (0, .ref h0), (1, .int p0)]) hx hb dX11_worthOf_75 hl (k := 0) rfl e75.symm (by decide) rfl (fun ls hl => ?_)
            have i75 : v75.toInt = m6_L_2.toInt + 1 := zaddI e75 (by decide) (by omega) (by omega)
            refine lv_goto (tgt := 6) hx hb dX11_worthOf_78 (by decide) ?_
            exact ih6 _ (by omega) u51_0 v75 (by omega) (by omega) (fun g n hg hL => zWvN (c' := 0) (jv6_0 g n hg hL) hg hL (by omega) (by omega) (by omega) e27 e33 (by omega) e44 e50 F51 (by omega) (by omega)) rfl H locs ls hP hD hS (lv_sub hl [0, 1, 2] rfl)
          · have c54 : ¬ v51.toInt = 0 := z6 rfl (by decide) c54
            refine lv_aload_n hx hb dX11_worthOf_57 rfl (lv_at hl 1 rfl) ?_
            refine lv_iload_n hx hb dX11_worthOf_58 rfl (lv_at hl 2 rfl) ?_
            refine lv_aload_n hx hb dX11_worthOf_59 rfl (lv_at hl 1 rfl) ?_
            refine va_get (D := (dC, dI)) (ci := 11) (v := .ref rS) (C := RX11) (T := TX11) (N := 41) hx hb hts iX11 hown hK hP 0 rfl rfl 11 (by decide) (hts _ qw1138) (fun _ h9 => h9) rfl dX11_worthOf_60 ?_
            refine lv_iload_n hx hb dX11_worthOf_63 rfl (lv_at hl 0 rfl) ?_
            refine va_iald hx hb hK hP 5 0 rfl rfl (vp_in_iff.mpr ⟨by omega, by omega⟩) dX11_worthOf_64 ?_
            refine lv_topi (fun v64 e64 => ?_)
            have i64 : v64.toInt = (fS m6_L_2.toNatClampNeg).toInt ∧ 0 ≤ v64.toInt ∧ v64.toInt ≤ 519 := by have := q22.1; rw [e64]; omega
            refine lv_aload_n hx hb dX11_worthOf_65 rfl (lv_at hl 1 rfl) ?_
            refine va_get (D := (dC, dI)) (ci := 11) (v := .ref rU) (C := RX11) (T := TX11) (N := 41) hx hb hts iX11 hown hK hP 0 rfl rfl 12 (by decide) (hts _ qw1139) (fun _ h9 => h9) rfl dX11_worthOf_66 ?_
            refine lv_iload_n hx hb dX11_worthOf_69 rfl (lv_at hl 0 rfl) ?_
            refine va_iald hx hb hK hP 6 0 rfl rfl (vp_in_iff.mpr ⟨by omega, by omega⟩) dX11_worthOf_70 ?_
            refine lv_topi (fun v70 e70 => ?_)
            have i70 : v70.toInt = (fU m6_L_2.toNatClampNeg).toInt ∧ 0 ≤ v70.toInt ∧ v70.toInt ≤ 519 := by have := q22.1; rw [e70]; omega
            obtain ⟨hPc, hDc, hFc⟩ := zc3 (wc := [(h0, .inr (11, [.int th, .ref tB, .int tsz, .int tat, .int wr, .int dp, .ref rC, .ref rV, .ref rD, .ref rK, .ref rT, .ref rS, .ref rU, .int lw, .int tx, .ref rL, .ref rX, .ref qR, .ref qB, .ref qP, .int qnb, .int qnp, .ref aR, .ref aB, .ref aP, .int nb, .int np, .ref aN, .ref rf, .int ho, .int br, .ref aK, .int ac, .long dw, .ref aE, .int sr, .int sf, .ref aA, .ref aH, .ref aI, .int hi])), (rC, .inl (cI, 2600, .inl fC)), (rV, .inl (cI, 2600, .inl fV)), (rL, .inl (cI, 6, .inl fL)), (rX, .inl (cI, 80, .inl u51_0))]) hP hD hS hA [0, 1, 2, 7, 8] (by decide +kernel) rfl
            refine va_calli (va_runV (As := [.int p0, .int v64, .int v70]) (rest := []) ⟨hx, hb, hml, hown, hts⟩ (g_X11_workOut l dC dI cI cJ h0 p0 v64 v70 th tB tsz tat wr dp rC rV rD rK rT rS rU lw tx rL rX qR qB qP qnb qnp aR aB aP nb np aN rf ho br aK ac dw aE sr sf aA aH aI hi fC fV fL u51_0 H.size y_ac y_hi y_ho y_lw y_nb y_np n_p0 (by omega) (by omega) y_qnb y_qnp y_tat y_tsz y_wr (by have w := q22.2.2; rw [i64.1, i70.1]; exact w)) (cwV 3 hts (zgV qw1450 qw1452 qw63 qw108 qw1453) rfl rfl rfl hd_X11_workOut ⟨by rw [hR]; exact Nat.le_of_ble_eq_true rfl, by rw [hR]; exact Nat.le_of_ble_eq_true rfl⟩) (zPV hPc hK hDc (va_recv (q := (RX11, TX11, 41)) hK hP (ci := 11) (q0 := 0) rfl rfl)) rfl rfl hl.1 rfl (lv_room (Nat.le_of_ble_eq_true rfl)) dX11_worthOf_71 ⟨Nat.zero_le _, Nat.zero_le _⟩) hS (fun q _ h => hFc q h) hFc (fun v71 u71 t H locs ht hvm hw hB hz1 hk1 hS9 => ?_)
            obtain ⟨u71_0, rfl⟩ : ∃ z, z = u71 := ⟨_, rfl⟩
            obtain ⟨hP9, hD9⟩ := zj2 (wX := [(h0, .inr (11, [.int th, .ref tB, .int tsz, .int tat, .int wr, .int dp, .ref rC, .ref rV, .ref rD, .ref rK, .ref rT, .ref rS, .ref rU, .int lw, .int tx, .ref rL, .ref rX, .ref qR, .ref qB, .ref qP, .int qnb, .int qnp, .ref aR, .ref aB, .ref aP, .int nb, .int np, .ref aN, .ref rf, .int ho, .int br, .ref aK, .int ac, .long dw, .ref aE, .int sr, .int sf, .ref aA, .ref aH, .ref aI, .int hi])), (rC, .inl (cI, 2600, .inl fC)), (rV, .inl (cI, 2600, .inl fV)), (rK, .inl (cI, 5, .inl fK)), (rT, .inl (cI, 700, .inl fT)), (rS, .inl (cI, 700, .inl fS)), (rU, .inl (cI, 700, .inl fU)), (rL, .inl (cI, 6, .inl fL)), (rX, .inl (cI, 80, .inl u71_0))]) hP hD hk1 hFc ht hB [0, 1, 2, 7, 8] [(true, 0), (true, 1), (true, 2), (false, 3), (false, 4), (false, 5), (false, 6), (true, 3), (true, 4)] rfl (by decide +kernel) (by decide +kernel) rfl
            clear hP hD hS hPc hDc hFc hB hk1 hz1 hvm
            have hP := hP9
            have hD := hD9
            have hS := hS9
            clear hP9 hD9 hS9
            have f71_0 : (zWq fC fV fL p0 v64 v70 v71) := hw
            have F71 := f71_0
            rw [hQ]
            exact W.iret (v := v71) hx hb hr (fun t ht hW => ⟨⟨v71, u71_0, rfl, (by (try dsimp only); exact fun g n hg hL => zWvY (p := p0) (c := m6_L_2) (a := 0) (jv6_0 g n hg hL) hg hL (by omega) (by omega) (by omega) (zWvY2 hL e44 e50 F51 (by omega)) e64 e70 F71), ⟨by rw [ht]; exact hP, hD⟩⟩, hS.F ht⟩) hS.2.2 dX11_worthOf_74
  refine lv_istore_n (lv' := [(2, .int v4), (0, .ref h0), (1, .int p0)]) hx hb dX11_worthOf_5 rfl hl (by decide) rfl (fun ls hl => ?_)
  exact J6 _ fX v4 (by omega) (by omega) (fun g n hg hL => zWv0 (by omega)) rfl H locs ls hP hD hS (lv_sub hl [0, 1, 2] rfl)
